def isCl (p n : Int32) : Bool := inR p 255 && inR n 255 && decide (p &&& n = 0)
def isSm (m b : Int32) : Bool := inR m 255 && inR b 1
set_option maxHeartbeats 4000000 in
set_option maxRecDepth 100000 in
theorem c_X8_added (l : Launch) (k : KX) (M : Mem) (w : Nat) (cs ds : List Nat) (mem : List SD) (sl : Nat → Option SD) (tx : List Nat) (x kd p n : Nat) (hRef : RefAt k M w cs ds mem sl tx) (hx : xOK x) (hl : cs.length < 24) (hk : kd = if xPar x then 1 else 0) (hp : p = xFirst x) (hn : n = xSecond x) : CM l yX8_added cX8_added 4 ((some .int)) { frames := 6, cells := 0, slots := 0, locals := 138 } k [.ref (ad k 93), .int (nI kd), .int (nI p), .int (nI n)] M (pI (fun r M' => r = nI cs.length ∧ RefAt k M' w (cs ++ [x]) (sNew (cs ++ [x]) ds) (remF mem (cs, ds)) sl tx ∧ FrR M M')) := by
  refine CM.of (by decide) (Nat.le_of_ble_eq_true rfl) (fun C X hCl hCR rq => ?_)
  show V C k 4 (0, 0) M 0 [(0, .ref (ad k 93)), (1, .int (nI kd)), (2, .int (nI p)), (3, .int (nI n))] []
  obtain ⟨hN, hV, htx9, htxc, nx, lp, ln, sp, lc, so, nw, tl, di, kp, ik, sc, rd, li, F93, F94, F95, F96, F97, F98, hT, F103, F104, F105, hR, hD, hK, hS⟩ := id hRef
  have ho2 : csOK cs := hV.1.1
  have hds : ∀ d ∈ ds, d < 16 := hV.1.2.1
  have hlc : cs.length ≤ 24 := ho2.1
  have hld : ds.length ≤ 8 := hV.1.2.2
  have hok := cAt_ok ho2
  have hr := hR.c
  have hTk := hT.2.1
  have hTA := hTk.A
  have hTT := hTk.T
  have hTl := hTk.le
  have htL : tL (build cs ds).1 = ds.length := hV.2.1
  have hcf : ∀ n, (build cs ds).2 = some n → n < 24 := fun n hn => by have := (build_ok hlc hds).2 n hn; omega
  refine v_aload_n X 0 dX8_added_0 rfl ?_
  refine v_get X cls8 F93 (by omega) 1 (by decide) m_443 rfl rfl dX8_added_1 ?_
  refine v_aload_n X 0 dX8_added_4 rfl ?_
  refine v_get X cls8 F93 (by omega) 2 (by decide) m_444 rfl rfl dX8_added_5 ?_
  refine v_callS X hCl hCR (c_X8_copy l k M 94 95 nw tl (by omega) (by omega) (by omega) F94 F95) mo_X8_copy m_466 m_497 m_498 m_465 (by decide) rfl rfl (Nat.le_of_ble_eq_true rfl) ⟨rfl, rfl⟩ ⟨by decide, by decide⟩ dX8_added_8 (vV_in (fun M_1 hp_2 => ?_))
  obtain ⟨⟨g_4, F_5, hcp_6⟩, hfr_3⟩ := hp_2
  have F_7 : M_1 93 = RO k w mem.length nx (tA ((build cs ds).1)) (tT ((build cs ds).1)) (((build cs ds).1).length) ((tL (build cs ds).1)) ((build cs ds).2) lp ln tx.length sp lc so := by rw [hfr_3 93 (by omega)]; exact F93
  have F_8 : M_1 94 = IR k 82 nw := by rw [hfr_3 94 (by omega)]; exact F94
  have F_9 : M_1 96 = IR k 1148 di := by rw [hfr_3 96 (by omega)]; exact F96
  have F_10 : M_1 97 = IR k 164 kp := by rw [hfr_3 97 (by omega)]; exact F97
  have F_11 : M_1 98 = .inl (kZ k, 2, .inl (fun zq => bI (ik zq))) := by rw [hfr_3 98 (by omega)]; exact F98
  have F_12 : M_1 103 = IR k 90 sc := by rw [hfr_3 103 (by omega)]; exact F103
  have F_13 : M_1 104 = IR k 82 rd := by rw [hfr_3 104 (by omega)]; exact F104
  have F_14 : M_1 105 = IR k 24 li := by rw [hfr_3 105 (by omega)]; exact F105
  have P_15 : RtAt k M_1 (build cs ds).1 := hT.fr (fun i h1 h2 => hfr_3 i (by omega))
  have hcp := hcp_6
  refine v_aload_n X 0 dX8_added_11 rfl ?_
  refine v_get X cls8 F_7 (by omega) 2 (by decide) m_444 rfl rfl dX8_added_12 ?_
  refine v_iload_n X 1 dX8_added_15 rfl ?_
  refine v_iload_n X 2 dX8_added_16 rfl ?_
  refine v_iload_n X 3 dX8_added_17 rfl ?_
  refine v_callS X hCl hCR (c_X8_addTo l k M_1 95 g_4 kd p n (by omega) F_5 (by rw [hcp 0 (by omega), hR.1]; exact hl)) mo_X8_addTo m_471 m_520 m_521 m_465 (by decide) rfl rfl (Nat.le_of_ble_eq_true rfl) ⟨rfl, rfl⟩ ⟨by decide, by decide⟩ dX8_added_18 (vV_in (fun M_16 hp_17 => ?_))
  obtain ⟨F_19, hfr_18⟩ := hp_17
  have F_20 : M_16 93 = RO k w mem.length nx (tA ((build cs ds).1)) (tT ((build cs ds).1)) (((build cs ds).1).length) ((tL (build cs ds).1)) ((build cs ds).2) lp ln tx.length sp lc so := by rw [hfr_18 93 (by omega)]; exact F_7
  have F_21 : M_16 94 = IR k 82 nw := by rw [hfr_18 94 (by omega)]; exact F_8
  have F_22 : M_16 96 = IR k 1148 di := by rw [hfr_18 96 (by omega)]; exact F_9
  have F_23 : M_16 97 = IR k 164 kp := by rw [hfr_18 97 (by omega)]; exact F_10
  have F_24 : M_16 98 = .inl (kZ k, 2, .inl (fun zq => bI (ik zq))) := by rw [hfr_18 98 (by omega)]; exact F_11
  have F_25 : M_16 103 = IR k 90 sc := by rw [hfr_18 103 (by omega)]; exact F_12
  have F_26 : M_16 104 = IR k 82 rd := by rw [hfr_18 104 (by omega)]; exact F_13
  have F_27 : M_16 105 = IR k 24 li := by rw [hfr_18 105 (by omega)]; exact F_14
  have P_28 : RtAt k M_16 (build cs ds).1 := P_15.fr (fun i h1 h2 => hfr_18 i (by omega))
  refine v_aload_n X 0 dX8_added_21 rfl ?_
  have hRef_29 : RefAt k M_16 w cs ds mem sl tx := ⟨hN, hV, htx9, htxc, nx, lp, ln, sp, lc, so, nw, addF g_4 kd p n, di, kp, ik, sc, rd, li, F_20, F_21, F_19, F_22, F_23, F_24, P_28, F_25, F_26, F_27, hR, hD, hK, hS⟩
  refine v_callV X hCl hCR (c_X8_act l k M_16 w cs ds mem sl tx (addF g_4 kd p n) (cs ++ [x]) ds hRef_29 F_19 (by rw [hk, hp, hn]; exact addF_ok (hR.cong hlc hld hcp) hl hx.1) (ho2.app hl hx) hds hld) cls8 ⟨_, F_20⟩ (by omega) mo_X8_act m_502 m_547 m_548 m_549 m_465 (by decide) rfl rfl (Nat.le_of_ble_eq_true rfl) ⟨rfl, rfl⟩ ⟨by decide, by decide⟩ dX8_added_22 (vV_in (fun M_30 hp_31 => ?_))
  obtain ⟨hRef_33, hfr_32⟩ := hp_31
  refine v_aload_n X 0 dX8_added_25 rfl ?_
  obtain ⟨hN_34, hV_35, h9_36, hc_37, nx_38, lp_39, ln_40, sp_41, lc_42, so_43, nw_44, tl_45, di_46, kp_47, ik_48, sc_49, rd_50, li_51, F93_52, F94_53, F95_54, F96_55, F97_56, F98_57, hT_58, F103_59, F104_60, F105_61, hR_62, hD_63, hK_64, hS_65⟩ := id hRef_33
  refine v_get X cls8 F93_52 (by omega) 1 (by decide) m_443 rfl rfl dX8_added_26 ?_
  refine v_iconst X (v := nI 0) (by decide) dX8_added_29 ?_
  refine v_iald X nI F94_53 (by omega) (by omega) (by decide) dX8_added_30 ?_
  refine v_top (show (Value.int (nI (nw_44 0)) : Value) = .int (nI (cs.length + 1)) from congrArg _ (congrArg nI (hR_62.1.trans (by simp)))) ?_
  refine v_iconst X (v := nI 1) (by decide) dX8_added_31 ?_
  refine v_subN X (by omega) dX8_added_32 ?_
  exact v_iret X rq ⟨by decide, by decide⟩ rfl dX8_added_33 ⟨_, rfl, (by rw [Nat.add_sub_cancel]), hRef_33, (fun i hi => by rw [hfr_32 i (by omega), hfr_18 i (by omega), hfr_3 i (by omega)])⟩
set_option maxHeartbeats 4000000 in
set_option maxRecDepth 100000 in
theorem c_X8_isConstraint (l : Launch) (k : KX) (M : Mem) (rf ac nx as ts tz lv : Nat) (cf : Option Nat) (lp ln sz sp lc : Nat) (so : Bool) (nw : Nat → Nat) (n : Nat) (x : Int32) (hN : 107 ≤ kN k) (F0 : M 93 = RO k rf ac nx as ts tz lv cf lp ln sz sp lc so) (F1 : M 94 = IR k 82 nw) (hn : nw 0 = n) (hn2 : n < 2 ^ 31) : CM l yX8_isConstraint cX8_isConstraint 2 ((some .boolean)) { frames := 1, cells := 0, slots := 0, locals := 25 } k [.ref (ad k 93), .int x] M (pP (.int (bI (inL x n))) M) := by
  refine CM.of (by decide) (Nat.le_of_ble_eq_true rfl) (fun C X hCl hCR rq => ?_)
  show V C k 2 (0, 0) M 0 [(0, .ref (ad k 93)), (1, .int x)] []
  refine v_iload_n X 1 dX8_isConstraint_0 rfl ?_
  refine v_i2l X (v := (x).toInt64) rfl dX8_isConstraint_1 ?_
  refine v_lconst X (v := (nI 0).toInt64) (by decide) dX8_isConstraint_2 ?_
  refine v_aload_n X 0 dX8_isConstraint_3 rfl ?_
  refine v_get X cls8 F0 (by omega) 1 (by decide) m_443 rfl rfl dX8_isConstraint_4 ?_
  refine v_iconst X (v := nI 0) (by decide) dX8_isConstraint_7 ?_
  refine v_iald X nI F1 (by omega) (by omega) (by decide) dX8_isConstraint_8 ?_
  refine v_top (show (Value.int (nI (nw 0)) : Value) = .int (nI n) from congrArg _ (congrArg nI hn)) ?_
  refine v_iconst X (v := nI 1) (by decide) dX8_isConstraint_9 ?_
  refine v_isub X dX8_isConstraint_10 ?_
  refine v_i2l X (v := ((nI n - nI 1)).toInt64) rfl dX8_isConstraint_11 ?_
  refine v_callS X hCl hCR (c_in_L l k M x n (by omega)) mo_X8_in m_459 m_506 m_507 m_465 (by decide) rfl rfl (Nat.le_of_ble_eq_true rfl) ⟨rfl, rfl⟩ ⟨by decide, by decide⟩ dX8_isConstraint_12 (vP_in ?_)
  exact v_iret X rq ⟨by decide, by decide⟩ (narZ _) dX8_isConstraint_15 (pP_i rfl)
set_option maxHeartbeats 4000000 in
set_option maxRecDepth 100000 in
theorem c_X8_isClause (l : Launch) (k : KX) (M : Mem) (p n : Int32) : CM l yX8_isClause cX8_isClause 2 ((some .boolean)) { frames := 1, cells := 0, slots := 0, locals := 25 } k [.int p, .int n] M (pP (.int (bI (isCl p n))) M) := by
  refine CM.of (by decide) (Nat.le_of_ble_eq_true rfl) (fun C X hCl hCR rq => ?_)
  show V C k 2 (0, 0) M 0 [(0, .int p), (1, .int n)] []
  refine v_iload_n X 0 dX8_isClause_0 rfl ?_
  refine v_i2l X (v := (p).toInt64) rfl dX8_isClause_1 ?_
  refine v_lconst X (v := (nI 0).toInt64) (by decide) dX8_isClause_2 ?_
  refine v_ldc2 X m_504 dX8_isClause_3 ?_
  refine v_top (show Value.long 255 = .long (nI 255).toInt64 from congrArg _ (by decide)) ?_
  refine v_callS X hCl hCR (c_in_R l k M p 255) mo_X8_in m_459 m_506 m_507 m_465 (by decide) rfl rfl (Nat.le_of_ble_eq_true rfl) ⟨rfl, rfl⟩ ⟨by decide, by decide⟩ dX8_isClause_6 (vP_in ?_)
  refine v_ieqB X 34 dX8_isClause_9 (by decide) (fun c_1 => ?_) (fun c_1 => ?_)
  · refine v_iconst X (v := bI false) (by decide) dX8_isClause_34 ?_
    exact v_iret X rq ⟨by decide, by decide⟩ (narZ _) dX8_isClause_35 (pP_i (by congr 1; simp_all [isCl]))
  · refine v_iload_n X 1 dX8_isClause_12 rfl ?_
    refine v_i2l X (v := (n).toInt64) rfl dX8_isClause_13 ?_
    refine v_lconst X (v := (nI 0).toInt64) (by decide) dX8_isClause_14 ?_
    refine v_ldc2 X m_504 dX8_isClause_15 ?_
    refine v_top (show Value.long 255 = .long (nI 255).toInt64 from congrArg _ (by decide)) ?_
    refine v_callS X hCl hCR (c_in_R l k M n 255) mo_X8_in m_459 m_506 m_507 m_465 (by decide) rfl rfl (Nat.le_of_ble_eq_true rfl) ⟨rfl, rfl⟩ ⟨by decide, by decide⟩ dX8_isClause_18 (vP_in ?_)
    refine v_ieqB X 34 dX8_isClause_21 (by decide) (fun c_2 => ?_) (fun c_2 => ?_)
    · refine v_iconst X (v := bI false) (by decide) dX8_isClause_34 ?_
      exact v_iret X rq ⟨by decide, by decide⟩ (narZ _) dX8_isClause_35 (pP_i (by congr 1; simp_all [isCl]))
    · refine v_iload_n X 0 dX8_isClause_24 rfl ?_
      refine v_iload_n X 1 dX8_isClause_25 rfl ?_
      refine v_iand X dX8_isClause_26 ?_
      refine v_if_ne X 34 dX8_isClause_27 (by decide) (fun c_3 => ?_) (fun c_3 => ?_)
      · refine v_iconst X (v := bI false) (by decide) dX8_isClause_34 ?_
        exact v_iret X rq ⟨by decide, by decide⟩ (narZ _) dX8_isClause_35 (pP_i (by congr 1; simp_all [isCl]))
      · refine v_iconst X (v := bI true) (by decide) dX8_isClause_30 ?_
        refine v_goto X 35 dX8_isClause_31 (by decide) ?_
        exact v_iret X rq ⟨by decide, by decide⟩ (narZ _) dX8_isClause_35 (pP_i (by congr 1; simp_all [isCl]))
set_option maxHeartbeats 4000000 in
set_option maxRecDepth 100000 in
theorem c_X8_isSum (l : Launch) (k : KX) (M : Mem) (m b : Int32) : CM l yX8_isSum cX8_isSum 2 ((some .boolean)) { frames := 1, cells := 0, slots := 0, locals := 25 } k [.int m, .int b] M (pP (.int (bI (isSm m b))) M) := by
  refine CM.of (by decide) (Nat.le_of_ble_eq_true rfl) (fun C X hCl hCR rq => ?_)
  show V C k 2 (0, 0) M 0 [(0, .int m), (1, .int b)] []
  refine v_iload_n X 0 dX8_isSum_0 rfl ?_
  refine v_i2l X (v := (m).toInt64) rfl dX8_isSum_1 ?_
  refine v_lconst X (v := (nI 0).toInt64) (by decide) dX8_isSum_2 ?_
  refine v_ldc2 X m_504 dX8_isSum_3 ?_
  refine v_top (show Value.long 255 = .long (nI 255).toInt64 from congrArg _ (by decide)) ?_
  refine v_callS X hCl hCR (c_in_R l k M m 255) mo_X8_in m_459 m_506 m_507 m_465 (by decide) rfl rfl (Nat.le_of_ble_eq_true rfl) ⟨rfl, rfl⟩ ⟨by decide, by decide⟩ dX8_isSum_6 (vP_in ?_)
  refine v_ieqB X 26 dX8_isSum_9 (by decide) (fun c_1 => ?_) (fun c_1 => ?_)
  · refine v_iconst X (v := bI false) (by decide) dX8_isSum_26 ?_
    exact v_iret X rq ⟨by decide, by decide⟩ (narZ _) dX8_isSum_27 (pP_i (by congr 1; simp_all [isSm]))
  · refine v_iload_n X 1 dX8_isSum_12 rfl ?_
    refine v_i2l X (v := (b).toInt64) rfl dX8_isSum_13 ?_
    refine v_lconst X (v := (nI 0).toInt64) (by decide) dX8_isSum_14 ?_
    refine v_lconst X (v := (nI 1).toInt64) (by decide) dX8_isSum_15 ?_
    refine v_callS X hCl hCR (c_in_R l k M b 1) mo_X8_in m_459 m_506 m_507 m_465 (by decide) rfl rfl (Nat.le_of_ble_eq_true rfl) ⟨rfl, rfl⟩ ⟨by decide, by decide⟩ dX8_isSum_16 (vP_in ?_)
    refine v_ieqB X 26 dX8_isSum_19 (by decide) (fun c_2 => ?_) (fun c_2 => ?_)
    · refine v_iconst X (v := bI false) (by decide) dX8_isSum_26 ?_
      exact v_iret X rq ⟨by decide, by decide⟩ (narZ _) dX8_isSum_27 (pP_i (by congr 1; simp_all [isSm]))
    · refine v_iconst X (v := bI true) (by decide) dX8_isSum_22 ?_
      refine v_goto X 27 dX8_isSum_23 (by decide) ?_
      exact v_iret X rq ⟨by decide, by decide⟩ (narZ _) dX8_isSum_27 (pP_i (by congr 1; simp_all [isSm]))
set_option maxHeartbeats 4000000 in
set_option maxRecDepth 100000 in
theorem c_X8_constraintCount (l : Launch) (k : KX) (M : Mem) (w : Nat) (cs ds : List Nat) (mem : List SD) (sl : Nat → Option SD) (tx : List Nat) (hRef : RefAt k M w cs ds mem sl tx) : CM l yX8_constraintCount cX8_constraintCount 1 ((some .int)) { frames := 0, cells := 0, slots := 0, locals := 0 } k [.ref (ad k 93)] M (pI (fun r M' => (r = nI cs.length ∧ RefAt k M' 0 cs ds mem sl tx) ∧ FrR M M')) := by
  refine CM.of (by decide) (Nat.le_of_ble_eq_true rfl) (fun C X hCl hCR rq => ?_)
  show V C k 1 (0, 0) M 0 [(0, .ref (ad k 93))] []
  obtain ⟨hN, hV, htx9, htxc, nx, lp, ln, sp, lc, so, nw, tl, di, kp, ik, sc, rd, li, F93, F94, F95, F96, F97, F98, hT, F103, F104, F105, hR, hD, hK, hS⟩ := id hRef
  have ho2 : csOK cs := hV.1.1
  have hds : ∀ d ∈ ds, d < 16 := hV.1.2.1
  have hlc : cs.length ≤ 24 := ho2.1
  have hld : ds.length ≤ 8 := hV.1.2.2
  have hok := cAt_ok ho2
  have hr := hR.c
  have hTk := hT.2.1
  have hTA := hTk.A
  have hTT := hTk.T
  have hTl := hTk.le
  have htL : tL (build cs ds).1 = ds.length := hV.2.1
  have hcf : ∀ n, (build cs ds).2 = some n → n < 24 := fun n hn => by have := (build_ok hlc hds).2 n hn; omega
  refine v_aload_n X 0 dX8_constraintCount_0 rfl ?_
  refine v_iconst X (v := nI 0) (by decide) dX8_constraintCount_1 ?_
  refine v_put X cls8 F93 (by omega) 0 (by decide) m_457 rfl rfl rfl rfl (Nat.le_of_ble_eq_true rfl) dX8_constraintCount_2 (fun M_1 hM_2 => ?_)
  have F_3 : M_1 93 = RO k 0 mem.length nx (tA ((build cs ds).1)) (tT ((build cs ds).1)) (((build cs ds).1).length) ((tL (build cs ds).1)) ((build cs ds).2) lp ln tx.length sp lc so := by rw [hM_2]; exact mup_s
  have F_4 : M_1 94 = IR k 82 nw := by rw [hM_2, mup_n (by omega)]; exact F94
  have F_5 : M_1 95 = IR k 82 tl := by rw [hM_2, mup_n (by omega)]; exact F95
  have F_6 : M_1 96 = IR k 1148 di := by rw [hM_2, mup_n (by omega)]; exact F96
  have F_7 : M_1 97 = IR k 164 kp := by rw [hM_2, mup_n (by omega)]; exact F97
  have F_8 : M_1 98 = .inl (kZ k, 2, .inl (fun zq => bI (ik zq))) := by rw [hM_2, mup_n (by omega)]; exact F98
  have F_9 : M_1 103 = IR k 90 sc := by rw [hM_2, mup_n (by omega)]; exact F103
  have F_10 : M_1 104 = IR k 82 rd := by rw [hM_2, mup_n (by omega)]; exact F104
  have F_11 : M_1 105 = IR k 24 li := by rw [hM_2, mup_n (by omega)]; exact F105
  have P_12 : RtAt k M_1 (build cs ds).1 := hT.fr (fun i h1 h2 => by rw [hM_2, mup_n (by omega)])
  refine v_aload_n X 0 dX8_constraintCount_5 rfl ?_
  refine v_get X cls8 F_3 (by omega) 1 (by decide) m_443 rfl rfl dX8_constraintCount_6 ?_
  refine v_iconst X (v := nI 0) (by decide) dX8_constraintCount_9 ?_
  refine v_iald X nI F_4 (by omega) (by omega) (by decide) dX8_constraintCount_10 ?_
  exact v_iret X rq ⟨by decide, by decide⟩ rfl dX8_constraintCount_11 ⟨_, rfl, ⟨congrArg nI hR.1, ⟨hN, hV, htx9, htxc, nx, lp, ln, sp, lc, so, nw, tl, di, kp, ik, sc, rd, li, F_3, F_4, F_5, F_6, F_7, F_8, P_12, F_9, F_10, F_11, hR, hD, hK, hS⟩⟩, (fun i hi => by rw [hM_2, mup_n (by omega)])⟩
set_option maxHeartbeats 4000000 in
set_option maxRecDepth 100000 in
theorem c_X8_level (l : Launch) (k : KX) (M : Mem) (w : Nat) (cs ds : List Nat) (mem : List SD) (sl : Nat → Option SD) (tx : List Nat) (hRef : RefAt k M w cs ds mem sl tx) : CM l yX8_level cX8_level 1 ((some .int)) { frames := 0, cells := 0, slots := 0, locals := 0 } k [.ref (ad k 93)] M (pI (fun r M' => (r = nI ds.length ∧ RefAt k M' 0 cs ds mem sl tx) ∧ FrR M M')) := by
  refine CM.of (by decide) (Nat.le_of_ble_eq_true rfl) (fun C X hCl hCR rq => ?_)
  show V C k 1 (0, 0) M 0 [(0, .ref (ad k 93))] []
  obtain ⟨hN, hV, htx9, htxc, nx, lp, ln, sp, lc, so, nw, tl, di, kp, ik, sc, rd, li, F93, F94, F95, F96, F97, F98, hT, F103, F104, F105, hR, hD, hK, hS⟩ := id hRef
  have ho2 : csOK cs := hV.1.1
  have hds : ∀ d ∈ ds, d < 16 := hV.1.2.1
  have hlc : cs.length ≤ 24 := ho2.1
  have hld : ds.length ≤ 8 := hV.1.2.2
  have hok := cAt_ok ho2
  have hr := hR.c
  have hTk := hT.2.1
  have hTA := hTk.A
  have hTT := hTk.T
  have hTl := hTk.le
  have htL : tL (build cs ds).1 = ds.length := hV.2.1
  have hcf : ∀ n, (build cs ds).2 = some n → n < 24 := fun n hn => by have := (build_ok hlc hds).2 n hn; omega
  refine v_aload_n X 0 dX8_level_0 rfl ?_
  refine v_iconst X (v := nI 0) (by decide) dX8_level_1 ?_
  refine v_put X cls8 F93 (by omega) 0 (by decide) m_457 rfl rfl rfl rfl (Nat.le_of_ble_eq_true rfl) dX8_level_2 (fun M_1 hM_2 => ?_)
  have F_3 : M_1 93 = RO k 0 mem.length nx (tA ((build cs ds).1)) (tT ((build cs ds).1)) (((build cs ds).1).length) ((tL (build cs ds).1)) ((build cs ds).2) lp ln tx.length sp lc so := by rw [hM_2]; exact mup_s
  have F_4 : M_1 94 = IR k 82 nw := by rw [hM_2, mup_n (by omega)]; exact F94
  have F_5 : M_1 95 = IR k 82 tl := by rw [hM_2, mup_n (by omega)]; exact F95
  have F_6 : M_1 96 = IR k 1148 di := by rw [hM_2, mup_n (by omega)]; exact F96
  have F_7 : M_1 97 = IR k 164 kp := by rw [hM_2, mup_n (by omega)]; exact F97
  have F_8 : M_1 98 = .inl (kZ k, 2, .inl (fun zq => bI (ik zq))) := by rw [hM_2, mup_n (by omega)]; exact F98
  have F_9 : M_1 103 = IR k 90 sc := by rw [hM_2, mup_n (by omega)]; exact F103
  have F_10 : M_1 104 = IR k 82 rd := by rw [hM_2, mup_n (by omega)]; exact F104
  have F_11 : M_1 105 = IR k 24 li := by rw [hM_2, mup_n (by omega)]; exact F105
  have P_12 : RtAt k M_1 (build cs ds).1 := hT.fr (fun i h1 h2 => by rw [hM_2, mup_n (by omega)])
  refine v_aload_n X 0 dX8_level_5 rfl ?_
  refine v_get X cls8 F_3 (by omega) 12 (by decide) m_476 rfl rfl dX8_level_6 ?_
  exact v_iret X rq ⟨by decide, by decide⟩ rfl dX8_level_9 ⟨_, rfl, ⟨congrArg nI htL, ⟨hN, hV, htx9, htxc, nx, lp, ln, sp, lc, so, nw, tl, di, kp, ik, sc, rd, li, F_3, F_4, F_5, F_6, F_7, F_8, P_12, F_9, F_10, F_11, hR, hD, hK, hS⟩⟩, (fun i hi => by rw [hM_2, mup_n (by omega)])⟩
set_option maxHeartbeats 4000000 in
set_option maxRecDepth 100000 in
theorem c_X8_conflict (l : Launch) (k : KX) (M : Mem) (w : Nat) (cs ds : List Nat) (mem : List SD) (sl : Nat → Option SD) (tx : List Nat) (hRef : RefAt k M w cs ds mem sl tx) : CM l yX8_conflict cX8_conflict 1 ((some .int)) { frames := 0, cells := 0, slots := 0, locals := 0 } k [.ref (ad k 93)] M (pI (fun r M' => (r = oI (build cs ds).2 ∧ RefAt k M' 0 cs ds mem sl tx) ∧ FrR M M')) := by
  refine CM.of (by decide) (Nat.le_of_ble_eq_true rfl) (fun C X hCl hCR rq => ?_)
  show V C k 1 (0, 0) M 0 [(0, .ref (ad k 93))] []
  obtain ⟨hN, hV, htx9, htxc, nx, lp, ln, sp, lc, so, nw, tl, di, kp, ik, sc, rd, li, F93, F94, F95, F96, F97, F98, hT, F103, F104, F105, hR, hD, hK, hS⟩ := id hRef
  have ho2 : csOK cs := hV.1.1
  have hds : ∀ d ∈ ds, d < 16 := hV.1.2.1
  have hlc : cs.length ≤ 24 := ho2.1
  have hld : ds.length ≤ 8 := hV.1.2.2
  have hok := cAt_ok ho2
  have hr := hR.c
  have hTk := hT.2.1
  have hTA := hTk.A
  have hTT := hTk.T
  have hTl := hTk.le
  have htL : tL (build cs ds).1 = ds.length := hV.2.1
  have hcf : ∀ n, (build cs ds).2 = some n → n < 24 := fun n hn => by have := (build_ok hlc hds).2 n hn; omega
  refine v_aload_n X 0 dX8_conflict_0 rfl ?_
  refine v_iconst X (v := nI 0) (by decide) dX8_conflict_1 ?_
  refine v_put X cls8 F93 (by omega) 0 (by decide) m_457 rfl rfl rfl rfl (Nat.le_of_ble_eq_true rfl) dX8_conflict_2 (fun M_1 hM_2 => ?_)
  have F_3 : M_1 93 = RO k 0 mem.length nx (tA ((build cs ds).1)) (tT ((build cs ds).1)) (((build cs ds).1).length) ((tL (build cs ds).1)) ((build cs ds).2) lp ln tx.length sp lc so := by rw [hM_2]; exact mup_s
  have F_4 : M_1 94 = IR k 82 nw := by rw [hM_2, mup_n (by omega)]; exact F94
  have F_5 : M_1 95 = IR k 82 tl := by rw [hM_2, mup_n (by omega)]; exact F95
  have F_6 : M_1 96 = IR k 1148 di := by rw [hM_2, mup_n (by omega)]; exact F96
  have F_7 : M_1 97 = IR k 164 kp := by rw [hM_2, mup_n (by omega)]; exact F97
  have F_8 : M_1 98 = .inl (kZ k, 2, .inl (fun zq => bI (ik zq))) := by rw [hM_2, mup_n (by omega)]; exact F98
  have F_9 : M_1 103 = IR k 90 sc := by rw [hM_2, mup_n (by omega)]; exact F103
  have F_10 : M_1 104 = IR k 82 rd := by rw [hM_2, mup_n (by omega)]; exact F104
  have F_11 : M_1 105 = IR k 24 li := by rw [hM_2, mup_n (by omega)]; exact F105
  have P_12 : RtAt k M_1 (build cs ds).1 := hT.fr (fun i h1 h2 => by rw [hM_2, mup_n (by omega)])
  refine v_aload_n X 0 dX8_conflict_5 rfl ?_
  refine v_get X cls8 F_3 (by omega) 16 (by decide) m_452 rfl rfl dX8_conflict_6 ?_
  exact v_iret X rq ⟨by decide, by decide⟩ rfl dX8_conflict_9 ⟨_, rfl, ⟨rfl, ⟨hN, hV, htx9, htxc, nx, lp, ln, sp, lc, so, nw, tl, di, kp, ik, sc, rd, li, F_3, F_4, F_5, F_6, F_7, F_8, P_12, F_9, F_10, F_11, hR, hD, hK, hS⟩⟩, (fun i hi => by rw [hM_2, mup_n (by omega)])⟩
set_option maxHeartbeats 4000000 in
set_option maxRecDepth 100000 in
theorem c_X8_isParity (l : Launch) (k : KX) (M : Mem) (w : Nat) (cs ds : List Nat) (mem : List SD) (sl : Nat → Option SD) (tx : List Nat) (x : Int32) (hRef : RefAt k M w cs ds mem sl tx) : CM l yX8_isParity cX8_isParity 2 ((some .boolean)) { frames := 2, cells := 0, slots := 0, locals := 46 } k [.ref (ad k 93), .int x] M (pI (fun r M' => ((inL x cs.length = false ∧ RefAt k M' 1 cs ds mem sl tx) ∨ (∃ j, j < cs.length ∧ x = nI j ∧ r = bI (xPar (cAt cs j)) ∧ RefAt k M' 0 cs ds mem sl tx)) ∧ FrR M M')) := by
  refine CM.of (by decide) (Nat.le_of_ble_eq_true rfl) (fun C X hCl hCR rq => ?_)
  show V C k 2 (0, 0) M 0 [(0, .ref (ad k 93)), (1, .int x)] []
  obtain ⟨hN, hV, htx9, htxc, nx, lp, ln, sp, lc, so, nw, tl, di, kp, ik, sc, rd, li, F93, F94, F95, F96, F97, F98, hT, F103, F104, F105, hR, hD, hK, hS⟩ := id hRef
  have ho2 : csOK cs := hV.1.1
  have hds : ∀ d ∈ ds, d < 16 := hV.1.2.1
  have hlc : cs.length ≤ 24 := ho2.1
  have hld : ds.length ≤ 8 := hV.1.2.2
  have hok := cAt_ok ho2
  have hr := hR.c
  have hTk := hT.2.1
  have hTA := hTk.A
  have hTT := hTk.T
  have hTl := hTk.le
  have htL : tL (build cs ds).1 = ds.length := hV.2.1
  have hcf : ∀ n, (build cs ds).2 = some n → n < 24 := fun n hn => by have := (build_ok hlc hds).2 n hn; omega
  refine v_aload_n X 0 dX8_isParity_0 rfl ?_
  refine v_aload_n X 0 dX8_isParity_1 rfl ?_
  refine v_iload_n X 1 dX8_isParity_2 rfl ?_
  refine v_callV X hCl hCR (c_X8_isConstraint l k M w mem.length nx (tA ((build cs ds).1)) (tT ((build cs ds).1)) (((build cs ds).1).length) ((tL (build cs ds).1)) ((build cs ds).2) lp ln tx.length sp lc so nw cs.length x (by omega) F93 F94 hR.1 (by omega)) cls8 ⟨_, F93⟩ (by omega) mo_X8_isConstraint m_537 m_540 m_541 m_542 m_465 (by decide) rfl rfl (Nat.le_of_ble_eq_true rfl) ⟨rfl, rfl⟩ ⟨by decide, by decide⟩ dX8_isParity_3 (vP_in ?_)
  refine v_ieqB X 13 dX8_isParity_6 (by decide) (fun c_1 => ?_) (fun c_1 => ?_)
  · have hb := c_1
    refine v_iconst X (v := nI 1) (by decide) dX8_isParity_13 ?_
    refine v_callV X hCl hCR (c_X8_refused l k M w mem.length nx (tA ((build cs ds).1)) (tT ((build cs ds).1)) (((build cs ds).1).length) ((tL (build cs ds).1)) ((build cs ds).2) lp ln tx.length sp lc so 1 (by omega) F93 (by omega)) cls8 ⟨_, F93⟩ (by omega) mo_X8_refused m_458 m_508 m_509 m_510 m_465 (by decide) rfl rfl (Nat.le_of_ble_eq_true rfl) ⟨rfl, rfl⟩ ⟨by decide, by decide⟩ dX8_isParity_14 (vI_in (fun r_6 M_2 hp_3 => ?_))
    obtain ⟨he_7, F_5, hfr_4⟩ := hp_3
    subst he_7
    have F_8 : M_2 94 = IR k 82 nw := by rw [hfr_4 94 (by omega)]; exact F94
    have F_9 : M_2 95 = IR k 82 tl := by rw [hfr_4 95 (by omega)]; exact F95
    have F_10 : M_2 96 = IR k 1148 di := by rw [hfr_4 96 (by omega)]; exact F96
    have F_11 : M_2 97 = IR k 164 kp := by rw [hfr_4 97 (by omega)]; exact F97
    have F_12 : M_2 98 = .inl (kZ k, 2, .inl (fun zq => bI (ik zq))) := by rw [hfr_4 98 (by omega)]; exact F98
    have F_13 : M_2 103 = IR k 90 sc := by rw [hfr_4 103 (by omega)]; exact F103
    have F_14 : M_2 104 = IR k 82 rd := by rw [hfr_4 104 (by omega)]; exact F104
    have F_15 : M_2 105 = IR k 24 li := by rw [hfr_4 105 (by omega)]; exact F105
    have P_16 : RtAt k M_2 (build cs ds).1 := hT.fr (fun i h1 h2 => hfr_4 i (by omega))
    refine v_top (show (Value.int (bI (decide (0 < 1))) : Value) = .int (bI true) from congrArg _ (congrArg bI (by decide))) ?_
    refine v_ieqB X 22 dX8_isParity_17 (by decide) (fun h => absurd h (by decide)) (fun _ => ?_)
    refine v_iconst X (v := bI false) (by decide) dX8_isParity_20 ?_
    exact v_iret X rq ⟨by decide, by decide⟩ (narZ _) dX8_isParity_21 ⟨_, rfl, Or.inl ⟨hb, ⟨hN, hV, htx9, htxc, nx, lp, ln, sp, lc, so, nw, tl, di, kp, ik, sc, rd, li, F_5, F_8, F_9, F_10, F_11, F_12, P_16, F_13, F_14, F_15, hR, hD, hK, hS⟩⟩, (fun i hi => by rw [hfr_4 i (by omega)])⟩
  · have hb := c_1
    refine v_iconst X (v := nI 0) (by decide) dX8_isParity_9 ?_
    refine v_goto X 14 dX8_isParity_10 (by decide) ?_
    refine v_callV X hCl hCR (c_X8_refused l k M w mem.length nx (tA ((build cs ds).1)) (tT ((build cs ds).1)) (((build cs ds).1).length) ((tL (build cs ds).1)) ((build cs ds).2) lp ln tx.length sp lc so 0 (by omega) F93 (by omega)) cls8 ⟨_, F93⟩ (by omega) mo_X8_refused m_458 m_508 m_509 m_510 m_465 (by decide) rfl rfl (Nat.le_of_ble_eq_true rfl) ⟨rfl, rfl⟩ ⟨by decide, by decide⟩ dX8_isParity_14 (vI_in (fun r_21 M_17 hp_18 => ?_))
    obtain ⟨he_22, F_20, hfr_19⟩ := hp_18
    subst he_22
    have F_23 : M_17 94 = IR k 82 nw := by rw [hfr_19 94 (by omega)]; exact F94
    have F_24 : M_17 95 = IR k 82 tl := by rw [hfr_19 95 (by omega)]; exact F95
    have F_25 : M_17 96 = IR k 1148 di := by rw [hfr_19 96 (by omega)]; exact F96
    have F_26 : M_17 97 = IR k 164 kp := by rw [hfr_19 97 (by omega)]; exact F97
    have F_27 : M_17 98 = .inl (kZ k, 2, .inl (fun zq => bI (ik zq))) := by rw [hfr_19 98 (by omega)]; exact F98
    have F_28 : M_17 103 = IR k 90 sc := by rw [hfr_19 103 (by omega)]; exact F103
    have F_29 : M_17 104 = IR k 82 rd := by rw [hfr_19 104 (by omega)]; exact F104
    have F_30 : M_17 105 = IR k 24 li := by rw [hfr_19 105 (by omega)]; exact F105
    have P_31 : RtAt k M_17 (build cs ds).1 := hT.fr (fun i h1 h2 => hfr_19 i (by omega))
    refine v_top (show (Value.int (bI (decide (0 < 0))) : Value) = .int (bI false) from congrArg _ (congrArg bI (by decide))) ?_
    refine v_ieqB X 22 dX8_isParity_17 (by decide) (fun _ => ?_) (fun h => absurd h (by decide))
    obtain ⟨j, hj, rfl⟩ := inL_of (by omega) hb
    refine v_aload_n X 0 dX8_isParity_22 rfl ?_
    refine v_get X cls8 F_20 (by omega) 1 (by decide) m_443 rfl rfl dX8_isParity_23 ?_
    refine v_iconst X (v := nI 1) (by decide) dX8_isParity_26 ?_
    refine v_iload_n X 1 dX8_isParity_27 rfl ?_
    refine v_addN X dX8_isParity_28 ?_
    refine v_iald X nI F_23 (by omega) (by omega) (by decide) dX8_isParity_29 ?_
    refine v_iconst X (v := nI 1) (by decide) dX8_isParity_30 ?_
    refine v_cneN X 38 (hr.2 j hj).lt (by omega) dX8_isParity_31 (by decide) (fun c_32 => ?_) (fun c_32 => ?_)
    · have h31 := c_32
      refine v_iconst X (v := bI false) (by decide) dX8_isParity_38 ?_
      exact v_iret X rq ⟨by decide, by decide⟩ (narZ _) dX8_isParity_39 ⟨_, rfl, Or.inr ⟨j, hj, rfl, (by congr 1; have q := hr.2 j hj; first | rw [q.p1.mp h31] | rw [q.p0.mp h31]), ⟨hN, hV, htx9, htxc, nx, lp, ln, sp, lc, so, nw, tl, di, kp, ik, sc, rd, li, F_20, F_23, F_24, F_25, F_26, F_27, P_31, F_28, F_29, F_30, hR, hD, hK, hS⟩⟩, (fun i hi => by rw [hfr_19 i (by omega)])⟩
    · have h31 := c_32
      refine v_iconst X (v := bI true) (by decide) dX8_isParity_34 ?_
      refine v_goto X 39 dX8_isParity_35 (by decide) ?_
      exact v_iret X rq ⟨by decide, by decide⟩ (narZ _) dX8_isParity_39 ⟨_, rfl, Or.inr ⟨j, hj, rfl, (by congr 1; have q := hr.2 j hj; first | rw [q.p1.mp h31] | rw [q.p0.mp h31]), ⟨hN, hV, htx9, htxc, nx, lp, ln, sp, lc, so, nw, tl, di, kp, ik, sc, rd, li, F_20, F_23, F_24, F_25, F_26, F_27, P_31, F_28, F_29, F_30, hR, hD, hK, hS⟩⟩, (fun i hi => by rw [hfr_19 i (by omega)])⟩
set_option maxHeartbeats 4000000 in
set_option maxRecDepth 100000 in
theorem c_X8_variables (l : Launch) (k : KX) (M : Mem) (w : Nat) (cs ds : List Nat) (mem : List SD) (sl : Nat → Option SD) (tx : List Nat) (x : Int32) (hRef : RefAt k M w cs ds mem sl tx) : CM l yX8_variables cX8_variables 2 ((some .int)) { frames := 2, cells := 0, slots := 0, locals := 46 } k [.ref (ad k 93), .int x] M (pI (fun r M' => ((inL x cs.length = false ∧ RefAt k M' 1 cs ds mem sl tx) ∨ (∃ j, j < cs.length ∧ x = nI j ∧ r = nI (xFirst (cAt cs j)) ∧ RefAt k M' 0 cs ds mem sl tx)) ∧ FrR M M')) := by
  refine CM.of (by decide) (Nat.le_of_ble_eq_true rfl) (fun C X hCl hCR rq => ?_)
  show V C k 2 (0, 0) M 0 [(0, .ref (ad k 93)), (1, .int x)] []
  obtain ⟨hN, hV, htx9, htxc, nx, lp, ln, sp, lc, so, nw, tl, di, kp, ik, sc, rd, li, F93, F94, F95, F96, F97, F98, hT, F103, F104, F105, hR, hD, hK, hS⟩ := id hRef
  have ho2 : csOK cs := hV.1.1
  have hds : ∀ d ∈ ds, d < 16 := hV.1.2.1
  have hlc : cs.length ≤ 24 := ho2.1
  have hld : ds.length ≤ 8 := hV.1.2.2
  have hok := cAt_ok ho2
  have hr := hR.c
  have hTk := hT.2.1
  have hTA := hTk.A
  have hTT := hTk.T
  have hTl := hTk.le
  have htL : tL (build cs ds).1 = ds.length := hV.2.1
  have hcf : ∀ n, (build cs ds).2 = some n → n < 24 := fun n hn => by have := (build_ok hlc hds).2 n hn; omega
  refine v_aload_n X 0 dX8_variables_0 rfl ?_
  refine v_aload_n X 0 dX8_variables_1 rfl ?_
  refine v_iload_n X 1 dX8_variables_2 rfl ?_
  refine v_callV X hCl hCR (c_X8_isConstraint l k M w mem.length nx (tA ((build cs ds).1)) (tT ((build cs ds).1)) (((build cs ds).1).length) ((tL (build cs ds).1)) ((build cs ds).2) lp ln tx.length sp lc so nw cs.length x (by omega) F93 F94 hR.1 (by omega)) cls8 ⟨_, F93⟩ (by omega) mo_X8_isConstraint m_537 m_540 m_541 m_542 m_465 (by decide) rfl rfl (Nat.le_of_ble_eq_true rfl) ⟨rfl, rfl⟩ ⟨by decide, by decide⟩ dX8_variables_3 (vP_in ?_)
  refine v_ieqB X 13 dX8_variables_6 (by decide) (fun c_1 => ?_) (fun c_1 => ?_)
  · have hb := c_1
    refine v_iconst X (v := nI 1) (by decide) dX8_variables_13 ?_
    refine v_callV X hCl hCR (c_X8_refused l k M w mem.length nx (tA ((build cs ds).1)) (tT ((build cs ds).1)) (((build cs ds).1).length) ((tL (build cs ds).1)) ((build cs ds).2) lp ln tx.length sp lc so 1 (by omega) F93 (by omega)) cls8 ⟨_, F93⟩ (by omega) mo_X8_refused m_458 m_508 m_509 m_510 m_465 (by decide) rfl rfl (Nat.le_of_ble_eq_true rfl) ⟨rfl, rfl⟩ ⟨by decide, by decide⟩ dX8_variables_14 (vI_in (fun r_6 M_2 hp_3 => ?_))
    obtain ⟨he_7, F_5, hfr_4⟩ := hp_3
    subst he_7
    have F_8 : M_2 94 = IR k 82 nw := by rw [hfr_4 94 (by omega)]; exact F94
    have F_9 : M_2 95 = IR k 82 tl := by rw [hfr_4 95 (by omega)]; exact F95
    have F_10 : M_2 96 = IR k 1148 di := by rw [hfr_4 96 (by omega)]; exact F96
    have F_11 : M_2 97 = IR k 164 kp := by rw [hfr_4 97 (by omega)]; exact F97
    have F_12 : M_2 98 = .inl (kZ k, 2, .inl (fun zq => bI (ik zq))) := by rw [hfr_4 98 (by omega)]; exact F98
    have F_13 : M_2 103 = IR k 90 sc := by rw [hfr_4 103 (by omega)]; exact F103
    have F_14 : M_2 104 = IR k 82 rd := by rw [hfr_4 104 (by omega)]; exact F104
    have F_15 : M_2 105 = IR k 24 li := by rw [hfr_4 105 (by omega)]; exact F105
    have P_16 : RtAt k M_2 (build cs ds).1 := hT.fr (fun i h1 h2 => hfr_4 i (by omega))
    refine v_top (show (Value.int (bI (decide (0 < 1))) : Value) = .int (bI true) from congrArg _ (congrArg bI (by decide))) ?_
    refine v_ieqB X 22 dX8_variables_17 (by decide) (fun h => absurd h (by decide)) (fun _ => ?_)
    refine v_iconst X (v := nI 0) (by decide) dX8_variables_20 ?_
    exact v_iret X rq ⟨by decide, by decide⟩ rfl dX8_variables_21 ⟨_, rfl, Or.inl ⟨hb, ⟨hN, hV, htx9, htxc, nx, lp, ln, sp, lc, so, nw, tl, di, kp, ik, sc, rd, li, F_5, F_8, F_9, F_10, F_11, F_12, P_16, F_13, F_14, F_15, hR, hD, hK, hS⟩⟩, (fun i hi => by rw [hfr_4 i (by omega)])⟩
  · have hb := c_1
    refine v_iconst X (v := nI 0) (by decide) dX8_variables_9 ?_
    refine v_goto X 14 dX8_variables_10 (by decide) ?_
    refine v_callV X hCl hCR (c_X8_refused l k M w mem.length nx (tA ((build cs ds).1)) (tT ((build cs ds).1)) (((build cs ds).1).length) ((tL (build cs ds).1)) ((build cs ds).2) lp ln tx.length sp lc so 0 (by omega) F93 (by omega)) cls8 ⟨_, F93⟩ (by omega) mo_X8_refused m_458 m_508 m_509 m_510 m_465 (by decide) rfl rfl (Nat.le_of_ble_eq_true rfl) ⟨rfl, rfl⟩ ⟨by decide, by decide⟩ dX8_variables_14 (vI_in (fun r_21 M_17 hp_18 => ?_))
    obtain ⟨he_22, F_20, hfr_19⟩ := hp_18
    subst he_22
    have F_23 : M_17 94 = IR k 82 nw := by rw [hfr_19 94 (by omega)]; exact F94
    have F_24 : M_17 95 = IR k 82 tl := by rw [hfr_19 95 (by omega)]; exact F95
    have F_25 : M_17 96 = IR k 1148 di := by rw [hfr_19 96 (by omega)]; exact F96
    have F_26 : M_17 97 = IR k 164 kp := by rw [hfr_19 97 (by omega)]; exact F97
    have F_27 : M_17 98 = .inl (kZ k, 2, .inl (fun zq => bI (ik zq))) := by rw [hfr_19 98 (by omega)]; exact F98
    have F_28 : M_17 103 = IR k 90 sc := by rw [hfr_19 103 (by omega)]; exact F103
    have F_29 : M_17 104 = IR k 82 rd := by rw [hfr_19 104 (by omega)]; exact F104
    have F_30 : M_17 105 = IR k 24 li := by rw [hfr_19 105 (by omega)]; exact F105
    have P_31 : RtAt k M_17 (build cs ds).1 := hT.fr (fun i h1 h2 => hfr_19 i (by omega))
    refine v_top (show (Value.int (bI (decide (0 < 0))) : Value) = .int (bI false) from congrArg _ (congrArg bI (by decide))) ?_
    refine v_ieqB X 22 dX8_variables_17 (by decide) (fun _ => ?_) (fun h => absurd h (by decide))
    obtain ⟨j, hj, rfl⟩ := inL_of (by omega) hb
    refine v_aload_n X 0 dX8_variables_22 rfl ?_
    refine v_get X cls8 F_20 (by omega) 1 (by decide) m_443 rfl rfl dX8_variables_23 ?_
    refine v_bipush X (v := nI 25) (by decide) dX8_variables_26 ?_
    refine v_iload_n X 1 dX8_variables_28 rfl ?_
    refine v_addN X dX8_variables_29 ?_
    refine v_iald X nI F_23 (by omega) (by omega) (by decide) dX8_variables_30 ?_
    exact v_iret X rq ⟨by decide, by decide⟩ rfl dX8_variables_31 ⟨_, rfl, Or.inr ⟨j, hj, rfl, (congrArg nI (hr.2 j hj).2.1), ⟨hN, hV, htx9, htxc, nx, lp, ln, sp, lc, so, nw, tl, di, kp, ik, sc, rd, li, F_20, F_23, F_24, F_25, F_26, F_27, P_31, F_28, F_29, F_30, hR, hD, hK, hS⟩⟩, (fun i hi => by rw [hfr_19 i (by omega)])⟩
set_option maxHeartbeats 4000000 in
set_option maxRecDepth 100000 in
theorem c_X8_negated (l : Launch) (k : KX) (M : Mem) (w : Nat) (cs ds : List Nat) (mem : List SD) (sl : Nat → Option SD) (tx : List Nat) (x : Int32) (hRef : RefAt k M w cs ds mem sl tx) : CM l yX8_negated cX8_negated 2 ((some .int)) { frames := 2, cells := 0, slots := 0, locals := 46 } k [.ref (ad k 93), .int x] M (pI (fun r M' => ((inL x cs.length = false ∧ RefAt k M' 1 cs ds mem sl tx) ∨ (∃ j, j < cs.length ∧ x = nI j ∧ r = nI (xSecond (cAt cs j)) ∧ RefAt k M' 0 cs ds mem sl tx)) ∧ FrR M M')) := by
  refine CM.of (by decide) (Nat.le_of_ble_eq_true rfl) (fun C X hCl hCR rq => ?_)
  show V C k 2 (0, 0) M 0 [(0, .ref (ad k 93)), (1, .int x)] []
  obtain ⟨hN, hV, htx9, htxc, nx, lp, ln, sp, lc, so, nw, tl, di, kp, ik, sc, rd, li, F93, F94, F95, F96, F97, F98, hT, F103, F104, F105, hR, hD, hK, hS⟩ := id hRef
  have ho2 : csOK cs := hV.1.1
  have hds : ∀ d ∈ ds, d < 16 := hV.1.2.1
  have hlc : cs.length ≤ 24 := ho2.1
  have hld : ds.length ≤ 8 := hV.1.2.2
  have hok := cAt_ok ho2
  have hr := hR.c
  have hTk := hT.2.1
  have hTA := hTk.A
  have hTT := hTk.T
  have hTl := hTk.le
  have htL : tL (build cs ds).1 = ds.length := hV.2.1
  have hcf : ∀ n, (build cs ds).2 = some n → n < 24 := fun n hn => by have := (build_ok hlc hds).2 n hn; omega
  refine v_aload_n X 0 dX8_negated_0 rfl ?_
  refine v_aload_n X 0 dX8_negated_1 rfl ?_
  refine v_iload_n X 1 dX8_negated_2 rfl ?_
  refine v_callV X hCl hCR (c_X8_isConstraint l k M w mem.length nx (tA ((build cs ds).1)) (tT ((build cs ds).1)) (((build cs ds).1).length) ((tL (build cs ds).1)) ((build cs ds).2) lp ln tx.length sp lc so nw cs.length x (by omega) F93 F94 hR.1 (by omega)) cls8 ⟨_, F93⟩ (by omega) mo_X8_isConstraint m_537 m_540 m_541 m_542 m_465 (by decide) rfl rfl (Nat.le_of_ble_eq_true rfl) ⟨rfl, rfl⟩ ⟨by decide, by decide⟩ dX8_negated_3 (vP_in ?_)
  refine v_ieqB X 13 dX8_negated_6 (by decide) (fun c_1 => ?_) (fun c_1 => ?_)
  · have hb := c_1
    refine v_iconst X (v := nI 1) (by decide) dX8_negated_13 ?_
    refine v_callV X hCl hCR (c_X8_refused l k M w mem.length nx (tA ((build cs ds).1)) (tT ((build cs ds).1)) (((build cs ds).1).length) ((tL (build cs ds).1)) ((build cs ds).2) lp ln tx.length sp lc so 1 (by omega) F93 (by omega)) cls8 ⟨_, F93⟩ (by omega) mo_X8_refused m_458 m_508 m_509 m_510 m_465 (by decide) rfl rfl (Nat.le_of_ble_eq_true rfl) ⟨rfl, rfl⟩ ⟨by decide, by decide⟩ dX8_negated_14 (vI_in (fun r_6 M_2 hp_3 => ?_))
    obtain ⟨he_7, F_5, hfr_4⟩ := hp_3
    subst he_7
    have F_8 : M_2 94 = IR k 82 nw := by rw [hfr_4 94 (by omega)]; exact F94
    have F_9 : M_2 95 = IR k 82 tl := by rw [hfr_4 95 (by omega)]; exact F95
    have F_10 : M_2 96 = IR k 1148 di := by rw [hfr_4 96 (by omega)]; exact F96
    have F_11 : M_2 97 = IR k 164 kp := by rw [hfr_4 97 (by omega)]; exact F97
    have F_12 : M_2 98 = .inl (kZ k, 2, .inl (fun zq => bI (ik zq))) := by rw [hfr_4 98 (by omega)]; exact F98
    have F_13 : M_2 103 = IR k 90 sc := by rw [hfr_4 103 (by omega)]; exact F103
    have F_14 : M_2 104 = IR k 82 rd := by rw [hfr_4 104 (by omega)]; exact F104
    have F_15 : M_2 105 = IR k 24 li := by rw [hfr_4 105 (by omega)]; exact F105
    have P_16 : RtAt k M_2 (build cs ds).1 := hT.fr (fun i h1 h2 => hfr_4 i (by omega))
    refine v_top (show (Value.int (bI (decide (0 < 1))) : Value) = .int (bI true) from congrArg _ (congrArg bI (by decide))) ?_
    refine v_ieqB X 22 dX8_negated_17 (by decide) (fun h => absurd h (by decide)) (fun _ => ?_)
    refine v_iconst X (v := nI 0) (by decide) dX8_negated_20 ?_
    exact v_iret X rq ⟨by decide, by decide⟩ rfl dX8_negated_21 ⟨_, rfl, Or.inl ⟨hb, ⟨hN, hV, htx9, htxc, nx, lp, ln, sp, lc, so, nw, tl, di, kp, ik, sc, rd, li, F_5, F_8, F_9, F_10, F_11, F_12, P_16, F_13, F_14, F_15, hR, hD, hK, hS⟩⟩, (fun i hi => by rw [hfr_4 i (by omega)])⟩
  · have hb := c_1
    refine v_iconst X (v := nI 0) (by decide) dX8_negated_9 ?_
    refine v_goto X 14 dX8_negated_10 (by decide) ?_
    refine v_callV X hCl hCR (c_X8_refused l k M w mem.length nx (tA ((build cs ds).1)) (tT ((build cs ds).1)) (((build cs ds).1).length) ((tL (build cs ds).1)) ((build cs ds).2) lp ln tx.length sp lc so 0 (by omega) F93 (by omega)) cls8 ⟨_, F93⟩ (by omega) mo_X8_refused m_458 m_508 m_509 m_510 m_465 (by decide) rfl rfl (Nat.le_of_ble_eq_true rfl) ⟨rfl, rfl⟩ ⟨by decide, by decide⟩ dX8_negated_14 (vI_in (fun r_21 M_17 hp_18 => ?_))
    obtain ⟨he_22, F_20, hfr_19⟩ := hp_18
    subst he_22
    have F_23 : M_17 94 = IR k 82 nw := by rw [hfr_19 94 (by omega)]; exact F94
    have F_24 : M_17 95 = IR k 82 tl := by rw [hfr_19 95 (by omega)]; exact F95
    have F_25 : M_17 96 = IR k 1148 di := by rw [hfr_19 96 (by omega)]; exact F96
    have F_26 : M_17 97 = IR k 164 kp := by rw [hfr_19 97 (by omega)]; exact F97
    have F_27 : M_17 98 = .inl (kZ k, 2, .inl (fun zq => bI (ik zq))) := by rw [hfr_19 98 (by omega)]; exact F98
    have F_28 : M_17 103 = IR k 90 sc := by rw [hfr_19 103 (by omega)]; exact F103
    have F_29 : M_17 104 = IR k 82 rd := by rw [hfr_19 104 (by omega)]; exact F104
    have F_30 : M_17 105 = IR k 24 li := by rw [hfr_19 105 (by omega)]; exact F105
    have P_31 : RtAt k M_17 (build cs ds).1 := hT.fr (fun i h1 h2 => hfr_19 i (by omega))
    refine v_top (show (Value.int (bI (decide (0 < 0))) : Value) = .int (bI false) from congrArg _ (congrArg bI (by decide))) ?_
    refine v_ieqB X 22 dX8_negated_17 (by decide) (fun _ => ?_) (fun h => absurd h (by decide))
    obtain ⟨j, hj, rfl⟩ := inL_of (by omega) hb
    refine v_aload_n X 0 dX8_negated_22 rfl ?_
    refine v_get X cls8 F_20 (by omega) 1 (by decide) m_443 rfl rfl dX8_negated_23 ?_
    refine v_bipush X (v := nI 49) (by decide) dX8_negated_26 ?_
    refine v_iload_n X 1 dX8_negated_28 rfl ?_
    refine v_addN X dX8_negated_29 ?_
    refine v_iald X nI F_23 (by omega) (by omega) (by decide) dX8_negated_30 ?_
    exact v_iret X rq ⟨by decide, by decide⟩ rfl dX8_negated_31 ⟨_, rfl, Or.inr ⟨j, hj, rfl, (congrArg nI (hr.2 j hj).2.2.1), ⟨hN, hV, htx9, htxc, nx, lp, ln, sp, lc, so, nw, tl, di, kp, ik, sc, rd, li, F_20, F_23, F_24, F_25, F_26, F_27, P_31, F_28, F_29, F_30, hR, hD, hK, hS⟩⟩, (fun i hi => by rw [hfr_19 i (by omega)])⟩
set_option maxHeartbeats 4000000 in
set_option maxRecDepth 100000 in
theorem c_X8_addClause (l : Launch) (k : KX) (M : Mem) (w : Nat) (cs ds : List Nat) (mem : List SD) (sl : Nat → Option SD) (tx : List Nat) (p n : Int32) (hRef : RefAt k M w cs ds mem sl tx) : CM l yX8_addClause cX8_addClause 3 ((some .int)) { frames := 7, cells := 0, slots := 0, locals := 161 } k [.ref (ad k 93), .int p, .int n] M (pI (fun r M' => ((isCl p n = false ∧ RefAt k M' 1 cs ds mem sl tx) ∨ (isCl p n = true ∧ 24 ≤ cs.length ∧ RefAt k M' 2 cs ds mem sl tx) ∨ (∃ p0 n0, p0 < 256 ∧ n0 < 256 ∧ p = nI p0 ∧ n = nI n0 ∧ p0 &&& n0 = 0 ∧ cs.length < 24 ∧ r = nI cs.length ∧ RefAt k M' 0 (cs ++ [xClause p0 n0]) (sNew (cs ++ [xClause p0 n0]) ds) (remF mem (cs, ds)) sl tx)) ∧ FrR M M')) := by
  refine CM.of (by decide) (Nat.le_of_ble_eq_true rfl) (fun C X hCl hCR rq => ?_)
  show V C k 3 (0, 0) M 0 [(0, .ref (ad k 93)), (1, .int p), (2, .int n)] []
  obtain ⟨hN, hV, htx9, htxc, nx, lp, ln, sp, lc, so, nw, tl, di, kp, ik, sc, rd, li, F93, F94, F95, F96, F97, F98, hT, F103, F104, F105, hR, hD, hK, hS⟩ := id hRef
  have ho2 : csOK cs := hV.1.1
  have hds : ∀ d ∈ ds, d < 16 := hV.1.2.1
  have hlc : cs.length ≤ 24 := ho2.1
  have hld : ds.length ≤ 8 := hV.1.2.2
  have hok := cAt_ok ho2
  have hr := hR.c
  have hTk := hT.2.1
  have hTA := hTk.A
  have hTT := hTk.T
  have hTl := hTk.le
  have htL : tL (build cs ds).1 = ds.length := hV.2.1
  have hcf : ∀ n, (build cs ds).2 = some n → n < 24 := fun n hn => by have := (build_ok hlc hds).2 n hn; omega
  refine v_aload_n X 0 dX8_addClause_0 rfl ?_
  refine v_iload_n X 1 dX8_addClause_1 rfl ?_
  refine v_iload_n X 2 dX8_addClause_2 rfl ?_
  refine v_callS X hCl hCR (c_X8_isClause l k M p n) mo_X8_isClause m_545 m_551 m_552 m_465 (by decide) rfl rfl (Nat.le_of_ble_eq_true rfl) ⟨rfl, rfl⟩ ⟨by decide, by decide⟩ dX8_addClause_3 (vP_in ?_)
  refine v_ineB X 13 dX8_addClause_6 (by decide) (fun c_1 => ?_) (fun c_1 => ?_)
  · have hb := c_1
    refine v_aload_n X 0 dX8_addClause_13 rfl ?_
    refine v_get X cls8 F93 (by omega) 1 (by decide) m_443 rfl rfl dX8_addClause_14 ?_
    refine v_iconst X (v := nI 0) (by decide) dX8_addClause_17 ?_
    refine v_iald X nI F94 (by omega) (by omega) (by decide) dX8_addClause_18 ?_
    refine v_top (show (Value.int (nI (nw 0)) : Value) = .int (nI cs.length) from congrArg _ (congrArg nI hR.1)) ?_
    refine v_bipush X (v := nI 24) (by decide) dX8_addClause_19 ?_
    refine v_cneN X 28 (by omega) (by omega) dX8_addClause_21 (by decide) (fun c_2 => ?_) (fun c_2 => ?_)
    · have h24 : cs.length < 24 := by have := c_2; omega
      refine v_iconst X (v := nI 0) (by decide) dX8_addClause_28 ?_
      refine v_callV X hCl hCR (c_X8_refused l k M w mem.length nx (tA ((build cs ds).1)) (tT ((build cs ds).1)) (((build cs ds).1).length) ((tL (build cs ds).1)) ((build cs ds).2) lp ln tx.length sp lc so 0 (by omega) F93 (by omega)) cls8 ⟨_, F93⟩ (by omega) mo_X8_refused m_458 m_508 m_509 m_510 m_465 (by decide) rfl rfl (Nat.le_of_ble_eq_true rfl) ⟨rfl, rfl⟩ ⟨by decide, by decide⟩ dX8_addClause_29 (vI_in (fun r_7 M_3 hp_4 => ?_))
      obtain ⟨he_8, F_6, hfr_5⟩ := hp_4
      subst he_8
      have F_9 : M_3 94 = IR k 82 nw := by rw [hfr_5 94 (by omega)]; exact F94
      have F_10 : M_3 95 = IR k 82 tl := by rw [hfr_5 95 (by omega)]; exact F95
      have F_11 : M_3 96 = IR k 1148 di := by rw [hfr_5 96 (by omega)]; exact F96
      have F_12 : M_3 97 = IR k 164 kp := by rw [hfr_5 97 (by omega)]; exact F97
      have F_13 : M_3 98 = .inl (kZ k, 2, .inl (fun zq => bI (ik zq))) := by rw [hfr_5 98 (by omega)]; exact F98
      have F_14 : M_3 103 = IR k 90 sc := by rw [hfr_5 103 (by omega)]; exact F103
      have F_15 : M_3 104 = IR k 82 rd := by rw [hfr_5 104 (by omega)]; exact F104
      have F_16 : M_3 105 = IR k 24 li := by rw [hfr_5 105 (by omega)]; exact F105
      have P_17 : RtAt k M_3 (build cs ds).1 := hT.fr (fun i h1 h2 => hfr_5 i (by omega))
      refine v_top (show (Value.int (bI (decide (0 < 0))) : Value) = .int (bI false) from congrArg _ (congrArg bI (by decide))) ?_
      refine v_ieqB X 37 dX8_addClause_32 (by decide) (fun _ => ?_) (fun h => absurd h (by decide))
      simp only [isCl, Bool.and_eq_true, decide_eq_true_eq] at hb
      obtain ⟨p0, hp0, rfl⟩ := inR_of (by decide) hb.1.1
      obtain ⟨n0, hn0, rfl⟩ := inR_of (by decide) hb.1.2
      have hpn : p0 &&& n0 = 0 := (nI_eq (and_ltl (by omega)) (by decide)).mp (by rw [← w_and]; exact hb.2)
      refine v_aload_n X 0 dX8_addClause_37 rfl ?_
      refine v_iconst X (v := nI 0) (by decide) dX8_addClause_38 ?_
      refine v_iload_n X 1 dX8_addClause_39 rfl ?_
      refine v_iload_n X 2 dX8_addClause_40 rfl ?_
      have hRef_18 : RefAt k M_3 0 cs ds mem sl tx := ⟨hN, hV, htx9, htxc, nx, lp, ln, sp, lc, so, nw, tl, di, kp, ik, sc, rd, li, F_6, F_9, F_10, F_11, F_12, F_13, P_17, F_14, F_15, F_16, hR, hD, hK, hS⟩
      refine v_callV X hCl hCR (c_X8_added l k M_3 0 cs ds mem sl tx (xClause p0 n0) 0 p0 n0 hRef_18 (xOK_clause (by omega) (by omega) hpn) h24 (by rw [xPar_clause (by omega) (by omega)]; rfl) (xFirst_clause (by omega)).symm (xSecond_clause (by omega) (by omega)).symm) cls8 ⟨_, F_6⟩ (by omega) mo_X8_added m_550 m_553 m_554 m_555 m_465 (by decide) rfl rfl (Nat.le_of_ble_eq_true rfl) ⟨rfl, rfl⟩ ⟨by decide, by decide⟩ dX8_addClause_41 (vI_in (fun r_23 M_19 hp_20 => ?_))
      obtain ⟨he_24, hRef_22, hfr_21⟩ := hp_20
      subst he_24
      exact v_iret X rq ⟨by decide, by decide⟩ rfl dX8_addClause_44 ⟨_, rfl, Or.inr (Or.inr ⟨p0, n0, by omega, by omega, rfl, rfl, hpn, h24, rfl, hRef_22⟩), (fun i hi => by rw [hfr_21 i (by omega), hfr_5 i (by omega)])⟩
    · have h24 : 24 ≤ cs.length := by have := c_2; omega
      refine v_iconst X (v := nI 2) (by decide) dX8_addClause_24 ?_
      refine v_goto X 29 dX8_addClause_25 (by decide) ?_
      refine v_callV X hCl hCR (c_X8_refused l k M w mem.length nx (tA ((build cs ds).1)) (tT ((build cs ds).1)) (((build cs ds).1).length) ((tL (build cs ds).1)) ((build cs ds).2) lp ln tx.length sp lc so 2 (by omega) F93 (by omega)) cls8 ⟨_, F93⟩ (by omega) mo_X8_refused m_458 m_508 m_509 m_510 m_465 (by decide) rfl rfl (Nat.le_of_ble_eq_true rfl) ⟨rfl, rfl⟩ ⟨by decide, by decide⟩ dX8_addClause_29 (vI_in (fun r_29 M_25 hp_26 => ?_))
      obtain ⟨he_30, F_28, hfr_27⟩ := hp_26
      subst he_30
      have F_31 : M_25 94 = IR k 82 nw := by rw [hfr_27 94 (by omega)]; exact F94
      have F_32 : M_25 95 = IR k 82 tl := by rw [hfr_27 95 (by omega)]; exact F95
      have F_33 : M_25 96 = IR k 1148 di := by rw [hfr_27 96 (by omega)]; exact F96
      have F_34 : M_25 97 = IR k 164 kp := by rw [hfr_27 97 (by omega)]; exact F97
      have F_35 : M_25 98 = .inl (kZ k, 2, .inl (fun zq => bI (ik zq))) := by rw [hfr_27 98 (by omega)]; exact F98
      have F_36 : M_25 103 = IR k 90 sc := by rw [hfr_27 103 (by omega)]; exact F103
      have F_37 : M_25 104 = IR k 82 rd := by rw [hfr_27 104 (by omega)]; exact F104
      have F_38 : M_25 105 = IR k 24 li := by rw [hfr_27 105 (by omega)]; exact F105
      have P_39 : RtAt k M_25 (build cs ds).1 := hT.fr (fun i h1 h2 => hfr_27 i (by omega))
      refine v_top (show (Value.int (bI (decide (0 < 2))) : Value) = .int (bI true) from congrArg _ (congrArg bI (by decide))) ?_
      refine v_ieqB X 37 dX8_addClause_32 (by decide) (fun h => absurd h (by decide)) (fun _ => ?_)
      refine v_iconst X (v := nI 0) (by decide) dX8_addClause_35 ?_
      exact v_iret X rq ⟨by decide, by decide⟩ rfl dX8_addClause_36 ⟨_, rfl, Or.inr (Or.inl ⟨hb, h24, ⟨hN, hV, htx9, htxc, nx, lp, ln, sp, lc, so, nw, tl, di, kp, ik, sc, rd, li, F_28, F_31, F_32, F_33, F_34, F_35, P_39, F_36, F_37, F_38, hR, hD, hK, hS⟩⟩), (fun i hi => by rw [hfr_27 i (by omega)])⟩
  · have hb := c_1
    refine v_iconst X (v := nI 1) (by decide) dX8_addClause_9 ?_
    refine v_goto X 29 dX8_addClause_10 (by decide) ?_
    refine v_callV X hCl hCR (c_X8_refused l k M w mem.length nx (tA ((build cs ds).1)) (tT ((build cs ds).1)) (((build cs ds).1).length) ((tL (build cs ds).1)) ((build cs ds).2) lp ln tx.length sp lc so 1 (by omega) F93 (by omega)) cls8 ⟨_, F93⟩ (by omega) mo_X8_refused m_458 m_508 m_509 m_510 m_465 (by decide) rfl rfl (Nat.le_of_ble_eq_true rfl) ⟨rfl, rfl⟩ ⟨by decide, by decide⟩ dX8_addClause_29 (vI_in (fun r_44 M_40 hp_41 => ?_))
    obtain ⟨he_45, F_43, hfr_42⟩ := hp_41
    subst he_45
    have F_46 : M_40 94 = IR k 82 nw := by rw [hfr_42 94 (by omega)]; exact F94
    have F_47 : M_40 95 = IR k 82 tl := by rw [hfr_42 95 (by omega)]; exact F95
    have F_48 : M_40 96 = IR k 1148 di := by rw [hfr_42 96 (by omega)]; exact F96
    have F_49 : M_40 97 = IR k 164 kp := by rw [hfr_42 97 (by omega)]; exact F97
    have F_50 : M_40 98 = .inl (kZ k, 2, .inl (fun zq => bI (ik zq))) := by rw [hfr_42 98 (by omega)]; exact F98
    have F_51 : M_40 103 = IR k 90 sc := by rw [hfr_42 103 (by omega)]; exact F103
    have F_52 : M_40 104 = IR k 82 rd := by rw [hfr_42 104 (by omega)]; exact F104
    have F_53 : M_40 105 = IR k 24 li := by rw [hfr_42 105 (by omega)]; exact F105
    have P_54 : RtAt k M_40 (build cs ds).1 := hT.fr (fun i h1 h2 => hfr_42 i (by omega))
    refine v_top (show (Value.int (bI (decide (0 < 1))) : Value) = .int (bI true) from congrArg _ (congrArg bI (by decide))) ?_
    refine v_ieqB X 37 dX8_addClause_32 (by decide) (fun h => absurd h (by decide)) (fun _ => ?_)
    refine v_iconst X (v := nI 0) (by decide) dX8_addClause_35 ?_
    exact v_iret X rq ⟨by decide, by decide⟩ rfl dX8_addClause_36 ⟨_, rfl, Or.inl ⟨hb, ⟨hN, hV, htx9, htxc, nx, lp, ln, sp, lc, so, nw, tl, di, kp, ik, sc, rd, li, F_43, F_46, F_47, F_48, F_49, F_50, P_54, F_51, F_52, F_53, hR, hD, hK, hS⟩⟩, (fun i hi => by rw [hfr_42 i (by omega)])⟩
set_option maxHeartbeats 4000000 in
set_option maxRecDepth 100000 in
theorem c_X8_addParity (l : Launch) (k : KX) (M : Mem) (w : Nat) (cs ds : List Nat) (mem : List SD) (sl : Nat → Option SD) (tx : List Nat) (m b : Int32) (hRef : RefAt k M w cs ds mem sl tx) : CM l yX8_addParity cX8_addParity 3 ((some .int)) { frames := 7, cells := 0, slots := 0, locals := 161 } k [.ref (ad k 93), .int m, .int b] M (pI (fun r M' => ((isSm m b = false ∧ RefAt k M' 1 cs ds mem sl tx) ∨ (isSm m b = true ∧ 24 ≤ cs.length ∧ RefAt k M' 2 cs ds mem sl tx) ∨ (∃ m0 b0, m0 < 256 ∧ b0 < 2 ∧ m = nI m0 ∧ b = nI b0 ∧ cs.length < 24 ∧ r = nI cs.length ∧ RefAt k M' 0 (cs ++ [xParity m0 b0]) (sNew (cs ++ [xParity m0 b0]) ds) (remF mem (cs, ds)) sl tx)) ∧ FrR M M')) := by
  refine CM.of (by decide) (Nat.le_of_ble_eq_true rfl) (fun C X hCl hCR rq => ?_)
  show V C k 3 (0, 0) M 0 [(0, .ref (ad k 93)), (1, .int m), (2, .int b)] []
  obtain ⟨hN, hV, htx9, htxc, nx, lp, ln, sp, lc, so, nw, tl, di, kp, ik, sc, rd, li, F93, F94, F95, F96, F97, F98, hT, F103, F104, F105, hR, hD, hK, hS⟩ := id hRef
  have ho2 : csOK cs := hV.1.1
  have hds : ∀ d ∈ ds, d < 16 := hV.1.2.1
  have hlc : cs.length ≤ 24 := ho2.1
  have hld : ds.length ≤ 8 := hV.1.2.2
  have hok := cAt_ok ho2
  have hr := hR.c
  have hTk := hT.2.1
  have hTA := hTk.A
  have hTT := hTk.T
  have hTl := hTk.le
  have htL : tL (build cs ds).1 = ds.length := hV.2.1
  have hcf : ∀ n, (build cs ds).2 = some n → n < 24 := fun n hn => by have := (build_ok hlc hds).2 n hn; omega
  refine v_aload_n X 0 dX8_addParity_0 rfl ?_
  refine v_iload_n X 1 dX8_addParity_1 rfl ?_
  refine v_iload_n X 2 dX8_addParity_2 rfl ?_
  refine v_callS X hCl hCR (c_X8_isSum l k M m b) mo_X8_isSum m_546 m_557 m_558 m_465 (by decide) rfl rfl (Nat.le_of_ble_eq_true rfl) ⟨rfl, rfl⟩ ⟨by decide, by decide⟩ dX8_addParity_3 (vP_in ?_)
  refine v_ineB X 13 dX8_addParity_6 (by decide) (fun c_1 => ?_) (fun c_1 => ?_)
  · have hb := c_1
    refine v_aload_n X 0 dX8_addParity_13 rfl ?_
    refine v_get X cls8 F93 (by omega) 1 (by decide) m_443 rfl rfl dX8_addParity_14 ?_
    refine v_iconst X (v := nI 0) (by decide) dX8_addParity_17 ?_
    refine v_iald X nI F94 (by omega) (by omega) (by decide) dX8_addParity_18 ?_
    refine v_top (show (Value.int (nI (nw 0)) : Value) = .int (nI cs.length) from congrArg _ (congrArg nI hR.1)) ?_
    refine v_bipush X (v := nI 24) (by decide) dX8_addParity_19 ?_
    refine v_cneN X 28 (by omega) (by omega) dX8_addParity_21 (by decide) (fun c_2 => ?_) (fun c_2 => ?_)
    · have h24 : cs.length < 24 := by have := c_2; omega
      refine v_iconst X (v := nI 0) (by decide) dX8_addParity_28 ?_
      refine v_callV X hCl hCR (c_X8_refused l k M w mem.length nx (tA ((build cs ds).1)) (tT ((build cs ds).1)) (((build cs ds).1).length) ((tL (build cs ds).1)) ((build cs ds).2) lp ln tx.length sp lc so 0 (by omega) F93 (by omega)) cls8 ⟨_, F93⟩ (by omega) mo_X8_refused m_458 m_508 m_509 m_510 m_465 (by decide) rfl rfl (Nat.le_of_ble_eq_true rfl) ⟨rfl, rfl⟩ ⟨by decide, by decide⟩ dX8_addParity_29 (vI_in (fun r_7 M_3 hp_4 => ?_))
      obtain ⟨he_8, F_6, hfr_5⟩ := hp_4
      subst he_8
      have F_9 : M_3 94 = IR k 82 nw := by rw [hfr_5 94 (by omega)]; exact F94
      have F_10 : M_3 95 = IR k 82 tl := by rw [hfr_5 95 (by omega)]; exact F95
      have F_11 : M_3 96 = IR k 1148 di := by rw [hfr_5 96 (by omega)]; exact F96
      have F_12 : M_3 97 = IR k 164 kp := by rw [hfr_5 97 (by omega)]; exact F97
      have F_13 : M_3 98 = .inl (kZ k, 2, .inl (fun zq => bI (ik zq))) := by rw [hfr_5 98 (by omega)]; exact F98
      have F_14 : M_3 103 = IR k 90 sc := by rw [hfr_5 103 (by omega)]; exact F103
      have F_15 : M_3 104 = IR k 82 rd := by rw [hfr_5 104 (by omega)]; exact F104
      have F_16 : M_3 105 = IR k 24 li := by rw [hfr_5 105 (by omega)]; exact F105
      have P_17 : RtAt k M_3 (build cs ds).1 := hT.fr (fun i h1 h2 => hfr_5 i (by omega))
      refine v_top (show (Value.int (bI (decide (0 < 0))) : Value) = .int (bI false) from congrArg _ (congrArg bI (by decide))) ?_
      refine v_ieqB X 37 dX8_addParity_32 (by decide) (fun _ => ?_) (fun h => absurd h (by decide))
      simp only [isSm, Bool.and_eq_true] at hb
      obtain ⟨m0, hm0, rfl⟩ := inR_of (by decide) hb.1
      obtain ⟨b0, hb0, rfl⟩ := inR_of (by decide) hb.2
      refine v_aload_n X 0 dX8_addParity_37 rfl ?_
      refine v_iconst X (v := nI 1) (by decide) dX8_addParity_38 ?_
      refine v_iload_n X 1 dX8_addParity_39 rfl ?_
      refine v_iload_n X 2 dX8_addParity_40 rfl ?_
      have hRef_18 : RefAt k M_3 0 cs ds mem sl tx := ⟨hN, hV, htx9, htxc, nx, lp, ln, sp, lc, so, nw, tl, di, kp, ik, sc, rd, li, F_6, F_9, F_10, F_11, F_12, F_13, P_17, F_14, F_15, F_16, hR, hD, hK, hS⟩
      refine v_callV X hCl hCR (c_X8_added l k M_3 0 cs ds mem sl tx (xParity m0 b0) 1 m0 b0 hRef_18 (xOK_parity (by omega) (by omega)) h24 (by rw [xPar_parity]; rfl) (xFirst_parity (by omega)).symm (xSecond_parity (by omega) (by omega)).symm) cls8 ⟨_, F_6⟩ (by omega) mo_X8_added m_550 m_553 m_554 m_555 m_465 (by decide) rfl rfl (Nat.le_of_ble_eq_true rfl) ⟨rfl, rfl⟩ ⟨by decide, by decide⟩ dX8_addParity_41 (vI_in (fun r_23 M_19 hp_20 => ?_))
      obtain ⟨he_24, hRef_22, hfr_21⟩ := hp_20
      subst he_24
      exact v_iret X rq ⟨by decide, by decide⟩ rfl dX8_addParity_44 ⟨_, rfl, Or.inr (Or.inr ⟨m0, b0, by omega, by omega, rfl, rfl, h24, rfl, hRef_22⟩), (fun i hi => by rw [hfr_21 i (by omega), hfr_5 i (by omega)])⟩
    · have h24 : 24 ≤ cs.length := by have := c_2; omega
      refine v_iconst X (v := nI 2) (by decide) dX8_addParity_24 ?_
      refine v_goto X 29 dX8_addParity_25 (by decide) ?_
      refine v_callV X hCl hCR (c_X8_refused l k M w mem.length nx (tA ((build cs ds).1)) (tT ((build cs ds).1)) (((build cs ds).1).length) ((tL (build cs ds).1)) ((build cs ds).2) lp ln tx.length sp lc so 2 (by omega) F93 (by omega)) cls8 ⟨_, F93⟩ (by omega) mo_X8_refused m_458 m_508 m_509 m_510 m_465 (by decide) rfl rfl (Nat.le_of_ble_eq_true rfl) ⟨rfl, rfl⟩ ⟨by decide, by decide⟩ dX8_addParity_29 (vI_in (fun r_29 M_25 hp_26 => ?_))
      obtain ⟨he_30, F_28, hfr_27⟩ := hp_26
      subst he_30
      have F_31 : M_25 94 = IR k 82 nw := by rw [hfr_27 94 (by omega)]; exact F94
      have F_32 : M_25 95 = IR k 82 tl := by rw [hfr_27 95 (by omega)]; exact F95
      have F_33 : M_25 96 = IR k 1148 di := by rw [hfr_27 96 (by omega)]; exact F96
      have F_34 : M_25 97 = IR k 164 kp := by rw [hfr_27 97 (by omega)]; exact F97
      have F_35 : M_25 98 = .inl (kZ k, 2, .inl (fun zq => bI (ik zq))) := by rw [hfr_27 98 (by omega)]; exact F98
      have F_36 : M_25 103 = IR k 90 sc := by rw [hfr_27 103 (by omega)]; exact F103
      have F_37 : M_25 104 = IR k 82 rd := by rw [hfr_27 104 (by omega)]; exact F104
      have F_38 : M_25 105 = IR k 24 li := by rw [hfr_27 105 (by omega)]; exact F105
      have P_39 : RtAt k M_25 (build cs ds).1 := hT.fr (fun i h1 h2 => hfr_27 i (by omega))
      refine v_top (show (Value.int (bI (decide (0 < 2))) : Value) = .int (bI true) from congrArg _ (congrArg bI (by decide))) ?_
      refine v_ieqB X 37 dX8_addParity_32 (by decide) (fun h => absurd h (by decide)) (fun _ => ?_)
      refine v_iconst X (v := nI 0) (by decide) dX8_addParity_35 ?_
      exact v_iret X rq ⟨by decide, by decide⟩ rfl dX8_addParity_36 ⟨_, rfl, Or.inr (Or.inl ⟨hb, h24, ⟨hN, hV, htx9, htxc, nx, lp, ln, sp, lc, so, nw, tl, di, kp, ik, sc, rd, li, F_28, F_31, F_32, F_33, F_34, F_35, P_39, F_36, F_37, F_38, hR, hD, hK, hS⟩⟩), (fun i hi => by rw [hfr_27 i (by omega)])⟩
  · have hb := c_1
    refine v_iconst X (v := nI 1) (by decide) dX8_addParity_9 ?_
    refine v_goto X 29 dX8_addParity_10 (by decide) ?_
    refine v_callV X hCl hCR (c_X8_refused l k M w mem.length nx (tA ((build cs ds).1)) (tT ((build cs ds).1)) (((build cs ds).1).length) ((tL (build cs ds).1)) ((build cs ds).2) lp ln tx.length sp lc so 1 (by omega) F93 (by omega)) cls8 ⟨_, F93⟩ (by omega) mo_X8_refused m_458 m_508 m_509 m_510 m_465 (by decide) rfl rfl (Nat.le_of_ble_eq_true rfl) ⟨rfl, rfl⟩ ⟨by decide, by decide⟩ dX8_addParity_29 (vI_in (fun r_44 M_40 hp_41 => ?_))
    obtain ⟨he_45, F_43, hfr_42⟩ := hp_41
    subst he_45
    have F_46 : M_40 94 = IR k 82 nw := by rw [hfr_42 94 (by omega)]; exact F94
    have F_47 : M_40 95 = IR k 82 tl := by rw [hfr_42 95 (by omega)]; exact F95
    have F_48 : M_40 96 = IR k 1148 di := by rw [hfr_42 96 (by omega)]; exact F96
    have F_49 : M_40 97 = IR k 164 kp := by rw [hfr_42 97 (by omega)]; exact F97
    have F_50 : M_40 98 = .inl (kZ k, 2, .inl (fun zq => bI (ik zq))) := by rw [hfr_42 98 (by omega)]; exact F98
    have F_51 : M_40 103 = IR k 90 sc := by rw [hfr_42 103 (by omega)]; exact F103
    have F_52 : M_40 104 = IR k 82 rd := by rw [hfr_42 104 (by omega)]; exact F104
    have F_53 : M_40 105 = IR k 24 li := by rw [hfr_42 105 (by omega)]; exact F105
    have P_54 : RtAt k M_40 (build cs ds).1 := hT.fr (fun i h1 h2 => hfr_42 i (by omega))
    refine v_top (show (Value.int (bI (decide (0 < 1))) : Value) = .int (bI true) from congrArg _ (congrArg bI (by decide))) ?_
    refine v_ieqB X 37 dX8_addParity_32 (by decide) (fun h => absurd h (by decide)) (fun _ => ?_)
    refine v_iconst X (v := nI 0) (by decide) dX8_addParity_35 ?_
    exact v_iret X rq ⟨by decide, by decide⟩ rfl dX8_addParity_36 ⟨_, rfl, Or.inl ⟨hb, ⟨hN, hV, htx9, htxc, nx, lp, ln, sp, lc, so, nw, tl, di, kp, ik, sc, rd, li, F_43, F_46, F_47, F_48, F_49, F_50, P_54, F_51, F_52, F_53, hR, hD, hK, hS⟩⟩, (fun i hi => by rw [hfr_42 i (by omega)])⟩
