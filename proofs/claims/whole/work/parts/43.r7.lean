set_option maxHeartbeats 4000000 in
set_option maxRecDepth 100000 in
theorem c_X8_value (l : Launch) (k : KX) (M : Mem) (w : Nat) (cs ds : List Nat) (mem : List SD) (sl : Nat → Option SD) (tx : List Nat) (x : Int32) (hRef : RefAt k M w cs ds mem sl tx) : CM l yX8_value cX8_value 2 ((some .int)) { frames := 1, cells := 0, slots := 0, locals := 25 } k [.ref (ad k 93), .int x] M (pI (fun r M' => ((inL x 8 = false ∧ RefAt k M' 1 cs ds mem sl tx) ∨ (∃ v, v < 8 ∧ x = nI v ∧ r = nI (if (tA (build cs ds).1).testBit v then (if (tT (build cs ds).1).testBit v then 1 else 0) else 2) ∧ RefAt k M' 0 cs ds mem sl tx)) ∧ FrR M M')) := by
  refine CM.of (by decide) (Nat.le_of_ble_eq_true rfl) (fun C X hCl hCR rq => ?_)
  show V C k 2 (0, 0) M 0 [(0, .ref (ad k 93)), (1, .int x)] []
  obtain ⟨hN, hV, htx9, htxc, nx, lp, ln, sp, lc, so, nw, tl, di, kp, ik, sc, rd, li, F93, F94, F95, F96, F97, F98, hT, F103, F104, F105, hR, hD, hK, hS⟩ := id hRef
  have ho2 : csOK cs := hV.1.1
  have hds : ∀ d ∈ ds, d < 16 := hV.1.2.1
  have hlc : cs.length ≤ 24 := ho2.1
  have hld : ds.length ≤ 8 := hV.1.2.2
  have hok := cAt_ok ho2
  have hr := hR.c
  have hTk := hT.2.1
  have hTA := hTk.A
  have hTT := hTk.T
  have hTl := hTk.le
  have htL : tL (build cs ds).1 = ds.length := hV.2.1
  have hcf : ∀ n, (build cs ds).2 = some n → n < 24 := fun n hn => by have := (build_ok hlc hds).2 n hn; omega
  refine v_aload_n X 0 dX8_value_0 rfl ?_
  refine v_iload_n X 1 dX8_value_1 rfl ?_
  refine v_i2l X (v := (x).toInt64) rfl dX8_value_2 ?_
  refine v_lconst X (v := (nI 0).toInt64) (by decide) dX8_value_3 ?_
  refine v_ldc2 X m_561 dX8_value_4 ?_
  refine v_top (show Value.long 7 = .long (nI 7).toInt64 from congrArg _ (by decide)) ?_
  refine v_callS X hCl hCR (c_in_R l k M x 7) mo_X8_in m_459 m_506 m_507 m_465 (by decide) rfl rfl (Nat.le_of_ble_eq_true rfl) ⟨rfl, rfl⟩ ⟨by decide, by decide⟩ dX8_value_7 (vP_in ?_)
  refine v_top (show (Value.int (bI (inR x 7)) : Value) = .int (bI (inL x 8)) from congrArg _ (congrArg bI inR_7)) ?_
  refine v_ieqB X 17 dX8_value_10 (by decide) (fun c_1 => ?_) (fun c_1 => ?_)
  · have hb := c_1
    refine v_iconst X (v := nI 1) (by decide) dX8_value_17 ?_
    refine v_callV X hCl hCR (c_X8_refused l k M w mem.length nx (tA ((build cs ds).1)) (tT ((build cs ds).1)) (((build cs ds).1).length) ((tL (build cs ds).1)) ((build cs ds).2) lp ln tx.length sp lc so 1 (by omega) F93 (by omega)) cls8 ⟨_, F93⟩ (by omega) mo_X8_refused m_458 m_508 m_509 m_510 m_465 (by decide) rfl rfl (Nat.le_of_ble_eq_true rfl) ⟨rfl, rfl⟩ ⟨by decide, by decide⟩ dX8_value_18 (vI_in (fun r_6 M_2 hp_3 => ?_))
    obtain ⟨he_7, F_5, hfr_4⟩ := hp_3
    subst he_7
    have F_8 : M_2 94 = IR k 82 nw := by rw [hfr_4 94 (by omega)]; exact F94
    have F_9 : M_2 95 = IR k 82 tl := by rw [hfr_4 95 (by omega)]; exact F95
    have F_10 : M_2 96 = IR k 1148 di := by rw [hfr_4 96 (by omega)]; exact F96
    have F_11 : M_2 97 = IR k 164 kp := by rw [hfr_4 97 (by omega)]; exact F97
    have F_12 : M_2 98 = .inl (kZ k, 2, .inl (fun zq => bI (ik zq))) := by rw [hfr_4 98 (by omega)]; exact F98
    have F_13 : M_2 103 = IR k 90 sc := by rw [hfr_4 103 (by omega)]; exact F103
    have F_14 : M_2 104 = IR k 82 rd := by rw [hfr_4 104 (by omega)]; exact F104
    have F_15 : M_2 105 = IR k 24 li := by rw [hfr_4 105 (by omega)]; exact F105
    have P_16 : RtAt k M_2 (build cs ds).1 := hT.fr (fun i h1 h2 => hfr_4 i (by omega))
    refine v_top (show (Value.int (bI (decide (0 < 1))) : Value) = .int (bI true) from congrArg _ (congrArg bI (by decide))) ?_
    refine v_ieqB X 26 dX8_value_21 (by decide) (fun h => absurd h (by decide)) (fun _ => ?_)
    refine v_iconst X (v := nI 0) (by decide) dX8_value_24 ?_
    exact v_iret X rq ⟨by decide, by decide⟩ rfl dX8_value_25 ⟨_, rfl, Or.inl ⟨hb, ⟨hN, hV, htx9, htxc, nx, lp, ln, sp, lc, so, nw, tl, di, kp, ik, sc, rd, li, F_5, F_8, F_9, F_10, F_11, F_12, P_16, F_13, F_14, F_15, hR, hD, hK, hS⟩⟩, (fun i hi => by rw [hfr_4 i (by omega)])⟩
  · have hb := c_1
    refine v_iconst X (v := nI 0) (by decide) dX8_value_13 ?_
    refine v_goto X 18 dX8_value_14 (by decide) ?_
    refine v_callV X hCl hCR (c_X8_refused l k M w mem.length nx (tA ((build cs ds).1)) (tT ((build cs ds).1)) (((build cs ds).1).length) ((tL (build cs ds).1)) ((build cs ds).2) lp ln tx.length sp lc so 0 (by omega) F93 (by omega)) cls8 ⟨_, F93⟩ (by omega) mo_X8_refused m_458 m_508 m_509 m_510 m_465 (by decide) rfl rfl (Nat.le_of_ble_eq_true rfl) ⟨rfl, rfl⟩ ⟨by decide, by decide⟩ dX8_value_18 (vI_in (fun r_21 M_17 hp_18 => ?_))
    obtain ⟨he_22, F_20, hfr_19⟩ := hp_18
    subst he_22
    have F_23 : M_17 94 = IR k 82 nw := by rw [hfr_19 94 (by omega)]; exact F94
    have F_24 : M_17 95 = IR k 82 tl := by rw [hfr_19 95 (by omega)]; exact F95
    have F_25 : M_17 96 = IR k 1148 di := by rw [hfr_19 96 (by omega)]; exact F96
    have F_26 : M_17 97 = IR k 164 kp := by rw [hfr_19 97 (by omega)]; exact F97
    have F_27 : M_17 98 = .inl (kZ k, 2, .inl (fun zq => bI (ik zq))) := by rw [hfr_19 98 (by omega)]; exact F98
    have F_28 : M_17 103 = IR k 90 sc := by rw [hfr_19 103 (by omega)]; exact F103
    have F_29 : M_17 104 = IR k 82 rd := by rw [hfr_19 104 (by omega)]; exact F104
    have F_30 : M_17 105 = IR k 24 li := by rw [hfr_19 105 (by omega)]; exact F105
    have P_31 : RtAt k M_17 (build cs ds).1 := hT.fr (fun i h1 h2 => hfr_19 i (by omega))
    refine v_top (show (Value.int (bI (decide (0 < 0))) : Value) = .int (bI false) from congrArg _ (congrArg bI (by decide))) ?_
    refine v_ieqB X 26 dX8_value_21 (by decide) (fun _ => ?_) (fun h => absurd h (by decide))
    obtain ⟨v, hv, rfl⟩ := inL_of (by omega) hb
    refine v_aload_n X 0 dX8_value_26 rfl ?_
    refine v_get X cls8 F_20 (by omega) 8 (by decide) m_473 rfl rfl dX8_value_27 ?_
    refine v_iload_n X 1 dX8_value_30 rfl ?_
    refine v_callS X hCl hCR (c_X8_has l k M_17 (tA ((build cs ds).1)) v (by omega) (by omega)) mo_X8_has m_460 m_463 m_464 m_465 (by decide) rfl rfl (Nat.le_of_ble_eq_true rfl) ⟨rfl, rfl⟩ ⟨by decide, by decide⟩ dX8_value_31 (vP_in ?_)
    refine v_ineB X 41 dX8_value_34 (by decide) (fun c_32 => ?_) (fun c_32 => ?_)
    · have h34 := c_32
      refine v_aload_n X 0 dX8_value_41 rfl ?_
      refine v_get X cls8 F_20 (by omega) 9 (by decide) m_474 rfl rfl dX8_value_42 ?_
      refine v_iload_n X 1 dX8_value_45 rfl ?_
      refine v_callS X hCl hCR (c_X8_has l k M_17 (tT ((build cs ds).1)) v (by omega) (by omega)) mo_X8_has m_460 m_463 m_464 m_465 (by decide) rfl rfl (Nat.le_of_ble_eq_true rfl) ⟨rfl, rfl⟩ ⟨by decide, by decide⟩ dX8_value_46 (vP_in ?_)
      refine v_ieqB X 56 dX8_value_49 (by decide) (fun c_33 => ?_) (fun c_33 => ?_)
      · have h49 := c_33
        refine v_iconst X (v := nI 0) (by decide) dX8_value_56 ?_
        exact v_iret X rq ⟨by decide, by decide⟩ rfl dX8_value_57 ⟨_, rfl, Or.inr ⟨v, hv, rfl, by rw [h34, h49]; rfl, ⟨hN, hV, htx9, htxc, nx, lp, ln, sp, lc, so, nw, tl, di, kp, ik, sc, rd, li, F_20, F_23, F_24, F_25, F_26, F_27, P_31, F_28, F_29, F_30, hR, hD, hK, hS⟩⟩, (fun i hi => by rw [hfr_19 i (by omega)])⟩
      · have h49 := c_33
        refine v_iconst X (v := nI 1) (by decide) dX8_value_52 ?_
        refine v_goto X 57 dX8_value_53 (by decide) ?_
        exact v_iret X rq ⟨by decide, by decide⟩ rfl dX8_value_57 ⟨_, rfl, Or.inr ⟨v, hv, rfl, by rw [h34, h49]; rfl, ⟨hN, hV, htx9, htxc, nx, lp, ln, sp, lc, so, nw, tl, di, kp, ik, sc, rd, li, F_20, F_23, F_24, F_25, F_26, F_27, P_31, F_28, F_29, F_30, hR, hD, hK, hS⟩⟩, (fun i hi => by rw [hfr_19 i (by omega)])⟩
    · have h34 := c_32
      refine v_iconst X (v := nI 2) (by decide) dX8_value_37 ?_
      refine v_goto X 57 dX8_value_38 (by decide) ?_
      exact v_iret X rq ⟨by decide, by decide⟩ rfl dX8_value_57 ⟨_, rfl, Or.inr ⟨v, hv, rfl, by rw [h34]; rfl, ⟨hN, hV, htx9, htxc, nx, lp, ln, sp, lc, so, nw, tl, di, kp, ik, sc, rd, li, F_20, F_23, F_24, F_25, F_26, F_27, P_31, F_28, F_29, F_30, hR, hD, hK, hS⟩⟩, (fun i hi => by rw [hfr_19 i (by omega)])⟩
set_option maxHeartbeats 4000000 in
set_option maxRecDepth 100000 in
theorem c_X8_trailLiteral (l : Launch) (k : KX) (M : Mem) (w : Nat) (cs ds : List Nat) (mem : List SD) (sl : Nat → Option SD) (tx : List Nat) (x : Int32) (hRef : RefAt k M w cs ds mem sl tx) : CM l yX8_trailLiteral cX8_trailLiteral 2 ((some .int)) { frames := 1, cells := 0, slots := 0, locals := 25 } k [.ref (ad k 93), .int x] M (pI (fun r M' => ((inL x (build cs ds).1.length = false ∧ RefAt k M' 1 cs ds mem sl tx) ∨ (∃ j, j < (build cs ds).1.length ∧ x = nI j ∧ r = nI (2 * tOrd (build cs ds).1 j + (if (tT (build cs ds).1).testBit (tOrd (build cs ds).1 j) then 0 else 1)) ∧ RefAt k M' 0 cs ds mem sl tx)) ∧ FrR M M')) := by
  refine CM.of (by decide) (Nat.le_of_ble_eq_true rfl) (fun C X hCl hCR rq => ?_)
  show V C k 2 (0, 0) M 0 [(0, .ref (ad k 93)), (1, .int x)] []
  obtain ⟨hN, hV, htx9, htxc, nx, lp, ln, sp, lc, so, nw, tl, di, kp, ik, sc, rd, li, F93, F94, F95, F96, F97, F98, hT, F103, F104, F105, hR, hD, hK, hS⟩ := id hRef
  have ho2 : csOK cs := hV.1.1
  have hds : ∀ d ∈ ds, d < 16 := hV.1.2.1
  have hlc : cs.length ≤ 24 := ho2.1
  have hld : ds.length ≤ 8 := hV.1.2.2
  have hok := cAt_ok ho2
  have hr := hR.c
  have hTk := hT.2.1
  have hTA := hTk.A
  have hTT := hTk.T
  have hTl := hTk.le
  have htL : tL (build cs ds).1 = ds.length := hV.2.1
  have hcf : ∀ n, (build cs ds).2 = some n → n < 24 := fun n hn => by have := (build_ok hlc hds).2 n hn; omega
  refine v_aload_n X 0 dX8_trailLiteral_0 rfl ?_
  refine v_iload_n X 1 dX8_trailLiteral_1 rfl ?_
  refine v_i2l X (v := (x).toInt64) rfl dX8_trailLiteral_2 ?_
  refine v_lconst X (v := (nI 0).toInt64) (by decide) dX8_trailLiteral_3 ?_
  refine v_aload_n X 0 dX8_trailLiteral_4 rfl ?_
  refine v_get X cls8 F93 (by omega) 11 (by decide) m_475 rfl rfl dX8_trailLiteral_5 ?_
  refine v_iconst X (v := nI 1) (by decide) dX8_trailLiteral_8 ?_
  refine v_isub X dX8_trailLiteral_9 ?_
  refine v_i2l X (v := ((nI (((build cs ds).1).length) - nI 1)).toInt64) rfl dX8_trailLiteral_10 ?_
  refine v_callS X hCl hCR (c_in_L l k M x (((build cs ds).1).length) (by omega)) mo_X8_in m_459 m_506 m_507 m_465 (by decide) rfl rfl (Nat.le_of_ble_eq_true rfl) ⟨rfl, rfl⟩ ⟨by decide, by decide⟩ dX8_trailLiteral_11 (vP_in ?_)
  refine v_ieqB X 21 dX8_trailLiteral_14 (by decide) (fun c_1 => ?_) (fun c_1 => ?_)
  · have hb := c_1
    refine v_iconst X (v := nI 1) (by decide) dX8_trailLiteral_21 ?_
    refine v_callV X hCl hCR (c_X8_refused l k M w mem.length nx (tA ((build cs ds).1)) (tT ((build cs ds).1)) (((build cs ds).1).length) ((tL (build cs ds).1)) ((build cs ds).2) lp ln tx.length sp lc so 1 (by omega) F93 (by omega)) cls8 ⟨_, F93⟩ (by omega) mo_X8_refused m_458 m_508 m_509 m_510 m_465 (by decide) rfl rfl (Nat.le_of_ble_eq_true rfl) ⟨rfl, rfl⟩ ⟨by decide, by decide⟩ dX8_trailLiteral_22 (vI_in (fun r_6 M_2 hp_3 => ?_))
    obtain ⟨he_7, F_5, hfr_4⟩ := hp_3
    subst he_7
    have F_8 : M_2 94 = IR k 82 nw := by rw [hfr_4 94 (by omega)]; exact F94
    have F_9 : M_2 95 = IR k 82 tl := by rw [hfr_4 95 (by omega)]; exact F95
    have F_10 : M_2 96 = IR k 1148 di := by rw [hfr_4 96 (by omega)]; exact F96
    have F_11 : M_2 97 = IR k 164 kp := by rw [hfr_4 97 (by omega)]; exact F97
    have F_12 : M_2 98 = .inl (kZ k, 2, .inl (fun zq => bI (ik zq))) := by rw [hfr_4 98 (by omega)]; exact F98
    have F_13 : M_2 103 = IR k 90 sc := by rw [hfr_4 103 (by omega)]; exact F103
    have F_14 : M_2 104 = IR k 82 rd := by rw [hfr_4 104 (by omega)]; exact F104
    have F_15 : M_2 105 = IR k 24 li := by rw [hfr_4 105 (by omega)]; exact F105
    have P_16 : RtAt k M_2 (build cs ds).1 := hT.fr (fun i h1 h2 => hfr_4 i (by omega))
    refine v_top (show (Value.int (bI (decide (0 < 1))) : Value) = .int (bI true) from congrArg _ (congrArg bI (by decide))) ?_
    refine v_ieqB X 30 dX8_trailLiteral_25 (by decide) (fun h => absurd h (by decide)) (fun _ => ?_)
    refine v_iconst X (v := nI 0) (by decide) dX8_trailLiteral_28 ?_
    exact v_iret X rq ⟨by decide, by decide⟩ rfl dX8_trailLiteral_29 ⟨_, rfl, Or.inl ⟨hb, ⟨hN, hV, htx9, htxc, nx, lp, ln, sp, lc, so, nw, tl, di, kp, ik, sc, rd, li, F_5, F_8, F_9, F_10, F_11, F_12, P_16, F_13, F_14, F_15, hR, hD, hK, hS⟩⟩, (fun i hi => by rw [hfr_4 i (by omega)])⟩
  · have hb := c_1
    refine v_iconst X (v := nI 0) (by decide) dX8_trailLiteral_17 ?_
    refine v_goto X 22 dX8_trailLiteral_18 (by decide) ?_
    refine v_callV X hCl hCR (c_X8_refused l k M w mem.length nx (tA ((build cs ds).1)) (tT ((build cs ds).1)) (((build cs ds).1).length) ((tL (build cs ds).1)) ((build cs ds).2) lp ln tx.length sp lc so 0 (by omega) F93 (by omega)) cls8 ⟨_, F93⟩ (by omega) mo_X8_refused m_458 m_508 m_509 m_510 m_465 (by decide) rfl rfl (Nat.le_of_ble_eq_true rfl) ⟨rfl, rfl⟩ ⟨by decide, by decide⟩ dX8_trailLiteral_22 (vI_in (fun r_21 M_17 hp_18 => ?_))
    obtain ⟨he_22, F_20, hfr_19⟩ := hp_18
    subst he_22
    have F_23 : M_17 94 = IR k 82 nw := by rw [hfr_19 94 (by omega)]; exact F94
    have F_24 : M_17 95 = IR k 82 tl := by rw [hfr_19 95 (by omega)]; exact F95
    have F_25 : M_17 96 = IR k 1148 di := by rw [hfr_19 96 (by omega)]; exact F96
    have F_26 : M_17 97 = IR k 164 kp := by rw [hfr_19 97 (by omega)]; exact F97
    have F_27 : M_17 98 = .inl (kZ k, 2, .inl (fun zq => bI (ik zq))) := by rw [hfr_19 98 (by omega)]; exact F98
    have F_28 : M_17 103 = IR k 90 sc := by rw [hfr_19 103 (by omega)]; exact F103
    have F_29 : M_17 104 = IR k 82 rd := by rw [hfr_19 104 (by omega)]; exact F104
    have F_30 : M_17 105 = IR k 24 li := by rw [hfr_19 105 (by omega)]; exact F105
    have P_31 : RtAt k M_17 (build cs ds).1 := hT.fr (fun i h1 h2 => hfr_19 i (by omega))
    refine v_top (show (Value.int (bI (decide (0 < 0))) : Value) = .int (bI false) from congrArg _ (congrArg bI (by decide))) ?_
    refine v_ieqB X 30 dX8_trailLiteral_25 (by decide) (fun _ => ?_) (fun h => absurd h (by decide))
    obtain ⟨j, hj, rfl⟩ := inL_of (by omega) hb
    obtain ⟨hN_32, hk_33, t_34, l_35, p_36, r_37, F0_38, F1_39, F2_40, F3_41, h1_42, h2_43, h3_44⟩ := id P_31
    refine v_aload_n X 0 dX8_trailLiteral_30 rfl ?_
    refine v_get X cls8 F_20 (by omega) 10 (by decide) m_448 rfl rfl dX8_trailLiteral_31 ?_
    refine v_iload_n X 1 dX8_trailLiteral_34 rfl ?_
    refine v_iald X nI F0_38 (by omega) (by omega) (by decide) dX8_trailLiteral_35 ?_
    exact v_iret X rq ⟨by decide, by decide⟩ rfl dX8_trailLiteral_36 ⟨_, rfl, Or.inr ⟨j, hj, rfl, congrArg nI ((h1_42 j hj).trans (tLit_eq hTk hj)), ⟨hN, hV, htx9, htxc, nx, lp, ln, sp, lc, so, nw, tl, di, kp, ik, sc, rd, li, F_20, F_23, F_24, F_25, F_26, F_27, P_31, F_28, F_29, F_30, hR, hD, hK, hS⟩⟩, (fun i hi => by rw [hfr_19 i (by omega)])⟩
set_option maxHeartbeats 4000000 in
set_option maxRecDepth 100000 in
theorem c_X8_reason (l : Launch) (k : KX) (M : Mem) (w : Nat) (cs ds : List Nat) (mem : List SD) (sl : Nat → Option SD) (tx : List Nat) (x : Int32) (hRef : RefAt k M w cs ds mem sl tx) : CM l yX8_reason cX8_reason 2 ((some .int)) { frames := 1, cells := 0, slots := 0, locals := 25 } k [.ref (ad k 93), .int x] M (pI (fun r M' => ((inL x 8 = false ∧ RefAt k M' 1 cs ds mem sl tx) ∨ (∃ v, v < 8 ∧ x = nI v ∧ r = oI (tRsn (build cs ds).1 v) ∧ RefAt k M' 0 cs ds mem sl tx)) ∧ FrR M M')) := by
  refine CM.of (by decide) (Nat.le_of_ble_eq_true rfl) (fun C X hCl hCR rq => ?_)
  show V C k 2 (0, 0) M 0 [(0, .ref (ad k 93)), (1, .int x)] []
  obtain ⟨hN, hV, htx9, htxc, nx, lp, ln, sp, lc, so, nw, tl, di, kp, ik, sc, rd, li, F93, F94, F95, F96, F97, F98, hT, F103, F104, F105, hR, hD, hK, hS⟩ := id hRef
  have ho2 : csOK cs := hV.1.1
  have hds : ∀ d ∈ ds, d < 16 := hV.1.2.1
  have hlc : cs.length ≤ 24 := ho2.1
  have hld : ds.length ≤ 8 := hV.1.2.2
  have hok := cAt_ok ho2
  have hr := hR.c
  have hTk := hT.2.1
  have hTA := hTk.A
  have hTT := hTk.T
  have hTl := hTk.le
  have htL : tL (build cs ds).1 = ds.length := hV.2.1
  have hcf : ∀ n, (build cs ds).2 = some n → n < 24 := fun n hn => by have := (build_ok hlc hds).2 n hn; omega
  refine v_aload_n X 0 dX8_reason_0 rfl ?_
  refine v_iload_n X 1 dX8_reason_1 rfl ?_
  refine v_i2l X (v := (x).toInt64) rfl dX8_reason_2 ?_
  refine v_lconst X (v := (nI 0).toInt64) (by decide) dX8_reason_3 ?_
  refine v_ldc2 X m_561 dX8_reason_4 ?_
  refine v_top (show Value.long 7 = .long (nI 7).toInt64 from congrArg _ (by decide)) ?_
  refine v_callS X hCl hCR (c_in_R l k M x 7) mo_X8_in m_459 m_506 m_507 m_465 (by decide) rfl rfl (Nat.le_of_ble_eq_true rfl) ⟨rfl, rfl⟩ ⟨by decide, by decide⟩ dX8_reason_7 (vP_in ?_)
  refine v_top (show (Value.int (bI (inR x 7)) : Value) = .int (bI (inL x 8)) from congrArg _ (congrArg bI inR_7)) ?_
  refine v_ieqB X 17 dX8_reason_10 (by decide) (fun c_1 => ?_) (fun c_1 => ?_)
  · have hb := c_1
    refine v_iconst X (v := nI 1) (by decide) dX8_reason_17 ?_
    refine v_callV X hCl hCR (c_X8_refused l k M w mem.length nx (tA ((build cs ds).1)) (tT ((build cs ds).1)) (((build cs ds).1).length) ((tL (build cs ds).1)) ((build cs ds).2) lp ln tx.length sp lc so 1 (by omega) F93 (by omega)) cls8 ⟨_, F93⟩ (by omega) mo_X8_refused m_458 m_508 m_509 m_510 m_465 (by decide) rfl rfl (Nat.le_of_ble_eq_true rfl) ⟨rfl, rfl⟩ ⟨by decide, by decide⟩ dX8_reason_18 (vI_in (fun r_6 M_2 hp_3 => ?_))
    obtain ⟨he_7, F_5, hfr_4⟩ := hp_3
    subst he_7
    have F_8 : M_2 94 = IR k 82 nw := by rw [hfr_4 94 (by omega)]; exact F94
    have F_9 : M_2 95 = IR k 82 tl := by rw [hfr_4 95 (by omega)]; exact F95
    have F_10 : M_2 96 = IR k 1148 di := by rw [hfr_4 96 (by omega)]; exact F96
    have F_11 : M_2 97 = IR k 164 kp := by rw [hfr_4 97 (by omega)]; exact F97
    have F_12 : M_2 98 = .inl (kZ k, 2, .inl (fun zq => bI (ik zq))) := by rw [hfr_4 98 (by omega)]; exact F98
    have F_13 : M_2 103 = IR k 90 sc := by rw [hfr_4 103 (by omega)]; exact F103
    have F_14 : M_2 104 = IR k 82 rd := by rw [hfr_4 104 (by omega)]; exact F104
    have F_15 : M_2 105 = IR k 24 li := by rw [hfr_4 105 (by omega)]; exact F105
    have P_16 : RtAt k M_2 (build cs ds).1 := hT.fr (fun i h1 h2 => hfr_4 i (by omega))
    refine v_top (show (Value.int (bI (decide (0 < 1))) : Value) = .int (bI true) from congrArg _ (congrArg bI (by decide))) ?_
    refine v_ieqB X 26 dX8_reason_21 (by decide) (fun h => absurd h (by decide)) (fun _ => ?_)
    refine v_iconst X (v := nI 0) (by decide) dX8_reason_24 ?_
    exact v_iret X rq ⟨by decide, by decide⟩ rfl dX8_reason_25 ⟨_, rfl, Or.inl ⟨hb, ⟨hN, hV, htx9, htxc, nx, lp, ln, sp, lc, so, nw, tl, di, kp, ik, sc, rd, li, F_5, F_8, F_9, F_10, F_11, F_12, P_16, F_13, F_14, F_15, hR, hD, hK, hS⟩⟩, (fun i hi => by rw [hfr_4 i (by omega)])⟩
  · have hb := c_1
    refine v_iconst X (v := nI 0) (by decide) dX8_reason_13 ?_
    refine v_goto X 18 dX8_reason_14 (by decide) ?_
    refine v_callV X hCl hCR (c_X8_refused l k M w mem.length nx (tA ((build cs ds).1)) (tT ((build cs ds).1)) (((build cs ds).1).length) ((tL (build cs ds).1)) ((build cs ds).2) lp ln tx.length sp lc so 0 (by omega) F93 (by omega)) cls8 ⟨_, F93⟩ (by omega) mo_X8_refused m_458 m_508 m_509 m_510 m_465 (by decide) rfl rfl (Nat.le_of_ble_eq_true rfl) ⟨rfl, rfl⟩ ⟨by decide, by decide⟩ dX8_reason_18 (vI_in (fun r_21 M_17 hp_18 => ?_))
    obtain ⟨he_22, F_20, hfr_19⟩ := hp_18
    subst he_22
    have F_23 : M_17 94 = IR k 82 nw := by rw [hfr_19 94 (by omega)]; exact F94
    have F_24 : M_17 95 = IR k 82 tl := by rw [hfr_19 95 (by omega)]; exact F95
    have F_25 : M_17 96 = IR k 1148 di := by rw [hfr_19 96 (by omega)]; exact F96
    have F_26 : M_17 97 = IR k 164 kp := by rw [hfr_19 97 (by omega)]; exact F97
    have F_27 : M_17 98 = .inl (kZ k, 2, .inl (fun zq => bI (ik zq))) := by rw [hfr_19 98 (by omega)]; exact F98
    have F_28 : M_17 103 = IR k 90 sc := by rw [hfr_19 103 (by omega)]; exact F103
    have F_29 : M_17 104 = IR k 82 rd := by rw [hfr_19 104 (by omega)]; exact F104
    have F_30 : M_17 105 = IR k 24 li := by rw [hfr_19 105 (by omega)]; exact F105
    have P_31 : RtAt k M_17 (build cs ds).1 := hT.fr (fun i h1 h2 => hfr_19 i (by omega))
    refine v_top (show (Value.int (bI (decide (0 < 0))) : Value) = .int (bI false) from congrArg _ (congrArg bI (by decide))) ?_
    refine v_ieqB X 26 dX8_reason_21 (by decide) (fun _ => ?_) (fun h => absurd h (by decide))
    obtain ⟨v, hv, rfl⟩ := inL_of (by omega) hb
    obtain ⟨hN_32, hk_33, t_34, l_35, p_36, r_37, F0_38, F1_39, F2_40, F3_41, h1_42, h2_43, h3_44⟩ := id P_31
    refine v_aload_n X 0 dX8_reason_26 rfl ?_
    refine v_get X cls8 F_20 (by omega) 14 (by decide) m_450 rfl rfl dX8_reason_27 ?_
    refine v_iload_n X 1 dX8_reason_30 rfl ?_
    refine v_iald X oI F2_40 (by omega) (by omega) (by decide) dX8_reason_31 ?_
    exact v_iret X rq ⟨by decide, by decide⟩ rfl dX8_reason_32 ⟨_, rfl, Or.inr ⟨v, hv, rfl, congrArg oI (h2_43 v hv), ⟨hN, hV, htx9, htxc, nx, lp, ln, sp, lc, so, nw, tl, di, kp, ik, sc, rd, li, F_20, F_23, F_24, F_25, F_26, F_27, P_31, F_28, F_29, F_30, hR, hD, hK, hS⟩⟩, (fun i hi => by rw [hfr_19 i (by omega)])⟩
set_option maxHeartbeats 4000000 in
set_option maxRecDepth 100000 in
theorem c_X8_removeConstraint (l : Launch) (k : KX) (M : Mem) (w : Nat) (cs ds : List Nat) (mem : List SD) (sl : Nat → Option SD) (tx : List Nat) (x : Int32) (hRef : RefAt k M w cs ds mem sl tx) : CM l yX8_removeConstraint cX8_removeConstraint 3 ((some .int)) { frames := 6, cells := 0, slots := 0, locals := 138 } k [.ref (ad k 93), .int x] M (pI (fun r M' => ((inL x cs.length = false ∧ RefAt k M' 1 cs ds mem sl tx) ∨ (∃ j, j < cs.length ∧ x = nI j ∧ r = nI (cs.length - 1) ∧ RefAt k M' 0 (cs.eraseIdx j) (sNew (cs.eraseIdx j) ds) (remF mem (cs, ds)) sl tx)) ∧ FrR M M')) := by
  refine CM.of (by decide) (Nat.le_of_ble_eq_true rfl) (fun C X hCl hCR rq => ?_)
  show V C k 3 (0, 0) M 0 [(0, .ref (ad k 93)), (1, .int x)] []
  obtain ⟨hN, hV, htx9, htxc, nx, lp, ln, sp, lc, so, nw, tl, di, kp, ik, sc, rd, li, F93, F94, F95, F96, F97, F98, hT, F103, F104, F105, hR, hD, hK, hS⟩ := id hRef
  have ho2 : csOK cs := hV.1.1
  have hds : ∀ d ∈ ds, d < 16 := hV.1.2.1
  have hlc : cs.length ≤ 24 := ho2.1
  have hld : ds.length ≤ 8 := hV.1.2.2
  have hok := cAt_ok ho2
  have hr := hR.c
  have hTk := hT.2.1
  have hTA := hTk.A
  have hTT := hTk.T
  have hTl := hTk.le
  have htL : tL (build cs ds).1 = ds.length := hV.2.1
  have hcf : ∀ n, (build cs ds).2 = some n → n < 24 := fun n hn => by have := (build_ok hlc hds).2 n hn; omega
  refine v_aload_n X 0 dX8_removeConstraint_0 rfl ?_
  refine v_aload_n X 0 dX8_removeConstraint_1 rfl ?_
  refine v_iload_n X 1 dX8_removeConstraint_2 rfl ?_
  refine v_callV X hCl hCR (c_X8_isConstraint l k M w mem.length nx (tA ((build cs ds).1)) (tT ((build cs ds).1)) (((build cs ds).1).length) ((tL (build cs ds).1)) ((build cs ds).2) lp ln tx.length sp lc so nw cs.length x (by omega) F93 F94 hR.1 (by omega)) cls8 ⟨_, F93⟩ (by omega) mo_X8_isConstraint m_537 m_540 m_541 m_542 m_465 (by decide) rfl rfl (Nat.le_of_ble_eq_true rfl) ⟨rfl, rfl⟩ ⟨by decide, by decide⟩ dX8_removeConstraint_3 (vP_in ?_)
  refine v_ieqB X 13 dX8_removeConstraint_6 (by decide) (fun c_1 => ?_) (fun c_1 => ?_)
  · have hb := c_1
    refine v_iconst X (v := nI 1) (by decide) dX8_removeConstraint_13 ?_
    refine v_callV X hCl hCR (c_X8_refused l k M w mem.length nx (tA ((build cs ds).1)) (tT ((build cs ds).1)) (((build cs ds).1).length) ((tL (build cs ds).1)) ((build cs ds).2) lp ln tx.length sp lc so 1 (by omega) F93 (by omega)) cls8 ⟨_, F93⟩ (by omega) mo_X8_refused m_458 m_508 m_509 m_510 m_465 (by decide) rfl rfl (Nat.le_of_ble_eq_true rfl) ⟨rfl, rfl⟩ ⟨by decide, by decide⟩ dX8_removeConstraint_14 (vI_in (fun r_6 M_2 hp_3 => ?_))
    obtain ⟨he_7, F_5, hfr_4⟩ := hp_3
    subst he_7
    have F_8 : M_2 94 = IR k 82 nw := by rw [hfr_4 94 (by omega)]; exact F94
    have F_9 : M_2 95 = IR k 82 tl := by rw [hfr_4 95 (by omega)]; exact F95
    have F_10 : M_2 96 = IR k 1148 di := by rw [hfr_4 96 (by omega)]; exact F96
    have F_11 : M_2 97 = IR k 164 kp := by rw [hfr_4 97 (by omega)]; exact F97
    have F_12 : M_2 98 = .inl (kZ k, 2, .inl (fun zq => bI (ik zq))) := by rw [hfr_4 98 (by omega)]; exact F98
    have F_13 : M_2 103 = IR k 90 sc := by rw [hfr_4 103 (by omega)]; exact F103
    have F_14 : M_2 104 = IR k 82 rd := by rw [hfr_4 104 (by omega)]; exact F104
    have F_15 : M_2 105 = IR k 24 li := by rw [hfr_4 105 (by omega)]; exact F105
    have P_16 : RtAt k M_2 (build cs ds).1 := hT.fr (fun i h1 h2 => hfr_4 i (by omega))
    refine v_top (show (Value.int (bI (decide (0 < 1))) : Value) = .int (bI true) from congrArg _ (congrArg bI (by decide))) ?_
    refine v_ieqB X 22 dX8_removeConstraint_17 (by decide) (fun h => absurd h (by decide)) (fun _ => ?_)
    refine v_iconst X (v := nI 0) (by decide) dX8_removeConstraint_20 ?_
    exact v_iret X rq ⟨by decide, by decide⟩ rfl dX8_removeConstraint_21 ⟨_, rfl, Or.inl ⟨hb, ⟨hN, hV, htx9, htxc, nx, lp, ln, sp, lc, so, nw, tl, di, kp, ik, sc, rd, li, F_5, F_8, F_9, F_10, F_11, F_12, P_16, F_13, F_14, F_15, hR, hD, hK, hS⟩⟩, (fun i hi => by rw [hfr_4 i (by omega)])⟩
  · have hb := c_1
    refine v_iconst X (v := nI 0) (by decide) dX8_removeConstraint_9 ?_
    refine v_goto X 14 dX8_removeConstraint_10 (by decide) ?_
    refine v_callV X hCl hCR (c_X8_refused l k M w mem.length nx (tA ((build cs ds).1)) (tT ((build cs ds).1)) (((build cs ds).1).length) ((tL (build cs ds).1)) ((build cs ds).2) lp ln tx.length sp lc so 0 (by omega) F93 (by omega)) cls8 ⟨_, F93⟩ (by omega) mo_X8_refused m_458 m_508 m_509 m_510 m_465 (by decide) rfl rfl (Nat.le_of_ble_eq_true rfl) ⟨rfl, rfl⟩ ⟨by decide, by decide⟩ dX8_removeConstraint_14 (vI_in (fun r_21 M_17 hp_18 => ?_))
    obtain ⟨he_22, F_20, hfr_19⟩ := hp_18
    subst he_22
    have F_23 : M_17 94 = IR k 82 nw := by rw [hfr_19 94 (by omega)]; exact F94
    have F_24 : M_17 95 = IR k 82 tl := by rw [hfr_19 95 (by omega)]; exact F95
    have F_25 : M_17 96 = IR k 1148 di := by rw [hfr_19 96 (by omega)]; exact F96
    have F_26 : M_17 97 = IR k 164 kp := by rw [hfr_19 97 (by omega)]; exact F97
    have F_27 : M_17 98 = .inl (kZ k, 2, .inl (fun zq => bI (ik zq))) := by rw [hfr_19 98 (by omega)]; exact F98
    have F_28 : M_17 103 = IR k 90 sc := by rw [hfr_19 103 (by omega)]; exact F103
    have F_29 : M_17 104 = IR k 82 rd := by rw [hfr_19 104 (by omega)]; exact F104
    have F_30 : M_17 105 = IR k 24 li := by rw [hfr_19 105 (by omega)]; exact F105
    have P_31 : RtAt k M_17 (build cs ds).1 := hT.fr (fun i h1 h2 => hfr_19 i (by omega))
    refine v_top (show (Value.int (bI (decide (0 < 0))) : Value) = .int (bI false) from congrArg _ (congrArg bI (by decide))) ?_
    refine v_ieqB X 22 dX8_removeConstraint_17 (by decide) (fun _ => ?_) (fun h => absurd h (by decide))
    obtain ⟨j, hj, rfl⟩ := inL_of (by omega) hb
    refine v_aload_n X 0 dX8_removeConstraint_22 rfl ?_
    refine v_get X cls8 F_20 (by omega) 1 (by decide) m_443 rfl rfl dX8_removeConstraint_23 ?_
    refine v_aload_n X 0 dX8_removeConstraint_26 rfl ?_
    refine v_get X cls8 F_20 (by omega) 2 (by decide) m_444 rfl rfl dX8_removeConstraint_27 ?_
    refine v_callS X hCl hCR (c_X8_copy l k M_17 94 95 nw tl (by omega) (by omega) (by omega) F_23 F_24) mo_X8_copy m_466 m_497 m_498 m_465 (by decide) rfl rfl (Nat.le_of_ble_eq_true rfl) ⟨rfl, rfl⟩ ⟨by decide, by decide⟩ dX8_removeConstraint_30 (vV_in (fun M_32 hp_33 => ?_))
    obtain ⟨⟨g_35, F_36, hcp_37⟩, hfr_34⟩ := hp_33
    have F_38 : M_32 94 = IR k 82 nw := by rw [hfr_34 94 (by omega)]; exact F_23
    have F_39 : M_32 96 = IR k 1148 di := by rw [hfr_34 96 (by omega)]; exact F_25
    have F_40 : M_32 97 = IR k 164 kp := by rw [hfr_34 97 (by omega)]; exact F_26
    have F_41 : M_32 98 = .inl (kZ k, 2, .inl (fun zq => bI (ik zq))) := by rw [hfr_34 98 (by omega)]; exact F_27
    have F_42 : M_32 103 = IR k 90 sc := by rw [hfr_34 103 (by omega)]; exact F_28
    have F_43 : M_32 104 = IR k 82 rd := by rw [hfr_34 104 (by omega)]; exact F_29
    have F_44 : M_32 105 = IR k 24 li := by rw [hfr_34 105 (by omega)]; exact F_30
    have F_45 : M_32 93 = RO k 0 mem.length nx (tA ((build cs ds).1)) (tT ((build cs ds).1)) (((build cs ds).1).length) ((tL (build cs ds).1)) ((build cs ds).2) lp ln tx.length sp lc so := by rw [hfr_34 93 (by omega)]; exact F_20
    have P_46 : RtAt k M_32 (build cs ds).1 := P_31.fr (fun i h1 h2 => hfr_34 i (by omega))
    have hcp := hcp_37
    have hg0 : g_35 0 = cs.length := (hcp 0 (by omega)).trans hR.1
    refine v_aload_n X 0 dX8_removeConstraint_33 rfl ?_
    refine v_get X cls8 F_45 (by omega) 2 (by decide) m_444 rfl rfl dX8_removeConstraint_34 ?_
    refine v_iconst X (v := nI 0) (by decide) dX8_removeConstraint_37 ?_
    refine v_dup2 X rfl rfl dX8_removeConstraint_38 ?_
    refine v_iald X nI F_36 (by omega) (by omega) (by decide) dX8_removeConstraint_39 ?_
    refine v_iconst X (v := nI 1) (by decide) dX8_removeConstraint_40 ?_
    refine v_subN X (by omega) dX8_removeConstraint_41 ?_
    refine v_iast X nI ((g_35 0) - 1) F_36 (by omega) (by omega) (by decide) dX8_removeConstraint_42 (fun M_47 hM_48 => ?_)
    have F_50 : M_47 94 = IR k 82 nw := by rw [hM_48, mup_n (by omega)]; exact F_38
    have F_51 : M_47 96 = IR k 1148 di := by rw [hM_48, mup_n (by omega)]; exact F_39
    have F_52 : M_47 97 = IR k 164 kp := by rw [hM_48, mup_n (by omega)]; exact F_40
    have F_53 : M_47 98 = .inl (kZ k, 2, .inl (fun zq => bI (ik zq))) := by rw [hM_48, mup_n (by omega)]; exact F_41
    have F_54 : M_47 103 = IR k 90 sc := by rw [hM_48, mup_n (by omega)]; exact F_42
    have F_55 : M_47 104 = IR k 82 rd := by rw [hM_48, mup_n (by omega)]; exact F_43
    have F_56 : M_47 105 = IR k 24 li := by rw [hM_48, mup_n (by omega)]; exact F_44
    have F_57 : M_47 93 = RO k 0 mem.length nx (tA ((build cs ds).1)) (tT ((build cs ds).1)) (((build cs ds).1).length) ((tL (build cs ds).1)) ((build cs ds).2) lp ln tx.length sp lc so := by rw [hM_48, mup_n (by omega)]; exact F_45
    have F_58 : M_47 95 = IR k 82 (va_up g_35 0 ((g_35 0) - 1)) := by rw [hM_48]; exact mup_s
    have P_59 : RtAt k M_47 (build cs ds).1 := P_46.fr (fun i h1 h2 => by rw [hM_48, mup_n (by omega)])
    have F_60 : M_47 95 = IR k 82 (va_up g_35 0 (cs.length - 1)) := by rw [F_58, hg0]
    refine v_iload_n X 1 dX8_removeConstraint_43 rfl ?_
    refine v_istore_n X [(2, .int (nI j)), (0, .ref (ad k 93)), (1, .int (nI j))] dX8_removeConstraint_44 (by decide) rfl ?_
    have L : ∀ (fu : Nat) (q : Nat) (h : Nat → Nat) (M1 : Mem), cs.length - q < fu → (j ≤ q) → (q ≤ cs.length - 1) → (rmP g_35 h (cs.length - 1) j q) → (FrR M M1) → M1 103 = IR k 90 sc → M1 104 = IR k 82 rd → M1 105 = IR k 24 li → M1 93 = RO k 0 mem.length nx (tA ((build cs ds).1)) (tT ((build cs ds).1)) (((build cs ds).1).length) ((tL (build cs ds).1)) ((build cs ds).2) lp ln tx.length sp lc so → M1 94 = IR k 82 nw → M1 95 = IR k 82 h → M1 96 = IR k 1148 di → M1 97 = IR k 164 kp → M1 98 = .inl (kZ k, 2, .inl (fun zq => bI (ik zq))) → RtAt k M1 (build cs ds).1 → V C k 3 (0, 0) M1 45 [(0, .ref (ad k 93)), (1, .int (nI j)), (2, .int (nI q))] [] := by
      intro fu
      induction fu with
      | zero => intro q h M1 hfu; exact absurd hfu (Nat.not_lt_zero _)
      | succ fu ih =>
        intro q h M1 hfu hjq hqn hrm hfr F_54 F_55 F_56 F_57 F_50 F_60 F_51 F_52 F_53 P_59
        refine v_iload_n X 2 dX8_removeConstraint_45 rfl ?_
        refine v_aload_n X 0 dX8_removeConstraint_46 rfl ?_
        refine v_get X cls8 F_57 (by omega) 2 (by decide) m_444 rfl rfl dX8_removeConstraint_47 ?_
        refine v_iconst X (v := nI 0) (by decide) dX8_removeConstraint_50 ?_
        refine v_iald X nI F_60 (by omega) (by omega) (by decide) dX8_removeConstraint_51 ?_
        refine v_top (show (Value.int (nI (h 0)) : Value) = .int (nI (cs.length - 1)) from congrArg _ (congrArg nI hrm.1)) ?_
        refine v_cgeN X 119 (by omega) (by omega) dX8_removeConstraint_52 (by decide) (fun c_61 => ?_) (fun c_61 => ?_)
        · refine v_aload_n X 0 dX8_removeConstraint_119 rfl ?_
          have hRef_62 : RefAt k M1 0 cs ds mem sl tx := ⟨hN, hV, htx9, htxc, nx, lp, ln, sp, lc, so, nw, h, di, kp, ik, sc, rd, li, F_57, F_50, F_60, F_51, F_52, F_53, P_59, F_54, F_55, F_56, hR, hD, hK, hS⟩
          refine v_callV X hCl hCR (c_X8_act l k M1 0 cs ds mem sl tx h (cs.eraseIdx j) ds hRef_62 F_60 (hrm.end_ (hR.cong hlc hld hcp) hlc hj (by omega)) ho2.er hds hld) cls8 ⟨_, F_57⟩ (by omega) mo_X8_act m_502 m_547 m_548 m_549 m_465 (by decide) rfl rfl (Nat.le_of_ble_eq_true rfl) ⟨rfl, rfl⟩ ⟨by decide, by decide⟩ dX8_removeConstraint_120 (vV_in (fun M_63 hp_64 => ?_))
          obtain ⟨hRef_66, hfr_65⟩ := hp_64
          refine v_aload_n X 0 dX8_removeConstraint_123 rfl ?_
          obtain ⟨hN_67, hV_68, h9_69, hc_70, nx_71, lp_72, ln_73, sp_74, lc_75, so_76, nw_77, tl_78, di_79, kp_80, ik_81, sc_82, rd_83, li_84, F93_85, F94_86, F95_87, F96_88, F97_89, F98_90, hT_91, F103_92, F104_93, F105_94, hR_95, hD_96, hK_97, hS_98⟩ := id hRef_66
          refine v_get X cls8 F93_85 (by omega) 1 (by decide) m_443 rfl rfl dX8_removeConstraint_124 ?_
          refine v_iconst X (v := nI 0) (by decide) dX8_removeConstraint_127 ?_
          refine v_iald X nI F94_86 (by omega) (by omega) (by decide) dX8_removeConstraint_128 ?_
          refine v_top (show (Value.int (nI (nw_77 0)) : Value) = .int (nI (cs.length - 1)) from congrArg _ (congrArg nI (hR_95.1.trans (by rw [List.length_eraseIdx_of_lt hj])))) ?_
          exact v_iret X rq ⟨by decide, by decide⟩ rfl dX8_removeConstraint_129 ⟨_, rfl, Or.inr ⟨j, hj, rfl, rfl, hRef_66⟩, (fun i hi => by rw [hfr_65 i (by omega)]; exact hfr i hi)⟩
        · refine v_aload_n X 0 dX8_removeConstraint_55 rfl ?_
          refine v_get X cls8 F_57 (by omega) 2 (by decide) m_444 rfl rfl dX8_removeConstraint_56 ?_
          refine v_iconst X (v := nI 1) (by decide) dX8_removeConstraint_59 ?_
          refine v_iload_n X 2 dX8_removeConstraint_60 rfl ?_
          refine v_addN X dX8_removeConstraint_61 ?_
          refine v_aload_n X 0 dX8_removeConstraint_62 rfl ?_
          refine v_get X cls8 F_57 (by omega) 2 (by decide) m_444 rfl rfl dX8_removeConstraint_63 ?_
          refine v_iconst X (v := nI 1) (by decide) dX8_removeConstraint_66 ?_
          refine v_iload_n X 2 dX8_removeConstraint_67 rfl ?_
          refine v_addN X dX8_removeConstraint_68 ?_
          refine v_iconst X (v := nI 1) (by decide) dX8_removeConstraint_69 ?_
          refine v_addN X dX8_removeConstraint_70 ?_
          refine v_iald X nI F_60 (by omega) (by omega) (by decide) dX8_removeConstraint_71 ?_
          refine v_iast X nI (h ((1 + q) + 1)) F_60 (by omega) (by omega) (by decide) dX8_removeConstraint_72 (fun M_99 hM_100 => ?_)
          have F_102 : M_99 103 = IR k 90 sc := by rw [hM_100, mup_n (by omega)]; exact F_54
          have F_103 : M_99 104 = IR k 82 rd := by rw [hM_100, mup_n (by omega)]; exact F_55
          have F_104 : M_99 105 = IR k 24 li := by rw [hM_100, mup_n (by omega)]; exact F_56
          have F_105 : M_99 93 = RO k 0 mem.length nx (tA ((build cs ds).1)) (tT ((build cs ds).1)) (((build cs ds).1).length) ((tL (build cs ds).1)) ((build cs ds).2) lp ln tx.length sp lc so := by rw [hM_100, mup_n (by omega)]; exact F_57
          have F_106 : M_99 94 = IR k 82 nw := by rw [hM_100, mup_n (by omega)]; exact F_50
          have F_107 : M_99 95 = IR k 82 (va_up h (1 + q) (h ((1 + q) + 1))) := by rw [hM_100]; exact mup_s
          have F_108 : M_99 96 = IR k 1148 di := by rw [hM_100, mup_n (by omega)]; exact F_51
          have F_109 : M_99 97 = IR k 164 kp := by rw [hM_100, mup_n (by omega)]; exact F_52
          have F_110 : M_99 98 = .inl (kZ k, 2, .inl (fun zq => bI (ik zq))) := by rw [hM_100, mup_n (by omega)]; exact F_53
          have P_111 : RtAt k M_99 (build cs ds).1 := P_59.fr (fun i h1 h2 => by rw [hM_100, mup_n (by omega)])
          refine v_aload_n X 0 dX8_removeConstraint_73 rfl ?_
          refine v_get X cls8 F_105 (by omega) 2 (by decide) m_444 rfl rfl dX8_removeConstraint_74 ?_
          refine v_bipush X (v := nI 25) (by decide) dX8_removeConstraint_77 ?_
          refine v_iload_n X 2 dX8_removeConstraint_79 rfl ?_
          refine v_addN X dX8_removeConstraint_80 ?_
          refine v_aload_n X 0 dX8_removeConstraint_81 rfl ?_
          refine v_get X cls8 F_105 (by omega) 2 (by decide) m_444 rfl rfl dX8_removeConstraint_82 ?_
          refine v_bipush X (v := nI 25) (by decide) dX8_removeConstraint_85 ?_
          refine v_iload_n X 2 dX8_removeConstraint_87 rfl ?_
          refine v_addN X dX8_removeConstraint_88 ?_
          refine v_iconst X (v := nI 1) (by decide) dX8_removeConstraint_89 ?_
          refine v_addN X dX8_removeConstraint_90 ?_
          refine v_iald X nI F_107 (by omega) (by omega) (by decide) dX8_removeConstraint_91 ?_
          refine v_iast X nI (va_up h (1 + q) (h ((1 + q) + 1)) ((25 + q) + 1)) F_107 (by omega) (by omega) (by decide) dX8_removeConstraint_92 (fun M_112 hM_113 => ?_)
          have F_115 : M_112 103 = IR k 90 sc := by rw [hM_113, mup_n (by omega)]; exact F_102
          have F_116 : M_112 104 = IR k 82 rd := by rw [hM_113, mup_n (by omega)]; exact F_103
          have F_117 : M_112 105 = IR k 24 li := by rw [hM_113, mup_n (by omega)]; exact F_104
          have F_118 : M_112 93 = RO k 0 mem.length nx (tA ((build cs ds).1)) (tT ((build cs ds).1)) (((build cs ds).1).length) ((tL (build cs ds).1)) ((build cs ds).2) lp ln tx.length sp lc so := by rw [hM_113, mup_n (by omega)]; exact F_105
          have F_119 : M_112 94 = IR k 82 nw := by rw [hM_113, mup_n (by omega)]; exact F_106
          have F_120 : M_112 95 = IR k 82 (va_up (va_up h (1 + q) (h ((1 + q) + 1))) (25 + q) (va_up h (1 + q) (h ((1 + q) + 1)) ((25 + q) + 1))) := by rw [hM_113]; exact mup_s
          have F_121 : M_112 96 = IR k 1148 di := by rw [hM_113, mup_n (by omega)]; exact F_108
          have F_122 : M_112 97 = IR k 164 kp := by rw [hM_113, mup_n (by omega)]; exact F_109
          have F_123 : M_112 98 = .inl (kZ k, 2, .inl (fun zq => bI (ik zq))) := by rw [hM_113, mup_n (by omega)]; exact F_110
          have P_124 : RtAt k M_112 (build cs ds).1 := P_111.fr (fun i h1 h2 => by rw [hM_113, mup_n (by omega)])
          refine v_aload_n X 0 dX8_removeConstraint_93 rfl ?_
          refine v_get X cls8 F_118 (by omega) 2 (by decide) m_444 rfl rfl dX8_removeConstraint_94 ?_
          refine v_bipush X (v := nI 49) (by decide) dX8_removeConstraint_97 ?_
          refine v_iload_n X 2 dX8_removeConstraint_99 rfl ?_
          refine v_addN X dX8_removeConstraint_100 ?_
          refine v_aload_n X 0 dX8_removeConstraint_101 rfl ?_
          refine v_get X cls8 F_118 (by omega) 2 (by decide) m_444 rfl rfl dX8_removeConstraint_102 ?_
          refine v_bipush X (v := nI 49) (by decide) dX8_removeConstraint_105 ?_
          refine v_iload_n X 2 dX8_removeConstraint_107 rfl ?_
          refine v_addN X dX8_removeConstraint_108 ?_
          refine v_iconst X (v := nI 1) (by decide) dX8_removeConstraint_109 ?_
          refine v_addN X dX8_removeConstraint_110 ?_
          refine v_iald X nI F_120 (by omega) (by omega) (by decide) dX8_removeConstraint_111 ?_
          refine v_iast X nI (va_up (va_up h (1 + q) (h ((1 + q) + 1))) (25 + q) (va_up h (1 + q) (h ((1 + q) + 1)) ((25 + q) + 1)) ((49 + q) + 1)) F_120 (by omega) (by omega) (by decide) dX8_removeConstraint_112 (fun M_125 hM_126 => ?_)
          have F_128 : M_125 103 = IR k 90 sc := by rw [hM_126, mup_n (by omega)]; exact F_115
          have F_129 : M_125 104 = IR k 82 rd := by rw [hM_126, mup_n (by omega)]; exact F_116
          have F_130 : M_125 105 = IR k 24 li := by rw [hM_126, mup_n (by omega)]; exact F_117
          have F_131 : M_125 93 = RO k 0 mem.length nx (tA ((build cs ds).1)) (tT ((build cs ds).1)) (((build cs ds).1).length) ((tL (build cs ds).1)) ((build cs ds).2) lp ln tx.length sp lc so := by rw [hM_126, mup_n (by omega)]; exact F_118
          have F_132 : M_125 94 = IR k 82 nw := by rw [hM_126, mup_n (by omega)]; exact F_119
          have F_133 : M_125 95 = IR k 82 (va_up (va_up (va_up h (1 + q) (h ((1 + q) + 1))) (25 + q) (va_up h (1 + q) (h ((1 + q) + 1)) ((25 + q) + 1))) (49 + q) (va_up (va_up h (1 + q) (h ((1 + q) + 1))) (25 + q) (va_up h (1 + q) (h ((1 + q) + 1)) ((25 + q) + 1)) ((49 + q) + 1))) := by rw [hM_126]; exact mup_s
          have F_134 : M_125 96 = IR k 1148 di := by rw [hM_126, mup_n (by omega)]; exact F_121
          have F_135 : M_125 97 = IR k 164 kp := by rw [hM_126, mup_n (by omega)]; exact F_122
          have F_136 : M_125 98 = .inl (kZ k, 2, .inl (fun zq => bI (ik zq))) := by rw [hM_126, mup_n (by omega)]; exact F_123
          have P_137 : RtAt k M_125 (build cs ds).1 := P_124.fr (fun i h1 h2 => by rw [hM_126, mup_n (by omega)])
          refine v_iinc X (v := nI (q + 1)) 2 [(2, .int (nI (q + 1))), (0, .ref (ad k 93)), (1, .int (nI j))] dX8_removeConstraint_113 rfl (nI_1 _) (by decide) rfl ?_
          refine v_goto X 45 dX8_removeConstraint_116 (by decide) ?_
          refine v_lv [1, 2, 0] rfl ?_
          exact ih (q + 1) (rm3 h q) M_125 (by omega) (by omega) (by omega) (hrm.step hjq (by omega)) (fun i hi => by rw [hM_126, mup_n (by omega), hM_113, mup_n (by omega), hM_100, mup_n (by omega)]; exact hfr i hi) F_128 F_129 F_130 F_131 F_132 F_133 F_134 F_135 F_136 P_137
    refine v_lv [1, 2, 0] rfl ?_
    exact L 25 j (va_up g_35 0 (cs.length - 1)) M_47 (by omega) (by omega) (by omega) rmP.start (fun i hi => by rw [hM_48, mup_n (by omega), hfr_34 i (by omega), hfr_19 i (by omega)]) F_54 F_55 F_56 F_57 F_50 F_60 F_51 F_52 F_53 P_59
set_option maxHeartbeats 4000000 in
set_option maxRecDepth 100000 in
theorem c_X8_decide (l : Launch) (k : KX) (M : Mem) (w : Nat) (cs ds : List Nat) (mem : List SD) (sl : Nat → Option SD) (tx : List Nat) (x : Int32) (hRef : RefAt k M w cs ds mem sl tx) : CM l yX8_decide cX8_decide 2 ((some .int)) { frames := 6, cells := 0, slots := 0, locals := 138 } k [.ref (ad k 93), .int x] M (pI (fun r M' => ((inL x 16 = false ∧ RefAt k M' 1 cs ds mem sl tx) ∨ (∃ d, d < 16 ∧ x = nI d ∧ ((build cs ds).2 ≠ none ∨ (tA (build cs ds).1).testBit (d / 2) = true) ∧ RefAt k M' 2 cs ds mem sl tx) ∨ (∃ d, d < 16 ∧ x = nI d ∧ (build cs ds).2 = none ∧ (tA (build cs ds).1).testBit (d / 2) = false ∧ r = nI (build cs (ds ++ [d])).1.length ∧ RefAt k M' 0 cs (sNew cs (ds ++ [d])) (remF mem (cs, ds)) sl tx)) ∧ FrR M M')) := by
  refine CM.of (by decide) (Nat.le_of_ble_eq_true rfl) (fun C X hCl hCR rq => ?_)
  show V C k 2 (0, 0) M 0 [(0, .ref (ad k 93)), (1, .int x)] []
  obtain ⟨hN, hV, htx9, htxc, nx, lp, ln, sp, lc, so, nw, tl, di, kp, ik, sc, rd, li, F93, F94, F95, F96, F97, F98, hT, F103, F104, F105, hR, hD, hK, hS⟩ := id hRef
  have ho2 : csOK cs := hV.1.1
  have hds : ∀ d ∈ ds, d < 16 := hV.1.2.1
  have hlc : cs.length ≤ 24 := ho2.1
  have hld : ds.length ≤ 8 := hV.1.2.2
  have hok := cAt_ok ho2
  have hr := hR.c
  have hTk := hT.2.1
  have hTA := hTk.A
  have hTT := hTk.T
  have hTl := hTk.le
  have htL : tL (build cs ds).1 = ds.length := hV.2.1
  have hcf : ∀ n, (build cs ds).2 = some n → n < 24 := fun n hn => by have := (build_ok hlc hds).2 n hn; omega
  refine v_aload_n X 0 dX8_decide_0 rfl ?_
  refine v_iload_n X 1 dX8_decide_1 rfl ?_
  refine v_i2l X (v := (x).toInt64) rfl dX8_decide_2 ?_
  refine v_lconst X (v := (nI 0).toInt64) (by decide) dX8_decide_3 ?_
  refine v_ldc2 X m_564 dX8_decide_4 ?_
  refine v_top (show Value.long 15 = .long (nI 15).toInt64 from congrArg _ (by decide)) ?_
  refine v_callS X hCl hCR (c_in_R l k M x 15) mo_X8_in m_459 m_506 m_507 m_465 (by decide) rfl rfl (Nat.le_of_ble_eq_true rfl) ⟨rfl, rfl⟩ ⟨by decide, by decide⟩ dX8_decide_7 (vP_in ?_)
  refine v_top (show (Value.int (bI (inR x 15)) : Value) = .int (bI (inL x 16)) from congrArg _ (congrArg bI inR_15)) ?_
  refine v_ineB X 17 dX8_decide_10 (by decide) (fun c_1 => ?_) (fun c_1 => ?_)
  · have hb := c_1
    obtain ⟨d, hd, rfl⟩ := inL_of (by omega) hb
    refine v_aload_n X 0 dX8_decide_17 rfl ?_
    refine v_get X cls8 F93 (by omega) 16 (by decide) m_452 rfl rfl dX8_decide_18 ?_
    refine v_bipush X (v := (-9)) (by decide) dX8_decide_21 ?_
    refine v_icmp_ne X 39 dX8_decide_23 (by decide) (fun c_2 => ?_) (fun c_2 => ?_)
    · have hcf0 : (build cs ds).2 ≠ none := fun w => c_2 (by rw [w]; rfl)
      refine v_iconst X (v := nI 2) (by decide) dX8_decide_39 ?_
      refine v_goto X 44 dX8_decide_40 (by decide) ?_
      refine v_callV X hCl hCR (c_X8_refused l k M w mem.length nx (tA ((build cs ds).1)) (tT ((build cs ds).1)) (((build cs ds).1).length) ((tL (build cs ds).1)) ((build cs ds).2) lp ln tx.length sp lc so 2 (by omega) F93 (by omega)) cls8 ⟨_, F93⟩ (by omega) mo_X8_refused m_458 m_508 m_509 m_510 m_465 (by decide) rfl rfl (Nat.le_of_ble_eq_true rfl) ⟨rfl, rfl⟩ ⟨by decide, by decide⟩ dX8_decide_44 (vI_in (fun r_7 M_3 hp_4 => ?_))
      obtain ⟨he_8, F_6, hfr_5⟩ := hp_4
      subst he_8
      have F_9 : M_3 94 = IR k 82 nw := by rw [hfr_5 94 (by omega)]; exact F94
      have F_10 : M_3 95 = IR k 82 tl := by rw [hfr_5 95 (by omega)]; exact F95
      have F_11 : M_3 96 = IR k 1148 di := by rw [hfr_5 96 (by omega)]; exact F96
      have F_12 : M_3 97 = IR k 164 kp := by rw [hfr_5 97 (by omega)]; exact F97
      have F_13 : M_3 98 = .inl (kZ k, 2, .inl (fun zq => bI (ik zq))) := by rw [hfr_5 98 (by omega)]; exact F98
      have F_14 : M_3 103 = IR k 90 sc := by rw [hfr_5 103 (by omega)]; exact F103
      have F_15 : M_3 104 = IR k 82 rd := by rw [hfr_5 104 (by omega)]; exact F104
      have F_16 : M_3 105 = IR k 24 li := by rw [hfr_5 105 (by omega)]; exact F105
      have P_17 : RtAt k M_3 (build cs ds).1 := hT.fr (fun i h1 h2 => hfr_5 i (by omega))
      refine v_top (show (Value.int (bI (decide (0 < 2))) : Value) = .int (bI true) from congrArg _ (congrArg bI (by decide))) ?_
      refine v_ieqB X 52 dX8_decide_47 (by decide) (fun h => absurd h (by decide)) (fun _ => ?_)
      refine v_iconst X (v := nI 0) (by decide) dX8_decide_50 ?_
      exact v_iret X rq ⟨by decide, by decide⟩ rfl dX8_decide_51 ⟨_, rfl, Or.inr (Or.inl ⟨d, hd, rfl, (by first | exact Or.inl hcf0 | exact Or.inr hbt), ⟨hN, hV, htx9, htxc, nx, lp, ln, sp, lc, so, nw, tl, di, kp, ik, sc, rd, li, F_6, F_9, F_10, F_11, F_12, F_13, P_17, F_14, F_15, F_16, hR, hD, hK, hS⟩⟩), (fun i hi => by rw [hfr_5 i (by omega)])⟩
    · have hcf0 : (build cs ds).2 = none := (oI_eq (fun n hn => by have := hcf n hn; omega)).mp c_2
      refine v_aload_n X 0 dX8_decide_26 rfl ?_
      refine v_get X cls8 F93 (by omega) 8 (by decide) m_473 rfl rfl dX8_decide_27 ?_
      refine v_iload_n X 1 dX8_decide_30 rfl ?_
      refine v_iconst X (v := nI 2) (by decide) dX8_decide_31 ?_
      refine v_divN X (by omega) (by omega) (by omega) dX8_decide_32 ?_
      refine v_callS X hCl hCR (c_X8_has l k M (tA ((build cs ds).1)) (d / 2) (by omega) (by omega)) mo_X8_has m_460 m_463 m_464 m_465 (by decide) rfl rfl (Nat.le_of_ble_eq_true rfl) ⟨rfl, rfl⟩ ⟨by decide, by decide⟩ dX8_decide_33 (vP_in ?_)
      refine v_ieqB X 43 dX8_decide_36 (by decide) (fun c_18 => ?_) (fun c_18 => ?_)
      · have hbt := c_18
        refine v_iconst X (v := nI 0) (by decide) dX8_decide_43 ?_
        refine v_callV X hCl hCR (c_X8_refused l k M w mem.length nx (tA ((build cs ds).1)) (tT ((build cs ds).1)) (((build cs ds).1).length) ((tL (build cs ds).1)) ((build cs ds).2) lp ln tx.length sp lc so 0 (by omega) F93 (by omega)) cls8 ⟨_, F93⟩ (by omega) mo_X8_refused m_458 m_508 m_509 m_510 m_465 (by decide) rfl rfl (Nat.le_of_ble_eq_true rfl) ⟨rfl, rfl⟩ ⟨by decide, by decide⟩ dX8_decide_44 (vI_in (fun r_23 M_19 hp_20 => ?_))
        obtain ⟨he_24, F_22, hfr_21⟩ := hp_20
        subst he_24
        have F_25 : M_19 94 = IR k 82 nw := by rw [hfr_21 94 (by omega)]; exact F94
        have F_26 : M_19 95 = IR k 82 tl := by rw [hfr_21 95 (by omega)]; exact F95
        have F_27 : M_19 96 = IR k 1148 di := by rw [hfr_21 96 (by omega)]; exact F96
        have F_28 : M_19 97 = IR k 164 kp := by rw [hfr_21 97 (by omega)]; exact F97
        have F_29 : M_19 98 = .inl (kZ k, 2, .inl (fun zq => bI (ik zq))) := by rw [hfr_21 98 (by omega)]; exact F98
        have F_30 : M_19 103 = IR k 90 sc := by rw [hfr_21 103 (by omega)]; exact F103
        have F_31 : M_19 104 = IR k 82 rd := by rw [hfr_21 104 (by omega)]; exact F104
        have F_32 : M_19 105 = IR k 24 li := by rw [hfr_21 105 (by omega)]; exact F105
        have P_33 : RtAt k M_19 (build cs ds).1 := hT.fr (fun i h1 h2 => hfr_21 i (by omega))
        refine v_top (show (Value.int (bI (decide (0 < 0))) : Value) = .int (bI false) from congrArg _ (congrArg bI (by decide))) ?_
        refine v_ieqB X 52 dX8_decide_47 (by decide) (fun _ => ?_) (fun h => absurd h (by decide))
        have hl8 : ds.length < 8 := by have h1 := hTk.lt (show d / 2 < 8 by omega) hbt; have h2 := tL_le (build cs ds).1; omega
        have hd2 : ∀ y ∈ ds ++ [d], y < 16 := fun y hy => by rcases List.mem_append.mp hy with h | h; exact hds y h; rw [List.mem_singleton.mp h]; exact hd
        refine v_aload_n X 0 dX8_decide_52 rfl ?_
        refine v_get X cls8 F_22 (by omega) 1 (by decide) m_443 rfl rfl dX8_decide_53 ?_
        refine v_aload_n X 0 dX8_decide_56 rfl ?_
        refine v_get X cls8 F_22 (by omega) 2 (by decide) m_444 rfl rfl dX8_decide_57 ?_
        refine v_callS X hCl hCR (c_X8_copy l k M_19 94 95 nw tl (by omega) (by omega) (by omega) F_25 F_26) mo_X8_copy m_466 m_497 m_498 m_465 (by decide) rfl rfl (Nat.le_of_ble_eq_true rfl) ⟨rfl, rfl⟩ ⟨by decide, by decide⟩ dX8_decide_60 (vV_in (fun M_34 hp_35 => ?_))
        obtain ⟨⟨g_37, F_38, hcp_39⟩, hfr_36⟩ := hp_35
        have F_40 : M_34 94 = IR k 82 nw := by rw [hfr_36 94 (by omega)]; exact F_25
        have F_41 : M_34 96 = IR k 1148 di := by rw [hfr_36 96 (by omega)]; exact F_27
        have F_42 : M_34 97 = IR k 164 kp := by rw [hfr_36 97 (by omega)]; exact F_28
        have F_43 : M_34 98 = .inl (kZ k, 2, .inl (fun zq => bI (ik zq))) := by rw [hfr_36 98 (by omega)]; exact F_29
        have F_44 : M_34 103 = IR k 90 sc := by rw [hfr_36 103 (by omega)]; exact F_30
        have F_45 : M_34 104 = IR k 82 rd := by rw [hfr_36 104 (by omega)]; exact F_31
        have F_46 : M_34 105 = IR k 24 li := by rw [hfr_36 105 (by omega)]; exact F_32
        have F_47 : M_34 93 = RO k 0 mem.length nx (tA ((build cs ds).1)) (tT ((build cs ds).1)) (((build cs ds).1).length) ((tL (build cs ds).1)) ((build cs ds).2) lp ln tx.length sp lc so := by rw [hfr_36 93 (by omega)]; exact F_22
        have P_48 : RtAt k M_34 (build cs ds).1 := P_33.fr (fun i h1 h2 => hfr_36 i (by omega))
        have hR3 := hR.cong hlc hld hcp_39
        refine v_aload_n X 0 dX8_decide_63 rfl ?_
        refine v_get X cls8 F_47 (by omega) 2 (by decide) m_444 rfl rfl dX8_decide_64 ?_
        refine v_bipush X (v := nI 74) (by decide) dX8_decide_67 ?_
        refine v_aload_n X 0 dX8_decide_69 rfl ?_
        refine v_get X cls8 F_47 (by omega) 2 (by decide) m_444 rfl rfl dX8_decide_70 ?_
        refine v_bipush X (v := nI 73) (by decide) dX8_decide_73 ?_
        refine v_iald X nI F_38 (by omega) (by omega) (by decide) dX8_decide_75 ?_
        refine v_top (show (Value.int (nI (g_37 73)) : Value) = .int (nI ds.length) from congrArg _ (congrArg nI hR3.2.1)) ?_
        refine v_addN X dX8_decide_76 ?_
        refine v_iload_n X 1 dX8_decide_77 rfl ?_
        refine v_iast X nI d F_38 (by omega) (by omega) (by decide) dX8_decide_78 (fun M_49 hM_50 => ?_)
        have F_52 : M_49 94 = IR k 82 nw := by rw [hM_50, mup_n (by omega)]; exact F_40
        have F_53 : M_49 96 = IR k 1148 di := by rw [hM_50, mup_n (by omega)]; exact F_41
        have F_54 : M_49 97 = IR k 164 kp := by rw [hM_50, mup_n (by omega)]; exact F_42
        have F_55 : M_49 98 = .inl (kZ k, 2, .inl (fun zq => bI (ik zq))) := by rw [hM_50, mup_n (by omega)]; exact F_43
        have F_56 : M_49 103 = IR k 90 sc := by rw [hM_50, mup_n (by omega)]; exact F_44
        have F_57 : M_49 104 = IR k 82 rd := by rw [hM_50, mup_n (by omega)]; exact F_45
        have F_58 : M_49 105 = IR k 24 li := by rw [hM_50, mup_n (by omega)]; exact F_46
        have F_59 : M_49 93 = RO k 0 mem.length nx (tA ((build cs ds).1)) (tT ((build cs ds).1)) (((build cs ds).1).length) ((tL (build cs ds).1)) ((build cs ds).2) lp ln tx.length sp lc so := by rw [hM_50, mup_n (by omega)]; exact F_47
        have F_60 : M_49 95 = IR k 82 (va_up g_37 (74 + ds.length) d) := by rw [hM_50]; exact mup_s
        have P_61 : RtAt k M_49 (build cs ds).1 := P_48.fr (fun i h1 h2 => by rw [hM_50, mup_n (by omega)])
        refine v_aload_n X 0 dX8_decide_79 rfl ?_
        refine v_get X cls8 F_59 (by omega) 2 (by decide) m_444 rfl rfl dX8_decide_80 ?_
        refine v_bipush X (v := nI 73) (by decide) dX8_decide_83 ?_
        refine v_dup2 X rfl rfl dX8_decide_85 ?_
        refine v_iald X nI F_60 (by omega) (by omega) (by decide) dX8_decide_86 ?_
        refine v_top (show (Value.int (nI (va_up g_37 (74 + ds.length) d 73)) : Value) = .int (nI ds.length) from congrArg _ (congrArg nI ((up_n _ _ (by omega)).trans hR3.2.1))) ?_
        refine v_iconst X (v := nI 1) (by decide) dX8_decide_87 ?_
        refine v_addN X dX8_decide_88 ?_
        refine v_iast X nI (ds.length + 1) F_60 (by omega) (by omega) (by decide) dX8_decide_89 (fun M_62 hM_63 => ?_)
        have F_65 : M_62 94 = IR k 82 nw := by rw [hM_63, mup_n (by omega)]; exact F_52
        have F_66 : M_62 96 = IR k 1148 di := by rw [hM_63, mup_n (by omega)]; exact F_53
        have F_67 : M_62 97 = IR k 164 kp := by rw [hM_63, mup_n (by omega)]; exact F_54
        have F_68 : M_62 98 = .inl (kZ k, 2, .inl (fun zq => bI (ik zq))) := by rw [hM_63, mup_n (by omega)]; exact F_55
        have F_69 : M_62 103 = IR k 90 sc := by rw [hM_63, mup_n (by omega)]; exact F_56
        have F_70 : M_62 104 = IR k 82 rd := by rw [hM_63, mup_n (by omega)]; exact F_57
        have F_71 : M_62 105 = IR k 24 li := by rw [hM_63, mup_n (by omega)]; exact F_58
        have F_72 : M_62 93 = RO k 0 mem.length nx (tA ((build cs ds).1)) (tT ((build cs ds).1)) (((build cs ds).1).length) ((tL (build cs ds).1)) ((build cs ds).2) lp ln tx.length sp lc so := by rw [hM_63, mup_n (by omega)]; exact F_59
        have F_73 : M_62 95 = IR k 82 (va_up (va_up g_37 (74 + ds.length) d) 73 (ds.length + 1)) := by rw [hM_63]; exact mup_s
        have P_74 : RtAt k M_62 (build cs ds).1 := P_61.fr (fun i h1 h2 => by rw [hM_63, mup_n (by omega)])
        refine v_aload_n X 0 dX8_decide_90 rfl ?_
        have hRef_75 : RefAt k M_62 0 cs ds mem sl tx := ⟨hN, hV, htx9, htxc, nx, lp, ln, sp, lc, so, nw, va_up (va_up g_37 (74 + ds.length) d) 73 (ds.length + 1), di, kp, ik, sc, rd, li, F_72, F_65, F_73, F_66, F_67, F_68, P_74, F_69, F_70, F_71, hR, hD, hK, hS⟩
        refine v_callV X hCl hCR (c_X8_act l k M_62 0 cs ds mem sl tx (va_up (va_up g_37 (74 + ds.length) d) 73 (ds.length + 1)) cs (ds ++ [d]) hRef_75 F_73 (hR3.dec hlc d) ho2 hd2 (by simp; omega)) cls8 ⟨_, F_72⟩ (by omega) mo_X8_act m_502 m_547 m_548 m_549 m_465 (by decide) rfl rfl (Nat.le_of_ble_eq_true rfl) ⟨rfl, rfl⟩ ⟨by decide, by decide⟩ dX8_decide_91 (vV_in (fun M_76 hp_77 => ?_))
        obtain ⟨hRef_79, hfr_78⟩ := hp_77
        refine v_aload_n X 0 dX8_decide_94 rfl ?_
        obtain ⟨hN_80, hV_81, h9_82, hc_83, nx_84, lp_85, ln_86, sp_87, lc_88, so_89, nw_90, tl_91, di_92, kp_93, ik_94, sc_95, rd_96, li_97, F93_98, F94_99, F95_100, F96_101, F97_102, F98_103, hT_104, F103_105, F104_106, F105_107, hR_108, hD_109, hK_110, hS_111⟩ := id hRef_79
        refine v_get X cls8 F93_98 (by omega) 11 (by decide) m_475 rfl rfl dX8_decide_95 ?_
        exact v_iret X rq ⟨by decide, by decide⟩ rfl dX8_decide_98 ⟨_, rfl, Or.inr (Or.inr ⟨d, hd, rfl, hcf0, hbt, by rw [(sNew_spec cs (ds ++ [d])).1], hRef_79⟩), (fun i hi => by rw [hfr_78 i (by omega), hM_63, mup_n (by omega), hM_50, mup_n (by omega), hfr_36 i (by omega), hfr_21 i (by omega)])⟩
      · have hbt := c_18
        refine v_iconst X (v := nI 2) (by decide) dX8_decide_39 ?_
        refine v_goto X 44 dX8_decide_40 (by decide) ?_
        refine v_callV X hCl hCR (c_X8_refused l k M w mem.length nx (tA ((build cs ds).1)) (tT ((build cs ds).1)) (((build cs ds).1).length) ((tL (build cs ds).1)) ((build cs ds).2) lp ln tx.length sp lc so 2 (by omega) F93 (by omega)) cls8 ⟨_, F93⟩ (by omega) mo_X8_refused m_458 m_508 m_509 m_510 m_465 (by decide) rfl rfl (Nat.le_of_ble_eq_true rfl) ⟨rfl, rfl⟩ ⟨by decide, by decide⟩ dX8_decide_44 (vI_in (fun r_116 M_112 hp_113 => ?_))
        obtain ⟨he_117, F_115, hfr_114⟩ := hp_113
        subst he_117
        have F_118 : M_112 94 = IR k 82 nw := by rw [hfr_114 94 (by omega)]; exact F94
        have F_119 : M_112 95 = IR k 82 tl := by rw [hfr_114 95 (by omega)]; exact F95
        have F_120 : M_112 96 = IR k 1148 di := by rw [hfr_114 96 (by omega)]; exact F96
        have F_121 : M_112 97 = IR k 164 kp := by rw [hfr_114 97 (by omega)]; exact F97
        have F_122 : M_112 98 = .inl (kZ k, 2, .inl (fun zq => bI (ik zq))) := by rw [hfr_114 98 (by omega)]; exact F98
        have F_123 : M_112 103 = IR k 90 sc := by rw [hfr_114 103 (by omega)]; exact F103
        have F_124 : M_112 104 = IR k 82 rd := by rw [hfr_114 104 (by omega)]; exact F104
        have F_125 : M_112 105 = IR k 24 li := by rw [hfr_114 105 (by omega)]; exact F105
        have P_126 : RtAt k M_112 (build cs ds).1 := hT.fr (fun i h1 h2 => hfr_114 i (by omega))
        refine v_top (show (Value.int (bI (decide (0 < 2))) : Value) = .int (bI true) from congrArg _ (congrArg bI (by decide))) ?_
        refine v_ieqB X 52 dX8_decide_47 (by decide) (fun h => absurd h (by decide)) (fun _ => ?_)
        refine v_iconst X (v := nI 0) (by decide) dX8_decide_50 ?_
        exact v_iret X rq ⟨by decide, by decide⟩ rfl dX8_decide_51 ⟨_, rfl, Or.inr (Or.inl ⟨d, hd, rfl, (by first | exact Or.inl hcf0 | exact Or.inr hbt), ⟨hN, hV, htx9, htxc, nx, lp, ln, sp, lc, so, nw, tl, di, kp, ik, sc, rd, li, F_115, F_118, F_119, F_120, F_121, F_122, P_126, F_123, F_124, F_125, hR, hD, hK, hS⟩⟩), (fun i hi => by rw [hfr_114 i (by omega)])⟩
  · have hb := c_1
    refine v_iconst X (v := nI 1) (by decide) dX8_decide_13 ?_
    refine v_goto X 44 dX8_decide_14 (by decide) ?_
    refine v_callV X hCl hCR (c_X8_refused l k M w mem.length nx (tA ((build cs ds).1)) (tT ((build cs ds).1)) (((build cs ds).1).length) ((tL (build cs ds).1)) ((build cs ds).2) lp ln tx.length sp lc so 1 (by omega) F93 (by omega)) cls8 ⟨_, F93⟩ (by omega) mo_X8_refused m_458 m_508 m_509 m_510 m_465 (by decide) rfl rfl (Nat.le_of_ble_eq_true rfl) ⟨rfl, rfl⟩ ⟨by decide, by decide⟩ dX8_decide_44 (vI_in (fun r_131 M_127 hp_128 => ?_))
    obtain ⟨he_132, F_130, hfr_129⟩ := hp_128
    subst he_132
    have F_133 : M_127 94 = IR k 82 nw := by rw [hfr_129 94 (by omega)]; exact F94
    have F_134 : M_127 95 = IR k 82 tl := by rw [hfr_129 95 (by omega)]; exact F95
    have F_135 : M_127 96 = IR k 1148 di := by rw [hfr_129 96 (by omega)]; exact F96
    have F_136 : M_127 97 = IR k 164 kp := by rw [hfr_129 97 (by omega)]; exact F97
    have F_137 : M_127 98 = .inl (kZ k, 2, .inl (fun zq => bI (ik zq))) := by rw [hfr_129 98 (by omega)]; exact F98
    have F_138 : M_127 103 = IR k 90 sc := by rw [hfr_129 103 (by omega)]; exact F103
    have F_139 : M_127 104 = IR k 82 rd := by rw [hfr_129 104 (by omega)]; exact F104
    have F_140 : M_127 105 = IR k 24 li := by rw [hfr_129 105 (by omega)]; exact F105
    have P_141 : RtAt k M_127 (build cs ds).1 := hT.fr (fun i h1 h2 => hfr_129 i (by omega))
    refine v_top (show (Value.int (bI (decide (0 < 1))) : Value) = .int (bI true) from congrArg _ (congrArg bI (by decide))) ?_
    refine v_ieqB X 52 dX8_decide_47 (by decide) (fun h => absurd h (by decide)) (fun _ => ?_)
    refine v_iconst X (v := nI 0) (by decide) dX8_decide_50 ?_
    exact v_iret X rq ⟨by decide, by decide⟩ rfl dX8_decide_51 ⟨_, rfl, Or.inl ⟨hb, ⟨hN, hV, htx9, htxc, nx, lp, ln, sp, lc, so, nw, tl, di, kp, ik, sc, rd, li, F_130, F_133, F_134, F_135, F_136, F_137, P_141, F_138, F_139, F_140, hR, hD, hK, hS⟩⟩, (fun i hi => by rw [hfr_129 i (by omega)])⟩
set_option maxHeartbeats 4000000 in
set_option maxRecDepth 100000 in
theorem c_X8_backtrack (l : Launch) (k : KX) (M : Mem) (w : Nat) (cs ds : List Nat) (mem : List SD) (sl : Nat → Option SD) (tx : List Nat) (x : Int32) (hRef : RefAt k M w cs ds mem sl tx) : CM l yX8_backtrack cX8_backtrack 2 ((some .int)) { frames := 6, cells := 0, slots := 0, locals := 138 } k [.ref (ad k 93), .int x] M (pI (fun r M' => ((inR x ds.length = false ∧ RefAt k M' 1 cs ds mem sl tx) ∨ (∃ n, n ≤ ds.length ∧ x = nI n ∧ r = nI (build cs (ds.take n)).1.length ∧ RefAt k M' 0 cs (sNew cs (ds.take n)) (remF mem (cs, ds)) sl tx)) ∧ FrR M M')) := by
  refine CM.of (by decide) (Nat.le_of_ble_eq_true rfl) (fun C X hCl hCR rq => ?_)
  show V C k 2 (0, 0) M 0 [(0, .ref (ad k 93)), (1, .int x)] []
  obtain ⟨hN, hV, htx9, htxc, nx, lp, ln, sp, lc, so, nw, tl, di, kp, ik, sc, rd, li, F93, F94, F95, F96, F97, F98, hT, F103, F104, F105, hR, hD, hK, hS⟩ := id hRef
  have ho2 : csOK cs := hV.1.1
  have hds : ∀ d ∈ ds, d < 16 := hV.1.2.1
  have hlc : cs.length ≤ 24 := ho2.1
  have hld : ds.length ≤ 8 := hV.1.2.2
  have hok := cAt_ok ho2
  have hr := hR.c
  have hTk := hT.2.1
  have hTA := hTk.A
  have hTT := hTk.T
  have hTl := hTk.le
  have htL : tL (build cs ds).1 = ds.length := hV.2.1
  have hcf : ∀ n, (build cs ds).2 = some n → n < 24 := fun n hn => by have := (build_ok hlc hds).2 n hn; omega
  refine v_aload_n X 0 dX8_backtrack_0 rfl ?_
  refine v_iload_n X 1 dX8_backtrack_1 rfl ?_
  refine v_i2l X (v := (x).toInt64) rfl dX8_backtrack_2 ?_
  refine v_lconst X (v := (nI 0).toInt64) (by decide) dX8_backtrack_3 ?_
  refine v_aload_n X 0 dX8_backtrack_4 rfl ?_
  refine v_get X cls8 F93 (by omega) 12 (by decide) m_476 rfl rfl dX8_backtrack_5 ?_
  refine v_i2l X (v := (nI ((tL (build cs ds).1))).toInt64) rfl dX8_backtrack_8 ?_
  refine v_callS X hCl hCR (c_in_R l k M x ((tL (build cs ds).1))) mo_X8_in m_459 m_506 m_507 m_465 (by decide) rfl rfl (Nat.le_of_ble_eq_true rfl) ⟨rfl, rfl⟩ ⟨by decide, by decide⟩ dX8_backtrack_9 (vP_in ?_)
  refine v_top (show (Value.int (bI (inR x ((tL (build cs ds).1)))) : Value) = .int (bI (inR x ds.length)) from congrArg _ (by rw [htL])) ?_
  refine v_ieqB X 19 dX8_backtrack_12 (by decide) (fun c_1 => ?_) (fun c_1 => ?_)
  · have hb := c_1
    refine v_iconst X (v := nI 1) (by decide) dX8_backtrack_19 ?_
    refine v_callV X hCl hCR (c_X8_refused l k M w mem.length nx (tA ((build cs ds).1)) (tT ((build cs ds).1)) (((build cs ds).1).length) ((tL (build cs ds).1)) ((build cs ds).2) lp ln tx.length sp lc so 1 (by omega) F93 (by omega)) cls8 ⟨_, F93⟩ (by omega) mo_X8_refused m_458 m_508 m_509 m_510 m_465 (by decide) rfl rfl (Nat.le_of_ble_eq_true rfl) ⟨rfl, rfl⟩ ⟨by decide, by decide⟩ dX8_backtrack_20 (vI_in (fun r_6 M_2 hp_3 => ?_))
    obtain ⟨he_7, F_5, hfr_4⟩ := hp_3
    subst he_7
    have F_8 : M_2 94 = IR k 82 nw := by rw [hfr_4 94 (by omega)]; exact F94
    have F_9 : M_2 95 = IR k 82 tl := by rw [hfr_4 95 (by omega)]; exact F95
    have F_10 : M_2 96 = IR k 1148 di := by rw [hfr_4 96 (by omega)]; exact F96
    have F_11 : M_2 97 = IR k 164 kp := by rw [hfr_4 97 (by omega)]; exact F97
    have F_12 : M_2 98 = .inl (kZ k, 2, .inl (fun zq => bI (ik zq))) := by rw [hfr_4 98 (by omega)]; exact F98
    have F_13 : M_2 103 = IR k 90 sc := by rw [hfr_4 103 (by omega)]; exact F103
    have F_14 : M_2 104 = IR k 82 rd := by rw [hfr_4 104 (by omega)]; exact F104
    have F_15 : M_2 105 = IR k 24 li := by rw [hfr_4 105 (by omega)]; exact F105
    have P_16 : RtAt k M_2 (build cs ds).1 := hT.fr (fun i h1 h2 => hfr_4 i (by omega))
    refine v_top (show (Value.int (bI (decide (0 < 1))) : Value) = .int (bI true) from congrArg _ (congrArg bI (by decide))) ?_
    refine v_ieqB X 28 dX8_backtrack_23 (by decide) (fun h => absurd h (by decide)) (fun _ => ?_)
    refine v_iconst X (v := nI 0) (by decide) dX8_backtrack_26 ?_
    exact v_iret X rq ⟨by decide, by decide⟩ rfl dX8_backtrack_27 ⟨_, rfl, Or.inl ⟨hb, ⟨hN, hV, htx9, htxc, nx, lp, ln, sp, lc, so, nw, tl, di, kp, ik, sc, rd, li, F_5, F_8, F_9, F_10, F_11, F_12, P_16, F_13, F_14, F_15, hR, hD, hK, hS⟩⟩, (fun i hi => by rw [hfr_4 i (by omega)])⟩
  · have hb := c_1
    refine v_iconst X (v := nI 0) (by decide) dX8_backtrack_15 ?_
    refine v_goto X 20 dX8_backtrack_16 (by decide) ?_
    refine v_callV X hCl hCR (c_X8_refused l k M w mem.length nx (tA ((build cs ds).1)) (tT ((build cs ds).1)) (((build cs ds).1).length) ((tL (build cs ds).1)) ((build cs ds).2) lp ln tx.length sp lc so 0 (by omega) F93 (by omega)) cls8 ⟨_, F93⟩ (by omega) mo_X8_refused m_458 m_508 m_509 m_510 m_465 (by decide) rfl rfl (Nat.le_of_ble_eq_true rfl) ⟨rfl, rfl⟩ ⟨by decide, by decide⟩ dX8_backtrack_20 (vI_in (fun r_21 M_17 hp_18 => ?_))
    obtain ⟨he_22, F_20, hfr_19⟩ := hp_18
    subst he_22
    have F_23 : M_17 94 = IR k 82 nw := by rw [hfr_19 94 (by omega)]; exact F94
    have F_24 : M_17 95 = IR k 82 tl := by rw [hfr_19 95 (by omega)]; exact F95
    have F_25 : M_17 96 = IR k 1148 di := by rw [hfr_19 96 (by omega)]; exact F96
    have F_26 : M_17 97 = IR k 164 kp := by rw [hfr_19 97 (by omega)]; exact F97
    have F_27 : M_17 98 = .inl (kZ k, 2, .inl (fun zq => bI (ik zq))) := by rw [hfr_19 98 (by omega)]; exact F98
    have F_28 : M_17 103 = IR k 90 sc := by rw [hfr_19 103 (by omega)]; exact F103
    have F_29 : M_17 104 = IR k 82 rd := by rw [hfr_19 104 (by omega)]; exact F104
    have F_30 : M_17 105 = IR k 24 li := by rw [hfr_19 105 (by omega)]; exact F105
    have P_31 : RtAt k M_17 (build cs ds).1 := hT.fr (fun i h1 h2 => hfr_19 i (by omega))
    refine v_top (show (Value.int (bI (decide (0 < 0))) : Value) = .int (bI false) from congrArg _ (congrArg bI (by decide))) ?_
    refine v_ieqB X 28 dX8_backtrack_23 (by decide) (fun _ => ?_) (fun h => absurd h (by decide))
    obtain ⟨n, hn, rfl⟩ := inR_of (by omega) hb
    have hd2 : ∀ y ∈ ds.take n, y < 16 := fun y hy => hds y (List.mem_of_mem_take hy)
    refine v_aload_n X 0 dX8_backtrack_28 rfl ?_
    refine v_get X cls8 F_20 (by omega) 1 (by decide) m_443 rfl rfl dX8_backtrack_29 ?_
    refine v_aload_n X 0 dX8_backtrack_32 rfl ?_
    refine v_get X cls8 F_20 (by omega) 2 (by decide) m_444 rfl rfl dX8_backtrack_33 ?_
    refine v_callS X hCl hCR (c_X8_copy l k M_17 94 95 nw tl (by omega) (by omega) (by omega) F_23 F_24) mo_X8_copy m_466 m_497 m_498 m_465 (by decide) rfl rfl (Nat.le_of_ble_eq_true rfl) ⟨rfl, rfl⟩ ⟨by decide, by decide⟩ dX8_backtrack_36 (vV_in (fun M_32 hp_33 => ?_))
    obtain ⟨⟨g_35, F_36, hcp_37⟩, hfr_34⟩ := hp_33
    have F_38 : M_32 94 = IR k 82 nw := by rw [hfr_34 94 (by omega)]; exact F_23
    have F_39 : M_32 96 = IR k 1148 di := by rw [hfr_34 96 (by omega)]; exact F_25
    have F_40 : M_32 97 = IR k 164 kp := by rw [hfr_34 97 (by omega)]; exact F_26
    have F_41 : M_32 98 = .inl (kZ k, 2, .inl (fun zq => bI (ik zq))) := by rw [hfr_34 98 (by omega)]; exact F_27
    have F_42 : M_32 103 = IR k 90 sc := by rw [hfr_34 103 (by omega)]; exact F_28
    have F_43 : M_32 104 = IR k 82 rd := by rw [hfr_34 104 (by omega)]; exact F_29
    have F_44 : M_32 105 = IR k 24 li := by rw [hfr_34 105 (by omega)]; exact F_30
    have F_45 : M_32 93 = RO k 0 mem.length nx (tA ((build cs ds).1)) (tT ((build cs ds).1)) (((build cs ds).1).length) ((tL (build cs ds).1)) ((build cs ds).2) lp ln tx.length sp lc so := by rw [hfr_34 93 (by omega)]; exact F_20
    have P_46 : RtAt k M_32 (build cs ds).1 := P_31.fr (fun i h1 h2 => hfr_34 i (by omega))
    refine v_aload_n X 0 dX8_backtrack_39 rfl ?_
    refine v_get X cls8 F_45 (by omega) 2 (by decide) m_444 rfl rfl dX8_backtrack_40 ?_
    refine v_bipush X (v := nI 73) (by decide) dX8_backtrack_43 ?_
    refine v_iload_n X 1 dX8_backtrack_45 rfl ?_
    refine v_iast X nI n F_36 (by omega) (by omega) (by decide) dX8_backtrack_46 (fun M_47 hM_48 => ?_)
    have F_50 : M_47 94 = IR k 82 nw := by rw [hM_48, mup_n (by omega)]; exact F_38
    have F_51 : M_47 96 = IR k 1148 di := by rw [hM_48, mup_n (by omega)]; exact F_39
    have F_52 : M_47 97 = IR k 164 kp := by rw [hM_48, mup_n (by omega)]; exact F_40
    have F_53 : M_47 98 = .inl (kZ k, 2, .inl (fun zq => bI (ik zq))) := by rw [hM_48, mup_n (by omega)]; exact F_41
    have F_54 : M_47 103 = IR k 90 sc := by rw [hM_48, mup_n (by omega)]; exact F_42
    have F_55 : M_47 104 = IR k 82 rd := by rw [hM_48, mup_n (by omega)]; exact F_43
    have F_56 : M_47 105 = IR k 24 li := by rw [hM_48, mup_n (by omega)]; exact F_44
    have F_57 : M_47 93 = RO k 0 mem.length nx (tA ((build cs ds).1)) (tT ((build cs ds).1)) (((build cs ds).1).length) ((tL (build cs ds).1)) ((build cs ds).2) lp ln tx.length sp lc so := by rw [hM_48, mup_n (by omega)]; exact F_45
    have F_58 : M_47 95 = IR k 82 (va_up g_35 73 n) := by rw [hM_48]; exact mup_s
    have P_59 : RtAt k M_47 (build cs ds).1 := P_46.fr (fun i h1 h2 => by rw [hM_48, mup_n (by omega)])
    refine v_aload_n X 0 dX8_backtrack_47 rfl ?_
    have hRef_60 : RefAt k M_47 0 cs ds mem sl tx := ⟨hN, hV, htx9, htxc, nx, lp, ln, sp, lc, so, nw, va_up g_35 73 n, di, kp, ik, sc, rd, li, F_57, F_50, F_58, F_51, F_52, F_53, P_59, F_54, F_55, F_56, hR, hD, hK, hS⟩
    refine v_callV X hCl hCR (c_X8_act l k M_47 0 cs ds mem sl tx (va_up g_35 73 n) cs (ds.take n) hRef_60 F_58 ((hR.cong hlc hld hcp_37).take hlc hn) ho2 hd2 (by rw [List.length_take]; omega)) cls8 ⟨_, F_57⟩ (by omega) mo_X8_act m_502 m_547 m_548 m_549 m_465 (by decide) rfl rfl (Nat.le_of_ble_eq_true rfl) ⟨rfl, rfl⟩ ⟨by decide, by decide⟩ dX8_backtrack_48 (vV_in (fun M_61 hp_62 => ?_))
    obtain ⟨hRef_64, hfr_63⟩ := hp_62
    refine v_aload_n X 0 dX8_backtrack_51 rfl ?_
    obtain ⟨hN_65, hV_66, h9_67, hc_68, nx_69, lp_70, ln_71, sp_72, lc_73, so_74, nw_75, tl_76, di_77, kp_78, ik_79, sc_80, rd_81, li_82, F93_83, F94_84, F95_85, F96_86, F97_87, F98_88, hT_89, F103_90, F104_91, F105_92, hR_93, hD_94, hK_95, hS_96⟩ := id hRef_64
    refine v_get X cls8 F93_83 (by omega) 11 (by decide) m_475 rfl rfl dX8_backtrack_52 ?_
    exact v_iret X rq ⟨by decide, by decide⟩ rfl dX8_backtrack_55 ⟨_, rfl, Or.inr ⟨n, hn, rfl, by rw [(sNew_spec cs (ds.take n)).1], hRef_64⟩, (fun i hi => by rw [hfr_63 i (by omega), hM_48, mup_n (by omega), hfr_34 i (by omega), hfr_19 i (by omega)])⟩
set_option maxHeartbeats 4000000 in
set_option maxRecDepth 100000 in
theorem c_X8_undo (l : Launch) (k : KX) (M : Mem) (w : Nat) (cs ds : List Nat) (mem : List SD) (sl : Nat → Option SD) (tx : List Nat) (hRef : RefAt k M w cs ds mem sl tx) : CM l yX8_undo cX8_undo 2 ((some .int)) { frames := 5, cells := 0, slots := 0, locals := 117 } k [.ref (ad k 93)] M (pI (fun r M' => ((mem = [] ∧ RefAt k M' 1 cs ds mem sl tx) ∨ (∃ (ini : List SD) (sd : SD), mem = ini ++ [sd] ∧ r = nI ini.length ∧ RefAt k M' 0 sd.1 (sNew sd.1 sd.2) ini sl tx)) ∧ FrR M M')) := by
  refine CM.of (by decide) (Nat.le_of_ble_eq_true rfl) (fun C X hCl hCR rq => ?_)
  show V C k 2 (0, 0) M 0 [(0, .ref (ad k 93))] []
  obtain ⟨hN, hV, htx9, htxc, nx, lp, ln, sp, lc, so, nw, tl, di, kp, ik, sc, rd, li, F93, F94, F95, F96, F97, F98, hT, F103, F104, F105, hR, hD, hK, hS⟩ := id hRef
  have ho2 : csOK cs := hV.1.1
  have hds : ∀ d ∈ ds, d < 16 := hV.1.2.1
  have hlc : cs.length ≤ 24 := ho2.1
  have hld : ds.length ≤ 8 := hV.1.2.2
  have hok := cAt_ok ho2
  have hr := hR.c
  have hTk := hT.2.1
  have hTA := hTk.A
  have hTT := hTk.T
  have hTl := hTk.le
  have htL : tL (build cs ds).1 = ds.length := hV.2.1
  have hcf : ∀ n, (build cs ds).2 = some n → n < 24 := fun n hn => by have := (build_ok hlc hds).2 n hn; omega
  have hml0 := hD.2.1
  refine v_aload_n X 0 dX8_undo_0 rfl ?_
  refine v_aload_n X 0 dX8_undo_1 rfl ?_
  refine v_get X cls8 F93 (by omega) 4 (by decide) m_496 rfl rfl dX8_undo_2 ?_
  refine v_ineN X 12 (by omega) dX8_undo_5 (by decide) (fun c_1 => ?_) (fun c_1 => ?_)
  · have hb := c_1
    refine v_iconst X (v := nI 0) (by decide) dX8_undo_12 ?_
    refine v_callV X hCl hCR (c_X8_refused l k M w mem.length nx (tA ((build cs ds).1)) (tT ((build cs ds).1)) (((build cs ds).1).length) ((tL (build cs ds).1)) ((build cs ds).2) lp ln tx.length sp lc so 0 (by omega) F93 (by omega)) cls8 ⟨_, F93⟩ (by omega) mo_X8_refused m_458 m_508 m_509 m_510 m_465 (by decide) rfl rfl (Nat.le_of_ble_eq_true rfl) ⟨rfl, rfl⟩ ⟨by decide, by decide⟩ dX8_undo_13 (vI_in (fun r_6 M_2 hp_3 => ?_))
    obtain ⟨he_7, F_5, hfr_4⟩ := hp_3
    subst he_7
    have F_8 : M_2 94 = IR k 82 nw := by rw [hfr_4 94 (by omega)]; exact F94
    have F_9 : M_2 95 = IR k 82 tl := by rw [hfr_4 95 (by omega)]; exact F95
    have F_10 : M_2 96 = IR k 1148 di := by rw [hfr_4 96 (by omega)]; exact F96
    have F_11 : M_2 97 = IR k 164 kp := by rw [hfr_4 97 (by omega)]; exact F97
    have F_12 : M_2 98 = .inl (kZ k, 2, .inl (fun zq => bI (ik zq))) := by rw [hfr_4 98 (by omega)]; exact F98
    have F_13 : M_2 103 = IR k 90 sc := by rw [hfr_4 103 (by omega)]; exact F103
    have F_14 : M_2 104 = IR k 82 rd := by rw [hfr_4 104 (by omega)]; exact F104
    have F_15 : M_2 105 = IR k 24 li := by rw [hfr_4 105 (by omega)]; exact F105
    have P_16 : RtAt k M_2 (build cs ds).1 := hT.fr (fun i h1 h2 => hfr_4 i (by omega))
    refine v_top (show (Value.int (bI (decide (0 < 0))) : Value) = .int (bI false) from congrArg _ (congrArg bI (by decide))) ?_
    refine v_ieqB X 21 dX8_undo_16 (by decide) (fun _ => ?_) (fun h => absurd h (by decide))
    obtain ⟨ini, sd, hini⟩ : ∃ (ini : List SD) (sd : SD), mem = ini ++ [sd] := ⟨mem.dropLast, mem.getLast (fun w => by rw [w] at hb; exact hb rfl), (List.dropLast_concat_getLast _).symm⟩
    have hsd : sOK sd := hV.2.2.1 sd (by rw [hini]; simp)
    have hin : mem.length = ini.length + 1 := by rw [hini]; simp
    have hDb := (show DiP di nx (ini ++ [sd]) by rw [← hini]; exact hD).back
    have hnx := hD.1
    have hml := hD.2.1
    refine v_aload_n X 0 dX8_undo_21 rfl ?_
    refine v_dup X rfl dX8_undo_22 ?_
    refine v_get X cls8 F_5 (by omega) 4 (by decide) m_496 rfl rfl dX8_undo_23 ?_
    refine v_iconst X (v := nI 1) (by decide) dX8_undo_26 ?_
    refine v_subN X (by omega) dX8_undo_27 ?_
    refine v_put X cls8 F_5 (by omega) 4 (by decide) m_496 rfl rfl rfl rfl (Nat.le_of_ble_eq_true rfl) dX8_undo_28 (fun M_17 hM_18 => ?_)
    have F_19 : M_17 94 = IR k 82 nw := by rw [hM_18, mup_n (by omega)]; exact F_8
    have F_20 : M_17 95 = IR k 82 tl := by rw [hM_18, mup_n (by omega)]; exact F_9
    have F_21 : M_17 96 = IR k 1148 di := by rw [hM_18, mup_n (by omega)]; exact F_10
    have F_22 : M_17 97 = IR k 164 kp := by rw [hM_18, mup_n (by omega)]; exact F_11
    have F_23 : M_17 98 = .inl (kZ k, 2, .inl (fun zq => bI (ik zq))) := by rw [hM_18, mup_n (by omega)]; exact F_12
    have F_24 : M_17 103 = IR k 90 sc := by rw [hM_18, mup_n (by omega)]; exact F_13
    have F_25 : M_17 104 = IR k 82 rd := by rw [hM_18, mup_n (by omega)]; exact F_14
    have F_26 : M_17 105 = IR k 24 li := by rw [hM_18, mup_n (by omega)]; exact F_15
    have F_27 : M_17 93 = RO k 0 (mem.length - 1) nx (tA ((build cs ds).1)) (tT ((build cs ds).1)) (((build cs ds).1).length) ((tL (build cs ds).1)) ((build cs ds).2) lp ln tx.length sp lc so := by rw [hM_18]; exact mup_s
    have P_28 : RtAt k M_17 (build cs ds).1 := P_16.fr (fun i h1 h2 => by rw [hM_18, mup_n (by omega)])
    have F_29 : M_17 93 = RO k 0 ini.length nx (tA ((build cs ds).1)) (tT ((build cs ds).1)) (((build cs ds).1).length) ((tL (build cs ds).1)) ((build cs ds).2) lp ln tx.length sp lc so := by rw [show ini.length = mem.length - 1 by omega]; exact F_27
    refine v_aload_n X 0 dX8_undo_31 rfl ?_
    refine v_aload_n X 0 dX8_undo_32 rfl ?_
    refine v_get X cls8 F_29 (by omega) 5 (by decide) m_495 rfl rfl dX8_undo_33 ?_
    refine v_bipush X (v := nI 14) (by decide) dX8_undo_36 ?_
    refine v_addN X dX8_undo_38 ?_
    refine v_iconst X (v := nI 1) (by decide) dX8_undo_39 ?_
    refine v_subN X (by omega) dX8_undo_40 ?_
    refine v_bipush X (v := nI 14) (by decide) dX8_undo_41 ?_
    refine v_remN X (by omega) (by omega) (by omega) dX8_undo_43 ?_
    refine v_put X cls8 F_29 (by omega) 5 (by decide) m_495 rfl rfl rfl rfl (Nat.le_of_ble_eq_true rfl) dX8_undo_44 (fun M_30 hM_31 => ?_)
    have F_32 : M_30 94 = IR k 82 nw := by rw [hM_31, mup_n (by omega)]; exact F_19
    have F_33 : M_30 95 = IR k 82 tl := by rw [hM_31, mup_n (by omega)]; exact F_20
    have F_34 : M_30 96 = IR k 1148 di := by rw [hM_31, mup_n (by omega)]; exact F_21
    have F_35 : M_30 97 = IR k 164 kp := by rw [hM_31, mup_n (by omega)]; exact F_22
    have F_36 : M_30 98 = .inl (kZ k, 2, .inl (fun zq => bI (ik zq))) := by rw [hM_31, mup_n (by omega)]; exact F_23
    have F_37 : M_30 103 = IR k 90 sc := by rw [hM_31, mup_n (by omega)]; exact F_24
    have F_38 : M_30 104 = IR k 82 rd := by rw [hM_31, mup_n (by omega)]; exact F_25
    have F_39 : M_30 105 = IR k 24 li := by rw [hM_31, mup_n (by omega)]; exact F_26
    have F_40 : M_30 93 = RO k 0 ini.length (((nx + 14) - 1) % 14) (tA ((build cs ds).1)) (tT ((build cs ds).1)) (((build cs ds).1).length) ((tL (build cs ds).1)) ((build cs ds).2) lp ln tx.length sp lc so := by rw [hM_31]; exact mup_s
    have P_41 : RtAt k M_30 (build cs ds).1 := P_28.fr (fun i h1 h2 => by rw [hM_31, mup_n (by omega)])
    refine v_iconst X (v := nI 0) (by decide) dX8_undo_47 ?_
    refine v_istore_n X [(1, .int (nI 0)), (0, .ref (ad k 93))] dX8_undo_48 (by decide) rfl ?_
    have L : ∀ (fu : Nat) (i : Nat) (h : Nat → Nat) (M1 : Mem), 82 - i < fu → (i ≤ 82) → (∀ q, q < i → h q = di (82 * ((nx + 14 - 1) % 14) + q)) → (FrR M M1) → M1 103 = IR k 90 sc → M1 104 = IR k 82 rd → M1 105 = IR k 24 li → M1 93 = RO k 0 ini.length (((nx + 14) - 1) % 14) (tA ((build cs ds).1)) (tT ((build cs ds).1)) (((build cs ds).1).length) ((tL (build cs ds).1)) ((build cs ds).2) lp ln tx.length sp lc so → M1 94 = IR k 82 h → M1 95 = IR k 82 tl → M1 96 = IR k 1148 di → M1 97 = IR k 164 kp → M1 98 = .inl (kZ k, 2, .inl (fun zq => bI (ik zq))) → RtAt k M1 (build cs ds).1 → V C k 2 (0, 0) M1 49 [(0, .ref (ad k 93)), (1, .int (nI i))] [] := by
      intro fu
      induction fu with
      | zero => intro i h M1 hfu; exact absurd hfu (Nat.not_lt_zero _)
      | succ fu ih =>
        intro i h M1 hfu hi hh hfr F_37 F_38 F_39 F_40 F_32 F_33 F_34 F_35 F_36 P_41
        refine v_iload_n X 1 dX8_undo_49 rfl ?_
        refine v_bipush X (v := nI 82) (by decide) dX8_undo_50 ?_
        refine v_cgeN X 81 (by omega) (by omega) dX8_undo_52 (by decide) (fun c_42 => ?_) (fun c_42 => ?_)
        · have hrx : rowOK h sd.1 sd.2 := hDb.2.cong hsd.1.1 hsd.2.2 (fun q hq => hh q (by omega))
          refine v_aload_n X 0 dX8_undo_81 rfl ?_
          refine v_aload_n X 0 dX8_undo_82 rfl ?_
          refine v_get X cls8 F_40 (by omega) 1 (by decide) m_443 rfl rfl dX8_undo_83 ?_
          refine v_callV X hCl hCR (c_X8_build l k M1 0 ini.length (((nx + 14) - 1) % 14) (tA ((build cs ds).1)) (tT ((build cs ds).1)) (((build cs ds).1).length) ((tL (build cs ds).1)) ((build cs ds).2) lp ln tx.length sp lc so ((build cs ds).1) 94 h sd.1 sd.2 (by omega) F_40 P_41 (by omega) F_32 hrx hsd.1 hsd.2.1 hsd.2.2) cls8 ⟨_, F_40⟩ (by omega) mo_X8_build m_494 m_499 m_500 m_501 m_465 (by decide) rfl rfl (Nat.le_of_ble_eq_true rfl) ⟨rfl, rfl⟩ ⟨by decide, by decide⟩ dX8_undo_86 (vV_in (fun M_43 hp_44 => ?_))
          obtain ⟨F_46, T_47, ⟨g_48, F_49, hrow_50⟩, hfr_45⟩ := hp_44
          have F_51 : M_43 103 = IR k 90 sc := by rw [hfr_45 103 (by omega) (by omega) (by omega)]; exact F_37
          have F_52 : M_43 104 = IR k 82 rd := by rw [hfr_45 104 (by omega) (by omega) (by omega)]; exact F_38
          have F_53 : M_43 105 = IR k 24 li := by rw [hfr_45 105 (by omega) (by omega) (by omega)]; exact F_39
          have F_54 : M_43 95 = IR k 82 tl := by rw [hfr_45 95 (by omega) (by omega) (by omega)]; exact F_33
          have F_55 : M_43 96 = IR k 1148 di := by rw [hfr_45 96 (by omega) (by omega) (by omega)]; exact F_34
          have F_56 : M_43 97 = IR k 164 kp := by rw [hfr_45 97 (by omega) (by omega) (by omega)]; exact F_35
          have F_57 : M_43 98 = .inl (kZ k, 2, .inl (fun zq => bI (ik zq))) := by rw [hfr_45 98 (by omega) (by omega) (by omega)]; exact F_36
          refine v_aload_n X 0 dX8_undo_89 rfl ?_
          refine v_get X cls8 F_46 (by omega) 4 (by decide) m_496 rfl rfl dX8_undo_90 ?_
          exact v_iret X rq ⟨by decide, by decide⟩ rfl dX8_undo_93 ⟨_, rfl, Or.inr ⟨ini, sd, hini, rfl, ⟨hN, hV.new hsd.1 hsd.2.1 hsd.2.2 (fun y hy => hV.2.2.1 y (by rw [hini]; simp [hy])) hV.2.2.2, htx9, htxc, ((nx + 14) - 1) % 14, lp, ln, sp, lc, so, g_48, tl, di, kp, ik, sc, rd, li, (by rw [(sNew_spec sd.1 sd.2).1]; exact F_46), F_49, F_54, F_55, F_56, F_57, (by rw [(sNew_spec sd.1 sd.2).1]; exact T_47), F_51, F_52, F_53, hrow_50, hDb.1, hK, hS⟩⟩, (fun i hi => by rw [hfr_45 i (by omega) (by omega) (by omega)]; exact hfr i hi)⟩
        · refine v_aload_n X 0 dX8_undo_55 rfl ?_
          refine v_get X cls8 F_40 (by omega) 1 (by decide) m_443 rfl rfl dX8_undo_56 ?_
          refine v_iload_n X 1 dX8_undo_59 rfl ?_
          refine v_aload_n X 0 dX8_undo_60 rfl ?_
          refine v_get X cls8 F_40 (by omega) 3 (by decide) m_445 rfl rfl dX8_undo_61 ?_
          refine v_bipush X (v := nI 82) (by decide) dX8_undo_64 ?_
          refine v_aload_n X 0 dX8_undo_66 rfl ?_
          refine v_get X cls8 F_40 (by omega) 5 (by decide) m_495 rfl rfl dX8_undo_67 ?_
          refine v_mulN X dX8_undo_70 ?_
          refine v_iload_n X 1 dX8_undo_71 rfl ?_
          refine v_addN X dX8_undo_72 ?_
          refine v_iald X nI F_34 (by omega) (by omega) (by decide) dX8_undo_73 ?_
          refine v_iast X nI (di ((82 * (((nx + 14) - 1) % 14)) + i)) F_32 (by omega) (by omega) (by decide) dX8_undo_74 (fun M_58 hM_59 => ?_)
          have F_61 : M_58 103 = IR k 90 sc := by rw [hM_59, mup_n (by omega)]; exact F_37
          have F_62 : M_58 104 = IR k 82 rd := by rw [hM_59, mup_n (by omega)]; exact F_38
          have F_63 : M_58 105 = IR k 24 li := by rw [hM_59, mup_n (by omega)]; exact F_39
          have F_64 : M_58 93 = RO k 0 ini.length (((nx + 14) - 1) % 14) (tA ((build cs ds).1)) (tT ((build cs ds).1)) (((build cs ds).1).length) ((tL (build cs ds).1)) ((build cs ds).2) lp ln tx.length sp lc so := by rw [hM_59, mup_n (by omega)]; exact F_40
          have F_65 : M_58 94 = IR k 82 (va_up h i (di ((82 * (((nx + 14) - 1) % 14)) + i))) := by rw [hM_59]; exact mup_s
          have F_66 : M_58 95 = IR k 82 tl := by rw [hM_59, mup_n (by omega)]; exact F_33
          have F_67 : M_58 96 = IR k 1148 di := by rw [hM_59, mup_n (by omega)]; exact F_34
          have F_68 : M_58 97 = IR k 164 kp := by rw [hM_59, mup_n (by omega)]; exact F_35
          have F_69 : M_58 98 = .inl (kZ k, 2, .inl (fun zq => bI (ik zq))) := by rw [hM_59, mup_n (by omega)]; exact F_36
          have P_70 : RtAt k M_58 (build cs ds).1 := P_41.fr (fun i h1 h2 => by rw [hM_59, mup_n (by omega)])
          refine v_iinc X (v := nI (i + 1)) 1 [(1, .int (nI (i + 1))), (0, .ref (ad k 93))] dX8_undo_75 rfl (nI_1 _) (by decide) rfl ?_
          refine v_goto X 49 dX8_undo_78 (by decide) ?_
          refine v_lv [1, 0] rfl ?_
          exact ih (i + 1) (va_up h i (di (82 * ((nx + 14 - 1) % 14) + i))) M_58 (by omega) (by omega) (ext_up (f := fun q => di (82 * ((nx + 14 - 1) % 14) + q)) hh) (fun i hi => by rw [hM_59, mup_n (by omega)]; exact hfr i hi) F_61 F_62 F_63 F_64 F_65 F_66 F_67 F_68 F_69 P_70
    refine v_lv [1, 0] rfl ?_
    exact L 83 0 nw M_30 (by omega) (by omega) (fun q hq => absurd hq (by omega)) (fun i hi => by rw [hM_31, mup_n (by omega), hM_18, mup_n (by omega), hfr_4 i (by omega)]) F_37 F_38 F_39 F_40 F_32 F_33 F_34 F_35 F_36 P_41
  · have hb := c_1
    refine v_iconst X (v := nI 1) (by decide) dX8_undo_8 ?_
    refine v_goto X 13 dX8_undo_9 (by decide) ?_
    refine v_callV X hCl hCR (c_X8_refused l k M w mem.length nx (tA ((build cs ds).1)) (tT ((build cs ds).1)) (((build cs ds).1).length) ((tL (build cs ds).1)) ((build cs ds).2) lp ln tx.length sp lc so 1 (by omega) F93 (by omega)) cls8 ⟨_, F93⟩ (by omega) mo_X8_refused m_458 m_508 m_509 m_510 m_465 (by decide) rfl rfl (Nat.le_of_ble_eq_true rfl) ⟨rfl, rfl⟩ ⟨by decide, by decide⟩ dX8_undo_13 (vI_in (fun r_75 M_71 hp_72 => ?_))
    obtain ⟨he_76, F_74, hfr_73⟩ := hp_72
    subst he_76
    have F_77 : M_71 94 = IR k 82 nw := by rw [hfr_73 94 (by omega)]; exact F94
    have F_78 : M_71 95 = IR k 82 tl := by rw [hfr_73 95 (by omega)]; exact F95
    have F_79 : M_71 96 = IR k 1148 di := by rw [hfr_73 96 (by omega)]; exact F96
    have F_80 : M_71 97 = IR k 164 kp := by rw [hfr_73 97 (by omega)]; exact F97
    have F_81 : M_71 98 = .inl (kZ k, 2, .inl (fun zq => bI (ik zq))) := by rw [hfr_73 98 (by omega)]; exact F98
    have F_82 : M_71 103 = IR k 90 sc := by rw [hfr_73 103 (by omega)]; exact F103
    have F_83 : M_71 104 = IR k 82 rd := by rw [hfr_73 104 (by omega)]; exact F104
    have F_84 : M_71 105 = IR k 24 li := by rw [hfr_73 105 (by omega)]; exact F105
    have P_85 : RtAt k M_71 (build cs ds).1 := hT.fr (fun i h1 h2 => hfr_73 i (by omega))
    refine v_top (show (Value.int (bI (decide (0 < 1))) : Value) = .int (bI true) from congrArg _ (congrArg bI (by decide))) ?_
    refine v_ieqB X 21 dX8_undo_16 (by decide) (fun h => absurd h (by decide)) (fun _ => ?_)
    refine v_iconst X (v := nI 0) (by decide) dX8_undo_19 ?_
    exact v_iret X rq ⟨by decide, by decide⟩ rfl dX8_undo_20 ⟨_, rfl, Or.inl ⟨List.eq_nil_of_length_eq_zero hb, ⟨hN, hV, htx9, htxc, nx, lp, ln, sp, lc, so, nw, tl, di, kp, ik, sc, rd, li, F_74, F_77, F_78, F_79, F_80, F_81, P_85, F_82, F_83, F_84, hR, hD, hK, hS⟩⟩, (fun i hi => by rw [hfr_73 i (by omega)])⟩
set_option maxHeartbeats 4000000 in
set_option maxRecDepth 100000 in
theorem c_X8_save (l : Launch) (k : KX) (M : Mem) (w : Nat) (cs ds : List Nat) (mem : List SD) (sl : Nat → Option SD) (tx : List Nat) (x : Int32) (hRef : RefAt k M w cs ds mem sl tx) : CM l yX8_save cX8_save 3 ((some .int)) { frames := 1, cells := 0, slots := 0, locals := 25 } k [.ref (ad k 93), .int x] M (pI (fun r M' => ((inL x 2 = false ∧ RefAt k M' 1 cs ds mem sl tx) ∨ (∃ j, j < 2 ∧ x = nI j ∧ r = nI cs.length ∧ RefAt k M' 0 cs ds mem (va_up sl j (some (cs, ds))) tx)) ∧ FrR M M')) := by
  refine CM.of (by decide) (Nat.le_of_ble_eq_true rfl) (fun C X hCl hCR rq => ?_)
  show V C k 3 (0, 0) M 0 [(0, .ref (ad k 93)), (1, .int x)] []
  obtain ⟨hN, hV, htx9, htxc, nx, lp, ln, sp, lc, so, nw, tl, di, kp, ik, sc, rd, li, F93, F94, F95, F96, F97, F98, hT, F103, F104, F105, hR, hD, hK, hS⟩ := id hRef
  have ho2 : csOK cs := hV.1.1
  have hds : ∀ d ∈ ds, d < 16 := hV.1.2.1
  have hlc : cs.length ≤ 24 := ho2.1
  have hld : ds.length ≤ 8 := hV.1.2.2
  have hok := cAt_ok ho2
  have hr := hR.c
  have hTk := hT.2.1
  have hTA := hTk.A
  have hTT := hTk.T
  have hTl := hTk.le
  have htL : tL (build cs ds).1 = ds.length := hV.2.1
  have hcf : ∀ n, (build cs ds).2 = some n → n < 24 := fun n hn => by have := (build_ok hlc hds).2 n hn; omega
  refine v_aload_n X 0 dX8_save_0 rfl ?_
  refine v_iload_n X 1 dX8_save_1 rfl ?_
  refine v_i2l X (v := (x).toInt64) rfl dX8_save_2 ?_
  refine v_lconst X (v := (nI 0).toInt64) (by decide) dX8_save_3 ?_
  refine v_lconst X (v := (nI 1).toInt64) (by decide) dX8_save_4 ?_
  refine v_callS X hCl hCR (c_in_R l k M x 1) mo_X8_in m_459 m_506 m_507 m_465 (by decide) rfl rfl (Nat.le_of_ble_eq_true rfl) ⟨rfl, rfl⟩ ⟨by decide, by decide⟩ dX8_save_5 (vP_in ?_)
  refine v_top (show (Value.int (bI (inR x 1)) : Value) = .int (bI (inL x 2)) from congrArg _ (congrArg bI inR_1)) ?_
  refine v_ieqB X 15 dX8_save_8 (by decide) (fun c_1 => ?_) (fun c_1 => ?_)
  · have hb := c_1
    refine v_iconst X (v := nI 1) (by decide) dX8_save_15 ?_
    refine v_callV X hCl hCR (c_X8_refused l k M w mem.length nx (tA ((build cs ds).1)) (tT ((build cs ds).1)) (((build cs ds).1).length) ((tL (build cs ds).1)) ((build cs ds).2) lp ln tx.length sp lc so 1 (by omega) F93 (by omega)) cls8 ⟨_, F93⟩ (by omega) mo_X8_refused m_458 m_508 m_509 m_510 m_465 (by decide) rfl rfl (Nat.le_of_ble_eq_true rfl) ⟨rfl, rfl⟩ ⟨by decide, by decide⟩ dX8_save_16 (vI_in (fun r_6 M_2 hp_3 => ?_))
    obtain ⟨he_7, F_5, hfr_4⟩ := hp_3
    subst he_7
    have F_8 : M_2 94 = IR k 82 nw := by rw [hfr_4 94 (by omega)]; exact F94
    have F_9 : M_2 95 = IR k 82 tl := by rw [hfr_4 95 (by omega)]; exact F95
    have F_10 : M_2 96 = IR k 1148 di := by rw [hfr_4 96 (by omega)]; exact F96
    have F_11 : M_2 97 = IR k 164 kp := by rw [hfr_4 97 (by omega)]; exact F97
    have F_12 : M_2 98 = .inl (kZ k, 2, .inl (fun zq => bI (ik zq))) := by rw [hfr_4 98 (by omega)]; exact F98
    have F_13 : M_2 103 = IR k 90 sc := by rw [hfr_4 103 (by omega)]; exact F103
    have F_14 : M_2 104 = IR k 82 rd := by rw [hfr_4 104 (by omega)]; exact F104
    have F_15 : M_2 105 = IR k 24 li := by rw [hfr_4 105 (by omega)]; exact F105
    have P_16 : RtAt k M_2 (build cs ds).1 := hT.fr (fun i h1 h2 => hfr_4 i (by omega))
    refine v_top (show (Value.int (bI (decide (0 < 1))) : Value) = .int (bI true) from congrArg _ (congrArg bI (by decide))) ?_
    refine v_ieqB X 24 dX8_save_19 (by decide) (fun h => absurd h (by decide)) (fun _ => ?_)
    refine v_iconst X (v := nI 0) (by decide) dX8_save_22 ?_
    exact v_iret X rq ⟨by decide, by decide⟩ rfl dX8_save_23 ⟨_, rfl, Or.inl ⟨hb, ⟨hN, hV, htx9, htxc, nx, lp, ln, sp, lc, so, nw, tl, di, kp, ik, sc, rd, li, F_5, F_8, F_9, F_10, F_11, F_12, P_16, F_13, F_14, F_15, hR, hD, hK, hS⟩⟩, (fun i hi => by rw [hfr_4 i (by omega)])⟩
  · have hb := c_1
    refine v_iconst X (v := nI 0) (by decide) dX8_save_11 ?_
    refine v_goto X 16 dX8_save_12 (by decide) ?_
    refine v_callV X hCl hCR (c_X8_refused l k M w mem.length nx (tA ((build cs ds).1)) (tT ((build cs ds).1)) (((build cs ds).1).length) ((tL (build cs ds).1)) ((build cs ds).2) lp ln tx.length sp lc so 0 (by omega) F93 (by omega)) cls8 ⟨_, F93⟩ (by omega) mo_X8_refused m_458 m_508 m_509 m_510 m_465 (by decide) rfl rfl (Nat.le_of_ble_eq_true rfl) ⟨rfl, rfl⟩ ⟨by decide, by decide⟩ dX8_save_16 (vI_in (fun r_21 M_17 hp_18 => ?_))
    obtain ⟨he_22, F_20, hfr_19⟩ := hp_18
    subst he_22
    have F_23 : M_17 94 = IR k 82 nw := by rw [hfr_19 94 (by omega)]; exact F94
    have F_24 : M_17 95 = IR k 82 tl := by rw [hfr_19 95 (by omega)]; exact F95
    have F_25 : M_17 96 = IR k 1148 di := by rw [hfr_19 96 (by omega)]; exact F96
    have F_26 : M_17 97 = IR k 164 kp := by rw [hfr_19 97 (by omega)]; exact F97
    have F_27 : M_17 98 = .inl (kZ k, 2, .inl (fun zq => bI (ik zq))) := by rw [hfr_19 98 (by omega)]; exact F98
    have F_28 : M_17 103 = IR k 90 sc := by rw [hfr_19 103 (by omega)]; exact F103
    have F_29 : M_17 104 = IR k 82 rd := by rw [hfr_19 104 (by omega)]; exact F104
    have F_30 : M_17 105 = IR k 24 li := by rw [hfr_19 105 (by omega)]; exact F105
    have P_31 : RtAt k M_17 (build cs ds).1 := hT.fr (fun i h1 h2 => hfr_19 i (by omega))
    refine v_top (show (Value.int (bI (decide (0 < 0))) : Value) = .int (bI false) from congrArg _ (congrArg bI (by decide))) ?_
    refine v_ieqB X 24 dX8_save_19 (by decide) (fun _ => ?_) (fun h => absurd h (by decide))
    obtain ⟨j, hj, rfl⟩ := inL_of (by omega) hb
    refine v_aload_n X 0 dX8_save_24 rfl ?_
    refine v_get X cls8 F_20 (by omega) 7 (by decide) m_447 rfl rfl dX8_save_25 ?_
    refine v_iload_n X 1 dX8_save_28 rfl ?_
    refine v_iconst X (v := bI true) (by decide) dX8_save_29 ?_
    refine v_zast X true F_27 (by omega) (by omega) (by decide) dX8_save_30 (fun M_32 hM_33 => ?_)
    have F_34 : M_32 94 = IR k 82 nw := by rw [hM_33, mup_n (by omega)]; exact F_23
    have F_35 : M_32 95 = IR k 82 tl := by rw [hM_33, mup_n (by omega)]; exact F_24
    have F_36 : M_32 96 = IR k 1148 di := by rw [hM_33, mup_n (by omega)]; exact F_25
    have F_37 : M_32 97 = IR k 164 kp := by rw [hM_33, mup_n (by omega)]; exact F_26
    have F_38 : M_32 98 = .inl (kZ k, 2, .inl (fun zq => bI (va_up ik j true zq))) := by rw [hM_33]; exact mup_s
    have F_39 : M_32 103 = IR k 90 sc := by rw [hM_33, mup_n (by omega)]; exact F_28
    have F_40 : M_32 104 = IR k 82 rd := by rw [hM_33, mup_n (by omega)]; exact F_29
    have F_41 : M_32 105 = IR k 24 li := by rw [hM_33, mup_n (by omega)]; exact F_30
    have F_42 : M_32 93 = RO k 0 mem.length nx (tA ((build cs ds).1)) (tT ((build cs ds).1)) (((build cs ds).1).length) ((tL (build cs ds).1)) ((build cs ds).2) lp ln tx.length sp lc so := by rw [hM_33, mup_n (by omega)]; exact F_20
    have P_43 : RtAt k M_32 (build cs ds).1 := P_31.fr (fun i h1 h2 => by rw [hM_33, mup_n (by omega)])
    refine v_iconst X (v := nI 0) (by decide) dX8_save_31 ?_
    refine v_istore_n X [(2, .int (nI 0)), (0, .ref (ad k 93)), (1, .int (nI j))] dX8_save_32 (by decide) rfl ?_
    have L : ∀ (fu : Nat) (i : Nat) (k2 : Nat → Nat) (M1 : Mem), 82 - i < fu → (i ≤ 82) → (∀ x, k2 x = if 82 * j ≤ x ∧ x < 82 * j + i then nw (x - 82 * j) else kp x) → (FrR M M1) → M1 103 = IR k 90 sc → M1 104 = IR k 82 rd → M1 105 = IR k 24 li → M1 93 = RO k 0 mem.length nx (tA ((build cs ds).1)) (tT ((build cs ds).1)) (((build cs ds).1).length) ((tL (build cs ds).1)) ((build cs ds).2) lp ln tx.length sp lc so → M1 94 = IR k 82 nw → M1 95 = IR k 82 tl → M1 96 = IR k 1148 di → M1 97 = IR k 164 k2 → M1 98 = .inl (kZ k, 2, .inl (fun zq => bI (va_up ik j true zq))) → RtAt k M1 (build cs ds).1 → V C k 3 (0, 0) M1 33 [(0, .ref (ad k 93)), (1, .int (nI j)), (2, .int (nI i))] [] := by
      intro fu
      induction fu with
      | zero => intro i k2 M1 hfu; exact absurd hfu (Nat.not_lt_zero _)
      | succ fu ih =>
        intro i k2 M1 hfu hi hk2 hfr F_39 F_40 F_41 F_42 F_34 F_35 F_36 F_37 F_38 P_43
        refine v_iload_n X 2 dX8_save_33 rfl ?_
        refine v_bipush X (v := nI 82) (by decide) dX8_save_34 ?_
        refine v_cgeN X 62 (by omega) (by omega) dX8_save_36 (by decide) (fun c_44 => ?_) (fun c_44 => ?_)
        · refine v_aload_n X 0 dX8_save_62 rfl ?_
          refine v_get X cls8 F_42 (by omega) 1 (by decide) m_443 rfl rfl dX8_save_63 ?_
          refine v_iconst X (v := nI 0) (by decide) dX8_save_66 ?_
          refine v_iald X nI F_34 (by omega) (by omega) (by decide) dX8_save_67 ?_
          exact v_iret X rq ⟨by decide, by decide⟩ rfl dX8_save_68 ⟨_, rfl, Or.inr ⟨j, hj, rfl, congrArg nI hR.1, ⟨hN, ⟨hV.1, hV.2.1, hV.2.2.1, fun i s h => by by_cases e : i = j; (rw [e, up_s] at h; rw [← Option.some.inj h]; exact hV.1); (rw [up_n _ _ e] at h; exact hV.2.2.2 i s h)⟩, htx9, htxc, nx, lp, ln, sp, lc, so, nw, tl, di, k2, va_up ik j true, sc, rd, li, F_42, F_34, F_35, F_36, F_37, F_38, P_43, F_39, F_40, F_41, hR, hD, (hK.put hV.2.2.2 hV.1 hR (by rw [show i = 82 by omega] at hk2; exact hk2)), hS⟩⟩, hfr⟩
        · refine v_aload_n X 0 dX8_save_39 rfl ?_
          refine v_get X cls8 F_42 (by omega) 6 (by decide) m_446 rfl rfl dX8_save_40 ?_
          refine v_bipush X (v := nI 82) (by decide) dX8_save_43 ?_
          refine v_iload_n X 1 dX8_save_45 rfl ?_
          refine v_mulN X dX8_save_46 ?_
          refine v_iload_n X 2 dX8_save_47 rfl ?_
          refine v_addN X dX8_save_48 ?_
          refine v_aload_n X 0 dX8_save_49 rfl ?_
          refine v_get X cls8 F_42 (by omega) 1 (by decide) m_443 rfl rfl dX8_save_50 ?_
          refine v_iload_n X 2 dX8_save_53 rfl ?_
          refine v_iald X nI F_34 (by omega) (by omega) (by decide) dX8_save_54 ?_
          refine v_iast X nI (nw i) F_37 (by omega) (by omega) (by decide) dX8_save_55 (fun M_45 hM_46 => ?_)
          have F_48 : M_45 103 = IR k 90 sc := by rw [hM_46, mup_n (by omega)]; exact F_39
          have F_49 : M_45 104 = IR k 82 rd := by rw [hM_46, mup_n (by omega)]; exact F_40
          have F_50 : M_45 105 = IR k 24 li := by rw [hM_46, mup_n (by omega)]; exact F_41
          have F_51 : M_45 93 = RO k 0 mem.length nx (tA ((build cs ds).1)) (tT ((build cs ds).1)) (((build cs ds).1).length) ((tL (build cs ds).1)) ((build cs ds).2) lp ln tx.length sp lc so := by rw [hM_46, mup_n (by omega)]; exact F_42
          have F_52 : M_45 94 = IR k 82 nw := by rw [hM_46, mup_n (by omega)]; exact F_34
          have F_53 : M_45 95 = IR k 82 tl := by rw [hM_46, mup_n (by omega)]; exact F_35
          have F_54 : M_45 96 = IR k 1148 di := by rw [hM_46, mup_n (by omega)]; exact F_36
          have F_55 : M_45 97 = IR k 164 (va_up k2 ((82 * j) + i) (nw i)) := by rw [hM_46]; exact mup_s
          have F_56 : M_45 98 = .inl (kZ k, 2, .inl (fun zq => bI (va_up ik j true zq))) := by rw [hM_46, mup_n (by omega)]; exact F_38
          have P_57 : RtAt k M_45 (build cs ds).1 := P_43.fr (fun i h1 h2 => by rw [hM_46, mup_n (by omega)])
          refine v_iinc X (v := nI (i + 1)) 2 [(2, .int (nI (i + 1))), (0, .ref (ad k 93)), (1, .int (nI j))] dX8_save_56 rfl (nI_1 _) (by decide) rfl ?_
          refine v_goto X 33 dX8_save_59 (by decide) ?_
          refine v_lv [1, 2, 0] rfl ?_
          exact ih (i + 1) (va_up k2 (82 * j + i) (nw i)) M_45 (by omega) (by omega) (ke_step (by omega) hk2) (fun i hi => by rw [hM_46, mup_n (by omega)]; exact hfr i hi) F_48 F_49 F_50 F_51 F_52 F_53 F_54 F_55 F_56 P_57
    refine v_lv [1, 2, 0] rfl ?_
    exact L 83 0 kp M_32 (by omega) (by omega) (fun x => by rw [if_neg (by omega)]) (fun i hi => by rw [hM_33, mup_n (by omega), hfr_19 i (by omega)]) F_39 F_40 F_41 F_42 F_34 F_35 F_36 F_37 F_38 P_43
set_option maxHeartbeats 4000000 in
set_option maxRecDepth 100000 in
theorem c_X8_restore (l : Launch) (k : KX) (M : Mem) (w : Nat) (cs ds : List Nat) (mem : List SD) (sl : Nat → Option SD) (tx : List Nat) (x : Int32) (hRef : RefAt k M w cs ds mem sl tx) : CM l yX8_restore cX8_restore 3 ((some .int)) { frames := 5, cells := 0, slots := 0, locals := 117 } k [.ref (ad k 93), .int x] M (pI (fun r M' => ((inL x 2 = false ∧ RefAt k M' 1 cs ds mem sl tx) ∨ (∃ j, j < 2 ∧ x = nI j ∧ sl j = none ∧ RefAt k M' 2 cs ds mem sl tx) ∨ (∃ (j : Nat) (sd : SD), j < 2 ∧ x = nI j ∧ sl j = some sd ∧ r = nI sd.1.length ∧ RefAt k M' 0 sd.1 (sNew sd.1 sd.2) ([]) sl tx)) ∧ FrR M M')) := by
  refine CM.of (by decide) (Nat.le_of_ble_eq_true rfl) (fun C X hCl hCR rq => ?_)
  show V C k 3 (0, 0) M 0 [(0, .ref (ad k 93)), (1, .int x)] []
  obtain ⟨hN, hV, htx9, htxc, nx, lp, ln, sp, lc, so, nw, tl, di, kp, ik, sc, rd, li, F93, F94, F95, F96, F97, F98, hT, F103, F104, F105, hR, hD, hK, hS⟩ := id hRef
  have ho2 : csOK cs := hV.1.1
  have hds : ∀ d ∈ ds, d < 16 := hV.1.2.1
  have hlc : cs.length ≤ 24 := ho2.1
  have hld : ds.length ≤ 8 := hV.1.2.2
  have hok := cAt_ok ho2
  have hr := hR.c
  have hTk := hT.2.1
  have hTA := hTk.A
  have hTT := hTk.T
  have hTl := hTk.le
  have htL : tL (build cs ds).1 = ds.length := hV.2.1
  have hcf : ∀ n, (build cs ds).2 = some n → n < 24 := fun n hn => by have := (build_ok hlc hds).2 n hn; omega
  refine v_aload_n X 0 dX8_restore_0 rfl ?_
  refine v_iload_n X 1 dX8_restore_1 rfl ?_
  refine v_i2l X (v := (x).toInt64) rfl dX8_restore_2 ?_
  refine v_lconst X (v := (nI 0).toInt64) (by decide) dX8_restore_3 ?_
  refine v_lconst X (v := (nI 1).toInt64) (by decide) dX8_restore_4 ?_
  refine v_callS X hCl hCR (c_in_R l k M x 1) mo_X8_in m_459 m_506 m_507 m_465 (by decide) rfl rfl (Nat.le_of_ble_eq_true rfl) ⟨rfl, rfl⟩ ⟨by decide, by decide⟩ dX8_restore_5 (vP_in ?_)
  refine v_top (show (Value.int (bI (inR x 1)) : Value) = .int (bI (inL x 2)) from congrArg _ (congrArg bI inR_1)) ?_
  refine v_ineB X 15 dX8_restore_8 (by decide) (fun c_1 => ?_) (fun c_1 => ?_)
  · have hb := c_1
    obtain ⟨j, hj, rfl⟩ := inL_of (by omega) hb
    refine v_aload_n X 0 dX8_restore_15 rfl ?_
    refine v_get X cls8 F93 (by omega) 7 (by decide) m_447 rfl rfl dX8_restore_16 ?_
    refine v_iload_n X 1 dX8_restore_19 rfl ?_
    refine v_zald X F98 (by omega) (by omega) (by decide) dX8_restore_20 ?_
    refine v_ineB X 28 dX8_restore_21 (by decide) (fun c_2 => ?_) (fun c_2 => ?_)
    · have hik := c_2
      rw [(hK j hj).1] at hik
      obtain ⟨sd, hsd⟩ := Option.isSome_iff_exists.mp hik
      have hso := hV.2.2.2 j sd hsd
      refine v_iconst X (v := nI 0) (by decide) dX8_restore_28 ?_
      refine v_callV X hCl hCR (c_X8_refused l k M w mem.length nx (tA ((build cs ds).1)) (tT ((build cs ds).1)) (((build cs ds).1).length) ((tL (build cs ds).1)) ((build cs ds).2) lp ln tx.length sp lc so 0 (by omega) F93 (by omega)) cls8 ⟨_, F93⟩ (by omega) mo_X8_refused m_458 m_508 m_509 m_510 m_465 (by decide) rfl rfl (Nat.le_of_ble_eq_true rfl) ⟨rfl, rfl⟩ ⟨by decide, by decide⟩ dX8_restore_29 (vI_in (fun r_7 M_3 hp_4 => ?_))
      obtain ⟨he_8, F_6, hfr_5⟩ := hp_4
      subst he_8
      have F_9 : M_3 94 = IR k 82 nw := by rw [hfr_5 94 (by omega)]; exact F94
      have F_10 : M_3 95 = IR k 82 tl := by rw [hfr_5 95 (by omega)]; exact F95
      have F_11 : M_3 96 = IR k 1148 di := by rw [hfr_5 96 (by omega)]; exact F96
      have F_12 : M_3 97 = IR k 164 kp := by rw [hfr_5 97 (by omega)]; exact F97
      have F_13 : M_3 98 = .inl (kZ k, 2, .inl (fun zq => bI (ik zq))) := by rw [hfr_5 98 (by omega)]; exact F98
      have F_14 : M_3 103 = IR k 90 sc := by rw [hfr_5 103 (by omega)]; exact F103
      have F_15 : M_3 104 = IR k 82 rd := by rw [hfr_5 104 (by omega)]; exact F104
      have F_16 : M_3 105 = IR k 24 li := by rw [hfr_5 105 (by omega)]; exact F105
      have P_17 : RtAt k M_3 (build cs ds).1 := hT.fr (fun i h1 h2 => hfr_5 i (by omega))
      refine v_top (show (Value.int (bI (decide (0 < 0))) : Value) = .int (bI false) from congrArg _ (congrArg bI (by decide))) ?_
      refine v_ieqB X 37 dX8_restore_32 (by decide) (fun _ => ?_) (fun h => absurd h (by decide))
      refine v_iconst X (v := nI 0) (by decide) dX8_restore_37 ?_
      refine v_istore_n X [(2, .int (nI 0)), (0, .ref (ad k 93)), (1, .int (nI j))] dX8_restore_38 (by decide) rfl ?_
      have L : ∀ (fu : Nat) (i : Nat) (h : Nat → Nat) (M1 : Mem), 82 - i < fu → (i ≤ 82) → (∀ q, q < i → h q = kp (82 * j + q)) → (FrR M M1) → M1 103 = IR k 90 sc → M1 104 = IR k 82 rd → M1 105 = IR k 24 li → M1 93 = RO k 0 mem.length nx (tA ((build cs ds).1)) (tT ((build cs ds).1)) (((build cs ds).1).length) ((tL (build cs ds).1)) ((build cs ds).2) lp ln tx.length sp lc so → M1 94 = IR k 82 h → M1 95 = IR k 82 tl → M1 96 = IR k 1148 di → M1 97 = IR k 164 kp → M1 98 = .inl (kZ k, 2, .inl (fun zq => bI (ik zq))) → RtAt k M1 (build cs ds).1 → V C k 3 (0, 0) M1 39 [(0, .ref (ad k 93)), (1, .int (nI j)), (2, .int (nI i))] [] := by
        intro fu
        induction fu with
        | zero => intro i h M1 hfu; exact absurd hfu (Nat.not_lt_zero _)
        | succ fu ih =>
          intro i h M1 hfu hi hh hfr F_14 F_15 F_16 F_6 F_9 F_10 F_11 F_12 F_13 P_17
          refine v_iload_n X 2 dX8_restore_39 rfl ?_
          refine v_bipush X (v := nI 82) (by decide) dX8_restore_40 ?_
          refine v_cgeN X 68 (by omega) (by omega) dX8_restore_42 (by decide) (fun c_18 => ?_) (fun c_18 => ?_)
          · have hrx : rowOK h sd.1 sd.2 := ((hK j hj).2 sd hsd).cong hso.1.1 hso.2.2 (fun q hq => hh q (by omega))
            refine v_aload_n X 0 dX8_restore_68 rfl ?_
            refine v_iconst X (v := nI 0) (by decide) dX8_restore_69 ?_
            refine v_put X cls8 F_6 (by omega) 4 (by decide) m_496 rfl rfl rfl rfl (Nat.le_of_ble_eq_true rfl) dX8_restore_70 (fun M_19 hM_20 => ?_)
            have F_21 : M_19 103 = IR k 90 sc := by rw [hM_20, mup_n (by omega)]; exact F_14
            have F_22 : M_19 104 = IR k 82 rd := by rw [hM_20, mup_n (by omega)]; exact F_15
            have F_23 : M_19 105 = IR k 24 li := by rw [hM_20, mup_n (by omega)]; exact F_16
            have F_24 : M_19 93 = RO k 0 0 nx (tA ((build cs ds).1)) (tT ((build cs ds).1)) (((build cs ds).1).length) ((tL (build cs ds).1)) ((build cs ds).2) lp ln tx.length sp lc so := by rw [hM_20]; exact mup_s
            have F_25 : M_19 94 = IR k 82 h := by rw [hM_20, mup_n (by omega)]; exact F_9
            have F_26 : M_19 95 = IR k 82 tl := by rw [hM_20, mup_n (by omega)]; exact F_10
            have F_27 : M_19 96 = IR k 1148 di := by rw [hM_20, mup_n (by omega)]; exact F_11
            have F_28 : M_19 97 = IR k 164 kp := by rw [hM_20, mup_n (by omega)]; exact F_12
            have F_29 : M_19 98 = .inl (kZ k, 2, .inl (fun zq => bI (ik zq))) := by rw [hM_20, mup_n (by omega)]; exact F_13
            have P_30 : RtAt k M_19 (build cs ds).1 := P_17.fr (fun i h1 h2 => by rw [hM_20, mup_n (by omega)])
            have F_31 : M_19 93 = RO k 0 (([] : List SD).length) nx (tA ((build cs ds).1)) (tT ((build cs ds).1)) (((build cs ds).1).length) ((tL (build cs ds).1)) ((build cs ds).2) lp ln tx.length sp lc so := F_24
            refine v_aload_n X 0 dX8_restore_73 rfl ?_
            refine v_aload_n X 0 dX8_restore_74 rfl ?_
            refine v_get X cls8 F_31 (by omega) 1 (by decide) m_443 rfl rfl dX8_restore_75 ?_
            refine v_callV X hCl hCR (c_X8_build l k M_19 0 (([] : List SD).length) nx (tA ((build cs ds).1)) (tT ((build cs ds).1)) (((build cs ds).1).length) ((tL (build cs ds).1)) ((build cs ds).2) lp ln tx.length sp lc so ((build cs ds).1) 94 h sd.1 sd.2 (by omega) F_31 P_30 (by omega) F_25 hrx hso.1 hso.2.1 hso.2.2) cls8 ⟨_, F_31⟩ (by omega) mo_X8_build m_494 m_499 m_500 m_501 m_465 (by decide) rfl rfl (Nat.le_of_ble_eq_true rfl) ⟨rfl, rfl⟩ ⟨by decide, by decide⟩ dX8_restore_78 (vV_in (fun M_32 hp_33 => ?_))
            obtain ⟨F_35, T_36, ⟨g_37, F_38, hrow_39⟩, hfr_34⟩ := hp_33
            have F_40 : M_32 103 = IR k 90 sc := by rw [hfr_34 103 (by omega) (by omega) (by omega)]; exact F_21
            have F_41 : M_32 104 = IR k 82 rd := by rw [hfr_34 104 (by omega) (by omega) (by omega)]; exact F_22
            have F_42 : M_32 105 = IR k 24 li := by rw [hfr_34 105 (by omega) (by omega) (by omega)]; exact F_23
            have F_43 : M_32 95 = IR k 82 tl := by rw [hfr_34 95 (by omega) (by omega) (by omega)]; exact F_26
            have F_44 : M_32 96 = IR k 1148 di := by rw [hfr_34 96 (by omega) (by omega) (by omega)]; exact F_27
            have F_45 : M_32 97 = IR k 164 kp := by rw [hfr_34 97 (by omega) (by omega) (by omega)]; exact F_28
            have F_46 : M_32 98 = .inl (kZ k, 2, .inl (fun zq => bI (ik zq))) := by rw [hfr_34 98 (by omega) (by omega) (by omega)]; exact F_29
            refine v_aload_n X 0 dX8_restore_81 rfl ?_
            refine v_get X cls8 F_35 (by omega) 1 (by decide) m_443 rfl rfl dX8_restore_82 ?_
            refine v_iconst X (v := nI 0) (by decide) dX8_restore_85 ?_
            refine v_iald X nI F_38 (by omega) (by omega) (by decide) dX8_restore_86 ?_
            exact v_iret X rq ⟨by decide, by decide⟩ rfl dX8_restore_87 ⟨_, rfl, Or.inr (Or.inr ⟨j, sd, hj, rfl, hsd, congrArg nI hrow_39.1, ⟨hN, hV.new hso.1 hso.2.1 hso.2.2 (fun y hy => by cases hy) hV.2.2.2, htx9, htxc, nx, lp, ln, sp, lc, so, g_37, tl, di, kp, ik, sc, rd, li, (by rw [(sNew_spec sd.1 sd.2).1]; exact F_35), F_38, F_43, F_44, F_45, F_46, (by rw [(sNew_spec sd.1 sd.2).1]; exact T_36), F_40, F_41, F_42, hrow_39, (DiP.nil hD.1), hK, hS⟩⟩), (fun i hi => by rw [hfr_34 i (by omega) (by omega) (by omega), hM_20, mup_n (by omega)]; exact hfr i hi)⟩
          · refine v_aload_n X 0 dX8_restore_45 rfl ?_
            refine v_get X cls8 F_6 (by omega) 1 (by decide) m_443 rfl rfl dX8_restore_46 ?_
            refine v_iload_n X 2 dX8_restore_49 rfl ?_
            refine v_aload_n X 0 dX8_restore_50 rfl ?_
            refine v_get X cls8 F_6 (by omega) 6 (by decide) m_446 rfl rfl dX8_restore_51 ?_
            refine v_bipush X (v := nI 82) (by decide) dX8_restore_54 ?_
            refine v_iload_n X 1 dX8_restore_56 rfl ?_
            refine v_mulN X dX8_restore_57 ?_
            refine v_iload_n X 2 dX8_restore_58 rfl ?_
            refine v_addN X dX8_restore_59 ?_
            refine v_iald X nI F_12 (by omega) (by omega) (by decide) dX8_restore_60 ?_
            refine v_iast X nI (kp ((82 * j) + i)) F_9 (by omega) (by omega) (by decide) dX8_restore_61 (fun M_47 hM_48 => ?_)
            have F_50 : M_47 103 = IR k 90 sc := by rw [hM_48, mup_n (by omega)]; exact F_14
            have F_51 : M_47 104 = IR k 82 rd := by rw [hM_48, mup_n (by omega)]; exact F_15
            have F_52 : M_47 105 = IR k 24 li := by rw [hM_48, mup_n (by omega)]; exact F_16
            have F_53 : M_47 93 = RO k 0 mem.length nx (tA ((build cs ds).1)) (tT ((build cs ds).1)) (((build cs ds).1).length) ((tL (build cs ds).1)) ((build cs ds).2) lp ln tx.length sp lc so := by rw [hM_48, mup_n (by omega)]; exact F_6
            have F_54 : M_47 94 = IR k 82 (va_up h i (kp ((82 * j) + i))) := by rw [hM_48]; exact mup_s
            have F_55 : M_47 95 = IR k 82 tl := by rw [hM_48, mup_n (by omega)]; exact F_10
            have F_56 : M_47 96 = IR k 1148 di := by rw [hM_48, mup_n (by omega)]; exact F_11
            have F_57 : M_47 97 = IR k 164 kp := by rw [hM_48, mup_n (by omega)]; exact F_12
            have F_58 : M_47 98 = .inl (kZ k, 2, .inl (fun zq => bI (ik zq))) := by rw [hM_48, mup_n (by omega)]; exact F_13
            have P_59 : RtAt k M_47 (build cs ds).1 := P_17.fr (fun i h1 h2 => by rw [hM_48, mup_n (by omega)])
            refine v_iinc X (v := nI (i + 1)) 2 [(2, .int (nI (i + 1))), (0, .ref (ad k 93)), (1, .int (nI j))] dX8_restore_62 rfl (nI_1 _) (by decide) rfl ?_
            refine v_goto X 39 dX8_restore_65 (by decide) ?_
            refine v_lv [1, 2, 0] rfl ?_
            exact ih (i + 1) (va_up h i (kp (82 * j + i))) M_47 (by omega) (by omega) (ext_up (f := fun q => kp (82 * j + q)) hh) (fun i hi => by rw [hM_48, mup_n (by omega)]; exact hfr i hi) F_50 F_51 F_52 F_53 F_54 F_55 F_56 F_57 F_58 P_59
      refine v_lv [1, 2, 0] rfl ?_
      exact L 83 0 nw M_3 (by omega) (by omega) (fun q hq => absurd hq (by omega)) (fun i hi => by rw [hfr_5 i (by omega)]) F_14 F_15 F_16 F_6 F_9 F_10 F_11 F_12 F_13 P_17
    · have hik := c_2
      rw [(hK j hj).1] at hik
      refine v_iconst X (v := nI 2) (by decide) dX8_restore_24 ?_
      refine v_goto X 29 dX8_restore_25 (by decide) ?_
      refine v_callV X hCl hCR (c_X8_refused l k M w mem.length nx (tA ((build cs ds).1)) (tT ((build cs ds).1)) (((build cs ds).1).length) ((tL (build cs ds).1)) ((build cs ds).2) lp ln tx.length sp lc so 2 (by omega) F93 (by omega)) cls8 ⟨_, F93⟩ (by omega) mo_X8_refused m_458 m_508 m_509 m_510 m_465 (by decide) rfl rfl (Nat.le_of_ble_eq_true rfl) ⟨rfl, rfl⟩ ⟨by decide, by decide⟩ dX8_restore_29 (vI_in (fun r_64 M_60 hp_61 => ?_))
      obtain ⟨he_65, F_63, hfr_62⟩ := hp_61
      subst he_65
      have F_66 : M_60 94 = IR k 82 nw := by rw [hfr_62 94 (by omega)]; exact F94
      have F_67 : M_60 95 = IR k 82 tl := by rw [hfr_62 95 (by omega)]; exact F95
      have F_68 : M_60 96 = IR k 1148 di := by rw [hfr_62 96 (by omega)]; exact F96
      have F_69 : M_60 97 = IR k 164 kp := by rw [hfr_62 97 (by omega)]; exact F97
      have F_70 : M_60 98 = .inl (kZ k, 2, .inl (fun zq => bI (ik zq))) := by rw [hfr_62 98 (by omega)]; exact F98
      have F_71 : M_60 103 = IR k 90 sc := by rw [hfr_62 103 (by omega)]; exact F103
      have F_72 : M_60 104 = IR k 82 rd := by rw [hfr_62 104 (by omega)]; exact F104
      have F_73 : M_60 105 = IR k 24 li := by rw [hfr_62 105 (by omega)]; exact F105
      have P_74 : RtAt k M_60 (build cs ds).1 := hT.fr (fun i h1 h2 => hfr_62 i (by omega))
      refine v_top (show (Value.int (bI (decide (0 < 2))) : Value) = .int (bI true) from congrArg _ (congrArg bI (by decide))) ?_
      refine v_ieqB X 37 dX8_restore_32 (by decide) (fun h => absurd h (by decide)) (fun _ => ?_)
      refine v_iconst X (v := nI 0) (by decide) dX8_restore_35 ?_
      exact v_iret X rq ⟨by decide, by decide⟩ rfl dX8_restore_36 ⟨_, rfl, Or.inr (Or.inl ⟨j, hj, rfl, by simpa using hik, ⟨hN, hV, htx9, htxc, nx, lp, ln, sp, lc, so, nw, tl, di, kp, ik, sc, rd, li, F_63, F_66, F_67, F_68, F_69, F_70, P_74, F_71, F_72, F_73, hR, hD, hK, hS⟩⟩), (fun i hi => by rw [hfr_62 i (by omega)])⟩
  · have hb := c_1
    refine v_iconst X (v := nI 1) (by decide) dX8_restore_11 ?_
    refine v_goto X 29 dX8_restore_12 (by decide) ?_
    refine v_callV X hCl hCR (c_X8_refused l k M w mem.length nx (tA ((build cs ds).1)) (tT ((build cs ds).1)) (((build cs ds).1).length) ((tL (build cs ds).1)) ((build cs ds).2) lp ln tx.length sp lc so 1 (by omega) F93 (by omega)) cls8 ⟨_, F93⟩ (by omega) mo_X8_refused m_458 m_508 m_509 m_510 m_465 (by decide) rfl rfl (Nat.le_of_ble_eq_true rfl) ⟨rfl, rfl⟩ ⟨by decide, by decide⟩ dX8_restore_29 (vI_in (fun r_79 M_75 hp_76 => ?_))
    obtain ⟨he_80, F_78, hfr_77⟩ := hp_76
    subst he_80
    have F_81 : M_75 94 = IR k 82 nw := by rw [hfr_77 94 (by omega)]; exact F94
    have F_82 : M_75 95 = IR k 82 tl := by rw [hfr_77 95 (by omega)]; exact F95
    have F_83 : M_75 96 = IR k 1148 di := by rw [hfr_77 96 (by omega)]; exact F96
    have F_84 : M_75 97 = IR k 164 kp := by rw [hfr_77 97 (by omega)]; exact F97
    have F_85 : M_75 98 = .inl (kZ k, 2, .inl (fun zq => bI (ik zq))) := by rw [hfr_77 98 (by omega)]; exact F98
    have F_86 : M_75 103 = IR k 90 sc := by rw [hfr_77 103 (by omega)]; exact F103
    have F_87 : M_75 104 = IR k 82 rd := by rw [hfr_77 104 (by omega)]; exact F104
    have F_88 : M_75 105 = IR k 24 li := by rw [hfr_77 105 (by omega)]; exact F105
    have P_89 : RtAt k M_75 (build cs ds).1 := hT.fr (fun i h1 h2 => hfr_77 i (by omega))
    refine v_top (show (Value.int (bI (decide (0 < 1))) : Value) = .int (bI true) from congrArg _ (congrArg bI (by decide))) ?_
    refine v_ieqB X 37 dX8_restore_32 (by decide) (fun h => absurd h (by decide)) (fun _ => ?_)
    refine v_iconst X (v := nI 0) (by decide) dX8_restore_35 ?_
    exact v_iret X rq ⟨by decide, by decide⟩ rfl dX8_restore_36 ⟨_, rfl, Or.inl ⟨hb, ⟨hN, hV, htx9, htxc, nx, lp, ln, sp, lc, so, nw, tl, di, kp, ik, sc, rd, li, F_78, F_81, F_82, F_83, F_84, F_85, P_89, F_86, F_87, F_88, hR, hD, hK, hS⟩⟩, (fun i hi => by rw [hfr_77 i (by omega)])⟩
