set_option maxHeartbeats 4000000 in
set_option maxRecDepth 100000 in
theorem c_X8_refused (l : Launch) (k : KX) (M : Mem) (rf ac nx as ts tz lv : Nat) (cf : Option Nat) (lp ln sz sp lc : Nat) (so : Bool) (wh : Nat) (hN : 107 ≤ kN k) (F0 : M 93 = RO k rf ac nx as ts tz lv cf lp ln sz sp lc so) (hw : wh < 2 ^ 31) : CM l yX8_refused cX8_refused 2 ((some .boolean)) { frames := 0, cells := 0, slots := 0, locals := 0 } k [.ref (ad k 93), .int (nI wh)] M (pI (fun r M' => r = bI (decide (0 < wh)) ∧ M' 93 = RO k wh ac nx as ts tz lv cf lp ln sz sp lc so ∧ ∀ i, i ≠ 93 → M' i = M i)) := by
  refine CM.of (by decide) (Nat.le_of_ble_eq_true rfl) (fun C X hCl hCR rq => ?_)
  show V C k 2 (0, 0) M 0 [(0, .ref (ad k 93)), (1, .int (nI wh))] []
  refine v_aload_n X 0 dX8_refused_0 rfl ?_
  refine v_iload_n X 1 dX8_refused_1 rfl ?_
  refine v_put X cls8 F0 (by omega) 0 (by decide) m_457 rfl rfl rfl rfl (Nat.le_of_ble_eq_true rfl) dX8_refused_2 (fun M_1 hM_2 => ?_)
  have F_3 : M_1 93 = RO k wh ac nx as ts tz lv cf lp ln sz sp lc so := by rw [hM_2]; exact mup_s
  refine v_iload_n X 1 dX8_refused_5 rfl ?_
  refine v_ileN X 13 (by omega) dX8_refused_6 (by decide) (fun c_4 => ?_) (fun c_4 => ?_)
  · have h6 := c_4
    refine v_iconst X (v := bI false) (by decide) dX8_refused_13 ?_
    exact v_iret X rq ⟨by decide, by decide⟩ (narZ _) dX8_refused_14 ⟨_, rfl, (by rw [decide_eq_false (show ¬ 0 < wh by omega)]), F_3, (fun i hi => by rw [hM_2, mup_n (by omega)])⟩
  · have h6 := c_4
    refine v_iconst X (v := bI true) (by decide) dX8_refused_9 ?_
    refine v_goto X 14 dX8_refused_10 (by decide) ?_
    exact v_iret X rq ⟨by decide, by decide⟩ (narZ _) dX8_refused_14 ⟨_, rfl, (by rw [decide_eq_true h6]), F_3, (fun i hi => by rw [hM_2, mup_n (by omega)])⟩
set_option maxHeartbeats 4000000 in
set_option maxRecDepth 100000 in
theorem c_X8_thrown (l : Launch) (k : KX) (M : Mem) (w : Nat) (cs ds : List Nat) (mem : List SD) (sl : Nat → Option SD) (tx : List Nat) (hRef : RefAt k M w cs ds mem sl tx) : CM l yX8_thrown cX8_thrown 1 ((some .int)) { frames := 0, cells := 0, slots := 0, locals := 0 } k [.ref (ad k 93)] M (pP (.int (nI w)) M) := by
  refine CM.of (by decide) (Nat.le_of_ble_eq_true rfl) (fun C X hCl hCR rq => ?_)
  show V C k 1 (0, 0) M 0 [(0, .ref (ad k 93))] []
  obtain ⟨hN, hV, htx9, htxc, nx, lp, ln, sp, lc, so, nw, tl, di, kp, ik, sc, rd, li, F93, F94, F95, F96, F97, F98, hT, F103, F104, F105, hR, hD, hK, hS⟩ := id hRef
  have ho2 : csOK cs := hV.1.1
  have hds : ∀ d ∈ ds, d < 16 := hV.1.2.1
  have hlc : cs.length ≤ 24 := ho2.1
  have hld : ds.length ≤ 8 := hV.1.2.2
  have hok := cAt_ok ho2
  have hr := hR.c
  have hTk := hT.2.1
  have hTA := hTk.A
  have hTT := hTk.T
  have hTl := hTk.le
  have htL : tL (build cs ds).1 = ds.length := hV.2.1
  have hcf : ∀ n, (build cs ds).2 = some n → n < 24 := fun n hn => by have := (build_ok hlc hds).2 n hn; omega
  refine v_aload_n X 0 dX8_thrown_0 rfl ?_
  refine v_get X cls8 F93 (by omega) 0 (by decide) m_457 rfl rfl dX8_thrown_1 ?_
  exact v_iret X rq ⟨by decide, by decide⟩ rfl dX8_thrown_4 (pP_i rfl)
set_option maxHeartbeats 4000000 in
set_option maxRecDepth 100000 in
theorem c_X8_act (l : Launch) (k : KX) (M : Mem) (w : Nat) (cs ds : List Nat) (mem : List SD) (sl : Nat → Option SD) (tx : List Nat) (tl2 : Nat → Nat) (cs2 ds2 : List Nat) (hRef : RefAt k M w cs ds mem sl tx) (hF95 : M 95 = IR k 82 tl2) (hR2 : rowOK tl2 cs2 ds2) (hc2 : csOK cs2) (hd2s : ∀ d ∈ ds2, d < 16) (hl2 : ds2.length ≤ 8) : CM l yX8_act cX8_act 2 none { frames := 5, cells := 0, slots := 0, locals := 117 } k [.ref (ad k 93)] M (pV (fun M' => RefAt k M' w cs2 (sNew cs2 ds2) (remF mem (cs, ds)) sl tx ∧ FrR M M')) := by
  refine CM.of (by decide) (Nat.le_of_ble_eq_true rfl) (fun C X hCl hCR rq => ?_)
  show V C k 2 (0, 0) M 0 [(0, .ref (ad k 93))] []
  obtain ⟨hN, hV, htx9, htxc, nx, lp, ln, sp, lc, so, nw, tl, di, kp, ik, sc, rd, li, F93, F94, _, F96, F97, F98, hT, F103, F104, F105, hR, hD, hK, hS⟩ := id hRef
  have ho2 : csOK cs := hV.1.1
  have hds : ∀ d ∈ ds, d < 16 := hV.1.2.1
  have hlc : cs.length ≤ 24 := ho2.1
  have hld : ds.length ≤ 8 := hV.1.2.2
  have hok := cAt_ok ho2
  have hr := hR.c
  have hTk := hT.2.1
  have hTA := hTk.A
  have hTT := hTk.T
  have hTl := hTk.le
  have htL : tL (build cs ds).1 = ds.length := hV.2.1
  have hcf : ∀ n, (build cs ds).2 = some n → n < 24 := fun n hn => by have := (build_ok hlc hds).2 n hn; omega
  have hnx := hD.1
  have hmz := hD.2.1
  have L : ∀ (fu : Nat) (i : Nat) (d2 : Nat → Nat) (M1 : Mem), 82 - i < fu → (i ≤ 82) → (∀ x, x < 1148 → d2 x = if 82 * nx ≤ x ∧ x < 82 * nx + i then nw (x - 82 * nx) else di x) → (FrR M M1) → M1 93 = RO k w mem.length nx (tA ((build cs ds).1)) (tT ((build cs ds).1)) (((build cs ds).1).length) ((tL (build cs ds).1)) ((build cs ds).2) lp ln tx.length sp lc so → M1 94 = IR k 82 nw → M1 95 = IR k 82 tl2 → M1 96 = IR k 1148 d2 → M1 97 = IR k 164 kp → M1 98 = .inl (kZ k, 2, .inl (fun zq => bI (ik zq))) → M1 103 = IR k 90 sc → M1 104 = IR k 82 rd → M1 105 = IR k 24 li → RtAt k M1 (build cs ds).1 → V C k 2 (0, 0) M1 2 [(0, .ref (ad k 93)), (1, .int (nI i))] [] := by
    intro fu
    induction fu with
    | zero => intro i d2 M1 hfu; exact absurd hfu (Nat.not_lt_zero _)
    | succ fu ih =>
      intro i d2 M1 hfu hi hd2 hfr G93 G94 G95 G96 G97 G98 G103 G104 G105 hT1
      refine v_iload_n X 1 dX8_act_2 rfl ?_
      refine v_bipush X (v := nI 82) (by decide) dX8_act_3 ?_
      refine v_cgeN X 34 (by omega) (by omega) dX8_act_5 (by decide) (fun c_1 => ?_) (fun c_1 => ?_)
      · refine v_aload_n X 0 dX8_act_34 rfl ?_
        refine v_aload_n X 0 dX8_act_35 rfl ?_
        refine v_get X cls8 G93 (by omega) 5 (by decide) m_495 rfl rfl dX8_act_36 ?_
        refine v_iconst X (v := nI 1) (by decide) dX8_act_39 ?_
        refine v_addN X dX8_act_40 ?_
        refine v_bipush X (v := nI 14) (by decide) dX8_act_41 ?_
        refine v_remN X (by omega) (by omega) (by omega) dX8_act_43 ?_
        refine v_put X cls8 G93 (by omega) 5 (by decide) m_495 rfl rfl rfl rfl (Nat.le_of_ble_eq_true rfl) dX8_act_44 (fun M_2 hM_3 => ?_)
        have F_4 : M_2 93 = RO k w mem.length ((nx + 1) % 14) (tA ((build cs ds).1)) (tT ((build cs ds).1)) (((build cs ds).1).length) ((tL (build cs ds).1)) ((build cs ds).2) lp ln tx.length sp lc so := by rw [hM_3]; exact mup_s
        have F_5 : M_2 94 = IR k 82 nw := by rw [hM_3, mup_n (by omega)]; exact G94
        have F_6 : M_2 95 = IR k 82 tl2 := by rw [hM_3, mup_n (by omega)]; exact G95
        have F_7 : M_2 96 = IR k 1148 d2 := by rw [hM_3, mup_n (by omega)]; exact G96
        have F_8 : M_2 97 = IR k 164 kp := by rw [hM_3, mup_n (by omega)]; exact G97
        have F_9 : M_2 98 = .inl (kZ k, 2, .inl (fun zq => bI (ik zq))) := by rw [hM_3, mup_n (by omega)]; exact G98
        have F_10 : M_2 103 = IR k 90 sc := by rw [hM_3, mup_n (by omega)]; exact G103
        have F_11 : M_2 104 = IR k 82 rd := by rw [hM_3, mup_n (by omega)]; exact G104
        have F_12 : M_2 105 = IR k 24 li := by rw [hM_3, mup_n (by omega)]; exact G105
        have P_13 : RtAt k M_2 (build cs ds).1 := hT1.fr (fun i h1 h2 => by rw [hM_3, mup_n (by omega)])
        refine v_aload_n X 0 dX8_act_47 rfl ?_
        refine v_aload_n X 0 dX8_act_48 rfl ?_
        refine v_get X cls8 F_4 (by omega) 4 (by decide) m_496 rfl rfl dX8_act_49 ?_
        refine v_bipush X (v := nI 14) (by decide) dX8_act_52 ?_
        refine v_cgeN X 66 (by omega) (by omega) dX8_act_54 (by decide) (fun c_14 => ?_) (fun c_14 => ?_)
        · have h54 : 14 ≤ mem.length := c_14
          refine v_bipush X (v := nI 14) (by decide) dX8_act_66 ?_
          refine v_put X cls8 F_4 (by omega) 4 (by decide) m_496 rfl rfl rfl rfl (Nat.le_of_ble_eq_true rfl) dX8_act_68 (fun M_15 hM_16 => ?_)
          have F_17 : M_15 93 = RO k w 14 ((nx + 1) % 14) (tA ((build cs ds).1)) (tT ((build cs ds).1)) (((build cs ds).1).length) ((tL (build cs ds).1)) ((build cs ds).2) lp ln tx.length sp lc so := by rw [hM_16]; exact mup_s
          have F_18 : M_15 94 = IR k 82 nw := by rw [hM_16, mup_n (by omega)]; exact F_5
          have F_19 : M_15 95 = IR k 82 tl2 := by rw [hM_16, mup_n (by omega)]; exact F_6
          have F_20 : M_15 96 = IR k 1148 d2 := by rw [hM_16, mup_n (by omega)]; exact F_7
          have F_21 : M_15 97 = IR k 164 kp := by rw [hM_16, mup_n (by omega)]; exact F_8
          have F_22 : M_15 98 = .inl (kZ k, 2, .inl (fun zq => bI (ik zq))) := by rw [hM_16, mup_n (by omega)]; exact F_9
          have F_23 : M_15 103 = IR k 90 sc := by rw [hM_16, mup_n (by omega)]; exact F_10
          have F_24 : M_15 104 = IR k 82 rd := by rw [hM_16, mup_n (by omega)]; exact F_11
          have F_25 : M_15 105 = IR k 24 li := by rw [hM_16, mup_n (by omega)]; exact F_12
          have P_26 : RtAt k M_15 (build cs ds).1 := P_13.fr (fun i h1 h2 => by rw [hM_16, mup_n (by omega)])
          have hac : (remF mem (cs, ds)).length = 14 := by rw [remF_len mem _ hD.2.1]; rw [if_neg (by omega)]
          have F_27 : M_15 93 = RO k w ((remF mem (cs, ds)).length) ((nx + 1) % 14) (tA ((build cs ds).1)) (tT ((build cs ds).1)) (((build cs ds).1).length) ((tL (build cs ds).1)) ((build cs ds).2) lp ln tx.length sp lc so := by rw [hac]; exact F_17
          refine v_aload_n X 0 dX8_act_71 rfl ?_
          refine v_get X cls8 F_27 (by omega) 2 (by decide) m_444 rfl rfl dX8_act_72 ?_
          refine v_aload_n X 0 dX8_act_75 rfl ?_
          refine v_get X cls8 F_27 (by omega) 1 (by decide) m_443 rfl rfl dX8_act_76 ?_
          refine v_callS X hCl hCR (c_X8_copy l k M_15 95 94 tl2 nw (by omega) (by omega) (by omega) F_19 F_18) mo_X8_copy m_466 m_497 m_498 m_465 (by decide) rfl rfl (Nat.le_of_ble_eq_true rfl) ⟨rfl, rfl⟩ ⟨by decide, by decide⟩ dX8_act_79 (vV_in (fun M_28 hp_29 => ?_))
          obtain ⟨⟨g_31, F_32, hcp_33⟩, hfr_30⟩ := hp_29
          have F_34 : M_28 93 = RO k w ((remF mem (cs, ds)).length) ((nx + 1) % 14) (tA ((build cs ds).1)) (tT ((build cs ds).1)) (((build cs ds).1).length) ((tL (build cs ds).1)) ((build cs ds).2) lp ln tx.length sp lc so := by rw [hfr_30 93 (by omega)]; exact F_27
          have F_35 : M_28 95 = IR k 82 tl2 := by rw [hfr_30 95 (by omega)]; exact F_19
          have F_36 : M_28 96 = IR k 1148 d2 := by rw [hfr_30 96 (by omega)]; exact F_20
          have F_37 : M_28 97 = IR k 164 kp := by rw [hfr_30 97 (by omega)]; exact F_21
          have F_38 : M_28 98 = .inl (kZ k, 2, .inl (fun zq => bI (ik zq))) := by rw [hfr_30 98 (by omega)]; exact F_22
          have F_39 : M_28 103 = IR k 90 sc := by rw [hfr_30 103 (by omega)]; exact F_23
          have F_40 : M_28 104 = IR k 82 rd := by rw [hfr_30 104 (by omega)]; exact F_24
          have F_41 : M_28 105 = IR k 24 li := by rw [hfr_30 105 (by omega)]; exact F_25
          have P_42 : RtAt k M_28 (build cs ds).1 := P_26.fr (fun i h1 h2 => hfr_30 i (by omega))
          have hcp := hcp_33
          refine v_aload_n X 0 dX8_act_82 rfl ?_
          refine v_aload_n X 0 dX8_act_83 rfl ?_
          refine v_get X cls8 F_34 (by omega) 1 (by decide) m_443 rfl rfl dX8_act_84 ?_
          refine v_callV X hCl hCR (c_X8_build l k M_28 w ((remF mem (cs, ds)).length) ((nx + 1) % 14) (tA ((build cs ds).1)) (tT ((build cs ds).1)) (((build cs ds).1).length) ((tL (build cs ds).1)) ((build cs ds).2) lp ln tx.length sp lc so ((build cs ds).1) 94 g_31 cs2 ds2 (by omega) F_34 P_42 (by omega) F_32 (hR2.cong hc2.1 hl2 hcp) hc2 hd2s hl2) cls8 ⟨_, F_34⟩ (by omega) mo_X8_build m_494 m_499 m_500 m_501 m_465 (by decide) rfl rfl (Nat.le_of_ble_eq_true rfl) ⟨rfl, rfl⟩ ⟨by decide, by decide⟩ dX8_act_87 (vV_in (fun M_43 hp_44 => ?_))
          obtain ⟨F_46, T_47, ⟨g_48, F_49, hrow_50⟩, hfr_45⟩ := hp_44
          have F_51 : M_43 95 = IR k 82 tl2 := by rw [hfr_45 95 (by omega) (by omega) (by omega)]; exact F_35
          have F_52 : M_43 96 = IR k 1148 d2 := by rw [hfr_45 96 (by omega) (by omega) (by omega)]; exact F_36
          have F_53 : M_43 97 = IR k 164 kp := by rw [hfr_45 97 (by omega) (by omega) (by omega)]; exact F_37
          have F_54 : M_43 98 = .inl (kZ k, 2, .inl (fun zq => bI (ik zq))) := by rw [hfr_45 98 (by omega) (by omega) (by omega)]; exact F_38
          have F_55 : M_43 103 = IR k 90 sc := by rw [hfr_45 103 (by omega) (by omega) (by omega)]; exact F_39
          have F_56 : M_43 104 = IR k 82 rd := by rw [hfr_45 104 (by omega) (by omega) (by omega)]; exact F_40
          have F_57 : M_43 105 = IR k 24 li := by rw [hfr_45 105 (by omega) (by omega) (by omega)]; exact F_41
          exact v_vret X rq ⟨by decide, by decide⟩ dX8_act_90 ⟨rfl, ⟨hN, hV.act hc2 hd2s hl2, htx9, htxc, (nx + 1) % 14, lp, ln, sp, lc, so, g_48, tl2, d2, kp, ik, sc, rd, li, (by rw [(sNew_spec cs2 ds2).1]; exact F_46), F_49, F_51, F_52, F_53, F_54, (by rw [(sNew_spec cs2 ds2).1]; exact T_47), F_55, F_56, F_57, hrow_50, hD.add hV.2.2.1 hV.1 hR (by rw [show i = 82 by omega] at hd2; exact hd2), hK, hS⟩, (fun i hi => by rw [hfr_45 i (by omega) (by omega) (by omega), hfr_30 i (by omega), hM_16, mup_n (by omega), hM_3, mup_n (by omega)]; exact hfr i hi)⟩
        · have h54 : mem.length < 14 := c_14
          refine v_aload_n X 0 dX8_act_57 rfl ?_
          refine v_get X cls8 F_4 (by omega) 4 (by decide) m_496 rfl rfl dX8_act_58 ?_
          refine v_iconst X (v := nI 1) (by decide) dX8_act_61 ?_
          refine v_addN X dX8_act_62 ?_
          refine v_goto X 68 dX8_act_63 (by decide) ?_
          refine v_put X cls8 F_4 (by omega) 4 (by decide) m_496 rfl rfl rfl rfl (Nat.le_of_ble_eq_true rfl) dX8_act_68 (fun M_58 hM_59 => ?_)
          have F_60 : M_58 93 = RO k w (mem.length + 1) ((nx + 1) % 14) (tA ((build cs ds).1)) (tT ((build cs ds).1)) (((build cs ds).1).length) ((tL (build cs ds).1)) ((build cs ds).2) lp ln tx.length sp lc so := by rw [hM_59]; exact mup_s
          have F_61 : M_58 94 = IR k 82 nw := by rw [hM_59, mup_n (by omega)]; exact F_5
          have F_62 : M_58 95 = IR k 82 tl2 := by rw [hM_59, mup_n (by omega)]; exact F_6
          have F_63 : M_58 96 = IR k 1148 d2 := by rw [hM_59, mup_n (by omega)]; exact F_7
          have F_64 : M_58 97 = IR k 164 kp := by rw [hM_59, mup_n (by omega)]; exact F_8
          have F_65 : M_58 98 = .inl (kZ k, 2, .inl (fun zq => bI (ik zq))) := by rw [hM_59, mup_n (by omega)]; exact F_9
          have F_66 : M_58 103 = IR k 90 sc := by rw [hM_59, mup_n (by omega)]; exact F_10
          have F_67 : M_58 104 = IR k 82 rd := by rw [hM_59, mup_n (by omega)]; exact F_11
          have F_68 : M_58 105 = IR k 24 li := by rw [hM_59, mup_n (by omega)]; exact F_12
          have P_69 : RtAt k M_58 (build cs ds).1 := P_13.fr (fun i h1 h2 => by rw [hM_59, mup_n (by omega)])
          have hac : (remF mem (cs, ds)).length = mem.length + 1 := by rw [remF_len mem _ hD.2.1]; rw [if_pos h54]
          have F_70 : M_58 93 = RO k w ((remF mem (cs, ds)).length) ((nx + 1) % 14) (tA ((build cs ds).1)) (tT ((build cs ds).1)) (((build cs ds).1).length) ((tL (build cs ds).1)) ((build cs ds).2) lp ln tx.length sp lc so := by rw [hac]; exact F_60
          refine v_aload_n X 0 dX8_act_71 rfl ?_
          refine v_get X cls8 F_70 (by omega) 2 (by decide) m_444 rfl rfl dX8_act_72 ?_
          refine v_aload_n X 0 dX8_act_75 rfl ?_
          refine v_get X cls8 F_70 (by omega) 1 (by decide) m_443 rfl rfl dX8_act_76 ?_
          refine v_callS X hCl hCR (c_X8_copy l k M_58 95 94 tl2 nw (by omega) (by omega) (by omega) F_62 F_61) mo_X8_copy m_466 m_497 m_498 m_465 (by decide) rfl rfl (Nat.le_of_ble_eq_true rfl) ⟨rfl, rfl⟩ ⟨by decide, by decide⟩ dX8_act_79 (vV_in (fun M_71 hp_72 => ?_))
          obtain ⟨⟨g_74, F_75, hcp_76⟩, hfr_73⟩ := hp_72
          have F_77 : M_71 93 = RO k w ((remF mem (cs, ds)).length) ((nx + 1) % 14) (tA ((build cs ds).1)) (tT ((build cs ds).1)) (((build cs ds).1).length) ((tL (build cs ds).1)) ((build cs ds).2) lp ln tx.length sp lc so := by rw [hfr_73 93 (by omega)]; exact F_70
          have F_78 : M_71 95 = IR k 82 tl2 := by rw [hfr_73 95 (by omega)]; exact F_62
          have F_79 : M_71 96 = IR k 1148 d2 := by rw [hfr_73 96 (by omega)]; exact F_63
          have F_80 : M_71 97 = IR k 164 kp := by rw [hfr_73 97 (by omega)]; exact F_64
          have F_81 : M_71 98 = .inl (kZ k, 2, .inl (fun zq => bI (ik zq))) := by rw [hfr_73 98 (by omega)]; exact F_65
          have F_82 : M_71 103 = IR k 90 sc := by rw [hfr_73 103 (by omega)]; exact F_66
          have F_83 : M_71 104 = IR k 82 rd := by rw [hfr_73 104 (by omega)]; exact F_67
          have F_84 : M_71 105 = IR k 24 li := by rw [hfr_73 105 (by omega)]; exact F_68
          have P_85 : RtAt k M_71 (build cs ds).1 := P_69.fr (fun i h1 h2 => hfr_73 i (by omega))
          have hcp := hcp_76
          refine v_aload_n X 0 dX8_act_82 rfl ?_
          refine v_aload_n X 0 dX8_act_83 rfl ?_
          refine v_get X cls8 F_77 (by omega) 1 (by decide) m_443 rfl rfl dX8_act_84 ?_
          refine v_callV X hCl hCR (c_X8_build l k M_71 w ((remF mem (cs, ds)).length) ((nx + 1) % 14) (tA ((build cs ds).1)) (tT ((build cs ds).1)) (((build cs ds).1).length) ((tL (build cs ds).1)) ((build cs ds).2) lp ln tx.length sp lc so ((build cs ds).1) 94 g_74 cs2 ds2 (by omega) F_77 P_85 (by omega) F_75 (hR2.cong hc2.1 hl2 hcp) hc2 hd2s hl2) cls8 ⟨_, F_77⟩ (by omega) mo_X8_build m_494 m_499 m_500 m_501 m_465 (by decide) rfl rfl (Nat.le_of_ble_eq_true rfl) ⟨rfl, rfl⟩ ⟨by decide, by decide⟩ dX8_act_87 (vV_in (fun M_86 hp_87 => ?_))
          obtain ⟨F_89, T_90, ⟨g_91, F_92, hrow_93⟩, hfr_88⟩ := hp_87
          have F_94 : M_86 95 = IR k 82 tl2 := by rw [hfr_88 95 (by omega) (by omega) (by omega)]; exact F_78
          have F_95 : M_86 96 = IR k 1148 d2 := by rw [hfr_88 96 (by omega) (by omega) (by omega)]; exact F_79
          have F_96 : M_86 97 = IR k 164 kp := by rw [hfr_88 97 (by omega) (by omega) (by omega)]; exact F_80
          have F_97 : M_86 98 = .inl (kZ k, 2, .inl (fun zq => bI (ik zq))) := by rw [hfr_88 98 (by omega) (by omega) (by omega)]; exact F_81
          have F_98 : M_86 103 = IR k 90 sc := by rw [hfr_88 103 (by omega) (by omega) (by omega)]; exact F_82
          have F_99 : M_86 104 = IR k 82 rd := by rw [hfr_88 104 (by omega) (by omega) (by omega)]; exact F_83
          have F_100 : M_86 105 = IR k 24 li := by rw [hfr_88 105 (by omega) (by omega) (by omega)]; exact F_84
          exact v_vret X rq ⟨by decide, by decide⟩ dX8_act_90 ⟨rfl, ⟨hN, hV.act hc2 hd2s hl2, htx9, htxc, (nx + 1) % 14, lp, ln, sp, lc, so, g_91, tl2, d2, kp, ik, sc, rd, li, (by rw [(sNew_spec cs2 ds2).1]; exact F_89), F_92, F_94, F_95, F_96, F_97, (by rw [(sNew_spec cs2 ds2).1]; exact T_90), F_98, F_99, F_100, hrow_93, hD.add hV.2.2.1 hV.1 hR (by rw [show i = 82 by omega] at hd2; exact hd2), hK, hS⟩, (fun i hi => by rw [hfr_88 i (by omega) (by omega) (by omega), hfr_73 i (by omega), hM_59, mup_n (by omega), hM_3, mup_n (by omega)]; exact hfr i hi)⟩
      · refine v_aload_n X 0 dX8_act_8 rfl ?_
        refine v_get X cls8 G93 (by omega) 3 (by decide) m_445 rfl rfl dX8_act_9 ?_
        refine v_bipush X (v := nI 82) (by decide) dX8_act_12 ?_
        refine v_aload_n X 0 dX8_act_14 rfl ?_
        refine v_get X cls8 G93 (by omega) 5 (by decide) m_495 rfl rfl dX8_act_15 ?_
        refine v_mulN X dX8_act_18 ?_
        refine v_iload_n X 1 dX8_act_19 rfl ?_
        refine v_addN X dX8_act_20 ?_
        refine v_aload_n X 0 dX8_act_21 rfl ?_
        refine v_get X cls8 G93 (by omega) 1 (by decide) m_443 rfl rfl dX8_act_22 ?_
        refine v_iload_n X 1 dX8_act_25 rfl ?_
        refine v_iald X nI G94 (by omega) (by omega) (by decide) dX8_act_26 ?_
        refine v_iast X nI (nw i) G96 (by omega) (by omega) (by decide) dX8_act_27 (fun M_101 hM_102 => ?_)
        have F_104 : M_101 93 = RO k w mem.length nx (tA ((build cs ds).1)) (tT ((build cs ds).1)) (((build cs ds).1).length) ((tL (build cs ds).1)) ((build cs ds).2) lp ln tx.length sp lc so := by rw [hM_102, mup_n (by omega)]; exact G93
        have F_105 : M_101 94 = IR k 82 nw := by rw [hM_102, mup_n (by omega)]; exact G94
        have F_106 : M_101 95 = IR k 82 tl2 := by rw [hM_102, mup_n (by omega)]; exact G95
        have F_107 : M_101 96 = IR k 1148 (va_up d2 ((82 * nx) + i) (nw i)) := by rw [hM_102]; exact mup_s
        have F_108 : M_101 97 = IR k 164 kp := by rw [hM_102, mup_n (by omega)]; exact G97
        have F_109 : M_101 98 = .inl (kZ k, 2, .inl (fun zq => bI (ik zq))) := by rw [hM_102, mup_n (by omega)]; exact G98
        have F_110 : M_101 103 = IR k 90 sc := by rw [hM_102, mup_n (by omega)]; exact G103
        have F_111 : M_101 104 = IR k 82 rd := by rw [hM_102, mup_n (by omega)]; exact G104
        have F_112 : M_101 105 = IR k 24 li := by rw [hM_102, mup_n (by omega)]; exact G105
        have P_113 : RtAt k M_101 (build cs ds).1 := hT1.fr (fun i h1 h2 => by rw [hM_102, mup_n (by omega)])
        refine v_iinc X (v := nI (i + 1)) 1 [(1, .int (nI (i + 1))), (0, .ref (ad k 93))] dX8_act_28 rfl (nI_1 _) (by decide) rfl ?_
        refine v_goto X 2 dX8_act_31 (by decide) ?_
        refine v_lv [1, 0] rfl ?_
        exact ih (i + 1) (va_up d2 (82 * nx + i) (nw i)) M_101 (by omega) (by omega) (di_step (by omega) hd2) (fun i hi => by rw [hM_102, mup_n (by omega)]; exact hfr i hi) F_104 F_105 F_106 F_107 F_108 F_109 F_110 F_111 F_112 P_113
  refine v_iconst X (v := nI 0) (by decide) dX8_act_0 ?_
  refine v_istore_n X [(1, .int (nI 0)), (0, .ref (ad k 93))] dX8_act_1 (by decide) rfl ?_
  refine v_lv [1, 0] rfl ?_
  exact L 83 0 di M (by omega) (by omega) (fun x hx => by rw [if_neg (by omega)]) (fun _ _ => rfl) F93 F94 hF95 F96 F97 F98 F103 F104 F105 hT
