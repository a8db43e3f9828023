set_option maxHeartbeats 4000000 in
set_option maxRecDepth 100000 in
theorem c_X8_resolve (l : Launch) (k : KX) (M : Mem) (w : Nat) (cs ds : List Nat) (mem : List SD) (sl : Nat → Option SD) (tx : List Nat) (x y z : Int32) (hRef : RefAt k M w cs ds mem sl tx) : CM l yX8_resolve cX8_resolve 7 ((some .int)) { frames := 7, cells := 0, slots := 0, locals := 161 } k [.ref (ad k 93), .int x, .int y, .int z] M (pI (fun r M' => ((¬ (inL x cs.length = true ∧ inL y cs.length = true ∧ inL z 8 = true) ∧ RefAt k M' 1 cs ds mem sl tx) ∨ (∃ i j v, i < cs.length ∧ j < cs.length ∧ v < 8 ∧ x = nI i ∧ y = nI j ∧ z = nI v ∧ ¬ rsOK cs i j v ∧ RefAt k M' 2 cs ds mem sl tx) ∨ (∃ i j v, i < cs.length ∧ j < cs.length ∧ v < 8 ∧ x = nI i ∧ y = nI j ∧ z = nI v ∧ rsOK cs i j v ∧ r = nI cs.length ∧ RefAt k M' 0 (cs ++ [xClause (rsP cs i j v) (rsN cs i j v)]) (sNew (cs ++ [xClause (rsP cs i j v) (rsN cs i j v)]) ds) (remF mem (cs, ds)) sl tx)) ∧ FrR M M')) := by
  refine CM.of (by decide) (Nat.le_of_ble_eq_true rfl) (fun C X hCl hCR rq => ?_)
  show V C k 7 (0, 0) M 0 [(0, .ref (ad k 93)), (1, .int x), (2, .int y), (3, .int z)] []
  obtain ⟨hN, hV, htx9, htxc, nx, lp, ln, sp, lc, so, nw, tl, di, kp, ik, sc, rd, li, F93, F94, F95, F96, F97, F98, hT, F103, F104, F105, hR, hD, hK, hS⟩ := id hRef
  have ho2 : csOK cs := hV.1.1
  have hds : ∀ d ∈ ds, d < 16 := hV.1.2.1
  have hlc : cs.length ≤ 24 := ho2.1
  have hld : ds.length ≤ 8 := hV.1.2.2
  have hok := cAt_ok ho2
  have hr := hR.c
  have hTk := hT.2.1
  have hTA := hTk.A
  have hTT := hTk.T
  have hTl := hTk.le
  have htL : tL (build cs ds).1 = ds.length := hV.2.1
  have hcf : ∀ n, (build cs ds).2 = some n → n < 24 := fun n hn => by have := (build_ok hlc hds).2 n hn; omega
  refine v_aload_n X 0 dX8_resolve_0 rfl ?_
  refine v_aload_n X 0 dX8_resolve_1 rfl ?_
  refine v_iload_n X 1 dX8_resolve_2 rfl ?_
  refine v_callV X hCl hCR (c_X8_isConstraint l k M w mem.length nx (tA ((build cs ds).1)) (tT ((build cs ds).1)) (((build cs ds).1).length) ((tL (build cs ds).1)) ((build cs ds).2) lp ln tx.length sp lc so nw cs.length x (by omega) F93 F94 hR.1 (by omega)) cls8 ⟨_, F93⟩ (by omega) mo_X8_isConstraint m_537 m_540 m_541 m_542 m_465 (by decide) rfl rfl (Nat.le_of_ble_eq_true rfl) ⟨rfl, rfl⟩ ⟨by decide, by decide⟩ dX8_resolve_3 (vP_in ?_)
  refine v_ieqB X 33 dX8_resolve_6 (by decide) (fun c_1 => ?_) (fun c_1 => ?_)
  · have hb1 := c_1
    refine v_iconst X (v := nI 1) (by decide) dX8_resolve_33 ?_
    refine v_callV X hCl hCR (c_X8_refused l k M w mem.length nx (tA ((build cs ds).1)) (tT ((build cs ds).1)) (((build cs ds).1).length) ((tL (build cs ds).1)) ((build cs ds).2) lp ln tx.length sp lc so 1 (by omega) F93 (by omega)) cls8 ⟨_, F93⟩ (by omega) mo_X8_refused m_458 m_508 m_509 m_510 m_465 (by decide) rfl rfl (Nat.le_of_ble_eq_true rfl) ⟨rfl, rfl⟩ ⟨by decide, by decide⟩ dX8_resolve_34 (vI_in (fun r_6 M_2 hp_3 => ?_))
    obtain ⟨he_7, F_5, hfr_4⟩ := hp_3
    subst he_7
    have F_8 : M_2 94 = IR k 82 nw := by rw [hfr_4 94 (by omega)]; exact F94
    have F_9 : M_2 95 = IR k 82 tl := by rw [hfr_4 95 (by omega)]; exact F95
    have F_10 : M_2 96 = IR k 1148 di := by rw [hfr_4 96 (by omega)]; exact F96
    have F_11 : M_2 97 = IR k 164 kp := by rw [hfr_4 97 (by omega)]; exact F97
    have F_12 : M_2 98 = .inl (kZ k, 2, .inl (fun zq => bI (ik zq))) := by rw [hfr_4 98 (by omega)]; exact F98
    have F_13 : M_2 103 = IR k 90 sc := by rw [hfr_4 103 (by omega)]; exact F103
    have F_14 : M_2 104 = IR k 82 rd := by rw [hfr_4 104 (by omega)]; exact F104
    have F_15 : M_2 105 = IR k 24 li := by rw [hfr_4 105 (by omega)]; exact F105
    have P_16 : RtAt k M_2 (build cs ds).1 := hT.fr (fun i h1 h2 => hfr_4 i (by omega))
    refine v_top (show (Value.int (bI (decide (0 < 1))) : Value) = .int (bI true) from congrArg _ (congrArg bI (by decide))) ?_
    refine v_ieqB X 42 dX8_resolve_37 (by decide) (fun h => absurd h (by decide)) (fun _ => ?_)
    refine v_iconst X (v := nI 0) (by decide) dX8_resolve_40 ?_
    exact v_iret X rq ⟨by decide, by decide⟩ rfl dX8_resolve_41 ⟨_, rfl, Or.inl ⟨(fun q => by have := q.1; rw [hb1] at this; cases this), ⟨hN, hV, htx9, htxc, nx, lp, ln, sp, lc, so, nw, tl, di, kp, ik, sc, rd, li, F_5, F_8, F_9, F_10, F_11, F_12, P_16, F_13, F_14, F_15, hR, hD, hK, hS⟩⟩, (fun i hi => by rw [hfr_4 i (by omega)])⟩
  · have hb1 := c_1
    refine v_aload_n X 0 dX8_resolve_9 rfl ?_
    refine v_iload_n X 2 dX8_resolve_10 rfl ?_
    refine v_callV X hCl hCR (c_X8_isConstraint l k M w mem.length nx (tA ((build cs ds).1)) (tT ((build cs ds).1)) (((build cs ds).1).length) ((tL (build cs ds).1)) ((build cs ds).2) lp ln tx.length sp lc so nw cs.length y (by omega) F93 F94 hR.1 (by omega)) cls8 ⟨_, F93⟩ (by omega) mo_X8_isConstraint m_537 m_540 m_541 m_542 m_465 (by decide) rfl rfl (Nat.le_of_ble_eq_true rfl) ⟨rfl, rfl⟩ ⟨by decide, by decide⟩ dX8_resolve_11 (vP_in ?_)
    refine v_ieqB X 33 dX8_resolve_14 (by decide) (fun c_17 => ?_) (fun c_17 => ?_)
    · have hb2 := c_17
      refine v_iconst X (v := nI 1) (by decide) dX8_resolve_33 ?_
      refine v_callV X hCl hCR (c_X8_refused l k M w mem.length nx (tA ((build cs ds).1)) (tT ((build cs ds).1)) (((build cs ds).1).length) ((tL (build cs ds).1)) ((build cs ds).2) lp ln tx.length sp lc so 1 (by omega) F93 (by omega)) cls8 ⟨_, F93⟩ (by omega) mo_X8_refused m_458 m_508 m_509 m_510 m_465 (by decide) rfl rfl (Nat.le_of_ble_eq_true rfl) ⟨rfl, rfl⟩ ⟨by decide, by decide⟩ dX8_resolve_34 (vI_in (fun r_22 M_18 hp_19 => ?_))
      obtain ⟨he_23, F_21, hfr_20⟩ := hp_19
      subst he_23
      have F_24 : M_18 94 = IR k 82 nw := by rw [hfr_20 94 (by omega)]; exact F94
      have F_25 : M_18 95 = IR k 82 tl := by rw [hfr_20 95 (by omega)]; exact F95
      have F_26 : M_18 96 = IR k 1148 di := by rw [hfr_20 96 (by omega)]; exact F96
      have F_27 : M_18 97 = IR k 164 kp := by rw [hfr_20 97 (by omega)]; exact F97
      have F_28 : M_18 98 = .inl (kZ k, 2, .inl (fun zq => bI (ik zq))) := by rw [hfr_20 98 (by omega)]; exact F98
      have F_29 : M_18 103 = IR k 90 sc := by rw [hfr_20 103 (by omega)]; exact F103
      have F_30 : M_18 104 = IR k 82 rd := by rw [hfr_20 104 (by omega)]; exact F104
      have F_31 : M_18 105 = IR k 24 li := by rw [hfr_20 105 (by omega)]; exact F105
      have P_32 : RtAt k M_18 (build cs ds).1 := hT.fr (fun i h1 h2 => hfr_20 i (by omega))
      refine v_top (show (Value.int (bI (decide (0 < 1))) : Value) = .int (bI true) from congrArg _ (congrArg bI (by decide))) ?_
      refine v_ieqB X 42 dX8_resolve_37 (by decide) (fun h => absurd h (by decide)) (fun _ => ?_)
      refine v_iconst X (v := nI 0) (by decide) dX8_resolve_40 ?_
      exact v_iret X rq ⟨by decide, by decide⟩ rfl dX8_resolve_41 ⟨_, rfl, Or.inl ⟨(fun q => by have := q.2.1; rw [hb2] at this; cases this), ⟨hN, hV, htx9, htxc, nx, lp, ln, sp, lc, so, nw, tl, di, kp, ik, sc, rd, li, F_21, F_24, F_25, F_26, F_27, F_28, P_32, F_29, F_30, F_31, hR, hD, hK, hS⟩⟩, (fun i hi => by rw [hfr_20 i (by omega)])⟩
    · have hb2 := c_17
      refine v_iload_n X 3 dX8_resolve_17 rfl ?_
      refine v_i2l X (v := (z).toInt64) rfl dX8_resolve_18 ?_
      refine v_lconst X (v := (nI 0).toInt64) (by decide) dX8_resolve_19 ?_
      refine v_ldc2 X m_561 dX8_resolve_20 ?_
      refine v_top (show Value.long 7 = .long (nI 7).toInt64 from congrArg _ (by decide)) ?_
      refine v_callS X hCl hCR (c_in_R l k M z 7) mo_X8_in m_459 m_506 m_507 m_465 (by decide) rfl rfl (Nat.le_of_ble_eq_true rfl) ⟨rfl, rfl⟩ ⟨by decide, by decide⟩ dX8_resolve_23 (vP_in ?_)
      refine v_top (show (Value.int (bI (inR z 7)) : Value) = .int (bI (inL z 8)) from congrArg _ (congrArg bI inR_7)) ?_
      refine v_ieqB X 33 dX8_resolve_26 (by decide) (fun c_33 => ?_) (fun c_33 => ?_)
      · have hb3 := c_33
        refine v_iconst X (v := nI 1) (by decide) dX8_resolve_33 ?_
        refine v_callV X hCl hCR (c_X8_refused l k M w mem.length nx (tA ((build cs ds).1)) (tT ((build cs ds).1)) (((build cs ds).1).length) ((tL (build cs ds).1)) ((build cs ds).2) lp ln tx.length sp lc so 1 (by omega) F93 (by omega)) cls8 ⟨_, F93⟩ (by omega) mo_X8_refused m_458 m_508 m_509 m_510 m_465 (by decide) rfl rfl (Nat.le_of_ble_eq_true rfl) ⟨rfl, rfl⟩ ⟨by decide, by decide⟩ dX8_resolve_34 (vI_in (fun r_38 M_34 hp_35 => ?_))
        obtain ⟨he_39, F_37, hfr_36⟩ := hp_35
        subst he_39
        have F_40 : M_34 94 = IR k 82 nw := by rw [hfr_36 94 (by omega)]; exact F94
        have F_41 : M_34 95 = IR k 82 tl := by rw [hfr_36 95 (by omega)]; exact F95
        have F_42 : M_34 96 = IR k 1148 di := by rw [hfr_36 96 (by omega)]; exact F96
        have F_43 : M_34 97 = IR k 164 kp := by rw [hfr_36 97 (by omega)]; exact F97
        have F_44 : M_34 98 = .inl (kZ k, 2, .inl (fun zq => bI (ik zq))) := by rw [hfr_36 98 (by omega)]; exact F98
        have F_45 : M_34 103 = IR k 90 sc := by rw [hfr_36 103 (by omega)]; exact F103
        have F_46 : M_34 104 = IR k 82 rd := by rw [hfr_36 104 (by omega)]; exact F104
        have F_47 : M_34 105 = IR k 24 li := by rw [hfr_36 105 (by omega)]; exact F105
        have P_48 : RtAt k M_34 (build cs ds).1 := hT.fr (fun i h1 h2 => hfr_36 i (by omega))
        refine v_top (show (Value.int (bI (decide (0 < 1))) : Value) = .int (bI true) from congrArg _ (congrArg bI (by decide))) ?_
        refine v_ieqB X 42 dX8_resolve_37 (by decide) (fun h => absurd h (by decide)) (fun _ => ?_)
        refine v_iconst X (v := nI 0) (by decide) dX8_resolve_40 ?_
        exact v_iret X rq ⟨by decide, by decide⟩ rfl dX8_resolve_41 ⟨_, rfl, Or.inl ⟨(fun q => by have := q.2.2; rw [hb3] at this; cases this), ⟨hN, hV, htx9, htxc, nx, lp, ln, sp, lc, so, nw, tl, di, kp, ik, sc, rd, li, F_37, F_40, F_41, F_42, F_43, F_44, P_48, F_45, F_46, F_47, hR, hD, hK, hS⟩⟩, (fun i hi => by rw [hfr_36 i (by omega)])⟩
      · have hb3 := c_33
        refine v_iconst X (v := nI 0) (by decide) dX8_resolve_29 ?_
        refine v_goto X 34 dX8_resolve_30 (by decide) ?_
        refine v_callV X hCl hCR (c_X8_refused l k M w mem.length nx (tA ((build cs ds).1)) (tT ((build cs ds).1)) (((build cs ds).1).length) ((tL (build cs ds).1)) ((build cs ds).2) lp ln tx.length sp lc so 0 (by omega) F93 (by omega)) cls8 ⟨_, F93⟩ (by omega) mo_X8_refused m_458 m_508 m_509 m_510 m_465 (by decide) rfl rfl (Nat.le_of_ble_eq_true rfl) ⟨rfl, rfl⟩ ⟨by decide, by decide⟩ dX8_resolve_34 (vI_in (fun r_53 M_49 hp_50 => ?_))
        obtain ⟨he_54, F_52, hfr_51⟩ := hp_50
        subst he_54
        have F_55 : M_49 94 = IR k 82 nw := by rw [hfr_51 94 (by omega)]; exact F94
        have F_56 : M_49 95 = IR k 82 tl := by rw [hfr_51 95 (by omega)]; exact F95
        have F_57 : M_49 96 = IR k 1148 di := by rw [hfr_51 96 (by omega)]; exact F96
        have F_58 : M_49 97 = IR k 164 kp := by rw [hfr_51 97 (by omega)]; exact F97
        have F_59 : M_49 98 = .inl (kZ k, 2, .inl (fun zq => bI (ik zq))) := by rw [hfr_51 98 (by omega)]; exact F98
        have F_60 : M_49 103 = IR k 90 sc := by rw [hfr_51 103 (by omega)]; exact F103
        have F_61 : M_49 104 = IR k 82 rd := by rw [hfr_51 104 (by omega)]; exact F104
        have F_62 : M_49 105 = IR k 24 li := by rw [hfr_51 105 (by omega)]; exact F105
        have P_63 : RtAt k M_49 (build cs ds).1 := hT.fr (fun i h1 h2 => hfr_51 i (by omega))
        refine v_top (show (Value.int (bI (decide (0 < 0))) : Value) = .int (bI false) from congrArg _ (congrArg bI (by decide))) ?_
        refine v_ieqB X 42 dX8_resolve_37 (by decide) (fun _ => ?_) (fun h => absurd h (by decide))
        obtain ⟨i, hi, rfl⟩ := inL_of (by omega) hb1
        obtain ⟨j, hj, rfl⟩ := inL_of (by omega) hb2
        obtain ⟨v, hv, rfl⟩ := inL_of (by omega) hb3
        have hri := hr.2 i hi
        have hrj := hr.2 j hj
        have hri1 := hri.lt
        have hrj1 := hrj.lt
        have xf1 := xFirst_lt (cAt cs i)
        have xs1 := xSecond_lt (cAt cs j)
        refine v_aload_n X 0 dX8_resolve_42 rfl ?_
        refine v_get X cls8 F_52 (by omega) 1 (by decide) m_443 rfl rfl dX8_resolve_43 ?_
        refine v_bipush X (v := nI 25) (by decide) dX8_resolve_46 ?_
        refine v_iload_n X 1 dX8_resolve_48 rfl ?_
        refine v_addN X dX8_resolve_49 ?_
        refine v_iald X nI F_55 (by omega) (by omega) (by decide) dX8_resolve_50 ?_
        refine v_aload_n X 0 dX8_resolve_51 rfl ?_
        refine v_get X cls8 F_52 (by omega) 1 (by decide) m_443 rfl rfl dX8_resolve_52 ?_
        refine v_bipush X (v := nI 25) (by decide) dX8_resolve_55 ?_
        refine v_iload_n X 2 dX8_resolve_57 rfl ?_
        refine v_addN X dX8_resolve_58 ?_
        refine v_iald X nI F_55 (by omega) (by omega) (by decide) dX8_resolve_59 ?_
        refine v_orN X dX8_resolve_60 ?_
        refine v_iconst X (v := nI 1) (by decide) dX8_resolve_61 ?_
        refine v_iload_n X 3 dX8_resolve_62 rfl ?_
        refine v_shlN X (by omega) dX8_resolve_63 ?_
        refine v_iconst X (v := nI 4294967295) (by decide) dX8_resolve_64 ?_
        refine v_xorN X dX8_resolve_65 ?_
        refine v_andN X dX8_resolve_66 ?_
        refine v_top (show (Value.int (nI (((nw (25 + i)) ||| (nw (25 + j))) &&& ((1 <<< v) ^^^ 4294967295))) : Value) = .int (nI (rsP cs i j v)) from congrArg _ (by rw [hri.2.1, hrj.2.1]; rfl)) ?_
        refine v_istore X [(4, .int (nI (rsP cs i j v))), (0, .ref (ad k 93)), (1, .int (nI i)), (2, .int (nI j)), (3, .int (nI v))] dX8_resolve_67 (by decide) rfl ?_
        refine v_aload_n X 1 dX8_resolve_69 rfl ?_
        refine v_get X cls8 F_52 (by omega) 1 (by decide) m_443 rfl rfl dX8_resolve_70 ?_
        refine v_bipush X (v := nI 49) (by decide) dX8_resolve_73 ?_
        refine v_iload_n X 2 dX8_resolve_75 rfl ?_
        refine v_addN X dX8_resolve_76 ?_
        refine v_iald X nI F_55 (by omega) (by omega) (by decide) dX8_resolve_77 ?_
        refine v_aload_n X 1 dX8_resolve_78 rfl ?_
        refine v_get X cls8 F_52 (by omega) 1 (by decide) m_443 rfl rfl dX8_resolve_79 ?_
        refine v_bipush X (v := nI 49) (by decide) dX8_resolve_82 ?_
        refine v_iload_n X 3 dX8_resolve_84 rfl ?_
        refine v_addN X dX8_resolve_85 ?_
        refine v_iald X nI F_55 (by omega) (by omega) (by decide) dX8_resolve_86 ?_
        refine v_orN X dX8_resolve_87 ?_
        refine v_iconst X (v := nI 1) (by decide) dX8_resolve_88 ?_
        refine v_iload_n X 4 dX8_resolve_89 rfl ?_
        refine v_shlN X (by omega) dX8_resolve_90 ?_
        refine v_iconst X (v := nI 4294967295) (by decide) dX8_resolve_91 ?_
        refine v_xorN X dX8_resolve_92 ?_
        refine v_andN X dX8_resolve_93 ?_
        refine v_top (show (Value.int (nI (((nw (49 + i)) ||| (nw (49 + j))) &&& ((1 <<< v) ^^^ 4294967295))) : Value) = .int (nI (rsN cs i j v)) from congrArg _ (by rw [hri.2.2.1, hrj.2.2.1]; rfl)) ?_
        refine v_istore X [(5, .int (nI (rsN cs i j v))), (4, .int (nI (rsP cs i j v))), (0, .ref (ad k 93)), (1, .int (nI i)), (2, .int (nI j)), (3, .int (nI v))] dX8_resolve_94 (by decide) rfl ?_
        refine v_aload_n X 2 dX8_resolve_96 rfl ?_
        refine v_get X cls8 F_52 (by omega) 1 (by decide) m_443 rfl rfl dX8_resolve_97 ?_
        refine v_iconst X (v := nI 1) (by decide) dX8_resolve_100 ?_
        refine v_iload_n X 3 dX8_resolve_101 rfl ?_
        refine v_addN X dX8_resolve_102 ?_
        refine v_iald X nI F_55 (by omega) (by omega) (by decide) dX8_resolve_103 ?_
        refine v_ineN X 173 (by omega) dX8_resolve_104 (by decide) (fun c_64 => ?_) (fun c_64 => ?_)
        · have hno : ¬ rsOK cs i j v := fun q => by have e := q.1; have := hri.1; rw [e] at this; exact c_64 this
          refine v_iconst X (v := bI false) (by decide) dX8_resolve_173 ?_
          refine v_istore X [(6, .int (bI false)), (5, .int (nI (rsN cs i j v))), (4, .int (nI (rsP cs i j v))), (0, .ref (ad k 93)), (1, .int (nI i)), (2, .int (nI j)), (3, .int (nI v))] dX8_resolve_174 (by decide) rfl ?_
          refine v_aload_n X 3 dX8_resolve_176 rfl ?_
          refine v_iload X 0 dX8_resolve_177 rfl ?_
          refine v_ieqB X 186 dX8_resolve_179 (by decide) (fun _ => ?_) (fun h => absurd h (by decide))
          refine v_iconst X (v := nI 2) (by decide) dX8_resolve_186 ?_
          refine v_callV X hCl hCR (c_X8_refused l k M_49 0 mem.length nx (tA ((build cs ds).1)) (tT ((build cs ds).1)) (((build cs ds).1).length) ((tL (build cs ds).1)) ((build cs ds).2) lp ln tx.length sp lc so 2 (by omega) F_52 (by omega)) cls8 ⟨_, F_52⟩ (by omega) mo_X8_refused m_458 m_508 m_509 m_510 m_465 (by decide) rfl rfl (Nat.le_of_ble_eq_true rfl) ⟨rfl, rfl⟩ ⟨by decide, by decide⟩ dX8_resolve_187 (vI_in (fun r_69 M_65 hp_66 => ?_))
          obtain ⟨he_70, F_68, hfr_67⟩ := hp_66
          subst he_70
          have F_71 : M_65 94 = IR k 82 nw := by rw [hfr_67 94 (by omega)]; exact F_55
          have F_72 : M_65 95 = IR k 82 tl := by rw [hfr_67 95 (by omega)]; exact F_56
          have F_73 : M_65 96 = IR k 1148 di := by rw [hfr_67 96 (by omega)]; exact F_57
          have F_74 : M_65 97 = IR k 164 kp := by rw [hfr_67 97 (by omega)]; exact F_58
          have F_75 : M_65 98 = .inl (kZ k, 2, .inl (fun zq => bI (ik zq))) := by rw [hfr_67 98 (by omega)]; exact F_59
          have F_76 : M_65 103 = IR k 90 sc := by rw [hfr_67 103 (by omega)]; exact F_60
          have F_77 : M_65 104 = IR k 82 rd := by rw [hfr_67 104 (by omega)]; exact F_61
          have F_78 : M_65 105 = IR k 24 li := by rw [hfr_67 105 (by omega)]; exact F_62
          have P_79 : RtAt k M_65 (build cs ds).1 := P_63.fr (fun i h1 h2 => hfr_67 i (by omega))
          refine v_top (show (Value.int (bI (decide (0 < 2))) : Value) = .int (bI true) from congrArg _ (congrArg bI (by decide))) ?_
          refine v_ieqB X 195 dX8_resolve_190 (by decide) (fun h => absurd h (by decide)) (fun _ => ?_)
          refine v_iconst X (v := nI 0) (by decide) dX8_resolve_193 ?_
          exact v_iret X rq ⟨by decide, by decide⟩ rfl dX8_resolve_194 ⟨_, rfl, Or.inr (Or.inl ⟨i, j, v, hi, hj, hv, rfl, rfl, rfl, hno, ⟨hN, hV, htx9, htxc, nx, lp, ln, sp, lc, so, nw, tl, di, kp, ik, sc, rd, li, F_68, F_71, F_72, F_73, F_74, F_75, P_79, F_76, F_77, F_78, hR, hD, hK, hS⟩⟩), (fun i hi => by rw [hfr_67 i (by omega), hfr_51 i (by omega)])⟩
        · have p1 : xPar (cAt cs i) = false := hri.p0.mp (by omega)
          refine v_aload_n X 2 dX8_resolve_107 rfl ?_
          refine v_get X cls8 F_52 (by omega) 1 (by decide) m_443 rfl rfl dX8_resolve_108 ?_
          refine v_iconst X (v := nI 1) (by decide) dX8_resolve_111 ?_
          refine v_iload_n X 4 dX8_resolve_112 rfl ?_
          refine v_addN X dX8_resolve_113 ?_
          refine v_iald X nI F_55 (by omega) (by omega) (by decide) dX8_resolve_114 ?_
          refine v_ineN X 173 (by omega) dX8_resolve_115 (by decide) (fun c_80 => ?_) (fun c_80 => ?_)
          · have hno : ¬ rsOK cs i j v := fun q => by have e := q.2.1; have := hrj.1; rw [e] at this; exact c_80 this
            refine v_iconst X (v := bI false) (by decide) dX8_resolve_173 ?_
            refine v_istore X [(6, .int (bI false)), (5, .int (nI (rsN cs i j v))), (4, .int (nI (rsP cs i j v))), (0, .ref (ad k 93)), (1, .int (nI i)), (2, .int (nI j)), (3, .int (nI v))] dX8_resolve_174 (by decide) rfl ?_
            refine v_aload_n X 3 dX8_resolve_176 rfl ?_
            refine v_iload X 0 dX8_resolve_177 rfl ?_
            refine v_ieqB X 186 dX8_resolve_179 (by decide) (fun _ => ?_) (fun h => absurd h (by decide))
            refine v_iconst X (v := nI 2) (by decide) dX8_resolve_186 ?_
            refine v_callV X hCl hCR (c_X8_refused l k M_49 0 mem.length nx (tA ((build cs ds).1)) (tT ((build cs ds).1)) (((build cs ds).1).length) ((tL (build cs ds).1)) ((build cs ds).2) lp ln tx.length sp lc so 2 (by omega) F_52 (by omega)) cls8 ⟨_, F_52⟩ (by omega) mo_X8_refused m_458 m_508 m_509 m_510 m_465 (by decide) rfl rfl (Nat.le_of_ble_eq_true rfl) ⟨rfl, rfl⟩ ⟨by decide, by decide⟩ dX8_resolve_187 (vI_in (fun r_85 M_81 hp_82 => ?_))
            obtain ⟨he_86, F_84, hfr_83⟩ := hp_82
            subst he_86
            have F_87 : M_81 94 = IR k 82 nw := by rw [hfr_83 94 (by omega)]; exact F_55
            have F_88 : M_81 95 = IR k 82 tl := by rw [hfr_83 95 (by omega)]; exact F_56
            have F_89 : M_81 96 = IR k 1148 di := by rw [hfr_83 96 (by omega)]; exact F_57
            have F_90 : M_81 97 = IR k 164 kp := by rw [hfr_83 97 (by omega)]; exact F_58
            have F_91 : M_81 98 = .inl (kZ k, 2, .inl (fun zq => bI (ik zq))) := by rw [hfr_83 98 (by omega)]; exact F_59
            have F_92 : M_81 103 = IR k 90 sc := by rw [hfr_83 103 (by omega)]; exact F_60
            have F_93 : M_81 104 = IR k 82 rd := by rw [hfr_83 104 (by omega)]; exact F_61
            have F_94 : M_81 105 = IR k 24 li := by rw [hfr_83 105 (by omega)]; exact F_62
            have P_95 : RtAt k M_81 (build cs ds).1 := P_63.fr (fun i h1 h2 => hfr_83 i (by omega))
            refine v_top (show (Value.int (bI (decide (0 < 2))) : Value) = .int (bI true) from congrArg _ (congrArg bI (by decide))) ?_
            refine v_ieqB X 195 dX8_resolve_190 (by decide) (fun h => absurd h (by decide)) (fun _ => ?_)
            refine v_iconst X (v := nI 0) (by decide) dX8_resolve_193 ?_
            exact v_iret X rq ⟨by decide, by decide⟩ rfl dX8_resolve_194 ⟨_, rfl, Or.inr (Or.inl ⟨i, j, v, hi, hj, hv, rfl, rfl, rfl, hno, ⟨hN, hV, htx9, htxc, nx, lp, ln, sp, lc, so, nw, tl, di, kp, ik, sc, rd, li, F_84, F_87, F_88, F_89, F_90, F_91, P_95, F_92, F_93, F_94, hR, hD, hK, hS⟩⟩), (fun i hi => by rw [hfr_83 i (by omega), hfr_51 i (by omega)])⟩
          · have p2 : xPar (cAt cs j) = false := hrj.p0.mp (by omega)
            refine v_aload_n X 2 dX8_resolve_118 rfl ?_
            refine v_get X cls8 F_52 (by omega) 1 (by decide) m_443 rfl rfl dX8_resolve_119 ?_
            refine v_bipush X (v := nI 25) (by decide) dX8_resolve_122 ?_
            refine v_iload_n X 3 dX8_resolve_124 rfl ?_
            refine v_addN X dX8_resolve_125 ?_
            refine v_iald X nI F_55 (by omega) (by omega) (by decide) dX8_resolve_126 ?_
            refine v_iload_n X 5 dX8_resolve_127 rfl ?_
            refine v_callS X hCl hCR (c_X8_has l k M_49 (nw (25 + i)) v (by rw [hri.2.1]; omega) (by omega)) mo_X8_has m_460 m_463 m_464 m_465 (by decide) rfl rfl (Nat.le_of_ble_eq_true rfl) ⟨rfl, rfl⟩ ⟨by decide, by decide⟩ dX8_resolve_128 (vP_in ?_)
            refine v_ieqB X 173 dX8_resolve_131 (by decide) (fun c_96 => ?_) (fun c_96 => ?_)
            · have hz := c_96
              rw [hri.2.1] at hz
              have hno : ¬ rsOK cs i j v := fun q => by have := q.2.2.1; rw [hz] at this; cases this
              refine v_iconst X (v := bI false) (by decide) dX8_resolve_173 ?_
              refine v_istore X [(6, .int (bI false)), (5, .int (nI (rsN cs i j v))), (4, .int (nI (rsP cs i j v))), (0, .ref (ad k 93)), (1, .int (nI i)), (2, .int (nI j)), (3, .int (nI v))] dX8_resolve_174 (by decide) rfl ?_
              refine v_aload_n X 3 dX8_resolve_176 rfl ?_
              refine v_iload X 0 dX8_resolve_177 rfl ?_
              refine v_ieqB X 186 dX8_resolve_179 (by decide) (fun _ => ?_) (fun h => absurd h (by decide))
              refine v_iconst X (v := nI 2) (by decide) dX8_resolve_186 ?_
              refine v_callV X hCl hCR (c_X8_refused l k M_49 0 mem.length nx (tA ((build cs ds).1)) (tT ((build cs ds).1)) (((build cs ds).1).length) ((tL (build cs ds).1)) ((build cs ds).2) lp ln tx.length sp lc so 2 (by omega) F_52 (by omega)) cls8 ⟨_, F_52⟩ (by omega) mo_X8_refused m_458 m_508 m_509 m_510 m_465 (by decide) rfl rfl (Nat.le_of_ble_eq_true rfl) ⟨rfl, rfl⟩ ⟨by decide, by decide⟩ dX8_resolve_187 (vI_in (fun r_101 M_97 hp_98 => ?_))
              obtain ⟨he_102, F_100, hfr_99⟩ := hp_98
              subst he_102
              have F_103 : M_97 94 = IR k 82 nw := by rw [hfr_99 94 (by omega)]; exact F_55
              have F_104 : M_97 95 = IR k 82 tl := by rw [hfr_99 95 (by omega)]; exact F_56
              have F_105 : M_97 96 = IR k 1148 di := by rw [hfr_99 96 (by omega)]; exact F_57
              have F_106 : M_97 97 = IR k 164 kp := by rw [hfr_99 97 (by omega)]; exact F_58
              have F_107 : M_97 98 = .inl (kZ k, 2, .inl (fun zq => bI (ik zq))) := by rw [hfr_99 98 (by omega)]; exact F_59
              have F_108 : M_97 103 = IR k 90 sc := by rw [hfr_99 103 (by omega)]; exact F_60
              have F_109 : M_97 104 = IR k 82 rd := by rw [hfr_99 104 (by omega)]; exact F_61
              have F_110 : M_97 105 = IR k 24 li := by rw [hfr_99 105 (by omega)]; exact F_62
              have P_111 : RtAt k M_97 (build cs ds).1 := P_63.fr (fun i h1 h2 => hfr_99 i (by omega))
              refine v_top (show (Value.int (bI (decide (0 < 2))) : Value) = .int (bI true) from congrArg _ (congrArg bI (by decide))) ?_
              refine v_ieqB X 195 dX8_resolve_190 (by decide) (fun h => absurd h (by decide)) (fun _ => ?_)
              refine v_iconst X (v := nI 0) (by decide) dX8_resolve_193 ?_
              exact v_iret X rq ⟨by decide, by decide⟩ rfl dX8_resolve_194 ⟨_, rfl, Or.inr (Or.inl ⟨i, j, v, hi, hj, hv, rfl, rfl, rfl, hno, ⟨hN, hV, htx9, htxc, nx, lp, ln, sp, lc, so, nw, tl, di, kp, ik, sc, rd, li, F_100, F_103, F_104, F_105, F_106, F_107, P_111, F_108, F_109, F_110, hR, hD, hK, hS⟩⟩), (fun i hi => by rw [hfr_99 i (by omega), hfr_51 i (by omega)])⟩
            · have p3 := c_96
              rw [hri.2.1] at p3
              refine v_aload_n X 2 dX8_resolve_134 rfl ?_
              refine v_get X cls8 F_52 (by omega) 1 (by decide) m_443 rfl rfl dX8_resolve_135 ?_
              refine v_bipush X (v := nI 49) (by decide) dX8_resolve_138 ?_
              refine v_iload_n X 4 dX8_resolve_140 rfl ?_
              refine v_addN X dX8_resolve_141 ?_
              refine v_iald X nI F_55 (by omega) (by omega) (by decide) dX8_resolve_142 ?_
              refine v_iload_n X 5 dX8_resolve_143 rfl ?_
              refine v_callS X hCl hCR (c_X8_has l k M_49 (nw (49 + j)) v (by rw [hrj.2.2.1]; omega) (by omega)) mo_X8_has m_460 m_463 m_464 m_465 (by decide) rfl rfl (Nat.le_of_ble_eq_true rfl) ⟨rfl, rfl⟩ ⟨by decide, by decide⟩ dX8_resolve_144 (vP_in ?_)
              refine v_ieqB X 173 dX8_resolve_147 (by decide) (fun c_112 => ?_) (fun c_112 => ?_)
              · have hz := c_112
                rw [hrj.2.2.1] at hz
                have hno : ¬ rsOK cs i j v := fun q => by have := q.2.2.2.1; rw [hz] at this; cases this
                refine v_iconst X (v := bI false) (by decide) dX8_resolve_173 ?_
                refine v_istore X [(6, .int (bI false)), (5, .int (nI (rsN cs i j v))), (4, .int (nI (rsP cs i j v))), (0, .ref (ad k 93)), (1, .int (nI i)), (2, .int (nI j)), (3, .int (nI v))] dX8_resolve_174 (by decide) rfl ?_
                refine v_aload_n X 3 dX8_resolve_176 rfl ?_
                refine v_iload X 0 dX8_resolve_177 rfl ?_
                refine v_ieqB X 186 dX8_resolve_179 (by decide) (fun _ => ?_) (fun h => absurd h (by decide))
                refine v_iconst X (v := nI 2) (by decide) dX8_resolve_186 ?_
                refine v_callV X hCl hCR (c_X8_refused l k M_49 0 mem.length nx (tA ((build cs ds).1)) (tT ((build cs ds).1)) (((build cs ds).1).length) ((tL (build cs ds).1)) ((build cs ds).2) lp ln tx.length sp lc so 2 (by omega) F_52 (by omega)) cls8 ⟨_, F_52⟩ (by omega) mo_X8_refused m_458 m_508 m_509 m_510 m_465 (by decide) rfl rfl (Nat.le_of_ble_eq_true rfl) ⟨rfl, rfl⟩ ⟨by decide, by decide⟩ dX8_resolve_187 (vI_in (fun r_117 M_113 hp_114 => ?_))
                obtain ⟨he_118, F_116, hfr_115⟩ := hp_114
                subst he_118
                have F_119 : M_113 94 = IR k 82 nw := by rw [hfr_115 94 (by omega)]; exact F_55
                have F_120 : M_113 95 = IR k 82 tl := by rw [hfr_115 95 (by omega)]; exact F_56
                have F_121 : M_113 96 = IR k 1148 di := by rw [hfr_115 96 (by omega)]; exact F_57
                have F_122 : M_113 97 = IR k 164 kp := by rw [hfr_115 97 (by omega)]; exact F_58
                have F_123 : M_113 98 = .inl (kZ k, 2, .inl (fun zq => bI (ik zq))) := by rw [hfr_115 98 (by omega)]; exact F_59
                have F_124 : M_113 103 = IR k 90 sc := by rw [hfr_115 103 (by omega)]; exact F_60
                have F_125 : M_113 104 = IR k 82 rd := by rw [hfr_115 104 (by omega)]; exact F_61
                have F_126 : M_113 105 = IR k 24 li := by rw [hfr_115 105 (by omega)]; exact F_62
                have P_127 : RtAt k M_113 (build cs ds).1 := P_63.fr (fun i h1 h2 => hfr_115 i (by omega))
                refine v_top (show (Value.int (bI (decide (0 < 2))) : Value) = .int (bI true) from congrArg _ (congrArg bI (by decide))) ?_
                refine v_ieqB X 195 dX8_resolve_190 (by decide) (fun h => absurd h (by decide)) (fun _ => ?_)
                refine v_iconst X (v := nI 0) (by decide) dX8_resolve_193 ?_
                exact v_iret X rq ⟨by decide, by decide⟩ rfl dX8_resolve_194 ⟨_, rfl, Or.inr (Or.inl ⟨i, j, v, hi, hj, hv, rfl, rfl, rfl, hno, ⟨hN, hV, htx9, htxc, nx, lp, ln, sp, lc, so, nw, tl, di, kp, ik, sc, rd, li, F_116, F_119, F_120, F_121, F_122, F_123, P_127, F_124, F_125, F_126, hR, hD, hK, hS⟩⟩), (fun i hi => by rw [hfr_115 i (by omega), hfr_51 i (by omega)])⟩
              · have p4 := c_112
                rw [hrj.2.2.1] at p4
                refine v_iload X 1 dX8_resolve_150 rfl ?_
                refine v_iload X 0 dX8_resolve_152 rfl ?_
                refine v_andN X dX8_resolve_154 ?_
                refine v_ineN X 173 (by have := rsP_lt (cs := cs) (i := i) (j := j) (v := v); exact and_ltl (show rsP cs i j v < 2 ^ 31 by omega)) dX8_resolve_155 (by decide) (fun c_128 => ?_) (fun c_128 => ?_)
                · have hno : ¬ rsOK cs i j v := fun q => by exact c_128 q.2.2.2.2.1
                  refine v_iconst X (v := bI false) (by decide) dX8_resolve_173 ?_
                  refine v_istore X [(6, .int (bI false)), (5, .int (nI (rsN cs i j v))), (4, .int (nI (rsP cs i j v))), (0, .ref (ad k 93)), (1, .int (nI i)), (2, .int (nI j)), (3, .int (nI v))] dX8_resolve_174 (by decide) rfl ?_
                  refine v_aload_n X 3 dX8_resolve_176 rfl ?_
                  refine v_iload X 0 dX8_resolve_177 rfl ?_
                  refine v_ieqB X 186 dX8_resolve_179 (by decide) (fun _ => ?_) (fun h => absurd h (by decide))
                  refine v_iconst X (v := nI 2) (by decide) dX8_resolve_186 ?_
                  refine v_callV X hCl hCR (c_X8_refused l k M_49 0 mem.length nx (tA ((build cs ds).1)) (tT ((build cs ds).1)) (((build cs ds).1).length) ((tL (build cs ds).1)) ((build cs ds).2) lp ln tx.length sp lc so 2 (by omega) F_52 (by omega)) cls8 ⟨_, F_52⟩ (by omega) mo_X8_refused m_458 m_508 m_509 m_510 m_465 (by decide) rfl rfl (Nat.le_of_ble_eq_true rfl) ⟨rfl, rfl⟩ ⟨by decide, by decide⟩ dX8_resolve_187 (vI_in (fun r_133 M_129 hp_130 => ?_))
                  obtain ⟨he_134, F_132, hfr_131⟩ := hp_130
                  subst he_134
                  have F_135 : M_129 94 = IR k 82 nw := by rw [hfr_131 94 (by omega)]; exact F_55
                  have F_136 : M_129 95 = IR k 82 tl := by rw [hfr_131 95 (by omega)]; exact F_56
                  have F_137 : M_129 96 = IR k 1148 di := by rw [hfr_131 96 (by omega)]; exact F_57
                  have F_138 : M_129 97 = IR k 164 kp := by rw [hfr_131 97 (by omega)]; exact F_58
                  have F_139 : M_129 98 = .inl (kZ k, 2, .inl (fun zq => bI (ik zq))) := by rw [hfr_131 98 (by omega)]; exact F_59
                  have F_140 : M_129 103 = IR k 90 sc := by rw [hfr_131 103 (by omega)]; exact F_60
                  have F_141 : M_129 104 = IR k 82 rd := by rw [hfr_131 104 (by omega)]; exact F_61
                  have F_142 : M_129 105 = IR k 24 li := by rw [hfr_131 105 (by omega)]; exact F_62
                  have P_143 : RtAt k M_129 (build cs ds).1 := P_63.fr (fun i h1 h2 => hfr_131 i (by omega))
                  refine v_top (show (Value.int (bI (decide (0 < 2))) : Value) = .int (bI true) from congrArg _ (congrArg bI (by decide))) ?_
                  refine v_ieqB X 195 dX8_resolve_190 (by decide) (fun h => absurd h (by decide)) (fun _ => ?_)
                  refine v_iconst X (v := nI 0) (by decide) dX8_resolve_193 ?_
                  exact v_iret X rq ⟨by decide, by decide⟩ rfl dX8_resolve_194 ⟨_, rfl, Or.inr (Or.inl ⟨i, j, v, hi, hj, hv, rfl, rfl, rfl, hno, ⟨hN, hV, htx9, htxc, nx, lp, ln, sp, lc, so, nw, tl, di, kp, ik, sc, rd, li, F_132, F_135, F_136, F_137, F_138, F_139, P_143, F_140, F_141, F_142, hR, hD, hK, hS⟩⟩), (fun i hi => by rw [hfr_131 i (by omega), hfr_51 i (by omega)])⟩
                · have p5 := c_128
                  refine v_aload_n X 2 dX8_resolve_158 rfl ?_
                  refine v_get X cls8 F_52 (by omega) 1 (by decide) m_443 rfl rfl dX8_resolve_159 ?_
                  refine v_iconst X (v := nI 0) (by decide) dX8_resolve_162 ?_
                  refine v_iald X nI F_55 (by omega) (by omega) (by decide) dX8_resolve_163 ?_
                  refine v_top (show (Value.int (nI (nw 0)) : Value) = .int (nI cs.length) from congrArg _ (congrArg nI hR.1)) ?_
                  refine v_bipush X (v := nI 24) (by decide) dX8_resolve_164 ?_
                  refine v_cgeN X 173 (by omega) (by omega) dX8_resolve_166 (by decide) (fun c_144 => ?_) (fun c_144 => ?_)
                  · have hno : ¬ rsOK cs i j v := fun q => by have := q.2.2.2.2.2; omega
                    refine v_iconst X (v := bI false) (by decide) dX8_resolve_173 ?_
                    refine v_istore X [(6, .int (bI false)), (5, .int (nI (rsN cs i j v))), (4, .int (nI (rsP cs i j v))), (0, .ref (ad k 93)), (1, .int (nI i)), (2, .int (nI j)), (3, .int (nI v))] dX8_resolve_174 (by decide) rfl ?_
                    refine v_aload_n X 3 dX8_resolve_176 rfl ?_
                    refine v_iload X 0 dX8_resolve_177 rfl ?_
                    refine v_ieqB X 186 dX8_resolve_179 (by decide) (fun _ => ?_) (fun h => absurd h (by decide))
                    refine v_iconst X (v := nI 2) (by decide) dX8_resolve_186 ?_
                    refine v_callV X hCl hCR (c_X8_refused l k M_49 0 mem.length nx (tA ((build cs ds).1)) (tT ((build cs ds).1)) (((build cs ds).1).length) ((tL (build cs ds).1)) ((build cs ds).2) lp ln tx.length sp lc so 2 (by omega) F_52 (by omega)) cls8 ⟨_, F_52⟩ (by omega) mo_X8_refused m_458 m_508 m_509 m_510 m_465 (by decide) rfl rfl (Nat.le_of_ble_eq_true rfl) ⟨rfl, rfl⟩ ⟨by decide, by decide⟩ dX8_resolve_187 (vI_in (fun r_149 M_145 hp_146 => ?_))
                    obtain ⟨he_150, F_148, hfr_147⟩ := hp_146
                    subst he_150
                    have F_151 : M_145 94 = IR k 82 nw := by rw [hfr_147 94 (by omega)]; exact F_55
                    have F_152 : M_145 95 = IR k 82 tl := by rw [hfr_147 95 (by omega)]; exact F_56
                    have F_153 : M_145 96 = IR k 1148 di := by rw [hfr_147 96 (by omega)]; exact F_57
                    have F_154 : M_145 97 = IR k 164 kp := by rw [hfr_147 97 (by omega)]; exact F_58
                    have F_155 : M_145 98 = .inl (kZ k, 2, .inl (fun zq => bI (ik zq))) := by rw [hfr_147 98 (by omega)]; exact F_59
                    have F_156 : M_145 103 = IR k 90 sc := by rw [hfr_147 103 (by omega)]; exact F_60
                    have F_157 : M_145 104 = IR k 82 rd := by rw [hfr_147 104 (by omega)]; exact F_61
                    have F_158 : M_145 105 = IR k 24 li := by rw [hfr_147 105 (by omega)]; exact F_62
                    have P_159 : RtAt k M_145 (build cs ds).1 := P_63.fr (fun i h1 h2 => hfr_147 i (by omega))
                    refine v_top (show (Value.int (bI (decide (0 < 2))) : Value) = .int (bI true) from congrArg _ (congrArg bI (by decide))) ?_
                    refine v_ieqB X 195 dX8_resolve_190 (by decide) (fun h => absurd h (by decide)) (fun _ => ?_)
                    refine v_iconst X (v := nI 0) (by decide) dX8_resolve_193 ?_
                    exact v_iret X rq ⟨by decide, by decide⟩ rfl dX8_resolve_194 ⟨_, rfl, Or.inr (Or.inl ⟨i, j, v, hi, hj, hv, rfl, rfl, rfl, hno, ⟨hN, hV, htx9, htxc, nx, lp, ln, sp, lc, so, nw, tl, di, kp, ik, sc, rd, li, F_148, F_151, F_152, F_153, F_154, F_155, P_159, F_156, F_157, F_158, hR, hD, hK, hS⟩⟩), (fun i hi => by rw [hfr_147 i (by omega), hfr_51 i (by omega)])⟩
                  · have p6 : cs.length < 24 := c_144
                    refine v_iconst X (v := bI true) (by decide) dX8_resolve_169 ?_
                    refine v_goto X 174 dX8_resolve_170 (by decide) ?_
                    refine v_istore X [(6, .int (bI true)), (5, .int (nI (rsN cs i j v))), (4, .int (nI (rsP cs i j v))), (0, .ref (ad k 93)), (1, .int (nI i)), (2, .int (nI j)), (3, .int (nI v))] dX8_resolve_174 (by decide) rfl ?_
                    refine v_aload_n X 3 dX8_resolve_176 rfl ?_
                    refine v_iload X 0 dX8_resolve_177 rfl ?_
                    refine v_ieqB X 186 dX8_resolve_179 (by decide) (fun h => absurd h (by decide)) (fun _ => ?_)
                    refine v_iconst X (v := nI 0) (by decide) dX8_resolve_182 ?_
                    refine v_goto X 187 dX8_resolve_183 (by decide) ?_
                    refine v_callV X hCl hCR (c_X8_refused l k M_49 0 mem.length nx (tA ((build cs ds).1)) (tT ((build cs ds).1)) (((build cs ds).1).length) ((tL (build cs ds).1)) ((build cs ds).2) lp ln tx.length sp lc so 0 (by omega) F_52 (by omega)) cls8 ⟨_, F_52⟩ (by omega) mo_X8_refused m_458 m_508 m_509 m_510 m_465 (by decide) rfl rfl (Nat.le_of_ble_eq_true rfl) ⟨rfl, rfl⟩ ⟨by decide, by decide⟩ dX8_resolve_187 (vI_in (fun r_164 M_160 hp_161 => ?_))
                    obtain ⟨he_165, F_163, hfr_162⟩ := hp_161
                    subst he_165
                    have F_166 : M_160 94 = IR k 82 nw := by rw [hfr_162 94 (by omega)]; exact F_55
                    have F_167 : M_160 95 = IR k 82 tl := by rw [hfr_162 95 (by omega)]; exact F_56
                    have F_168 : M_160 96 = IR k 1148 di := by rw [hfr_162 96 (by omega)]; exact F_57
                    have F_169 : M_160 97 = IR k 164 kp := by rw [hfr_162 97 (by omega)]; exact F_58
                    have F_170 : M_160 98 = .inl (kZ k, 2, .inl (fun zq => bI (ik zq))) := by rw [hfr_162 98 (by omega)]; exact F_59
                    have F_171 : M_160 103 = IR k 90 sc := by rw [hfr_162 103 (by omega)]; exact F_60
                    have F_172 : M_160 104 = IR k 82 rd := by rw [hfr_162 104 (by omega)]; exact F_61
                    have F_173 : M_160 105 = IR k 24 li := by rw [hfr_162 105 (by omega)]; exact F_62
                    have P_174 : RtAt k M_160 (build cs ds).1 := P_63.fr (fun i h1 h2 => hfr_162 i (by omega))
                    refine v_top (show (Value.int (bI (decide (0 < 0))) : Value) = .int (bI false) from congrArg _ (congrArg bI (by decide))) ?_
                    refine v_ieqB X 195 dX8_resolve_190 (by decide) (fun _ => ?_) (fun h => absurd h (by decide))
                    refine v_aload_n X 3 dX8_resolve_195 rfl ?_
                    refine v_iconst X (v := nI 0) (by decide) dX8_resolve_196 ?_
                    refine v_iload X 2 dX8_resolve_197 rfl ?_
                    refine v_iload X 1 dX8_resolve_199 rfl ?_
                    have hRef_175 : RefAt k M_160 0 cs ds mem sl tx := ⟨hN, hV, htx9, htxc, nx, lp, ln, sp, lc, so, nw, tl, di, kp, ik, sc, rd, li, F_163, F_166, F_167, F_168, F_169, F_170, P_174, F_171, F_172, F_173, hR, hD, hK, hS⟩
                    refine v_callV X hCl hCR (c_X8_added l k M_160 0 cs ds mem sl tx (xClause (rsP cs i j v) (rsN cs i j v)) 0 (rsP cs i j v) (rsN cs i j v) hRef_175 (xOK_clause rsP_lt rsN_lt p5) p6 (by rw [xPar_clause rsP_lt rsN_lt]; rfl) (xFirst_clause rsP_lt).symm (xSecond_clause rsP_lt rsN_lt).symm) cls8 ⟨_, F_163⟩ (by omega) mo_X8_added m_550 m_553 m_554 m_555 m_465 (by decide) rfl rfl (Nat.le_of_ble_eq_true rfl) ⟨rfl, rfl⟩ ⟨by decide, by decide⟩ dX8_resolve_201 (vI_in (fun r_180 M_176 hp_177 => ?_))
                    obtain ⟨he_181, hRef_179, hfr_178⟩ := hp_177
                    subst he_181
                    exact v_iret X rq ⟨by decide, by decide⟩ rfl dX8_resolve_204 ⟨_, rfl, Or.inr (Or.inr ⟨i, j, v, hi, hj, hv, rfl, rfl, rfl, ⟨p1, p2, p3, p4, p5, p6⟩, rfl, hRef_179⟩), (fun i hi => by rw [hfr_178 i (by omega), hfr_162 i (by omega), hfr_51 i (by omega)])⟩
set_option maxHeartbeats 4000000 in
set_option maxRecDepth 100000 in
theorem c_X8_sum (l : Launch) (k : KX) (M : Mem) (w : Nat) (cs ds : List Nat) (mem : List SD) (sl : Nat → Option SD) (tx : List Nat) (x y : Int32) (hRef : RefAt k M w cs ds mem sl tx) : CM l yX8_sum cX8_sum 3 ((some .int)) { frames := 7, cells := 0, slots := 0, locals := 161 } k [.ref (ad k 93), .int x, .int y] M (pI (fun r M' => ((¬ (inL x cs.length = true ∧ inL y cs.length = true) ∧ RefAt k M' 1 cs ds mem sl tx) ∨ (∃ i j, i < cs.length ∧ j < cs.length ∧ x = nI i ∧ y = nI j ∧ ¬ smOK cs i j ∧ RefAt k M' 2 cs ds mem sl tx) ∨ (∃ i j, i < cs.length ∧ j < cs.length ∧ x = nI i ∧ y = nI j ∧ smOK cs i j ∧ r = nI cs.length ∧ RefAt k M' 0 (cs ++ [xParity (xFirst (cAt cs i) ^^^ xFirst (cAt cs j)) (xSecond (cAt cs i) ^^^ xSecond (cAt cs j))]) (sNew (cs ++ [xParity (xFirst (cAt cs i) ^^^ xFirst (cAt cs j)) (xSecond (cAt cs i) ^^^ xSecond (cAt cs j))]) ds) (remF mem (cs, ds)) sl tx)) ∧ FrR M M')) := by
  refine CM.of (by decide) (Nat.le_of_ble_eq_true rfl) (fun C X hCl hCR rq => ?_)
  show V C k 3 (0, 0) M 0 [(0, .ref (ad k 93)), (1, .int x), (2, .int y)] []
  obtain ⟨hN, hV, htx9, htxc, nx, lp, ln, sp, lc, so, nw, tl, di, kp, ik, sc, rd, li, F93, F94, F95, F96, F97, F98, hT, F103, F104, F105, hR, hD, hK, hS⟩ := id hRef
  have ho2 : csOK cs := hV.1.1
  have hds : ∀ d ∈ ds, d < 16 := hV.1.2.1
  have hlc : cs.length ≤ 24 := ho2.1
  have hld : ds.length ≤ 8 := hV.1.2.2
  have hok := cAt_ok ho2
  have hr := hR.c
  have hTk := hT.2.1
  have hTA := hTk.A
  have hTT := hTk.T
  have hTl := hTk.le
  have htL : tL (build cs ds).1 = ds.length := hV.2.1
  have hcf : ∀ n, (build cs ds).2 = some n → n < 24 := fun n hn => by have := (build_ok hlc hds).2 n hn; omega
  refine v_aload_n X 0 dX8_sum_0 rfl ?_
  refine v_aload_n X 0 dX8_sum_1 rfl ?_
  refine v_iload_n X 1 dX8_sum_2 rfl ?_
  refine v_callV X hCl hCR (c_X8_isConstraint l k M w mem.length nx (tA ((build cs ds).1)) (tT ((build cs ds).1)) (((build cs ds).1).length) ((tL (build cs ds).1)) ((build cs ds).2) lp ln tx.length sp lc so nw cs.length x (by omega) F93 F94 hR.1 (by omega)) cls8 ⟨_, F93⟩ (by omega) mo_X8_isConstraint m_537 m_540 m_541 m_542 m_465 (by decide) rfl rfl (Nat.le_of_ble_eq_true rfl) ⟨rfl, rfl⟩ ⟨by decide, by decide⟩ dX8_sum_3 (vP_in ?_)
  refine v_ieqB X 21 dX8_sum_6 (by decide) (fun c_1 => ?_) (fun c_1 => ?_)
  · have hb1 := c_1
    refine v_iconst X (v := nI 1) (by decide) dX8_sum_21 ?_
    refine v_callV X hCl hCR (c_X8_refused l k M w mem.length nx (tA ((build cs ds).1)) (tT ((build cs ds).1)) (((build cs ds).1).length) ((tL (build cs ds).1)) ((build cs ds).2) lp ln tx.length sp lc so 1 (by omega) F93 (by omega)) cls8 ⟨_, F93⟩ (by omega) mo_X8_refused m_458 m_508 m_509 m_510 m_465 (by decide) rfl rfl (Nat.le_of_ble_eq_true rfl) ⟨rfl, rfl⟩ ⟨by decide, by decide⟩ dX8_sum_22 (vI_in (fun r_6 M_2 hp_3 => ?_))
    obtain ⟨he_7, F_5, hfr_4⟩ := hp_3
    subst he_7
    have F_8 : M_2 94 = IR k 82 nw := by rw [hfr_4 94 (by omega)]; exact F94
    have F_9 : M_2 95 = IR k 82 tl := by rw [hfr_4 95 (by omega)]; exact F95
    have F_10 : M_2 96 = IR k 1148 di := by rw [hfr_4 96 (by omega)]; exact F96
    have F_11 : M_2 97 = IR k 164 kp := by rw [hfr_4 97 (by omega)]; exact F97
    have F_12 : M_2 98 = .inl (kZ k, 2, .inl (fun zq => bI (ik zq))) := by rw [hfr_4 98 (by omega)]; exact F98
    have F_13 : M_2 103 = IR k 90 sc := by rw [hfr_4 103 (by omega)]; exact F103
    have F_14 : M_2 104 = IR k 82 rd := by rw [hfr_4 104 (by omega)]; exact F104
    have F_15 : M_2 105 = IR k 24 li := by rw [hfr_4 105 (by omega)]; exact F105
    have P_16 : RtAt k M_2 (build cs ds).1 := hT.fr (fun i h1 h2 => hfr_4 i (by omega))
    refine v_top (show (Value.int (bI (decide (0 < 1))) : Value) = .int (bI true) from congrArg _ (congrArg bI (by decide))) ?_
    refine v_ieqB X 30 dX8_sum_25 (by decide) (fun h => absurd h (by decide)) (fun _ => ?_)
    refine v_iconst X (v := nI 0) (by decide) dX8_sum_28 ?_
    exact v_iret X rq ⟨by decide, by decide⟩ rfl dX8_sum_29 ⟨_, rfl, Or.inl ⟨(fun q => by have := q.1; rw [hb1] at this; cases this), ⟨hN, hV, htx9, htxc, nx, lp, ln, sp, lc, so, nw, tl, di, kp, ik, sc, rd, li, F_5, F_8, F_9, F_10, F_11, F_12, P_16, F_13, F_14, F_15, hR, hD, hK, hS⟩⟩, (fun i hi => by rw [hfr_4 i (by omega)])⟩
  · have hb1 := c_1
    refine v_aload_n X 0 dX8_sum_9 rfl ?_
    refine v_iload_n X 2 dX8_sum_10 rfl ?_
    refine v_callV X hCl hCR (c_X8_isConstraint l k M w mem.length nx (tA ((build cs ds).1)) (tT ((build cs ds).1)) (((build cs ds).1).length) ((tL (build cs ds).1)) ((build cs ds).2) lp ln tx.length sp lc so nw cs.length y (by omega) F93 F94 hR.1 (by omega)) cls8 ⟨_, F93⟩ (by omega) mo_X8_isConstraint m_537 m_540 m_541 m_542 m_465 (by decide) rfl rfl (Nat.le_of_ble_eq_true rfl) ⟨rfl, rfl⟩ ⟨by decide, by decide⟩ dX8_sum_11 (vP_in ?_)
    refine v_ieqB X 21 dX8_sum_14 (by decide) (fun c_17 => ?_) (fun c_17 => ?_)
    · have hb2 := c_17
      refine v_iconst X (v := nI 1) (by decide) dX8_sum_21 ?_
      refine v_callV X hCl hCR (c_X8_refused l k M w mem.length nx (tA ((build cs ds).1)) (tT ((build cs ds).1)) (((build cs ds).1).length) ((tL (build cs ds).1)) ((build cs ds).2) lp ln tx.length sp lc so 1 (by omega) F93 (by omega)) cls8 ⟨_, F93⟩ (by omega) mo_X8_refused m_458 m_508 m_509 m_510 m_465 (by decide) rfl rfl (Nat.le_of_ble_eq_true rfl) ⟨rfl, rfl⟩ ⟨by decide, by decide⟩ dX8_sum_22 (vI_in (fun r_22 M_18 hp_19 => ?_))
      obtain ⟨he_23, F_21, hfr_20⟩ := hp_19
      subst he_23
      have F_24 : M_18 94 = IR k 82 nw := by rw [hfr_20 94 (by omega)]; exact F94
      have F_25 : M_18 95 = IR k 82 tl := by rw [hfr_20 95 (by omega)]; exact F95
      have F_26 : M_18 96 = IR k 1148 di := by rw [hfr_20 96 (by omega)]; exact F96
      have F_27 : M_18 97 = IR k 164 kp := by rw [hfr_20 97 (by omega)]; exact F97
      have F_28 : M_18 98 = .inl (kZ k, 2, .inl (fun zq => bI (ik zq))) := by rw [hfr_20 98 (by omega)]; exact F98
      have F_29 : M_18 103 = IR k 90 sc := by rw [hfr_20 103 (by omega)]; exact F103
      have F_30 : M_18 104 = IR k 82 rd := by rw [hfr_20 104 (by omega)]; exact F104
      have F_31 : M_18 105 = IR k 24 li := by rw [hfr_20 105 (by omega)]; exact F105
      have P_32 : RtAt k M_18 (build cs ds).1 := hT.fr (fun i h1 h2 => hfr_20 i (by omega))
      refine v_top (show (Value.int (bI (decide (0 < 1))) : Value) = .int (bI true) from congrArg _ (congrArg bI (by decide))) ?_
      refine v_ieqB X 30 dX8_sum_25 (by decide) (fun h => absurd h (by decide)) (fun _ => ?_)
      refine v_iconst X (v := nI 0) (by decide) dX8_sum_28 ?_
      exact v_iret X rq ⟨by decide, by decide⟩ rfl dX8_sum_29 ⟨_, rfl, Or.inl ⟨(fun q => by have := q.2; rw [hb2] at this; cases this), ⟨hN, hV, htx9, htxc, nx, lp, ln, sp, lc, so, nw, tl, di, kp, ik, sc, rd, li, F_21, F_24, F_25, F_26, F_27, F_28, P_32, F_29, F_30, F_31, hR, hD, hK, hS⟩⟩, (fun i hi => by rw [hfr_20 i (by omega)])⟩
    · have hb2 := c_17
      refine v_iconst X (v := nI 0) (by decide) dX8_sum_17 ?_
      refine v_goto X 22 dX8_sum_18 (by decide) ?_
      refine v_callV X hCl hCR (c_X8_refused l k M w mem.length nx (tA ((build cs ds).1)) (tT ((build cs ds).1)) (((build cs ds).1).length) ((tL (build cs ds).1)) ((build cs ds).2) lp ln tx.length sp lc so 0 (by omega) F93 (by omega)) cls8 ⟨_, F93⟩ (by omega) mo_X8_refused m_458 m_508 m_509 m_510 m_465 (by decide) rfl rfl (Nat.le_of_ble_eq_true rfl) ⟨rfl, rfl⟩ ⟨by decide, by decide⟩ dX8_sum_22 (vI_in (fun r_37 M_33 hp_34 => ?_))
      obtain ⟨he_38, F_36, hfr_35⟩ := hp_34
      subst he_38
      have F_39 : M_33 94 = IR k 82 nw := by rw [hfr_35 94 (by omega)]; exact F94
      have F_40 : M_33 95 = IR k 82 tl := by rw [hfr_35 95 (by omega)]; exact F95
      have F_41 : M_33 96 = IR k 1148 di := by rw [hfr_35 96 (by omega)]; exact F96
      have F_42 : M_33 97 = IR k 164 kp := by rw [hfr_35 97 (by omega)]; exact F97
      have F_43 : M_33 98 = .inl (kZ k, 2, .inl (fun zq => bI (ik zq))) := by rw [hfr_35 98 (by omega)]; exact F98
      have F_44 : M_33 103 = IR k 90 sc := by rw [hfr_35 103 (by omega)]; exact F103
      have F_45 : M_33 104 = IR k 82 rd := by rw [hfr_35 104 (by omega)]; exact F104
      have F_46 : M_33 105 = IR k 24 li := by rw [hfr_35 105 (by omega)]; exact F105
      have P_47 : RtAt k M_33 (build cs ds).1 := hT.fr (fun i h1 h2 => hfr_35 i (by omega))
      refine v_top (show (Value.int (bI (decide (0 < 0))) : Value) = .int (bI false) from congrArg _ (congrArg bI (by decide))) ?_
      refine v_ieqB X 30 dX8_sum_25 (by decide) (fun _ => ?_) (fun h => absurd h (by decide))
      obtain ⟨i, hi, rfl⟩ := inL_of (by omega) hb1
      obtain ⟨j, hj, rfl⟩ := inL_of (by omega) hb2
      have hri := hr.2 i hi
      have hrj := hr.2 j hj
      have hri1 := hri.lt
      have hrj1 := hrj.lt
      refine v_aload_n X 0 dX8_sum_30 rfl ?_
      refine v_aload_n X 0 dX8_sum_31 rfl ?_
      refine v_get X cls8 F_36 (by omega) 1 (by decide) m_443 rfl rfl dX8_sum_32 ?_
      refine v_iconst X (v := nI 1) (by decide) dX8_sum_35 ?_
      refine v_iload_n X 1 dX8_sum_36 rfl ?_
      refine v_addN X dX8_sum_37 ?_
      refine v_iald X nI F_39 (by omega) (by omega) (by decide) dX8_sum_38 ?_
      refine v_iconst X (v := nI 1) (by decide) dX8_sum_39 ?_
      refine v_cneN X 70 (by omega) (by omega) dX8_sum_40 (by decide) (fun c_48 => ?_) (fun c_48 => ?_)
      · have hno : ¬ smOK cs i j := fun q => by exact c_48 (hri.p1.mpr q.1)
        refine v_iconst X (v := nI 2) (by decide) dX8_sum_70 ?_
        refine v_callV X hCl hCR (c_X8_refused l k M_33 0 mem.length nx (tA ((build cs ds).1)) (tT ((build cs ds).1)) (((build cs ds).1).length) ((tL (build cs ds).1)) ((build cs ds).2) lp ln tx.length sp lc so 2 (by omega) F_36 (by omega)) cls8 ⟨_, F_36⟩ (by omega) mo_X8_refused m_458 m_508 m_509 m_510 m_465 (by decide) rfl rfl (Nat.le_of_ble_eq_true rfl) ⟨rfl, rfl⟩ ⟨by decide, by decide⟩ dX8_sum_71 (vI_in (fun r_53 M_49 hp_50 => ?_))
        obtain ⟨he_54, F_52, hfr_51⟩ := hp_50
        subst he_54
        have F_55 : M_49 94 = IR k 82 nw := by rw [hfr_51 94 (by omega)]; exact F_39
        have F_56 : M_49 95 = IR k 82 tl := by rw [hfr_51 95 (by omega)]; exact F_40
        have F_57 : M_49 96 = IR k 1148 di := by rw [hfr_51 96 (by omega)]; exact F_41
        have F_58 : M_49 97 = IR k 164 kp := by rw [hfr_51 97 (by omega)]; exact F_42
        have F_59 : M_49 98 = .inl (kZ k, 2, .inl (fun zq => bI (ik zq))) := by rw [hfr_51 98 (by omega)]; exact F_43
        have F_60 : M_49 103 = IR k 90 sc := by rw [hfr_51 103 (by omega)]; exact F_44
        have F_61 : M_49 104 = IR k 82 rd := by rw [hfr_51 104 (by omega)]; exact F_45
        have F_62 : M_49 105 = IR k 24 li := by rw [hfr_51 105 (by omega)]; exact F_46
        have P_63 : RtAt k M_49 (build cs ds).1 := P_47.fr (fun i h1 h2 => hfr_51 i (by omega))
        refine v_top (show (Value.int (bI (decide (0 < 2))) : Value) = .int (bI true) from congrArg _ (congrArg bI (by decide))) ?_
        refine v_ieqB X 79 dX8_sum_74 (by decide) (fun h => absurd h (by decide)) (fun _ => ?_)
        refine v_iconst X (v := nI 0) (by decide) dX8_sum_77 ?_
        exact v_iret X rq ⟨by decide, by decide⟩ rfl dX8_sum_78 ⟨_, rfl, Or.inr (Or.inl ⟨i, j, hi, hj, rfl, rfl, hno, ⟨hN, hV, htx9, htxc, nx, lp, ln, sp, lc, so, nw, tl, di, kp, ik, sc, rd, li, F_52, F_55, F_56, F_57, F_58, F_59, P_63, F_60, F_61, F_62, hR, hD, hK, hS⟩⟩), (fun i hi => by rw [hfr_51 i (by omega), hfr_35 i (by omega)])⟩
      · have p1 : xPar (cAt cs i) = true := hri.p1.mp c_48
        refine v_aload_n X 0 dX8_sum_43 rfl ?_
        refine v_get X cls8 F_36 (by omega) 1 (by decide) m_443 rfl rfl dX8_sum_44 ?_
        refine v_iconst X (v := nI 1) (by decide) dX8_sum_47 ?_
        refine v_iload_n X 2 dX8_sum_48 rfl ?_
        refine v_addN X dX8_sum_49 ?_
        refine v_iald X nI F_39 (by omega) (by omega) (by decide) dX8_sum_50 ?_
        refine v_iconst X (v := nI 1) (by decide) dX8_sum_51 ?_
        refine v_cneN X 70 (by omega) (by omega) dX8_sum_52 (by decide) (fun c_64 => ?_) (fun c_64 => ?_)
        · have hno : ¬ smOK cs i j := fun q => by exact c_64 (hrj.p1.mpr q.2.1)
          refine v_iconst X (v := nI 2) (by decide) dX8_sum_70 ?_
          refine v_callV X hCl hCR (c_X8_refused l k M_33 0 mem.length nx (tA ((build cs ds).1)) (tT ((build cs ds).1)) (((build cs ds).1).length) ((tL (build cs ds).1)) ((build cs ds).2) lp ln tx.length sp lc so 2 (by omega) F_36 (by omega)) cls8 ⟨_, F_36⟩ (by omega) mo_X8_refused m_458 m_508 m_509 m_510 m_465 (by decide) rfl rfl (Nat.le_of_ble_eq_true rfl) ⟨rfl, rfl⟩ ⟨by decide, by decide⟩ dX8_sum_71 (vI_in (fun r_69 M_65 hp_66 => ?_))
          obtain ⟨he_70, F_68, hfr_67⟩ := hp_66
          subst he_70
          have F_71 : M_65 94 = IR k 82 nw := by rw [hfr_67 94 (by omega)]; exact F_39
          have F_72 : M_65 95 = IR k 82 tl := by rw [hfr_67 95 (by omega)]; exact F_40
          have F_73 : M_65 96 = IR k 1148 di := by rw [hfr_67 96 (by omega)]; exact F_41
          have F_74 : M_65 97 = IR k 164 kp := by rw [hfr_67 97 (by omega)]; exact F_42
          have F_75 : M_65 98 = .inl (kZ k, 2, .inl (fun zq => bI (ik zq))) := by rw [hfr_67 98 (by omega)]; exact F_43
          have F_76 : M_65 103 = IR k 90 sc := by rw [hfr_67 103 (by omega)]; exact F_44
          have F_77 : M_65 104 = IR k 82 rd := by rw [hfr_67 104 (by omega)]; exact F_45
          have F_78 : M_65 105 = IR k 24 li := by rw [hfr_67 105 (by omega)]; exact F_46
          have P_79 : RtAt k M_65 (build cs ds).1 := P_47.fr (fun i h1 h2 => hfr_67 i (by omega))
          refine v_top (show (Value.int (bI (decide (0 < 2))) : Value) = .int (bI true) from congrArg _ (congrArg bI (by decide))) ?_
          refine v_ieqB X 79 dX8_sum_74 (by decide) (fun h => absurd h (by decide)) (fun _ => ?_)
          refine v_iconst X (v := nI 0) (by decide) dX8_sum_77 ?_
          exact v_iret X rq ⟨by decide, by decide⟩ rfl dX8_sum_78 ⟨_, rfl, Or.inr (Or.inl ⟨i, j, hi, hj, rfl, rfl, hno, ⟨hN, hV, htx9, htxc, nx, lp, ln, sp, lc, so, nw, tl, di, kp, ik, sc, rd, li, F_68, F_71, F_72, F_73, F_74, F_75, P_79, F_76, F_77, F_78, hR, hD, hK, hS⟩⟩), (fun i hi => by rw [hfr_67 i (by omega), hfr_35 i (by omega)])⟩
        · have p2 : xPar (cAt cs j) = true := hrj.p1.mp c_64
          refine v_aload_n X 0 dX8_sum_55 rfl ?_
          refine v_get X cls8 F_36 (by omega) 1 (by decide) m_443 rfl rfl dX8_sum_56 ?_
          refine v_iconst X (v := nI 0) (by decide) dX8_sum_59 ?_
          refine v_iald X nI F_39 (by omega) (by omega) (by decide) dX8_sum_60 ?_
          refine v_top (show (Value.int (nI (nw 0)) : Value) = .int (nI cs.length) from congrArg _ (congrArg nI hR.1)) ?_
          refine v_bipush X (v := nI 24) (by decide) dX8_sum_61 ?_
          refine v_cgeN X 70 (by omega) (by omega) dX8_sum_63 (by decide) (fun c_80 => ?_) (fun c_80 => ?_)
          · have hno : ¬ smOK cs i j := fun q => by have := q.2.2; omega
            refine v_iconst X (v := nI 2) (by decide) dX8_sum_70 ?_
            refine v_callV X hCl hCR (c_X8_refused l k M_33 0 mem.length nx (tA ((build cs ds).1)) (tT ((build cs ds).1)) (((build cs ds).1).length) ((tL (build cs ds).1)) ((build cs ds).2) lp ln tx.length sp lc so 2 (by omega) F_36 (by omega)) cls8 ⟨_, F_36⟩ (by omega) mo_X8_refused m_458 m_508 m_509 m_510 m_465 (by decide) rfl rfl (Nat.le_of_ble_eq_true rfl) ⟨rfl, rfl⟩ ⟨by decide, by decide⟩ dX8_sum_71 (vI_in (fun r_85 M_81 hp_82 => ?_))
            obtain ⟨he_86, F_84, hfr_83⟩ := hp_82
            subst he_86
            have F_87 : M_81 94 = IR k 82 nw := by rw [hfr_83 94 (by omega)]; exact F_39
            have F_88 : M_81 95 = IR k 82 tl := by rw [hfr_83 95 (by omega)]; exact F_40
            have F_89 : M_81 96 = IR k 1148 di := by rw [hfr_83 96 (by omega)]; exact F_41
            have F_90 : M_81 97 = IR k 164 kp := by rw [hfr_83 97 (by omega)]; exact F_42
            have F_91 : M_81 98 = .inl (kZ k, 2, .inl (fun zq => bI (ik zq))) := by rw [hfr_83 98 (by omega)]; exact F_43
            have F_92 : M_81 103 = IR k 90 sc := by rw [hfr_83 103 (by omega)]; exact F_44
            have F_93 : M_81 104 = IR k 82 rd := by rw [hfr_83 104 (by omega)]; exact F_45
            have F_94 : M_81 105 = IR k 24 li := by rw [hfr_83 105 (by omega)]; exact F_46
            have P_95 : RtAt k M_81 (build cs ds).1 := P_47.fr (fun i h1 h2 => hfr_83 i (by omega))
            refine v_top (show (Value.int (bI (decide (0 < 2))) : Value) = .int (bI true) from congrArg _ (congrArg bI (by decide))) ?_
            refine v_ieqB X 79 dX8_sum_74 (by decide) (fun h => absurd h (by decide)) (fun _ => ?_)
            refine v_iconst X (v := nI 0) (by decide) dX8_sum_77 ?_
            exact v_iret X rq ⟨by decide, by decide⟩ rfl dX8_sum_78 ⟨_, rfl, Or.inr (Or.inl ⟨i, j, hi, hj, rfl, rfl, hno, ⟨hN, hV, htx9, htxc, nx, lp, ln, sp, lc, so, nw, tl, di, kp, ik, sc, rd, li, F_84, F_87, F_88, F_89, F_90, F_91, P_95, F_92, F_93, F_94, hR, hD, hK, hS⟩⟩), (fun i hi => by rw [hfr_83 i (by omega), hfr_35 i (by omega)])⟩
          · have p3 : cs.length < 24 := c_80
            refine v_iconst X (v := nI 0) (by decide) dX8_sum_66 ?_
            refine v_goto X 71 dX8_sum_67 (by decide) ?_
            refine v_callV X hCl hCR (c_X8_refused l k M_33 0 mem.length nx (tA ((build cs ds).1)) (tT ((build cs ds).1)) (((build cs ds).1).length) ((tL (build cs ds).1)) ((build cs ds).2) lp ln tx.length sp lc so 0 (by omega) F_36 (by omega)) cls8 ⟨_, F_36⟩ (by omega) mo_X8_refused m_458 m_508 m_509 m_510 m_465 (by decide) rfl rfl (Nat.le_of_ble_eq_true rfl) ⟨rfl, rfl⟩ ⟨by decide, by decide⟩ dX8_sum_71 (vI_in (fun r_100 M_96 hp_97 => ?_))
            obtain ⟨he_101, F_99, hfr_98⟩ := hp_97
            subst he_101
            have F_102 : M_96 94 = IR k 82 nw := by rw [hfr_98 94 (by omega)]; exact F_39
            have F_103 : M_96 95 = IR k 82 tl := by rw [hfr_98 95 (by omega)]; exact F_40
            have F_104 : M_96 96 = IR k 1148 di := by rw [hfr_98 96 (by omega)]; exact F_41
            have F_105 : M_96 97 = IR k 164 kp := by rw [hfr_98 97 (by omega)]; exact F_42
            have F_106 : M_96 98 = .inl (kZ k, 2, .inl (fun zq => bI (ik zq))) := by rw [hfr_98 98 (by omega)]; exact F_43
            have F_107 : M_96 103 = IR k 90 sc := by rw [hfr_98 103 (by omega)]; exact F_44
            have F_108 : M_96 104 = IR k 82 rd := by rw [hfr_98 104 (by omega)]; exact F_45
            have F_109 : M_96 105 = IR k 24 li := by rw [hfr_98 105 (by omega)]; exact F_46
            have P_110 : RtAt k M_96 (build cs ds).1 := P_47.fr (fun i h1 h2 => hfr_98 i (by omega))
            refine v_top (show (Value.int (bI (decide (0 < 0))) : Value) = .int (bI false) from congrArg _ (congrArg bI (by decide))) ?_
            refine v_ieqB X 79 dX8_sum_74 (by decide) (fun _ => ?_) (fun h => absurd h (by decide))
            have hx1 : (xFirst (cAt cs i) ^^^ xFirst (cAt cs j)) < 256 := Nat.xor_lt_two_pow (n := 8) (xFirst_lt _) (xFirst_lt _)
            have hx2 : (xSecond (cAt cs i) ^^^ xSecond (cAt cs j)) < 2 := Nat.xor_lt_two_pow (n := 1) (xSec2 ho2 hi p1) (xSec2 ho2 hj p2)
            refine v_aload_n X 0 dX8_sum_79 rfl ?_
            refine v_iconst X (v := nI 1) (by decide) dX8_sum_80 ?_
            refine v_aload_n X 0 dX8_sum_81 rfl ?_
            refine v_get X cls8 F_99 (by omega) 1 (by decide) m_443 rfl rfl dX8_sum_82 ?_
            refine v_bipush X (v := nI 25) (by decide) dX8_sum_85 ?_
            refine v_iload_n X 1 dX8_sum_87 rfl ?_
            refine v_addN X dX8_sum_88 ?_
            refine v_iald X nI F_102 (by omega) (by omega) (by decide) dX8_sum_89 ?_
            refine v_aload_n X 0 dX8_sum_90 rfl ?_
            refine v_get X cls8 F_99 (by omega) 1 (by decide) m_443 rfl rfl dX8_sum_91 ?_
            refine v_bipush X (v := nI 25) (by decide) dX8_sum_94 ?_
            refine v_iload_n X 2 dX8_sum_96 rfl ?_
            refine v_addN X dX8_sum_97 ?_
            refine v_iald X nI F_102 (by omega) (by omega) (by decide) dX8_sum_98 ?_
            refine v_xorN X dX8_sum_99 ?_
            refine v_aload_n X 0 dX8_sum_100 rfl ?_
            refine v_get X cls8 F_99 (by omega) 1 (by decide) m_443 rfl rfl dX8_sum_101 ?_
            refine v_bipush X (v := nI 49) (by decide) dX8_sum_104 ?_
            refine v_iload_n X 1 dX8_sum_106 rfl ?_
            refine v_addN X dX8_sum_107 ?_
            refine v_iald X nI F_102 (by omega) (by omega) (by decide) dX8_sum_108 ?_
            refine v_aload_n X 0 dX8_sum_109 rfl ?_
            refine v_get X cls8 F_99 (by omega) 1 (by decide) m_443 rfl rfl dX8_sum_110 ?_
            refine v_bipush X (v := nI 49) (by decide) dX8_sum_113 ?_
            refine v_iload_n X 2 dX8_sum_115 rfl ?_
            refine v_addN X dX8_sum_116 ?_
            refine v_iald X nI F_102 (by omega) (by omega) (by decide) dX8_sum_117 ?_
            refine v_xorN X dX8_sum_118 ?_
            have hRef_111 : RefAt k M_96 0 cs ds mem sl tx := ⟨hN, hV, htx9, htxc, nx, lp, ln, sp, lc, so, nw, tl, di, kp, ik, sc, rd, li, F_99, F_102, F_103, F_104, F_105, F_106, P_110, F_107, F_108, F_109, hR, hD, hK, hS⟩
            refine v_callV X hCl hCR (c_X8_added l k M_96 0 cs ds mem sl tx (xParity (xFirst (cAt cs i) ^^^ xFirst (cAt cs j)) (xSecond (cAt cs i) ^^^ xSecond (cAt cs j))) 1 ((nw (25 + i)) ^^^ (nw (25 + j))) ((nw (49 + i)) ^^^ (nw (49 + j))) hRef_111 (xOK_parity hx1 hx2) p3 (by rw [xPar_parity]; rfl) (by rw [xFirst_parity hx1, hri.2.1, hrj.2.1]) (by rw [xSecond_parity hx1 (by omega), hri.2.2.1, hrj.2.2.1])) cls8 ⟨_, F_99⟩ (by omega) mo_X8_added m_550 m_553 m_554 m_555 m_465 (by decide) rfl rfl (Nat.le_of_ble_eq_true rfl) ⟨rfl, rfl⟩ ⟨by decide, by decide⟩ dX8_sum_119 (vI_in (fun r_116 M_112 hp_113 => ?_))
            obtain ⟨he_117, hRef_115, hfr_114⟩ := hp_113
            subst he_117
            exact v_iret X rq ⟨by decide, by decide⟩ rfl dX8_sum_122 ⟨_, rfl, Or.inr (Or.inr ⟨i, j, hi, hj, rfl, rfl, ⟨p1, p2, p3⟩, rfl, hRef_115⟩), (fun i hi => by rw [hfr_114 i (by omega), hfr_98 i (by omega), hfr_35 i (by omega)])⟩
set_option maxHeartbeats 4000000 in
set_option maxRecDepth 100000 in
theorem c_X8_isModel (l : Launch) (k : KX) (M : Mem) (rf ac nx as ts tz lv : Nat) (cf : Option Nat) (lp ln sz sp lc : Nat) (so : Bool) (nw : Nat → Nat) (cs : List Nat) (t m : Nat) (hN : 107 ≤ kN k) (F0 : M 93 = RO k rf ac nx as ts tz lv cf lp ln sz sp lc so) (F1 : M 94 = IR k 82 nw) (hr : csRow nw cs) (ho2 : csOK cs) (hm : m < 2 ^ 31) : CM l yX8_isModel cX8_isModel 5 ((some .boolean)) { frames := 2, cells := 0, slots := 0, locals := 44 } k [.ref (ad k 93), .int (nI t), .int (nI m)] M (pP (.int (bI (decide (vset cs t &&& m = 0)))) M) := by
  refine CM.of (by decide) (Nat.le_of_ble_eq_true rfl) (fun C X hCl hCR rq => ?_)
  show V C k 5 (0, 0) M 0 [(0, .ref (ad k 93)), (1, .int (nI t)), (2, .int (nI m))] []
  have hlc := ho2.1
  refine v_iconst X (v := bI true) (by decide) dX8_isModel_0 ?_
  refine v_istore_n X [(3, .int (bI true)), (0, .ref (ad k 93)), (1, .int (nI t)), (2, .int (nI m))] dX8_isModel_1 (by decide) rfl ?_
  refine v_iconst X (v := nI 0) (by decide) dX8_isModel_2 ?_
  refine v_istore X [(4, .int (nI 0)), (3, .int (bI true)), (0, .ref (ad k 93)), (1, .int (nI t)), (2, .int (nI m))] dX8_isModel_3 (by decide) rfl ?_
  have L : ∀ (fu : Nat) (b : Bool) (i : Nat), cs.length - i < fu → (i ≤ cs.length) → (b = decide (vsetF cs t i &&& m = 0)) → V C k 5 (0, 0) M 5 [(0, .ref (ad k 93)), (1, .int (nI t)), (2, .int (nI m)), (3, .int (bI b)), (4, .int (nI i))] [] := by
    intro fu
    induction fu with
    | zero => intro b i hfu; exact absurd hfu (Nat.not_lt_zero _)
    | succ fu ih =>
      intro b i hfu hi hb 
      refine v_iload X 4 dX8_isModel_5 rfl ?_
      refine v_aload_n X 0 dX8_isModel_7 rfl ?_
      refine v_get X cls8 F0 (by omega) 1 (by decide) m_443 rfl rfl dX8_isModel_8 ?_
      refine v_iconst X (v := nI 0) (by decide) dX8_isModel_11 ?_
      refine v_iald X nI F1 (by omega) (by omega) (by decide) dX8_isModel_12 ?_
      refine v_top (show (Value.int (nI (nw 0)) : Value) = .int (nI cs.length) from congrArg _ (congrArg nI hr.1)) ?_
      refine v_cgeN X 54 (by omega) (by omega) dX8_isModel_13 (by decide) (fun c_1 => ?_) (fun c_1 => ?_)
      · refine v_iload_n X 3 dX8_isModel_54 rfl ?_
        exact v_iret X rq ⟨by decide, by decide⟩ (narZ _) dX8_isModel_55 (pP_i (by congr 1; first | (rw [hb, show i = cs.length by omega]; rfl) | (rw [hbt]; exact (decide_eq_false (vsm_mono (of_decide_eq_false (hb.symm.trans hbt)) cs.length (by omega))).symm)))
      · refine v_iload_n X 3 dX8_isModel_16 rfl ?_
        refine v_ieqB X 54 dX8_isModel_17 (by decide) (fun c_2 => ?_) (fun c_2 => ?_)
        · have hbt := c_2
          refine v_iload_n X 3 dX8_isModel_54 rfl ?_
          exact v_iret X rq ⟨by decide, by decide⟩ (narZ _) dX8_isModel_55 (pP_i (by congr 1; first | (rw [hb, show i = cs.length by omega]; rfl) | (rw [hbt]; exact (decide_eq_false (vsm_mono (of_decide_eq_false (hb.symm.trans hbt)) cs.length (by omega))).symm)))
        · have hbt := c_2
          refine v_iload_n X 2 dX8_isModel_20 rfl ?_
          refine v_iload X 4 dX8_isModel_21 rfl ?_
          refine v_callS X hCl hCR (c_X8_has l k M m i (by omega) (by omega)) mo_X8_has m_460 m_463 m_464 m_465 (by decide) rfl rfl (Nat.le_of_ble_eq_true rfl) ⟨rfl, rfl⟩ ⟨by decide, by decide⟩ dX8_isModel_23 (vP_in ?_)
          refine v_ieqB X 42 dX8_isModel_26 (by decide) (fun c_3 => ?_) (fun c_3 => ?_)
          · have h26 := c_3
            refine v_iconst X (v := bI true) (by decide) dX8_isModel_42 ?_
            refine v_goto X 47 dX8_isModel_43 (by decide) ?_
            refine v_istore_n X [(3, .int (bI true)), (0, .ref (ad k 93)), (1, .int (nI t)), (2, .int (nI m)), (4, .int (nI i))] dX8_isModel_47 (by decide) rfl ?_
            refine v_iinc X (v := nI (i + 1)) 4 [(4, .int (nI (i + 1))), (3, .int (bI true)), (0, .ref (ad k 93)), (1, .int (nI t)), (2, .int (nI m))] dX8_isModel_48 rfl (nI_1 _) (by decide) rfl ?_
            refine v_goto X 5 dX8_isModel_51 (by decide) ?_
            refine v_lv [2, 3, 4, 1, 0] rfl ?_
            exact ih true (i + 1) (by omega) (by omega) ((decide_eq_true (vsm_step.mpr ⟨of_decide_eq_true (hb.symm.trans hbt), fun w => by simp_all⟩)).symm)
          · have h26 := c_3
            refine v_aload_n X 0 dX8_isModel_29 rfl ?_
            refine v_get X cls8 F0 (by omega) 1 (by decide) m_443 rfl rfl dX8_isModel_30 ?_
            refine v_iload X 4 dX8_isModel_33 rfl ?_
            refine v_iload_n X 1 dX8_isModel_35 rfl ?_
            refine v_callS X hCl hCR (c_X8_isSatisfied l k M 94 nw i ((cAt cs i)) t (by omega) F1 (by omega) (hr.2 i (by omega))) mo_X8_isSatisfied m_468 m_480 m_481 m_465 (by decide) rfl rfl (Nat.le_of_ble_eq_true rfl) ⟨rfl, rfl⟩ ⟨by decide, by decide⟩ dX8_isModel_36 (vP_in ?_)
            refine v_ieqB X 46 dX8_isModel_39 (by decide) (fun c_4 => ?_) (fun c_4 => ?_)
            · have h39 := c_4
              refine v_iconst X (v := bI false) (by decide) dX8_isModel_46 ?_
              refine v_istore_n X [(3, .int (bI false)), (0, .ref (ad k 93)), (1, .int (nI t)), (2, .int (nI m)), (4, .int (nI i))] dX8_isModel_47 (by decide) rfl ?_
              refine v_iinc X (v := nI (i + 1)) 4 [(4, .int (nI (i + 1))), (3, .int (bI false)), (0, .ref (ad k 93)), (1, .int (nI t)), (2, .int (nI m))] dX8_isModel_48 rfl (nI_1 _) (by decide) rfl ?_
              refine v_goto X 5 dX8_isModel_51 (by decide) ?_
              refine v_lv [2, 3, 4, 1, 0] rfl ?_
              exact ih false (i + 1) (by omega) (by omega) ((decide_eq_false (fun w => (vsm_step.mp w).2 ⟨h26, by simpa using h39⟩)).symm)
            · have h39 := c_4
              refine v_iconst X (v := bI true) (by decide) dX8_isModel_42 ?_
              refine v_goto X 47 dX8_isModel_43 (by decide) ?_
              refine v_istore_n X [(3, .int (bI true)), (0, .ref (ad k 93)), (1, .int (nI t)), (2, .int (nI m)), (4, .int (nI i))] dX8_isModel_47 (by decide) rfl ?_
              refine v_iinc X (v := nI (i + 1)) 4 [(4, .int (nI (i + 1))), (3, .int (bI true)), (0, .ref (ad k 93)), (1, .int (nI t)), (2, .int (nI m))] dX8_isModel_48 rfl (nI_1 _) (by decide) rfl ?_
              refine v_goto X 5 dX8_isModel_51 (by decide) ?_
              refine v_lv [2, 3, 4, 1, 0] rfl ?_
              exact ih true (i + 1) (by omega) (by omega) ((decide_eq_true (vsm_step.mpr ⟨of_decide_eq_true (hb.symm.trans hbt), fun w => by simp_all⟩)).symm)
  refine v_lv [2, 3, 4, 1, 0] rfl ?_
  exact L (cs.length + 1) true 0 (by omega) (by omega) (by rw [show vsetF cs t 0 = 0 from rfl, Nat.zero_and]; rfl)
set_option maxHeartbeats 4000000 in
set_option maxRecDepth 100000 in
theorem c_X8_everything (l : Launch) (k : KX) (M : Mem) (rf ac nx as ts tz lv : Nat) (cf : Option Nat) (lp ln sz sp lc : Nat) (so : Bool) (nw : Nat → Nat) (cs : List Nat) (hN : 107 ≤ kN k) (F0 : M 93 = RO k rf ac nx as ts tz lv cf lp ln sz sp lc so) (F1 : M 94 = IR k 82 nw) (hr : csRow nw cs) (ho2 : csOK cs) : CM l yX8_everything cX8_everything 1 ((some .int)) { frames := 0, cells := 0, slots := 0, locals := 0 } k [.ref (ad k 93)] M (pP (.int (nI (1 <<< cs.length - 1))) M) := by
  refine CM.of (by decide) (Nat.le_of_ble_eq_true rfl) (fun C X hCl hCR rq => ?_)
  show V C k 1 (0, 0) M 0 [(0, .ref (ad k 93))] []
  have hlc := ho2.1
  have hsh := one_shl_lt hlc
  refine v_iconst X (v := nI 1) (by decide) dX8_everything_0 ?_
  refine v_aload_n X 0 dX8_everything_1 rfl ?_
  refine v_get X cls8 F0 (by omega) 1 (by decide) m_443 rfl rfl dX8_everything_2 ?_
  refine v_iconst X (v := nI 0) (by decide) dX8_everything_5 ?_
  refine v_iald X nI F1 (by omega) (by omega) (by decide) dX8_everything_6 ?_
  refine v_top (show (Value.int (nI (nw 0)) : Value) = .int (nI cs.length) from congrArg _ (congrArg nI hr.1)) ?_
  refine v_shlN X (by omega) dX8_everything_7 ?_
  refine v_iconst X (v := nI 1) (by decide) dX8_everything_8 ?_
  refine v_subN X (by omega) dX8_everything_9 ?_
  exact v_iret X rq ⟨by decide, by decide⟩ rfl dX8_everything_10 (pP_i rfl)
set_option maxHeartbeats 4000000 in
set_option maxRecDepth 100000 in
theorem c_X8_modelCount (l : Launch) (k : KX) (M : Mem) (w : Nat) (cs ds : List Nat) (mem : List SD) (sl : Nat → Option SD) (tx : List Nat) (hRef : RefAt k M w cs ds mem sl tx) : CM l yX8_modelCount cX8_modelCount 3 ((some .int)) { frames := 3, cells := 0, slots := 0, locals := 68 } k [.ref (ad k 93)] M (pI (fun r M' => (r = nI (cntP (isMod cs) 256) ∧ RefAt k M' 0 cs ds mem sl tx) ∧ FrR M M')) := by
  refine CM.of (by decide) (Nat.le_of_ble_eq_true rfl) (fun C X hCl hCR rq => ?_)
  show V C k 3 (0, 0) M 0 [(0, .ref (ad k 93))] []
  obtain ⟨hN, hV, htx9, htxc, nx, lp, ln, sp, lc, so, nw, tl, di, kp, ik, sc, rd, li, F93, F94, F95, F96, F97, F98, hT, F103, F104, F105, hR, hD, hK, hS⟩ := id hRef
  have ho2 : csOK cs := hV.1.1
  have hds : ∀ d ∈ ds, d < 16 := hV.1.2.1
  have hlc : cs.length ≤ 24 := ho2.1
  have hld : ds.length ≤ 8 := hV.1.2.2
  have hok := cAt_ok ho2
  have hr := hR.c
  have hTk := hT.2.1
  have hTA := hTk.A
  have hTT := hTk.T
  have hTl := hTk.le
  have htL : tL (build cs ds).1 = ds.length := hV.2.1
  have hcf : ∀ n, (build cs ds).2 = some n → n < 24 := fun n hn => by have := (build_ok hlc hds).2 n hn; omega
  have hsh := one_shl_lt hlc
  refine v_aload_n X 0 dX8_modelCount_0 rfl ?_
  refine v_iconst X (v := nI 0) (by decide) dX8_modelCount_1 ?_
  refine v_put X cls8 F93 (by omega) 0 (by decide) m_457 rfl rfl rfl rfl (Nat.le_of_ble_eq_true rfl) dX8_modelCount_2 (fun M_1 hM_2 => ?_)
  have F_3 : M_1 93 = RO k 0 mem.length nx (tA ((build cs ds).1)) (tT ((build cs ds).1)) (((build cs ds).1).length) ((tL (build cs ds).1)) ((build cs ds).2) lp ln tx.length sp lc so := by rw [hM_2]; exact mup_s
  have F_4 : M_1 94 = IR k 82 nw := by rw [hM_2, mup_n (by omega)]; exact F94
  have F_5 : M_1 95 = IR k 82 tl := by rw [hM_2, mup_n (by omega)]; exact F95
  have F_6 : M_1 96 = IR k 1148 di := by rw [hM_2, mup_n (by omega)]; exact F96
  have F_7 : M_1 97 = IR k 164 kp := by rw [hM_2, mup_n (by omega)]; exact F97
  have F_8 : M_1 98 = .inl (kZ k, 2, .inl (fun zq => bI (ik zq))) := by rw [hM_2, mup_n (by omega)]; exact F98
  have F_9 : M_1 103 = IR k 90 sc := by rw [hM_2, mup_n (by omega)]; exact F103
  have F_10 : M_1 104 = IR k 82 rd := by rw [hM_2, mup_n (by omega)]; exact F104
  have F_11 : M_1 105 = IR k 24 li := by rw [hM_2, mup_n (by omega)]; exact F105
  have P_12 : RtAt k M_1 (build cs ds).1 := hT.fr (fun i h1 h2 => by rw [hM_2, mup_n (by omega)])
  refine v_iconst X (v := nI 0) (by decide) dX8_modelCount_5 ?_
  refine v_istore_n X [(1, .int (nI 0)), (0, .ref (ad k 93))] dX8_modelCount_6 (by decide) rfl ?_
  refine v_iconst X (v := nI 0) (by decide) dX8_modelCount_7 ?_
  refine v_istore_n X [(2, .int (nI 0)), (1, .int (nI 0)), (0, .ref (ad k 93))] dX8_modelCount_8 (by decide) rfl ?_
  have L : ∀ (fu : Nat) (a : Nat), 256 - a < fu → (a ≤ 256) → V C k 3 (0, 0) M_1 9 [(0, .ref (ad k 93)), (1, .int (nI (cntP (isMod cs) a))), (2, .int (nI a))] [] := by
    intro fu
    induction fu with
    | zero => intro a hfu; exact absurd hfu (Nat.not_lt_zero _)
    | succ fu ih =>
      intro a hfu ha 
      refine v_iload_n X 2 dX8_modelCount_9 rfl ?_
      refine v_sipush X (v := nI 255) (by decide) dX8_modelCount_10 ?_
      refine v_cgtN X 42 (by omega) (by omega) dX8_modelCount_13 (by decide) (fun c_13 => ?_) (fun c_13 => ?_)
      · refine v_iload_n X 1 dX8_modelCount_42 rfl ?_
        exact v_iret X rq ⟨by decide, by decide⟩ rfl dX8_modelCount_43 ⟨_, rfl, ⟨by rw [show a = 256 by omega], ⟨hN, hV, htx9, htxc, nx, lp, ln, sp, lc, so, nw, tl, di, kp, ik, sc, rd, li, F_3, F_4, F_5, F_6, F_7, F_8, P_12, F_9, F_10, F_11, hR, hD, hK, hS⟩⟩, (fun i hi => by rw [hM_2, mup_n (by omega)])⟩
      · refine v_iload_n X 1 dX8_modelCount_16 rfl ?_
        refine v_aload_n X 0 dX8_modelCount_17 rfl ?_
        refine v_iload_n X 2 dX8_modelCount_18 rfl ?_
        refine v_aload_n X 0 dX8_modelCount_19 rfl ?_
        refine v_callV X hCl hCR (c_X8_everything l k M_1 0 mem.length nx (tA ((build cs ds).1)) (tT ((build cs ds).1)) (((build cs ds).1).length) ((tL (build cs ds).1)) ((build cs ds).2) lp ln tx.length sp lc so nw cs  (by omega) F_3 F_4 hr ho2) cls8 ⟨_, F_3⟩ (by omega) mo_X8_everything m_594 m_596 m_597 m_598 m_465 (by decide) rfl rfl (Nat.le_of_ble_eq_true rfl) ⟨rfl, rfl⟩ ⟨by decide, by decide⟩ dX8_modelCount_20 (vP_in ?_)
        refine v_callV X hCl hCR (c_X8_isModel l k M_1 0 mem.length nx (tA ((build cs ds).1)) (tT ((build cs ds).1)) (((build cs ds).1).length) ((tL (build cs ds).1)) ((build cs ds).2) lp ln tx.length sp lc so nw cs a (1 <<< cs.length - 1) (by omega) F_3 F_4 hr ho2 (by omega)) cls8 ⟨_, F_3⟩ (by omega) mo_X8_isModel m_593 m_599 m_600 m_601 m_465 (by decide) rfl rfl (Nat.le_of_ble_eq_true rfl) ⟨rfl, rfl⟩ ⟨by decide, by decide⟩ dX8_modelCount_23 (vP_in ?_)
        refine v_top (show (Value.int (bI (decide (vset cs a &&& (1 <<< cs.length - 1) = 0))) : Value) = .int (bI (isMod cs a)) from congrArg _ (congrArg bI (isMod_all cs _))) ?_
        refine v_ieqB X 33 dX8_modelCount_26 (by decide) (fun c_14 => ?_) (fun c_14 => ?_)
        · have hm := c_14
          refine v_iconst X (v := nI 0) (by decide) dX8_modelCount_33 ?_
          refine v_addN X dX8_modelCount_34 ?_
          refine v_top (show (Value.int (nI ((cntP (isMod cs) a) + 0)) : Value) = .int (nI (cntP (isMod cs) (a + 1))) from congrArg _ (congrArg nI ((cnt_f hm).symm))) ?_
          refine v_istore_n X [(1, .int (nI (cntP (isMod cs) (a + 1)))), (0, .ref (ad k 93)), (2, .int (nI a))] dX8_modelCount_35 (by decide) rfl ?_
          refine v_iinc X (v := nI (a + 1)) 2 [(2, .int (nI (a + 1))), (1, .int (nI (cntP (isMod cs) (a + 1)))), (0, .ref (ad k 93))] dX8_modelCount_36 rfl (nI_1 _) (by decide) rfl ?_
          refine v_goto X 9 dX8_modelCount_39 (by decide) ?_
          refine v_lv [2, 1, 0] rfl ?_
          exact ih (a + 1) (by omega) (by omega)
        · have hm := c_14
          refine v_iconst X (v := nI 1) (by decide) dX8_modelCount_29 ?_
          refine v_goto X 34 dX8_modelCount_30 (by decide) ?_
          refine v_addN X dX8_modelCount_34 ?_
          refine v_top (show (Value.int (nI ((cntP (isMod cs) a) + 1)) : Value) = .int (nI (cntP (isMod cs) (a + 1))) from congrArg _ (congrArg nI ((cnt_t hm).symm))) ?_
          refine v_istore_n X [(1, .int (nI (cntP (isMod cs) (a + 1)))), (0, .ref (ad k 93)), (2, .int (nI a))] dX8_modelCount_35 (by decide) rfl ?_
          refine v_iinc X (v := nI (a + 1)) 2 [(2, .int (nI (a + 1))), (1, .int (nI (cntP (isMod cs) (a + 1)))), (0, .ref (ad k 93))] dX8_modelCount_36 rfl (nI_1 _) (by decide) rfl ?_
          refine v_goto X 9 dX8_modelCount_39 (by decide) ?_
          refine v_lv [2, 1, 0] rfl ?_
          exact ih (a + 1) (by omega) (by omega)
  refine v_lv [2, 1, 0] rfl ?_
  exact L 257 0 (by omega) (by omega)
set_option maxHeartbeats 4000000 in
set_option maxRecDepth 100000 in
theorem c_X8_model (l : Launch) (k : KX) (M : Mem) (w : Nat) (cs ds : List Nat) (mem : List SD) (sl : Nat → Option SD) (tx : List Nat) (x : Int32) (hRef : RefAt k M w cs ds mem sl tx) : CM l yX8_model cX8_model 4 ((some .int)) { frames := 3, cells := 0, slots := 0, locals := 68 } k [.ref (ad k 93), .int x] M (pI (fun r M' => (r = oI (nthF (isMod cs) x 256 0 0) ∧ RefAt k M' 0 cs ds mem sl tx) ∧ FrR M M')) := by
  refine CM.of (by decide) (Nat.le_of_ble_eq_true rfl) (fun C X hCl hCR rq => ?_)
  show V C k 4 (0, 0) M 0 [(0, .ref (ad k 93)), (1, .int x)] []
  obtain ⟨hN, hV, htx9, htxc, nx, lp, ln, sp, lc, so, nw, tl, di, kp, ik, sc, rd, li, F93, F94, F95, F96, F97, F98, hT, F103, F104, F105, hR, hD, hK, hS⟩ := id hRef
  have ho2 : csOK cs := hV.1.1
  have hds : ∀ d ∈ ds, d < 16 := hV.1.2.1
  have hlc : cs.length ≤ 24 := ho2.1
  have hld : ds.length ≤ 8 := hV.1.2.2
  have hok := cAt_ok ho2
  have hr := hR.c
  have hTk := hT.2.1
  have hTA := hTk.A
  have hTT := hTk.T
  have hTl := hTk.le
  have htL : tL (build cs ds).1 = ds.length := hV.2.1
  have hcf : ∀ n, (build cs ds).2 = some n → n < 24 := fun n hn => by have := (build_ok hlc hds).2 n hn; omega
  have hsh := one_shl_lt hlc
  refine v_aload_n X 0 dX8_model_0 rfl ?_
  refine v_iconst X (v := nI 0) (by decide) dX8_model_1 ?_
  refine v_put X cls8 F93 (by omega) 0 (by decide) m_457 rfl rfl rfl rfl (Nat.le_of_ble_eq_true rfl) dX8_model_2 (fun M_1 hM_2 => ?_)
  have F_3 : M_1 93 = RO k 0 mem.length nx (tA ((build cs ds).1)) (tT ((build cs ds).1)) (((build cs ds).1).length) ((tL (build cs ds).1)) ((build cs ds).2) lp ln tx.length sp lc so := by rw [hM_2]; exact mup_s
  have F_4 : M_1 94 = IR k 82 nw := by rw [hM_2, mup_n (by omega)]; exact F94
  have F_5 : M_1 95 = IR k 82 tl := by rw [hM_2, mup_n (by omega)]; exact F95
  have F_6 : M_1 96 = IR k 1148 di := by rw [hM_2, mup_n (by omega)]; exact F96
  have F_7 : M_1 97 = IR k 164 kp := by rw [hM_2, mup_n (by omega)]; exact F97
  have F_8 : M_1 98 = .inl (kZ k, 2, .inl (fun zq => bI (ik zq))) := by rw [hM_2, mup_n (by omega)]; exact F98
  have F_9 : M_1 103 = IR k 90 sc := by rw [hM_2, mup_n (by omega)]; exact F103
  have F_10 : M_1 104 = IR k 82 rd := by rw [hM_2, mup_n (by omega)]; exact F104
  have F_11 : M_1 105 = IR k 24 li := by rw [hM_2, mup_n (by omega)]; exact F105
  have P_12 : RtAt k M_1 (build cs ds).1 := hT.fr (fun i h1 h2 => by rw [hM_2, mup_n (by omega)])
  refine v_iconst X (v := nI 0) (by decide) dX8_model_5 ?_
  refine v_istore_n X [(2, .int (nI 0)), (0, .ref (ad k 93)), (1, .int x)] dX8_model_6 (by decide) rfl ?_
  refine v_iconst X (v := nI 0) (by decide) dX8_model_7 ?_
  refine v_istore_n X [(3, .int (nI 0)), (2, .int (nI 0)), (0, .ref (ad k 93)), (1, .int x)] dX8_model_8 (by decide) rfl ?_
  have L : ∀ (fu : Nat) (a w : Nat), 256 - a < fu → (a ≤ 256) → (w ≤ a) → (nthF (isMod cs) x (256 - a) a w = nthF (isMod cs) x 256 0 0) → V C k 4 (0, 0) M_1 9 [(0, .ref (ad k 93)), (1, .int x), (2, .int (nI w)), (3, .int (nI a))] [] := by
    intro fu
    induction fu with
    | zero => intro a w hfu; exact absurd hfu (Nat.not_lt_zero _)
    | succ fu ih =>
      intro a w hfu ha hw hn 
      refine v_iload_n X 3 dX8_model_9 rfl ?_
      refine v_sipush X (v := nI 255) (by decide) dX8_model_10 ?_
      refine v_cgtN X 44 (by omega) (by omega) dX8_model_13 (by decide) (fun c_13 => ?_) (fun c_13 => ?_)
      · refine v_bipush X (v := (-9)) (by decide) dX8_model_44 ?_
        exact v_iret X rq ⟨by decide, by decide⟩ rfl dX8_model_46 ⟨_, rfl, ⟨by rw [nth_end hn (by omega)]; rfl, ⟨hN, hV, htx9, htxc, nx, lp, ln, sp, lc, so, nw, tl, di, kp, ik, sc, rd, li, F_3, F_4, F_5, F_6, F_7, F_8, P_12, F_9, F_10, F_11, hR, hD, hK, hS⟩⟩, (fun i hi => by rw [hM_2, mup_n (by omega)])⟩
      · refine v_aload_n X 0 dX8_model_16 rfl ?_
        refine v_iload_n X 3 dX8_model_17 rfl ?_
        refine v_aload_n X 0 dX8_model_18 rfl ?_
        refine v_callV X hCl hCR (c_X8_everything l k M_1 0 mem.length nx (tA ((build cs ds).1)) (tT ((build cs ds).1)) (((build cs ds).1).length) ((tL (build cs ds).1)) ((build cs ds).2) lp ln tx.length sp lc so nw cs  (by omega) F_3 F_4 hr ho2) cls8 ⟨_, F_3⟩ (by omega) mo_X8_everything m_594 m_596 m_597 m_598 m_465 (by decide) rfl rfl (Nat.le_of_ble_eq_true rfl) ⟨rfl, rfl⟩ ⟨by decide, by decide⟩ dX8_model_19 (vP_in ?_)
        refine v_callV X hCl hCR (c_X8_isModel l k M_1 0 mem.length nx (tA ((build cs ds).1)) (tT ((build cs ds).1)) (((build cs ds).1).length) ((tL (build cs ds).1)) ((build cs ds).2) lp ln tx.length sp lc so nw cs a (1 <<< cs.length - 1) (by omega) F_3 F_4 hr ho2 (by omega)) cls8 ⟨_, F_3⟩ (by omega) mo_X8_isModel m_593 m_599 m_600 m_601 m_465 (by decide) rfl rfl (Nat.le_of_ble_eq_true rfl) ⟨rfl, rfl⟩ ⟨by decide, by decide⟩ dX8_model_22 (vP_in ?_)
        refine v_top (show (Value.int (bI (decide (vset cs a &&& (1 <<< cs.length - 1) = 0))) : Value) = .int (bI (isMod cs a)) from congrArg _ (congrArg bI (isMod_all cs _))) ?_
        refine v_ieqB X 38 dX8_model_25 (by decide) (fun c_14 => ?_) (fun c_14 => ?_)
        · have hm := c_14
          refine v_iinc X (v := nI (a + 1)) 3 [(3, .int (nI (a + 1))), (0, .ref (ad k 93)), (1, .int x), (2, .int (nI w))] dX8_model_38 rfl (nI_1 _) (by decide) rfl ?_
          refine v_goto X 9 dX8_model_41 (by decide) ?_
          refine v_lv [1, 2, 3, 0] rfl ?_
          exact ih (a + 1) w (by omega) (by omega) (by omega) (nth_miss hn (by omega) hm)
        · have hm := c_14
          refine v_iload_n X 2 dX8_model_28 rfl ?_
          refine v_iload_n X 1 dX8_model_29 rfl ?_
          refine v_icmp_ne X 35 dX8_model_30 (by decide) (fun c_15 => ?_) (fun c_15 => ?_)
          · have hx := c_15
            refine v_iinc X (v := nI (w + 1)) 2 [(2, .int (nI (w + 1))), (0, .ref (ad k 93)), (1, .int x), (3, .int (nI a))] dX8_model_35 rfl (nI_1 _) (by decide) rfl ?_
            refine v_iinc X (v := nI (a + 1)) 3 [(3, .int (nI (a + 1))), (2, .int (nI (w + 1))), (0, .ref (ad k 93)), (1, .int x)] dX8_model_38 rfl (nI_1 _) (by decide) rfl ?_
            refine v_goto X 9 dX8_model_41 (by decide) ?_
            refine v_lv [2, 3, 1, 0] rfl ?_
            exact ih (a + 1) (w + 1) (by omega) (by omega) (by omega) (nth_next hn (by omega) hm hx)
          · have hx := c_15
            refine v_iload_n X 3 dX8_model_33 rfl ?_
            exact v_iret X rq ⟨by decide, by decide⟩ rfl dX8_model_34 ⟨_, rfl, ⟨by rw [nth_hit hn (by omega) hm hx]; rfl, ⟨hN, hV, htx9, htxc, nx, lp, ln, sp, lc, so, nw, tl, di, kp, ik, sc, rd, li, F_3, F_4, F_5, F_6, F_7, F_8, P_12, F_9, F_10, F_11, hR, hD, hK, hS⟩⟩, (fun i hi => by rw [hM_2, mup_n (by omega)])⟩
  refine v_lv [2, 3, 1, 0] rfl ?_
  exact L 257 0 0 (by omega) (by omega) (by omega) rfl
set_option maxHeartbeats 4000000 in
set_option maxRecDepth 100000 in
theorem c_X8_implies (l : Launch) (k : KX) (M : Mem) (w : Nat) (cs ds : List Nat) (mem : List SD) (sl : Nat → Option SD) (tx : List Nat) (x kd p n : Nat) (hRef : RefAt k M w cs ds mem sl tx) (hx : x < 131072) (hk : kd = if xPar x then 1 else 0) (hp : p = xFirst x) (hn : n = xSecond x) : CM l yX8_implies cX8_implies 6 ((some .boolean)) { frames := 3, cells := 0, slots := 0, locals := 68 } k [.ref (ad k 93), .int (nI kd), .int (nI p), .int (nI n)] M (pI (fun r M' => r = bI (allS cs x) ∧ RefAt k M' w cs ds mem sl tx ∧ FrR M M')) := by
  refine CM.of (by decide) (Nat.le_of_ble_eq_true rfl) (fun C X hCl hCR rq => ?_)
  show V C k 6 (0, 0) M 0 [(0, .ref (ad k 93)), (1, .int (nI kd)), (2, .int (nI p)), (3, .int (nI n))] []
  obtain ⟨hN, hV, htx9, htxc, nx, lp, ln, sp, lc, so, nw, tl, di, kp, ik, sc, rd, li, F93, F94, F95, F96, F97, F98, hT, F103, F104, F105, hR, hD, hK, hS⟩ := id hRef
  have ho2 : csOK cs := hV.1.1
  have hds : ∀ d ∈ ds, d < 16 := hV.1.2.1
  have hlc : cs.length ≤ 24 := ho2.1
  have hld : ds.length ≤ 8 := hV.1.2.2
  have hok := cAt_ok ho2
  have hr := hR.c
  have hTk := hT.2.1
  have hTA := hTk.A
  have hTT := hTk.T
  have hTl := hTk.le
  have htL : tL (build cs ds).1 = ds.length := hV.2.1
  have hcf : ∀ n, (build cs ds).2 = some n → n < 24 := fun n hn => by have := (build_ok hlc hds).2 n hn; omega
  have hsh := one_shl_lt hlc
  refine v_aload_n X 0 dX8_implies_0 rfl ?_
  refine v_get X cls8 F93 (by omega) 2 (by decide) m_444 rfl rfl dX8_implies_1 ?_
  refine v_iconst X (v := nI 1) (by decide) dX8_implies_4 ?_
  refine v_iload_n X 1 dX8_implies_5 rfl ?_
  refine v_iast X nI kd F95 (by omega) (by omega) (by decide) dX8_implies_6 (fun M_1 hM_2 => ?_)
  have F_4 : M_1 93 = RO k w mem.length nx (tA ((build cs ds).1)) (tT ((build cs ds).1)) (((build cs ds).1).length) ((tL (build cs ds).1)) ((build cs ds).2) lp ln tx.length sp lc so := by rw [hM_2, mup_n (by omega)]; exact F93
  have F_5 : M_1 94 = IR k 82 nw := by rw [hM_2, mup_n (by omega)]; exact F94
  have F_6 : M_1 95 = IR k 82 (va_up tl 1 kd) := by rw [hM_2]; exact mup_s
  have F_7 : M_1 96 = IR k 1148 di := by rw [hM_2, mup_n (by omega)]; exact F96
  have F_8 : M_1 97 = IR k 164 kp := by rw [hM_2, mup_n (by omega)]; exact F97
  have F_9 : M_1 98 = .inl (kZ k, 2, .inl (fun zq => bI (ik zq))) := by rw [hM_2, mup_n (by omega)]; exact F98
  have F_10 : M_1 103 = IR k 90 sc := by rw [hM_2, mup_n (by omega)]; exact F103
  have F_11 : M_1 104 = IR k 82 rd := by rw [hM_2, mup_n (by omega)]; exact F104
  have F_12 : M_1 105 = IR k 24 li := by rw [hM_2, mup_n (by omega)]; exact F105
  have P_13 : RtAt k M_1 (build cs ds).1 := hT.fr (fun i h1 h2 => by rw [hM_2, mup_n (by omega)])
  refine v_aload_n X 0 dX8_implies_7 rfl ?_
  refine v_get X cls8 F_4 (by omega) 2 (by decide) m_444 rfl rfl dX8_implies_8 ?_
  refine v_bipush X (v := nI 25) (by decide) dX8_implies_11 ?_
  refine v_iload_n X 2 dX8_implies_13 rfl ?_
  refine v_iast X nI p F_6 (by omega) (by omega) (by decide) dX8_implies_14 (fun M_14 hM_15 => ?_)
  have F_17 : M_14 93 = RO k w mem.length nx (tA ((build cs ds).1)) (tT ((build cs ds).1)) (((build cs ds).1).length) ((tL (build cs ds).1)) ((build cs ds).2) lp ln tx.length sp lc so := by rw [hM_15, mup_n (by omega)]; exact F_4
  have F_18 : M_14 94 = IR k 82 nw := by rw [hM_15, mup_n (by omega)]; exact F_5
  have F_19 : M_14 95 = IR k 82 (va_up (va_up tl 1 kd) 25 p) := by rw [hM_15]; exact mup_s
  have F_20 : M_14 96 = IR k 1148 di := by rw [hM_15, mup_n (by omega)]; exact F_7
  have F_21 : M_14 97 = IR k 164 kp := by rw [hM_15, mup_n (by omega)]; exact F_8
  have F_22 : M_14 98 = .inl (kZ k, 2, .inl (fun zq => bI (ik zq))) := by rw [hM_15, mup_n (by omega)]; exact F_9
  have F_23 : M_14 103 = IR k 90 sc := by rw [hM_15, mup_n (by omega)]; exact F_10
  have F_24 : M_14 104 = IR k 82 rd := by rw [hM_15, mup_n (by omega)]; exact F_11
  have F_25 : M_14 105 = IR k 24 li := by rw [hM_15, mup_n (by omega)]; exact F_12
  have P_26 : RtAt k M_14 (build cs ds).1 := P_13.fr (fun i h1 h2 => by rw [hM_15, mup_n (by omega)])
  refine v_aload_n X 0 dX8_implies_15 rfl ?_
  refine v_get X cls8 F_17 (by omega) 2 (by decide) m_444 rfl rfl dX8_implies_16 ?_
  refine v_bipush X (v := nI 49) (by decide) dX8_implies_19 ?_
  refine v_iload_n X 3 dX8_implies_21 rfl ?_
  refine v_iast X nI n F_19 (by omega) (by omega) (by decide) dX8_implies_22 (fun M_27 hM_28 => ?_)
  have F_30 : M_27 93 = RO k w mem.length nx (tA ((build cs ds).1)) (tT ((build cs ds).1)) (((build cs ds).1).length) ((tL (build cs ds).1)) ((build cs ds).2) lp ln tx.length sp lc so := by rw [hM_28, mup_n (by omega)]; exact F_17
  have F_31 : M_27 94 = IR k 82 nw := by rw [hM_28, mup_n (by omega)]; exact F_18
  have F_32 : M_27 95 = IR k 82 (va_up (va_up (va_up tl 1 kd) 25 p) 49 n) := by rw [hM_28]; exact mup_s
  have F_33 : M_27 96 = IR k 1148 di := by rw [hM_28, mup_n (by omega)]; exact F_20
  have F_34 : M_27 97 = IR k 164 kp := by rw [hM_28, mup_n (by omega)]; exact F_21
  have F_35 : M_27 98 = .inl (kZ k, 2, .inl (fun zq => bI (ik zq))) := by rw [hM_28, mup_n (by omega)]; exact F_22
  have F_36 : M_27 103 = IR k 90 sc := by rw [hM_28, mup_n (by omega)]; exact F_23
  have F_37 : M_27 104 = IR k 82 rd := by rw [hM_28, mup_n (by omega)]; exact F_24
  have F_38 : M_27 105 = IR k 24 li := by rw [hM_28, mup_n (by omega)]; exact F_25
  have P_39 : RtAt k M_27 (build cs ds).1 := P_26.fr (fun i h1 h2 => by rw [hM_28, mup_n (by omega)])
  have hrx : rAt (va_up (va_up (va_up tl 1 kd) 25 p) 49 n) 0 x := ⟨(by rw [up_n _ _ (by omega), up_n _ _ (by omega), up_s]; exact hk), (by rw [up_n _ _ (by omega), up_s]; exact hp), (by rw [up_s]; exact hn), hx⟩
  refine v_iconst X (v := bI true) (by decide) dX8_implies_23 ?_
  refine v_istore X [(4, .int (bI true)), (0, .ref (ad k 93)), (1, .int (nI kd)), (2, .int (nI p)), (3, .int (nI n))] dX8_implies_24 (by decide) rfl ?_
  refine v_iconst X (v := nI 0) (by decide) dX8_implies_26 ?_
  refine v_istore X [(5, .int (nI 0)), (4, .int (bI true)), (0, .ref (ad k 93)), (1, .int (nI kd)), (2, .int (nI p)), (3, .int (nI n))] dX8_implies_27 (by decide) rfl ?_
  have L : ∀ (fu : Nat) (b : Bool) (a : Nat), 256 - a < fu → (a ≤ 256) → (b = true ↔ ∀ q, q < a → isMod cs q = true → xViol x q = false) → V C k 6 (0, 0) M_27 29 [(0, .ref (ad k 93)), (4, .int (bI b)), (5, .int (nI a))] [] := by
    intro fu
    induction fu with
    | zero => intro b a hfu; exact absurd hfu (Nat.not_lt_zero _)
    | succ fu ih =>
      intro b a hfu ha hb 
      refine v_iload X 2 dX8_implies_29 rfl ?_
      refine v_sipush X (v := nI 255) (by decide) dX8_implies_31 ?_
      refine v_cgtN X 81 (by omega) (by omega) dX8_implies_34 (by decide) (fun c_40 => ?_) (fun c_40 => ?_)
      · refine v_iload X 1 dX8_implies_81 rfl ?_
        exact v_iret X rq ⟨by decide, by decide⟩ (narZ _) dX8_implies_83 ⟨_, rfl, congrArg bI (all_end (by rw [show a = 256 by omega] at hb; exact hb)), ⟨hN, hV, htx9, htxc, nx, lp, ln, sp, lc, so, nw, va_up (va_up (va_up tl 1 kd) 25 p) 49 n, di, kp, ik, sc, rd, li, F_30, F_31, F_32, F_33, F_34, F_35, P_39, F_36, F_37, F_38, hR, hD, hK, hS⟩, (fun i hi => by rw [hM_28, mup_n (by omega), hM_15, mup_n (by omega), hM_2, mup_n (by omega)])⟩
      · refine v_iload X 1 dX8_implies_37 rfl ?_
        refine v_ieqB X 72 dX8_implies_39 (by decide) (fun c_41 => ?_) (fun c_41 => ?_)
        · have h39 := c_41
          refine v_iconst X (v := bI false) (by decide) dX8_implies_72 ?_
          refine v_istore X [(4, .int (bI false)), (0, .ref (ad k 93)), (5, .int (nI a))] dX8_implies_73 (by decide) rfl ?_
          refine v_iinc X (v := nI (a + 1)) 2 [(5, .int (nI (a + 1))), (4, .int (bI false)), (0, .ref (ad k 93))] dX8_implies_75 rfl (nI_1 _) (by decide) rfl ?_
          refine v_goto X 29 dX8_implies_78 (by decide) ?_
          refine v_lv [2, 1, 0] rfl ?_
          exact ih false (a + 1) (by omega) (by omega) (all_step hb (by simp_all))
        · have h39 := c_41
          refine v_aload_n X 0 dX8_implies_42 rfl ?_
          refine v_get X cls8 F_30 (by omega) 2 (by decide) m_444 rfl rfl dX8_implies_43 ?_
          refine v_iconst X (v := nI 0) (by decide) dX8_implies_46 ?_
          refine v_iload X 2 dX8_implies_47 rfl ?_
          refine v_callS X hCl hCR (c_X8_isSatisfied l k M_27 95 (va_up (va_up (va_up tl 1 kd) 25 p) 49 n) 0 x a (by omega) F_32 (by omega) hrx) mo_X8_isSatisfied m_468 m_480 m_481 m_465 (by decide) rfl rfl (Nat.le_of_ble_eq_true rfl) ⟨rfl, rfl⟩ ⟨by decide, by decide⟩ dX8_implies_49 (vP_in ?_)
          refine v_ineB X 68 dX8_implies_52 (by decide) (fun c_42 => ?_) (fun c_42 => ?_)
          · have h52 := c_42
            refine v_iconst X (v := bI true) (by decide) dX8_implies_68 ?_
            refine v_goto X 73 dX8_implies_69 (by decide) ?_
            refine v_istore X [(4, .int (bI true)), (0, .ref (ad k 93)), (5, .int (nI a))] dX8_implies_73 (by decide) rfl ?_
            refine v_iinc X (v := nI (a + 1)) 2 [(5, .int (nI (a + 1))), (4, .int (bI true)), (0, .ref (ad k 93))] dX8_implies_75 rfl (nI_1 _) (by decide) rfl ?_
            refine v_goto X 29 dX8_implies_78 (by decide) ?_
            refine v_lv [2, 1, 0] rfl ?_
            exact ih true (a + 1) (by omega) (by omega) (all_step hb (by simp_all))
          · have h52 := c_42
            refine v_aload_n X 0 dX8_implies_55 rfl ?_
            refine v_iload X 2 dX8_implies_56 rfl ?_
            refine v_aload_n X 0 dX8_implies_58 rfl ?_
            refine v_callV X hCl hCR (c_X8_everything l k M_27 w mem.length nx (tA ((build cs ds).1)) (tT ((build cs ds).1)) (((build cs ds).1).length) ((tL (build cs ds).1)) ((build cs ds).2) lp ln tx.length sp lc so nw cs  (by omega) F_30 F_31 hr ho2) cls8 ⟨_, F_30⟩ (by omega) mo_X8_everything m_594 m_596 m_597 m_598 m_465 (by decide) rfl rfl (Nat.le_of_ble_eq_true rfl) ⟨rfl, rfl⟩ ⟨by decide, by decide⟩ dX8_implies_59 (vP_in ?_)
            refine v_callV X hCl hCR (c_X8_isModel l k M_27 w mem.length nx (tA ((build cs ds).1)) (tT ((build cs ds).1)) (((build cs ds).1).length) ((tL (build cs ds).1)) ((build cs ds).2) lp ln tx.length sp lc so nw cs a (1 <<< cs.length - 1) (by omega) F_30 F_31 hr ho2 (by omega)) cls8 ⟨_, F_30⟩ (by omega) mo_X8_isModel m_593 m_599 m_600 m_601 m_465 (by decide) rfl rfl (Nat.le_of_ble_eq_true rfl) ⟨rfl, rfl⟩ ⟨by decide, by decide⟩ dX8_implies_62 (vP_in ?_)
            refine v_top (show (Value.int (bI (decide (vset cs a &&& (1 <<< cs.length - 1) = 0))) : Value) = .int (bI (isMod cs a)) from congrArg _ (congrArg bI (isMod_all cs _))) ?_
            refine v_ineB X 72 dX8_implies_65 (by decide) (fun c_43 => ?_) (fun c_43 => ?_)
            · have h65 := c_43
              refine v_iconst X (v := bI false) (by decide) dX8_implies_72 ?_
              refine v_istore X [(4, .int (bI false)), (0, .ref (ad k 93)), (5, .int (nI a))] dX8_implies_73 (by decide) rfl ?_
              refine v_iinc X (v := nI (a + 1)) 2 [(5, .int (nI (a + 1))), (4, .int (bI false)), (0, .ref (ad k 93))] dX8_implies_75 rfl (nI_1 _) (by decide) rfl ?_
              refine v_goto X 29 dX8_implies_78 (by decide) ?_
              refine v_lv [2, 1, 0] rfl ?_
              exact ih false (a + 1) (by omega) (by omega) (all_step hb (by simp_all))
            · have h65 := c_43
              refine v_iconst X (v := bI true) (by decide) dX8_implies_68 ?_
              refine v_goto X 73 dX8_implies_69 (by decide) ?_
              refine v_istore X [(4, .int (bI true)), (0, .ref (ad k 93)), (5, .int (nI a))] dX8_implies_73 (by decide) rfl ?_
              refine v_iinc X (v := nI (a + 1)) 2 [(5, .int (nI (a + 1))), (4, .int (bI true)), (0, .ref (ad k 93))] dX8_implies_75 rfl (nI_1 _) (by decide) rfl ?_
              refine v_goto X 29 dX8_implies_78 (by decide) ?_
              refine v_lv [2, 1, 0] rfl ?_
              exact ih true (a + 1) (by omega) (by omega) (all_step hb (by simp_all))
  refine v_lv [2, 1, 0] rfl ?_
  exact L 257 true 0 (by omega) (by omega) ⟨fun _ q hq => absurd hq (Nat.not_lt_zero _), fun _ => rfl⟩
set_option maxHeartbeats 4000000 in
set_option maxRecDepth 100000 in
theorem c_X8_impliesClause (l : Launch) (k : KX) (M : Mem) (w : Nat) (cs ds : List Nat) (mem : List SD) (sl : Nat → Option SD) (tx : List Nat) (p n : Int32) (hRef : RefAt k M w cs ds mem sl tx) : CM l yX8_impliesClause cX8_impliesClause 3 ((some .boolean)) { frames := 4, cells := 0, slots := 0, locals := 93 } k [.ref (ad k 93), .int p, .int n] M (pI (fun r M' => ((isCl p n = false ∧ RefAt k M' 1 cs ds mem sl tx) ∨ (∃ p0 n0, p0 < 256 ∧ n0 < 256 ∧ p = nI p0 ∧ n = nI n0 ∧ p0 &&& n0 = 0 ∧ r = bI (allS cs (xClause p0 n0)) ∧ RefAt k M' 0 cs ds mem sl tx)) ∧ FrR M M')) := by
  refine CM.of (by decide) (Nat.le_of_ble_eq_true rfl) (fun C X hCl hCR rq => ?_)
  show V C k 3 (0, 0) M 0 [(0, .ref (ad k 93)), (1, .int p), (2, .int n)] []
  obtain ⟨hN, hV, htx9, htxc, nx, lp, ln, sp, lc, so, nw, tl, di, kp, ik, sc, rd, li, F93, F94, F95, F96, F97, F98, hT, F103, F104, F105, hR, hD, hK, hS⟩ := id hRef
  have ho2 : csOK cs := hV.1.1
  have hds : ∀ d ∈ ds, d < 16 := hV.1.2.1
  have hlc : cs.length ≤ 24 := ho2.1
  have hld : ds.length ≤ 8 := hV.1.2.2
  have hok := cAt_ok ho2
  have hr := hR.c
  have hTk := hT.2.1
  have hTA := hTk.A
  have hTT := hTk.T
  have hTl := hTk.le
  have htL : tL (build cs ds).1 = ds.length := hV.2.1
  have hcf : ∀ n, (build cs ds).2 = some n → n < 24 := fun n hn => by have := (build_ok hlc hds).2 n hn; omega
  refine v_aload_n X 0 dX8_impliesClause_0 rfl ?_
  refine v_iload_n X 1 dX8_impliesClause_1 rfl ?_
  refine v_iload_n X 2 dX8_impliesClause_2 rfl ?_
  refine v_callS X hCl hCR (c_X8_isClause l k M p n) mo_X8_isClause m_545 m_551 m_552 m_465 (by decide) rfl rfl (Nat.le_of_ble_eq_true rfl) ⟨rfl, rfl⟩ ⟨by decide, by decide⟩ dX8_impliesClause_3 (vP_in ?_)
  refine v_ieqB X 13 dX8_impliesClause_6 (by decide) (fun c_1 => ?_) (fun c_1 => ?_)
  · have hb := c_1
    refine v_iconst X (v := nI 1) (by decide) dX8_impliesClause_13 ?_
    refine v_callV X hCl hCR (c_X8_refused l k M w mem.length nx (tA ((build cs ds).1)) (tT ((build cs ds).1)) (((build cs ds).1).length) ((tL (build cs ds).1)) ((build cs ds).2) lp ln tx.length sp lc so 1 (by omega) F93 (by omega)) cls8 ⟨_, F93⟩ (by omega) mo_X8_refused m_458 m_508 m_509 m_510 m_465 (by decide) rfl rfl (Nat.le_of_ble_eq_true rfl) ⟨rfl, rfl⟩ ⟨by decide, by decide⟩ dX8_impliesClause_14 (vI_in (fun r_6 M_2 hp_3 => ?_))
    obtain ⟨he_7, F_5, hfr_4⟩ := hp_3
    subst he_7
    have F_8 : M_2 94 = IR k 82 nw := by rw [hfr_4 94 (by omega)]; exact F94
    have F_9 : M_2 95 = IR k 82 tl := by rw [hfr_4 95 (by omega)]; exact F95
    have F_10 : M_2 96 = IR k 1148 di := by rw [hfr_4 96 (by omega)]; exact F96
    have F_11 : M_2 97 = IR k 164 kp := by rw [hfr_4 97 (by omega)]; exact F97
    have F_12 : M_2 98 = .inl (kZ k, 2, .inl (fun zq => bI (ik zq))) := by rw [hfr_4 98 (by omega)]; exact F98
    have F_13 : M_2 103 = IR k 90 sc := by rw [hfr_4 103 (by omega)]; exact F103
    have F_14 : M_2 104 = IR k 82 rd := by rw [hfr_4 104 (by omega)]; exact F104
    have F_15 : M_2 105 = IR k 24 li := by rw [hfr_4 105 (by omega)]; exact F105
    have P_16 : RtAt k M_2 (build cs ds).1 := hT.fr (fun i h1 h2 => hfr_4 i (by omega))
    refine v_top (show (Value.int (bI (decide (0 < 1))) : Value) = .int (bI true) from congrArg _ (congrArg bI (by decide))) ?_
    refine v_ieqB X 22 dX8_impliesClause_17 (by decide) (fun h => absurd h (by decide)) (fun _ => ?_)
    refine v_iconst X (v := bI false) (by decide) dX8_impliesClause_20 ?_
    exact v_iret X rq ⟨by decide, by decide⟩ (narZ _) dX8_impliesClause_21 ⟨_, rfl, Or.inl ⟨hb, ⟨hN, hV, htx9, htxc, nx, lp, ln, sp, lc, so, nw, tl, di, kp, ik, sc, rd, li, F_5, F_8, F_9, F_10, F_11, F_12, P_16, F_13, F_14, F_15, hR, hD, hK, hS⟩⟩, (fun i hi => by rw [hfr_4 i (by omega)])⟩
  · have hb := c_1
    refine v_iconst X (v := nI 0) (by decide) dX8_impliesClause_9 ?_
    refine v_goto X 14 dX8_impliesClause_10 (by decide) ?_
    refine v_callV X hCl hCR (c_X8_refused l k M w mem.length nx (tA ((build cs ds).1)) (tT ((build cs ds).1)) (((build cs ds).1).length) ((tL (build cs ds).1)) ((build cs ds).2) lp ln tx.length sp lc so 0 (by omega) F93 (by omega)) cls8 ⟨_, F93⟩ (by omega) mo_X8_refused m_458 m_508 m_509 m_510 m_465 (by decide) rfl rfl (Nat.le_of_ble_eq_true rfl) ⟨rfl, rfl⟩ ⟨by decide, by decide⟩ dX8_impliesClause_14 (vI_in (fun r_21 M_17 hp_18 => ?_))
    obtain ⟨he_22, F_20, hfr_19⟩ := hp_18
    subst he_22
    have F_23 : M_17 94 = IR k 82 nw := by rw [hfr_19 94 (by omega)]; exact F94
    have F_24 : M_17 95 = IR k 82 tl := by rw [hfr_19 95 (by omega)]; exact F95
    have F_25 : M_17 96 = IR k 1148 di := by rw [hfr_19 96 (by omega)]; exact F96
    have F_26 : M_17 97 = IR k 164 kp := by rw [hfr_19 97 (by omega)]; exact F97
    have F_27 : M_17 98 = .inl (kZ k, 2, .inl (fun zq => bI (ik zq))) := by rw [hfr_19 98 (by omega)]; exact F98
    have F_28 : M_17 103 = IR k 90 sc := by rw [hfr_19 103 (by omega)]; exact F103
    have F_29 : M_17 104 = IR k 82 rd := by rw [hfr_19 104 (by omega)]; exact F104
    have F_30 : M_17 105 = IR k 24 li := by rw [hfr_19 105 (by omega)]; exact F105
    have P_31 : RtAt k M_17 (build cs ds).1 := hT.fr (fun i h1 h2 => hfr_19 i (by omega))
    refine v_top (show (Value.int (bI (decide (0 < 0))) : Value) = .int (bI false) from congrArg _ (congrArg bI (by decide))) ?_
    refine v_ieqB X 22 dX8_impliesClause_17 (by decide) (fun _ => ?_) (fun h => absurd h (by decide))
    simp only [isCl, Bool.and_eq_true, decide_eq_true_eq] at hb
    obtain ⟨p0, hp0, rfl⟩ := inR_of (by decide) hb.1.1
    obtain ⟨n0, hn0, rfl⟩ := inR_of (by decide) hb.1.2
    have hpn : p0 &&& n0 = 0 := (nI_eq (and_ltl (by omega)) (by decide)).mp (by rw [← w_and]; exact hb.2)
    refine v_aload_n X 0 dX8_impliesClause_22 rfl ?_
    refine v_iconst X (v := nI 0) (by decide) dX8_impliesClause_23 ?_
    refine v_iload_n X 1 dX8_impliesClause_24 rfl ?_
    refine v_iload_n X 2 dX8_impliesClause_25 rfl ?_
    have hRef_32 : RefAt k M_17 0 cs ds mem sl tx := ⟨hN, hV, htx9, htxc, nx, lp, ln, sp, lc, so, nw, tl, di, kp, ik, sc, rd, li, F_20, F_23, F_24, F_25, F_26, F_27, P_31, F_28, F_29, F_30, hR, hD, hK, hS⟩
    refine v_callV X hCl hCR (c_X8_implies l k M_17 0 cs ds mem sl tx (xClause p0 n0) 0 p0 n0 hRef_32 (by have := xClause_lt (show p0 < 256 by omega) (show n0 < 256 by omega); omega) (by rw [xPar_clause (by omega) (by omega)]; rfl) (xFirst_clause (by omega)).symm (xSecond_clause (by omega) (by omega)).symm) cls8 ⟨_, F_20⟩ (by omega) mo_X8_implies m_603 m_604 m_605 m_606 m_465 (by decide) rfl rfl (Nat.le_of_ble_eq_true rfl) ⟨rfl, rfl⟩ ⟨by decide, by decide⟩ dX8_impliesClause_26 (vI_in (fun r_37 M_33 hp_34 => ?_))
    obtain ⟨he_38, hRef_36, hfr_35⟩ := hp_34
    subst he_38
    exact v_iret X rq ⟨by decide, by decide⟩ (narZ _) dX8_impliesClause_29 ⟨_, rfl, Or.inr ⟨p0, n0, by omega, by omega, rfl, rfl, hpn, rfl, hRef_36⟩, (fun i hi => by rw [hfr_35 i (by omega), hfr_19 i (by omega)])⟩
set_option maxHeartbeats 4000000 in
set_option maxRecDepth 100000 in
theorem c_X8_impliesParity (l : Launch) (k : KX) (M : Mem) (w : Nat) (cs ds : List Nat) (mem : List SD) (sl : Nat → Option SD) (tx : List Nat) (m b : Int32) (hRef : RefAt k M w cs ds mem sl tx) : CM l yX8_impliesParity cX8_impliesParity 3 ((some .boolean)) { frames := 4, cells := 0, slots := 0, locals := 93 } k [.ref (ad k 93), .int m, .int b] M (pI (fun r M' => ((isSm m b = false ∧ RefAt k M' 1 cs ds mem sl tx) ∨ (∃ m0 b0, m0 < 256 ∧ b0 < 2 ∧ m = nI m0 ∧ b = nI b0 ∧ r = bI (allS cs (xParity m0 b0)) ∧ RefAt k M' 0 cs ds mem sl tx)) ∧ FrR M M')) := by
  refine CM.of (by decide) (Nat.le_of_ble_eq_true rfl) (fun C X hCl hCR rq => ?_)
  show V C k 3 (0, 0) M 0 [(0, .ref (ad k 93)), (1, .int m), (2, .int b)] []
  obtain ⟨hN, hV, htx9, htxc, nx, lp, ln, sp, lc, so, nw, tl, di, kp, ik, sc, rd, li, F93, F94, F95, F96, F97, F98, hT, F103, F104, F105, hR, hD, hK, hS⟩ := id hRef
  have ho2 : csOK cs := hV.1.1
  have hds : ∀ d ∈ ds, d < 16 := hV.1.2.1
  have hlc : cs.length ≤ 24 := ho2.1
  have hld : ds.length ≤ 8 := hV.1.2.2
  have hok := cAt_ok ho2
  have hr := hR.c
  have hTk := hT.2.1
  have hTA := hTk.A
  have hTT := hTk.T
  have hTl := hTk.le
  have htL : tL (build cs ds).1 = ds.length := hV.2.1
  have hcf : ∀ n, (build cs ds).2 = some n → n < 24 := fun n hn => by have := (build_ok hlc hds).2 n hn; omega
  refine v_aload_n X 0 dX8_impliesParity_0 rfl ?_
  refine v_iload_n X 1 dX8_impliesParity_1 rfl ?_
  refine v_iload_n X 2 dX8_impliesParity_2 rfl ?_
  refine v_callS X hCl hCR (c_X8_isSum l k M m b) mo_X8_isSum m_546 m_557 m_558 m_465 (by decide) rfl rfl (Nat.le_of_ble_eq_true rfl) ⟨rfl, rfl⟩ ⟨by decide, by decide⟩ dX8_impliesParity_3 (vP_in ?_)
  refine v_ieqB X 13 dX8_impliesParity_6 (by decide) (fun c_1 => ?_) (fun c_1 => ?_)
  · have hb := c_1
    refine v_iconst X (v := nI 1) (by decide) dX8_impliesParity_13 ?_
    refine v_callV X hCl hCR (c_X8_refused l k M w mem.length nx (tA ((build cs ds).1)) (tT ((build cs ds).1)) (((build cs ds).1).length) ((tL (build cs ds).1)) ((build cs ds).2) lp ln tx.length sp lc so 1 (by omega) F93 (by omega)) cls8 ⟨_, F93⟩ (by omega) mo_X8_refused m_458 m_508 m_509 m_510 m_465 (by decide) rfl rfl (Nat.le_of_ble_eq_true rfl) ⟨rfl, rfl⟩ ⟨by decide, by decide⟩ dX8_impliesParity_14 (vI_in (fun r_6 M_2 hp_3 => ?_))
    obtain ⟨he_7, F_5, hfr_4⟩ := hp_3
    subst he_7
    have F_8 : M_2 94 = IR k 82 nw := by rw [hfr_4 94 (by omega)]; exact F94
    have F_9 : M_2 95 = IR k 82 tl := by rw [hfr_4 95 (by omega)]; exact F95
    have F_10 : M_2 96 = IR k 1148 di := by rw [hfr_4 96 (by omega)]; exact F96
    have F_11 : M_2 97 = IR k 164 kp := by rw [hfr_4 97 (by omega)]; exact F97
    have F_12 : M_2 98 = .inl (kZ k, 2, .inl (fun zq => bI (ik zq))) := by rw [hfr_4 98 (by omega)]; exact F98
    have F_13 : M_2 103 = IR k 90 sc := by rw [hfr_4 103 (by omega)]; exact F103
    have F_14 : M_2 104 = IR k 82 rd := by rw [hfr_4 104 (by omega)]; exact F104
    have F_15 : M_2 105 = IR k 24 li := by rw [hfr_4 105 (by omega)]; exact F105
    have P_16 : RtAt k M_2 (build cs ds).1 := hT.fr (fun i h1 h2 => hfr_4 i (by omega))
    refine v_top (show (Value.int (bI (decide (0 < 1))) : Value) = .int (bI true) from congrArg _ (congrArg bI (by decide))) ?_
    refine v_ieqB X 22 dX8_impliesParity_17 (by decide) (fun h => absurd h (by decide)) (fun _ => ?_)
    refine v_iconst X (v := bI false) (by decide) dX8_impliesParity_20 ?_
    exact v_iret X rq ⟨by decide, by decide⟩ (narZ _) dX8_impliesParity_21 ⟨_, rfl, Or.inl ⟨hb, ⟨hN, hV, htx9, htxc, nx, lp, ln, sp, lc, so, nw, tl, di, kp, ik, sc, rd, li, F_5, F_8, F_9, F_10, F_11, F_12, P_16, F_13, F_14, F_15, hR, hD, hK, hS⟩⟩, (fun i hi => by rw [hfr_4 i (by omega)])⟩
  · have hb := c_1
    refine v_iconst X (v := nI 0) (by decide) dX8_impliesParity_9 ?_
    refine v_goto X 14 dX8_impliesParity_10 (by decide) ?_
    refine v_callV X hCl hCR (c_X8_refused l k M w mem.length nx (tA ((build cs ds).1)) (tT ((build cs ds).1)) (((build cs ds).1).length) ((tL (build cs ds).1)) ((build cs ds).2) lp ln tx.length sp lc so 0 (by omega) F93 (by omega)) cls8 ⟨_, F93⟩ (by omega) mo_X8_refused m_458 m_508 m_509 m_510 m_465 (by decide) rfl rfl (Nat.le_of_ble_eq_true rfl) ⟨rfl, rfl⟩ ⟨by decide, by decide⟩ dX8_impliesParity_14 (vI_in (fun r_21 M_17 hp_18 => ?_))
    obtain ⟨he_22, F_20, hfr_19⟩ := hp_18
    subst he_22
    have F_23 : M_17 94 = IR k 82 nw := by rw [hfr_19 94 (by omega)]; exact F94
    have F_24 : M_17 95 = IR k 82 tl := by rw [hfr_19 95 (by omega)]; exact F95
    have F_25 : M_17 96 = IR k 1148 di := by rw [hfr_19 96 (by omega)]; exact F96
    have F_26 : M_17 97 = IR k 164 kp := by rw [hfr_19 97 (by omega)]; exact F97
    have F_27 : M_17 98 = .inl (kZ k, 2, .inl (fun zq => bI (ik zq))) := by rw [hfr_19 98 (by omega)]; exact F98
    have F_28 : M_17 103 = IR k 90 sc := by rw [hfr_19 103 (by omega)]; exact F103
    have F_29 : M_17 104 = IR k 82 rd := by rw [hfr_19 104 (by omega)]; exact F104
    have F_30 : M_17 105 = IR k 24 li := by rw [hfr_19 105 (by omega)]; exact F105
    have P_31 : RtAt k M_17 (build cs ds).1 := hT.fr (fun i h1 h2 => hfr_19 i (by omega))
    refine v_top (show (Value.int (bI (decide (0 < 0))) : Value) = .int (bI false) from congrArg _ (congrArg bI (by decide))) ?_
    refine v_ieqB X 22 dX8_impliesParity_17 (by decide) (fun _ => ?_) (fun h => absurd h (by decide))
    simp only [isSm, Bool.and_eq_true] at hb
    obtain ⟨m0, hm0, rfl⟩ := inR_of (by decide) hb.1
    obtain ⟨b0, hb0, rfl⟩ := inR_of (by decide) hb.2
    refine v_aload_n X 0 dX8_impliesParity_22 rfl ?_
    refine v_iconst X (v := nI 1) (by decide) dX8_impliesParity_23 ?_
    refine v_iload_n X 1 dX8_impliesParity_24 rfl ?_
    refine v_iload_n X 2 dX8_impliesParity_25 rfl ?_
    have hRef_32 : RefAt k M_17 0 cs ds mem sl tx := ⟨hN, hV, htx9, htxc, nx, lp, ln, sp, lc, so, nw, tl, di, kp, ik, sc, rd, li, F_20, F_23, F_24, F_25, F_26, F_27, P_31, F_28, F_29, F_30, hR, hD, hK, hS⟩
    refine v_callV X hCl hCR (c_X8_implies l k M_17 0 cs ds mem sl tx (xParity m0 b0) 1 m0 b0 hRef_32 (by have := xParity_lt (show m0 < 256 by omega) (show b0 < 256 by omega); omega) (by rw [xPar_parity]; rfl) (xFirst_parity (by omega)).symm (xSecond_parity (by omega) (by omega)).symm) cls8 ⟨_, F_20⟩ (by omega) mo_X8_implies m_603 m_604 m_605 m_606 m_465 (by decide) rfl rfl (Nat.le_of_ble_eq_true rfl) ⟨rfl, rfl⟩ ⟨by decide, by decide⟩ dX8_impliesParity_26 (vI_in (fun r_37 M_33 hp_34 => ?_))
    obtain ⟨he_38, hRef_36, hfr_35⟩ := hp_34
    subst he_38
    exact v_iret X rq ⟨by decide, by decide⟩ (narZ _) dX8_impliesParity_29 ⟨_, rfl, Or.inr ⟨m0, b0, by omega, by omega, rfl, rfl, rfl, hRef_36⟩, (fun i hi => by rw [hfr_35 i (by omega), hfr_19 i (by omega)])⟩
set_option maxHeartbeats 4000000 in
set_option maxRecDepth 100000 in
theorem c_X8_hasModel (l : Launch) (k : KX) (M : Mem) (rf ac nx as ts tz lv : Nat) (cf : Option Nat) (lp ln sz sp lc : Nat) (so : Bool) (nw : Nat → Nat) (cs : List Nat) (m : Nat) (hN : 107 ≤ kN k) (F0 : M 93 = RO k rf ac nx as ts tz lv cf lp ln sz sp lc so) (F1 : M 94 = IR k 82 nw) (hr : csRow nw cs) (ho2 : csOK cs) (hm : m < 2 ^ 31) : CM l yX8_hasModel cX8_hasModel 4 ((some .boolean)) { frames := 3, cells := 0, slots := 0, locals := 68 } k [.ref (ad k 93), .int (nI m)] M (pP (.int (bI (canS cs m))) M) := by
  refine CM.of (by decide) (Nat.le_of_ble_eq_true rfl) (fun C X hCl hCR rq => ?_)
  show V C k 4 (0, 0) M 0 [(0, .ref (ad k 93)), (1, .int (nI m))] []
  refine v_iconst X (v := bI false) (by decide) dX8_hasModel_0 ?_
  refine v_istore_n X [(2, .int (bI false)), (0, .ref (ad k 93)), (1, .int (nI m))] dX8_hasModel_1 (by decide) rfl ?_
  refine v_iconst X (v := nI 0) (by decide) dX8_hasModel_2 ?_
  refine v_istore_n X [(3, .int (nI 0)), (2, .int (bI false)), (0, .ref (ad k 93)), (1, .int (nI m))] dX8_hasModel_3 (by decide) rfl ?_
  have L : ∀ (fu : Nat) (b : Bool) (a : Nat), 256 - a < fu → (a ≤ 256) → (canP cs m a b) → V C k 4 (0, 0) M 4 [(0, .ref (ad k 93)), (1, .int (nI m)), (2, .int (bI b)), (3, .int (nI a))] [] := by
    intro fu
    induction fu with
    | zero => intro b a hfu; exact absurd hfu (Nat.not_lt_zero _)
    | succ fu ih =>
      intro b a hfu ha hb 
      refine v_iload_n X 3 dX8_hasModel_4 rfl ?_
      refine v_sipush X (v := nI 255) (by decide) dX8_hasModel_5 ?_
      refine v_cgtN X 28 (by omega) (by omega) dX8_hasModel_8 (by decide) (fun c_1 => ?_) (fun c_1 => ?_)
      · refine v_iload_n X 2 dX8_hasModel_28 rfl ?_
        exact v_iret X rq ⟨by decide, by decide⟩ (narZ _) dX8_hasModel_29 (pP_i (congrArg bI (hb.end_ (by first | exact Or.inr hbt | exact Or.inl (by omega)))))
      · refine v_iload_n X 2 dX8_hasModel_11 rfl ?_
        refine v_ineB X 28 dX8_hasModel_12 (by decide) (fun c_2 => ?_) (fun c_2 => ?_)
        · have hbt := c_2
          refine v_iload_n X 2 dX8_hasModel_28 rfl ?_
          exact v_iret X rq ⟨by decide, by decide⟩ (narZ _) dX8_hasModel_29 (pP_i (congrArg bI (hb.end_ (by first | exact Or.inr hbt | exact Or.inl (by omega)))))
        · have hbt := c_2
          refine v_aload_n X 0 dX8_hasModel_15 rfl ?_
          refine v_iload_n X 3 dX8_hasModel_16 rfl ?_
          refine v_iload_n X 1 dX8_hasModel_17 rfl ?_
          refine v_callV X hCl hCR (c_X8_isModel l k M rf ac nx as ts tz lv cf lp ln sz sp lc so nw cs a m (by omega) F0 F1 hr ho2 (by omega)) cls8 ⟨_, F0⟩ (by omega) mo_X8_isModel m_593 m_599 m_600 m_601 m_465 (by decide) rfl rfl (Nat.le_of_ble_eq_true rfl) ⟨rfl, rfl⟩ ⟨by decide, by decide⟩ dX8_hasModel_18 (vP_in ?_)
          refine v_istore_n X [(2, .int (bI (decide (vset cs a &&& m = 0)))), (0, .ref (ad k 93)), (1, .int (nI m)), (3, .int (nI a))] dX8_hasModel_21 (by decide) rfl ?_
          refine v_iinc X (v := nI (a + 1)) 3 [(3, .int (nI (a + 1))), (2, .int (bI (decide (vset cs a &&& m = 0)))), (0, .ref (ad k 93)), (1, .int (nI m))] dX8_hasModel_22 rfl (nI_1 _) (by decide) rfl ?_
          refine v_goto X 4 dX8_hasModel_25 (by decide) ?_
          refine v_lv [2, 3, 1, 0] rfl ?_
          exact ih (decide (vset cs a &&& m = 0)) (a + 1) (by omega) (by omega) (by rw [hbt] at hb; exact hb.step (by omega))
  refine v_lv [2, 3, 1, 0] rfl ?_
  exact L 257 false 0 (by omega) (by omega) (Or.inr ⟨rfl, fun q hq => absurd hq (Nat.not_lt_zero _)⟩)
set_option maxHeartbeats 4000000 in
set_option maxRecDepth 100000 in
theorem c_X8_core (l : Launch) (k : KX) (M : Mem) (w : Nat) (cs ds : List Nat) (mem : List SD) (sl : Nat → Option SD) (tx : List Nat) (hRef : RefAt k M w cs ds mem sl tx) : CM l yX8_core cX8_core 3 ((some .int)) { frames := 4, cells := 0, slots := 0, locals := 91 } k [.ref (ad k 93)] M (pI (fun r M' => (r = oI (coreO cs) ∧ RefAt k M' 0 cs ds mem sl tx) ∧ FrR M M')) := by
  refine CM.of (by decide) (Nat.le_of_ble_eq_true rfl) (fun C X hCl hCR rq => ?_)
  show V C k 3 (0, 0) M 0 [(0, .ref (ad k 93))] []
  obtain ⟨hN, hV, htx9, htxc, nx, lp, ln, sp, lc, so, nw, tl, di, kp, ik, sc, rd, li, F93, F94, F95, F96, F97, F98, hT, F103, F104, F105, hR, hD, hK, hS⟩ := id hRef
  have ho2 : csOK cs := hV.1.1
  have hds : ∀ d ∈ ds, d < 16 := hV.1.2.1
  have hlc : cs.length ≤ 24 := ho2.1
  have hld : ds.length ≤ 8 := hV.1.2.2
  have hok := cAt_ok ho2
  have hr := hR.c
  have hTk := hT.2.1
  have hTA := hTk.A
  have hTT := hTk.T
  have hTl := hTk.le
  have htL : tL (build cs ds).1 = ds.length := hV.2.1
  have hcf : ∀ n, (build cs ds).2 = some n → n < 24 := fun n hn => by have := (build_ok hlc hds).2 n hn; omega
  have hsh := one_shl_lt hlc
  refine v_aload_n X 0 dX8_core_0 rfl ?_
  refine v_iconst X (v := nI 0) (by decide) dX8_core_1 ?_
  refine v_put X cls8 F93 (by omega) 0 (by decide) m_457 rfl rfl rfl rfl (Nat.le_of_ble_eq_true rfl) dX8_core_2 (fun M_1 hM_2 => ?_)
  have F_3 : M_1 93 = RO k 0 mem.length nx (tA ((build cs ds).1)) (tT ((build cs ds).1)) (((build cs ds).1).length) ((tL (build cs ds).1)) ((build cs ds).2) lp ln tx.length sp lc so := by rw [hM_2]; exact mup_s
  have F_4 : M_1 94 = IR k 82 nw := by rw [hM_2, mup_n (by omega)]; exact F94
  have F_5 : M_1 95 = IR k 82 tl := by rw [hM_2, mup_n (by omega)]; exact F95
  have F_6 : M_1 96 = IR k 1148 di := by rw [hM_2, mup_n (by omega)]; exact F96
  have F_7 : M_1 97 = IR k 164 kp := by rw [hM_2, mup_n (by omega)]; exact F97
  have F_8 : M_1 98 = .inl (kZ k, 2, .inl (fun zq => bI (ik zq))) := by rw [hM_2, mup_n (by omega)]; exact F98
  have F_9 : M_1 103 = IR k 90 sc := by rw [hM_2, mup_n (by omega)]; exact F103
  have F_10 : M_1 104 = IR k 82 rd := by rw [hM_2, mup_n (by omega)]; exact F104
  have F_11 : M_1 105 = IR k 24 li := by rw [hM_2, mup_n (by omega)]; exact F105
  have P_12 : RtAt k M_1 (build cs ds).1 := hT.fr (fun i h1 h2 => by rw [hM_2, mup_n (by omega)])
  refine v_aload_n X 0 dX8_core_5 rfl ?_
  refine v_callV X hCl hCR (c_X8_everything l k M_1 0 mem.length nx (tA ((build cs ds).1)) (tT ((build cs ds).1)) (((build cs ds).1).length) ((tL (build cs ds).1)) ((build cs ds).2) lp ln tx.length sp lc so nw cs  (by omega) F_3 F_4 hr ho2) cls8 ⟨_, F_3⟩ (by omega) mo_X8_everything m_594 m_596 m_597 m_598 m_465 (by decide) rfl rfl (Nat.le_of_ble_eq_true rfl) ⟨rfl, rfl⟩ ⟨by decide, by decide⟩ dX8_core_6 (vP_in ?_)
  refine v_istore_n X [(1, .int (nI (1 <<< cs.length - 1))), (0, .ref (ad k 93))] dX8_core_9 (by decide) rfl ?_
  refine v_aload_n X 1 dX8_core_10 rfl ?_
  refine v_iload_n X 0 dX8_core_11 rfl ?_
  refine v_callV X hCl hCR (c_X8_hasModel l k M_1 0 mem.length nx (tA ((build cs ds).1)) (tT ((build cs ds).1)) (((build cs ds).1).length) ((tL (build cs ds).1)) ((build cs ds).2) lp ln tx.length sp lc so nw cs (1 <<< cs.length - 1) (by omega) F_3 F_4 hr ho2 (by omega)) cls8 ⟨_, F_3⟩ (by omega) mo_X8_hasModel m_609 m_611 m_612 m_613 m_465 (by decide) rfl rfl (Nat.le_of_ble_eq_true rfl) ⟨rfl, rfl⟩ ⟨by decide, by decide⟩ dX8_core_12 (vP_in ?_)
  refine v_ieqB X 21 dX8_core_15 (by decide) (fun c_13 => ?_) (fun c_13 => ?_)
  · have h15 := c_13
    refine v_iconst X (v := nI 0) (by decide) dX8_core_21 ?_
    refine v_istore_n X [(2, .int (nI 0)), (1, .int (nI (1 <<< cs.length - 1))), (0, .ref (ad k 93))] dX8_core_22 (by decide) rfl ?_
    have L : ∀ (fu : Nat) (i w1 : Nat), cs.length - i < fu → (i ≤ cs.length) → (w1 < 16777216) → (coreF cs (1 <<< cs.length - 1) i = w1) → V C k 3 (0, 0) M_1 23 [(0, .ref (ad k 93)), (1, .int (nI w1)), (2, .int (nI i))] [] := by
      intro fu
      induction fu with
      | zero => intro i w1 hfu; exact absurd hfu (Nat.not_lt_zero _)
      | succ fu ih =>
        intro i w1 hfu hi hwl hw 
        refine v_iload_n X 2 dX8_core_23 rfl ?_
        refine v_aload_n X 0 dX8_core_24 rfl ?_
        refine v_get X cls8 F_3 (by omega) 1 (by decide) m_443 rfl rfl dX8_core_25 ?_
        refine v_iconst X (v := nI 0) (by decide) dX8_core_28 ?_
        refine v_iald X nI F_4 (by omega) (by omega) (by decide) dX8_core_29 ?_
        refine v_top (show (Value.int (nI (nw 0)) : Value) = .int (nI cs.length) from congrArg _ (congrArg nI hR.1)) ?_
        refine v_cgeN X 65 (by omega) (by omega) dX8_core_30 (by decide) (fun c_14 => ?_) (fun c_14 => ?_)
        · refine v_iload_n X 1 dX8_core_65 rfl ?_
          exact v_iret X rq ⟨by decide, by decide⟩ rfl dX8_core_66 ⟨_, rfl, ⟨by unfold coreO; rw [if_neg (by simp [h15]), ← hw, show i = cs.length by omega]; rfl, ⟨hN, hV, htx9, htxc, nx, lp, ln, sp, lc, so, nw, tl, di, kp, ik, sc, rd, li, F_3, F_4, F_5, F_6, F_7, F_8, P_12, F_9, F_10, F_11, hR, hD, hK, hS⟩⟩, (fun i hi => by rw [hM_2, mup_n (by omega)])⟩
        · have hwl2 := mdiff_lt (b := 1 <<< i) hwl
          refine v_aload_n X 0 dX8_core_33 rfl ?_
          refine v_iload_n X 1 dX8_core_34 rfl ?_
          refine v_iconst X (v := nI 1) (by decide) dX8_core_35 ?_
          refine v_iload_n X 2 dX8_core_36 rfl ?_
          refine v_shlN X (by omega) dX8_core_37 ?_
          refine v_iconst X (v := nI 4294967295) (by decide) dX8_core_38 ?_
          refine v_xorN X dX8_core_39 ?_
          refine v_andN X dX8_core_40 ?_
          refine v_top (show (Value.int (nI (w1 &&& ((1 <<< i) ^^^ 4294967295))) : Value) = .int (nI (mdiff w1 (1 <<< i))) from congrArg _ (rfl)) ?_
          refine v_callV X hCl hCR (c_X8_hasModel l k M_1 0 mem.length nx (tA ((build cs ds).1)) (tT ((build cs ds).1)) (((build cs ds).1).length) ((tL (build cs ds).1)) ((build cs ds).2) lp ln tx.length sp lc so nw cs (mdiff w1 (1 <<< i)) (by omega) F_3 F_4 hr ho2 (by omega)) cls8 ⟨_, F_3⟩ (by omega) mo_X8_hasModel m_609 m_611 m_612 m_613 m_465 (by decide) rfl rfl (Nat.le_of_ble_eq_true rfl) ⟨rfl, rfl⟩ ⟨by decide, by decide⟩ dX8_core_41 (vP_in ?_)
          refine v_ieqB X 51 dX8_core_44 (by decide) (fun c_15 => ?_) (fun c_15 => ?_)
          · have hc := c_15
            refine v_iload_n X 1 dX8_core_51 rfl ?_
            refine v_iconst X (v := nI 1) (by decide) dX8_core_52 ?_
            refine v_iload_n X 2 dX8_core_53 rfl ?_
            refine v_shlN X (by omega) dX8_core_54 ?_
            refine v_iconst X (v := nI 4294967295) (by decide) dX8_core_55 ?_
            refine v_xorN X dX8_core_56 ?_
            refine v_andN X dX8_core_57 ?_
            refine v_top (show (Value.int (nI (w1 &&& ((1 <<< i) ^^^ 4294967295))) : Value) = .int (nI (mdiff w1 (1 <<< i))) from congrArg _ (rfl)) ?_
            refine v_istore_n X [(1, .int (nI (mdiff w1 (1 <<< i)))), (0, .ref (ad k 93)), (2, .int (nI i))] dX8_core_58 (by decide) rfl ?_
            refine v_iinc X (v := nI (i + 1)) 2 [(2, .int (nI (i + 1))), (1, .int (nI (mdiff w1 (1 <<< i)))), (0, .ref (ad k 93))] dX8_core_59 rfl (nI_1 _) (by decide) rfl ?_
            refine v_goto X 23 dX8_core_62 (by decide) ?_
            refine v_lv [2, 1, 0] rfl ?_
            exact ih (i + 1) (mdiff w1 (1 <<< i)) (by omega) (by omega) hwl2 (by rw [core_f (by rw [hw]; exact hc), hw])
          · have hc := c_15
            refine v_iload_n X 1 dX8_core_47 rfl ?_
            refine v_goto X 58 dX8_core_48 (by decide) ?_
            refine v_istore_n X [(1, .int (nI w1)), (0, .ref (ad k 93)), (2, .int (nI i))] dX8_core_58 (by decide) rfl ?_
            refine v_iinc X (v := nI (i + 1)) 2 [(2, .int (nI (i + 1))), (1, .int (nI w1)), (0, .ref (ad k 93))] dX8_core_59 rfl (nI_1 _) (by decide) rfl ?_
            refine v_goto X 23 dX8_core_62 (by decide) ?_
            refine v_lv [2, 1, 0] rfl ?_
            exact ih (i + 1) w1 (by omega) (by omega) hwl (by rw [core_t (by rw [hw]; exact hc), hw])
    refine v_lv [2, 1, 0] rfl ?_
    exact L (cs.length + 1) 0 (1 <<< cs.length - 1) (by omega) (by omega) (by omega) rfl
  · have h15 := c_13
    refine v_bipush X (v := (-9)) (by decide) dX8_core_18 ?_
    exact v_iret X rq ⟨by decide, by decide⟩ rfl dX8_core_20 ⟨_, rfl, ⟨by unfold coreO; rw [if_pos h15]; rfl, ⟨hN, hV, htx9, htxc, nx, lp, ln, sp, lc, so, nw, tl, di, kp, ik, sc, rd, li, F_3, F_4, F_5, F_6, F_7, F_8, P_12, F_9, F_10, F_11, hR, hD, hK, hS⟩⟩, (fun i hi => by rw [hM_2, mup_n (by omega)])⟩
