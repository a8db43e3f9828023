set_option maxHeartbeats 4000000 in
set_option maxRecDepth 100000 in
theorem c_X8_learnedClause (l : Launch) (k : KX) (M : Mem) (w : Nat) (cs ds : List Nat) (mem : List SD) (sl : Nat → Option SD) (tx : List Nat) (hRef : RefAt k M w cs ds mem sl tx) : CM l yX8_learnedClause cX8_learnedClause 1 ((some .int)) { frames := 3, cells := 0, slots := 0, locals := 68 } k [.ref (ad k 93)] M (pI (fun r M' => ((((build cs ds).2 = none ∨ ds.length = 0) ∧ RefAt k M' 1 cs ds mem sl tx) ∨ (∃ q, (build cs ds).2 = some q ∧ ds.length ≠ 0 ∧ r = nI (falseCl (build cs ds).1 (lrnVars cs (build cs ds).1 q)) ∧ RefAt k M' 0 cs ds mem sl tx)) ∧ FrR M M')) := by
  refine CM.of (by decide) (Nat.le_of_ble_eq_true rfl) (fun C X hCl hCR rq => ?_)
  show V C k 1 (0, 0) M 0 [(0, .ref (ad k 93))] []
  obtain ⟨hN, hV, htx9, htxc, nx, lp, ln, sp, lc, so, nw, tl, di, kp, ik, sc, rd, li, F93, F94, F95, F96, F97, F98, hT, F103, F104, F105, hR, hD, hK, hS⟩ := id hRef
  have ho2 : csOK cs := hV.1.1
  have hds : ∀ d ∈ ds, d < 16 := hV.1.2.1
  have hlc : cs.length ≤ 24 := ho2.1
  have hld : ds.length ≤ 8 := hV.1.2.2
  have hok := cAt_ok ho2
  have hr := hR.c
  have hTk := hT.2.1
  have hTA := hTk.A
  have hTT := hTk.T
  have hTl := hTk.le
  have htL : tL (build cs ds).1 = ds.length := hV.2.1
  have hcf : ∀ n, (build cs ds).2 = some n → n < 24 := fun n hn => by have := (build_ok hlc hds).2 n hn; omega
  refine v_aload_n X 0 dX8_learnedClause_0 rfl ?_
  refine v_aload_n X 0 dX8_learnedClause_1 rfl ?_
  refine v_callV X hCl hCR (c_X8_canLearn l k M w mem.length nx (tA ((build cs ds).1)) (tT ((build cs ds).1)) (((build cs ds).1).length) ((tL (build cs ds).1)) ((build cs ds).2) lp ln tx.length sp lc so (by omega) F93 hcf (by omega)) cls8 ⟨_, F93⟩ (by omega) mo_X8_canLearn m_567 m_579 m_580 m_581 m_465 (by decide) rfl rfl (Nat.le_of_ble_eq_true rfl) ⟨rfl, rfl⟩ ⟨by decide, by decide⟩ dX8_learnedClause_2 (vP_in ?_)
  refine v_ieqB X 12 dX8_learnedClause_5 (by decide) (fun c_1 => ?_) (fun c_1 => ?_)
  · have hnc := of_decide_eq_false c_1
    refine v_iconst X (v := nI 1) (by decide) dX8_learnedClause_12 ?_
    refine v_callV X hCl hCR (c_X8_refused l k M w mem.length nx (tA ((build cs ds).1)) (tT ((build cs ds).1)) (((build cs ds).1).length) ((tL (build cs ds).1)) ((build cs ds).2) lp ln tx.length sp lc so 1 (by omega) F93 (by omega)) cls8 ⟨_, F93⟩ (by omega) mo_X8_refused m_458 m_508 m_509 m_510 m_465 (by decide) rfl rfl (Nat.le_of_ble_eq_true rfl) ⟨rfl, rfl⟩ ⟨by decide, by decide⟩ dX8_learnedClause_13 (vI_in (fun r_6 M_2 hp_3 => ?_))
    obtain ⟨he_7, F_5, hfr_4⟩ := hp_3
    subst he_7
    have F_8 : M_2 94 = IR k 82 nw := by rw [hfr_4 94 (by omega)]; exact F94
    have F_9 : M_2 95 = IR k 82 tl := by rw [hfr_4 95 (by omega)]; exact F95
    have F_10 : M_2 96 = IR k 1148 di := by rw [hfr_4 96 (by omega)]; exact F96
    have F_11 : M_2 97 = IR k 164 kp := by rw [hfr_4 97 (by omega)]; exact F97
    have F_12 : M_2 98 = .inl (kZ k, 2, .inl (fun zq => bI (ik zq))) := by rw [hfr_4 98 (by omega)]; exact F98
    have F_13 : M_2 103 = IR k 90 sc := by rw [hfr_4 103 (by omega)]; exact F103
    have F_14 : M_2 104 = IR k 82 rd := by rw [hfr_4 104 (by omega)]; exact F104
    have F_15 : M_2 105 = IR k 24 li := by rw [hfr_4 105 (by omega)]; exact F105
    have P_16 : RtAt k M_2 (build cs ds).1 := hT.fr (fun i h1 h2 => hfr_4 i (by omega))
    refine v_top (show (Value.int (bI (decide (0 < 1))) : Value) = .int (bI true) from congrArg _ (congrArg bI (by decide))) ?_
    refine v_ieqB X 21 dX8_learnedClause_16 (by decide) (fun h => absurd h (by decide)) (fun _ => ?_)
    refine v_iconst X (v := nI 0) (by decide) dX8_learnedClause_19 ?_
    exact v_iret X rq ⟨by decide, by decide⟩ rfl dX8_learnedClause_20 ⟨_, rfl, Or.inl ⟨(by rw [← htL]; by_cases w : (build cs ds).2 = none; (exact Or.inl w); (exact Or.inr (Decidable.byContradiction fun w2 => hnc ⟨w, w2⟩))), ⟨hN, hV, htx9, htxc, nx, lp, ln, sp, lc, so, nw, tl, di, kp, ik, sc, rd, li, F_5, F_8, F_9, F_10, F_11, F_12, P_16, F_13, F_14, F_15, hR, hD, hK, hS⟩⟩, (fun i hi => by rw [hfr_4 i (by omega)])⟩
  · obtain ⟨hcn, hlv0⟩ := of_decide_eq_true c_1
    obtain ⟨q, hq9⟩ := Option.ne_none_iff_exists'.mp hcn
    have hbX := build_X cs ds
    have hqX := hbX.2 q hq9
    refine v_iconst X (v := nI 0) (by decide) dX8_learnedClause_8 ?_
    refine v_goto X 13 dX8_learnedClause_9 (by decide) ?_
    refine v_callV X hCl hCR (c_X8_refused l k M w mem.length nx (tA ((build cs ds).1)) (tT ((build cs ds).1)) (((build cs ds).1).length) ((tL (build cs ds).1)) ((build cs ds).2) lp ln tx.length sp lc so 0 (by omega) F93 (by omega)) cls8 ⟨_, F93⟩ (by omega) mo_X8_refused m_458 m_508 m_509 m_510 m_465 (by decide) rfl rfl (Nat.le_of_ble_eq_true rfl) ⟨rfl, rfl⟩ ⟨by decide, by decide⟩ dX8_learnedClause_13 (vI_in (fun r_21 M_17 hp_18 => ?_))
    obtain ⟨he_22, F_20, hfr_19⟩ := hp_18
    subst he_22
    have F_23 : M_17 94 = IR k 82 nw := by rw [hfr_19 94 (by omega)]; exact F94
    have F_24 : M_17 95 = IR k 82 tl := by rw [hfr_19 95 (by omega)]; exact F95
    have F_25 : M_17 96 = IR k 1148 di := by rw [hfr_19 96 (by omega)]; exact F96
    have F_26 : M_17 97 = IR k 164 kp := by rw [hfr_19 97 (by omega)]; exact F97
    have F_27 : M_17 98 = .inl (kZ k, 2, .inl (fun zq => bI (ik zq))) := by rw [hfr_19 98 (by omega)]; exact F98
    have F_28 : M_17 103 = IR k 90 sc := by rw [hfr_19 103 (by omega)]; exact F103
    have F_29 : M_17 104 = IR k 82 rd := by rw [hfr_19 104 (by omega)]; exact F104
    have F_30 : M_17 105 = IR k 24 li := by rw [hfr_19 105 (by omega)]; exact F105
    have P_31 : RtAt k M_17 (build cs ds).1 := hT.fr (fun i h1 h2 => hfr_19 i (by omega))
    refine v_top (show (Value.int (bI (decide (0 < 0))) : Value) = .int (bI false) from congrArg _ (congrArg bI (by decide))) ?_
    refine v_ieqB X 21 dX8_learnedClause_16 (by decide) (fun _ => ?_) (fun h => absurd h (by decide))
    refine v_aload_n X 0 dX8_learnedClause_21 rfl ?_
    refine v_aload_n X 0 dX8_learnedClause_22 rfl ?_
    refine v_get X cls8 F_20 (by omega) 1 (by decide) m_443 rfl rfl dX8_learnedClause_23 ?_
    have F_32 : M_17 93 = RO k 0 mem.length nx (tA ((build cs ds).1)) (tT ((build cs ds).1)) (((build cs ds).1).length) ((tL (build cs ds).1)) ((some q)) lp ln tx.length sp lc so := by rw [← hq9]; exact F_20
    refine v_callV X hCl hCR (c_X8_analyse l k M_17 0 mem.length nx lp ln tx.length sp lc so (build cs ds).1 q 94 nw cs (by omega) F_32 P_31 (by omega) F_23 hr ho2 hbX.1 hqX.1 hqX.2) cls8 ⟨_, F_20⟩ (by omega) mo_X8_analyse m_570 m_582 m_583 m_584 m_465 (by decide) rfl rfl (Nat.le_of_ble_eq_true rfl) ⟨rfl, rfl⟩ ⟨by decide, by decide⟩ dX8_learnedClause_26 (vI_in (fun r_33 M_34 hp_35 => ?_))
    obtain ⟨he_38, F_37, hfr_36⟩ := hp_35
    subst he_38
    have F_39 : M_34 93 = RO k 0 mem.length nx (tA ((build cs ds).1)) (tT ((build cs ds).1)) (((build cs ds).1).length) ((tL (build cs ds).1)) ((build cs ds).2) (mdiff (lrnVars cs (build cs ds).1 q) (tT (build cs ds).1)) ((lrnVars cs (build cs ds).1 q) &&& tT (build cs ds).1) tx.length sp lc so := by rw [hq9]; exact F_37
    have F_40 : M_34 94 = IR k 82 nw := by rw [hfr_36 94 (by omega)]; exact F_23
    have F_41 : M_34 95 = IR k 82 tl := by rw [hfr_36 95 (by omega)]; exact F_24
    have F_42 : M_34 96 = IR k 1148 di := by rw [hfr_36 96 (by omega)]; exact F_25
    have F_43 : M_34 97 = IR k 164 kp := by rw [hfr_36 97 (by omega)]; exact F_26
    have F_44 : M_34 98 = .inl (kZ k, 2, .inl (fun zq => bI (ik zq))) := by rw [hfr_36 98 (by omega)]; exact F_27
    have F_45 : M_34 103 = IR k 90 sc := by rw [hfr_36 103 (by omega)]; exact F_28
    have F_46 : M_34 104 = IR k 82 rd := by rw [hfr_36 104 (by omega)]; exact F_29
    have F_47 : M_34 105 = IR k 24 li := by rw [hfr_36 105 (by omega)]; exact F_30
    have P_48 : RtAt k M_34 (build cs ds).1 := P_31.fr (fun i h1 h2 => hfr_36 i (by omega))
    refine v_pop X rfl dX8_learnedClause_29 ?_
    refine v_sipush X (v := nI 256) (by decide) dX8_learnedClause_30 ?_
    refine v_aload_n X 0 dX8_learnedClause_33 rfl ?_
    refine v_get X cls8 F_39 (by omega) 18 (by decide) m_572 rfl rfl dX8_learnedClause_34 ?_
    refine v_mulN X dX8_learnedClause_37 ?_
    refine v_aload_n X 0 dX8_learnedClause_38 rfl ?_
    refine v_get X cls8 F_39 (by omega) 17 (by decide) m_571 rfl rfl dX8_learnedClause_39 ?_
    refine v_addN X dX8_learnedClause_42 ?_
    exact v_iret X rq ⟨by decide, by decide⟩ rfl dX8_learnedClause_43 ⟨_, rfl, Or.inr ⟨q, hq9, by omega, congrArg nI (xClause_add (mdiff_lt lrn_lt)), ⟨hN, hV, htx9, htxc, nx, mdiff (lrnVars cs (build cs ds).1 q) (tT (build cs ds).1), (lrnVars cs (build cs ds).1 q) &&& tT (build cs ds).1, sp, lc, so, nw, tl, di, kp, ik, sc, rd, li, F_39, F_40, F_41, F_42, F_43, F_44, P_48, F_45, F_46, F_47, hR, hD, hK, hS⟩⟩, (fun i hi => by rw [hfr_36 i (by omega), hfr_19 i (by omega)])⟩
set_option maxHeartbeats 4000000 in
set_option maxRecDepth 100000 in
theorem c_X8_learn (l : Launch) (k : KX) (M : Mem) (w : Nat) (cs ds : List Nat) (mem : List SD) (sl : Nat → Option SD) (tx : List Nat) (hRef : RefAt k M w cs ds mem sl tx) : CM l yX8_learn cX8_learn 2 ((some .int)) { frames := 6, cells := 0, slots := 0, locals := 138 } k [.ref (ad k 93)] M (pI (fun r M' => ((((build cs ds).2 = none ∨ ds.length = 0 ∨ 24 ≤ cs.length) ∧ RefAt k M' 1 cs ds mem sl tx) ∨ (∃ q, (build cs ds).2 = some q ∧ ds.length ≠ 0 ∧ cs.length < 24 ∧ r = nI (bjLev (build cs ds).1 (lrnVars cs (build cs ds).1 q)) ∧ RefAt k M' 0 ((cs ++ [falseCl (build cs ds).1 (lrnVars cs (build cs ds).1 q)])) (sNew (cs ++ [falseCl (build cs ds).1 (lrnVars cs (build cs ds).1 q)]) (ds.take (bjLev (build cs ds).1 (lrnVars cs (build cs ds).1 q)))) (remF mem (cs, ds)) sl tx)) ∧ FrR M M')) := by
  refine CM.of (by decide) (Nat.le_of_ble_eq_true rfl) (fun C X hCl hCR rq => ?_)
  show V C k 2 (0, 0) M 0 [(0, .ref (ad k 93))] []
  obtain ⟨hN, hV, htx9, htxc, nx, lp, ln, sp, lc, so, nw, tl, di, kp, ik, sc, rd, li, F93, F94, F95, F96, F97, F98, hT, F103, F104, F105, hR, hD, hK, hS⟩ := id hRef
  have ho2 : csOK cs := hV.1.1
  have hds : ∀ d ∈ ds, d < 16 := hV.1.2.1
  have hlc : cs.length ≤ 24 := ho2.1
  have hld : ds.length ≤ 8 := hV.1.2.2
  have hok := cAt_ok ho2
  have hr := hR.c
  have hTk := hT.2.1
  have hTA := hTk.A
  have hTT := hTk.T
  have hTl := hTk.le
  have htL : tL (build cs ds).1 = ds.length := hV.2.1
  have hcf : ∀ n, (build cs ds).2 = some n → n < 24 := fun n hn => by have := (build_ok hlc hds).2 n hn; omega
  refine v_aload_n X 0 dX8_learn_0 rfl ?_
  refine v_aload_n X 0 dX8_learn_1 rfl ?_
  refine v_callV X hCl hCR (c_X8_canLearn l k M w mem.length nx (tA ((build cs ds).1)) (tT ((build cs ds).1)) (((build cs ds).1).length) ((tL (build cs ds).1)) ((build cs ds).2) lp ln tx.length sp lc so (by omega) F93 hcf (by omega)) cls8 ⟨_, F93⟩ (by omega) mo_X8_canLearn m_567 m_579 m_580 m_581 m_465 (by decide) rfl rfl (Nat.le_of_ble_eq_true rfl) ⟨rfl, rfl⟩ ⟨by decide, by decide⟩ dX8_learn_2 (vP_in ?_)
  refine v_ieqB X 19 dX8_learn_5 (by decide) (fun c_1 => ?_) (fun c_1 => ?_)
  · have hnc := of_decide_eq_false c_1
    refine v_iconst X (v := nI 1) (by decide) dX8_learn_19 ?_
    refine v_goto X 24 dX8_learn_20 (by decide) ?_
    refine v_callV X hCl hCR (c_X8_refused l k M w mem.length nx (tA ((build cs ds).1)) (tT ((build cs ds).1)) (((build cs ds).1).length) ((tL (build cs ds).1)) ((build cs ds).2) lp ln tx.length sp lc so 1 (by omega) F93 (by omega)) cls8 ⟨_, F93⟩ (by omega) mo_X8_refused m_458 m_508 m_509 m_510 m_465 (by decide) rfl rfl (Nat.le_of_ble_eq_true rfl) ⟨rfl, rfl⟩ ⟨by decide, by decide⟩ dX8_learn_24 (vI_in (fun r_6 M_2 hp_3 => ?_))
    obtain ⟨he_7, F_5, hfr_4⟩ := hp_3
    subst he_7
    have F_8 : M_2 94 = IR k 82 nw := by rw [hfr_4 94 (by omega)]; exact F94
    have F_9 : M_2 95 = IR k 82 tl := by rw [hfr_4 95 (by omega)]; exact F95
    have F_10 : M_2 96 = IR k 1148 di := by rw [hfr_4 96 (by omega)]; exact F96
    have F_11 : M_2 97 = IR k 164 kp := by rw [hfr_4 97 (by omega)]; exact F97
    have F_12 : M_2 98 = .inl (kZ k, 2, .inl (fun zq => bI (ik zq))) := by rw [hfr_4 98 (by omega)]; exact F98
    have F_13 : M_2 103 = IR k 90 sc := by rw [hfr_4 103 (by omega)]; exact F103
    have F_14 : M_2 104 = IR k 82 rd := by rw [hfr_4 104 (by omega)]; exact F104
    have F_15 : M_2 105 = IR k 24 li := by rw [hfr_4 105 (by omega)]; exact F105
    have P_16 : RtAt k M_2 (build cs ds).1 := hT.fr (fun i h1 h2 => hfr_4 i (by omega))
    refine v_top (show (Value.int (bI (decide (0 < 1))) : Value) = .int (bI true) from congrArg _ (congrArg bI (by decide))) ?_
    refine v_ieqB X 32 dX8_learn_27 (by decide) (fun h => absurd h (by decide)) (fun _ => ?_)
    refine v_iconst X (v := nI 0) (by decide) dX8_learn_30 ?_
    exact v_iret X rq ⟨by decide, by decide⟩ rfl dX8_learn_31 ⟨_, rfl, Or.inl ⟨(by rw [← htL]; first | (exact Or.inr (Or.inr h24)) | (by_cases w : (build cs ds).2 = none; (exact Or.inl w); (exact Or.inr (Or.inl (Decidable.byContradiction fun w2 => hnc ⟨w, w2⟩))))), ⟨hN, hV, htx9, htxc, nx, lp, ln, sp, lc, so, nw, tl, di, kp, ik, sc, rd, li, F_5, F_8, F_9, F_10, F_11, F_12, P_16, F_13, F_14, F_15, hR, hD, hK, hS⟩⟩, (fun i hi => by rw [hfr_4 i (by omega)])⟩
  · obtain ⟨hcn, hlv0⟩ := of_decide_eq_true c_1
    obtain ⟨q, hq9⟩ := Option.ne_none_iff_exists'.mp hcn
    have hbX := build_X cs ds
    have hqX := hbX.2 q hq9
    refine v_aload_n X 0 dX8_learn_8 rfl ?_
    refine v_get X cls8 F93 (by omega) 1 (by decide) m_443 rfl rfl dX8_learn_9 ?_
    refine v_iconst X (v := nI 0) (by decide) dX8_learn_12 ?_
    refine v_iald X nI F94 (by omega) (by omega) (by decide) dX8_learn_13 ?_
    refine v_top (show (Value.int (nI (nw 0)) : Value) = .int (nI cs.length) from congrArg _ (congrArg nI hR.1)) ?_
    refine v_bipush X (v := nI 24) (by decide) dX8_learn_14 ?_
    refine v_cneN X 23 (by omega) (by omega) dX8_learn_16 (by decide) (fun c_17 => ?_) (fun c_17 => ?_)
    · have h24 : cs.length < 24 := by omega
      refine v_iconst X (v := nI 0) (by decide) dX8_learn_23 ?_
      refine v_callV X hCl hCR (c_X8_refused l k M w mem.length nx (tA ((build cs ds).1)) (tT ((build cs ds).1)) (((build cs ds).1).length) ((tL (build cs ds).1)) ((build cs ds).2) lp ln tx.length sp lc so 0 (by omega) F93 (by omega)) cls8 ⟨_, F93⟩ (by omega) mo_X8_refused m_458 m_508 m_509 m_510 m_465 (by decide) rfl rfl (Nat.le_of_ble_eq_true rfl) ⟨rfl, rfl⟩ ⟨by decide, by decide⟩ dX8_learn_24 (vI_in (fun r_22 M_18 hp_19 => ?_))
      obtain ⟨he_23, F_21, hfr_20⟩ := hp_19
      subst he_23
      have F_24 : M_18 94 = IR k 82 nw := by rw [hfr_20 94 (by omega)]; exact F94
      have F_25 : M_18 95 = IR k 82 tl := by rw [hfr_20 95 (by omega)]; exact F95
      have F_26 : M_18 96 = IR k 1148 di := by rw [hfr_20 96 (by omega)]; exact F96
      have F_27 : M_18 97 = IR k 164 kp := by rw [hfr_20 97 (by omega)]; exact F97
      have F_28 : M_18 98 = .inl (kZ k, 2, .inl (fun zq => bI (ik zq))) := by rw [hfr_20 98 (by omega)]; exact F98
      have F_29 : M_18 103 = IR k 90 sc := by rw [hfr_20 103 (by omega)]; exact F103
      have F_30 : M_18 104 = IR k 82 rd := by rw [hfr_20 104 (by omega)]; exact F104
      have F_31 : M_18 105 = IR k 24 li := by rw [hfr_20 105 (by omega)]; exact F105
      have P_32 : RtAt k M_18 (build cs ds).1 := hT.fr (fun i h1 h2 => hfr_20 i (by omega))
      refine v_top (show (Value.int (bI (decide (0 < 0))) : Value) = .int (bI false) from congrArg _ (congrArg bI (by decide))) ?_
      refine v_ieqB X 32 dX8_learn_27 (by decide) (fun _ => ?_) (fun h => absurd h (by decide))
      have hbl : bjLev (build cs ds).1 (lrnVars cs (build cs ds).1 q) ≤ ds.length := by rw [← htL]; exact bj_tL 8
      have hc2 := ho2.app h24 (falseCl_ok (tr := (build cs ds).1) (lrn_lt (cs := cs) (tr := (build cs ds).1) (c := q)))
      have hd2 : ∀ y ∈ (ds.take (bjLev (build cs ds).1 (lrnVars cs (build cs ds).1 q))), y < 16 := fun y hy => hds y (List.mem_of_mem_take hy)
      refine v_aload_n X 0 dX8_learn_32 rfl ?_
      refine v_aload_n X 0 dX8_learn_33 rfl ?_
      refine v_get X cls8 F_21 (by omega) 1 (by decide) m_443 rfl rfl dX8_learn_34 ?_
      have F_33 : M_18 93 = RO k 0 mem.length nx (tA ((build cs ds).1)) (tT ((build cs ds).1)) (((build cs ds).1).length) ((tL (build cs ds).1)) ((some q)) lp ln tx.length sp lc so := by rw [← hq9]; exact F_21
      refine v_callV X hCl hCR (c_X8_analyse l k M_18 0 mem.length nx lp ln tx.length sp lc so (build cs ds).1 q 94 nw cs (by omega) F_33 P_32 (by omega) F_24 hr ho2 hbX.1 hqX.1 hqX.2) cls8 ⟨_, F_21⟩ (by omega) mo_X8_analyse m_570 m_582 m_583 m_584 m_465 (by decide) rfl rfl (Nat.le_of_ble_eq_true rfl) ⟨rfl, rfl⟩ ⟨by decide, by decide⟩ dX8_learn_37 (vI_in (fun r_34 M_35 hp_36 => ?_))
      obtain ⟨he_39, F_38, hfr_37⟩ := hp_36
      subst he_39
      have F_40 : M_35 93 = RO k 0 mem.length nx (tA ((build cs ds).1)) (tT ((build cs ds).1)) (((build cs ds).1).length) ((tL (build cs ds).1)) ((build cs ds).2) (mdiff (lrnVars cs (build cs ds).1 q) (tT (build cs ds).1)) ((lrnVars cs (build cs ds).1 q) &&& tT (build cs ds).1) tx.length sp lc so := by rw [hq9]; exact F_38
      have F_41 : M_35 94 = IR k 82 nw := by rw [hfr_37 94 (by omega)]; exact F_24
      have F_42 : M_35 95 = IR k 82 tl := by rw [hfr_37 95 (by omega)]; exact F_25
      have F_43 : M_35 96 = IR k 1148 di := by rw [hfr_37 96 (by omega)]; exact F_26
      have F_44 : M_35 97 = IR k 164 kp := by rw [hfr_37 97 (by omega)]; exact F_27
      have F_45 : M_35 98 = .inl (kZ k, 2, .inl (fun zq => bI (ik zq))) := by rw [hfr_37 98 (by omega)]; exact F_28
      have F_46 : M_35 103 = IR k 90 sc := by rw [hfr_37 103 (by omega)]; exact F_29
      have F_47 : M_35 104 = IR k 82 rd := by rw [hfr_37 104 (by omega)]; exact F_30
      have F_48 : M_35 105 = IR k 24 li := by rw [hfr_37 105 (by omega)]; exact F_31
      have P_49 : RtAt k M_35 (build cs ds).1 := P_32.fr (fun i h1 h2 => hfr_37 i (by omega))
      refine v_istore_n X [(1, .int (nI (bjLev (build cs ds).1 (lrnVars cs (build cs ds).1 q)))), (0, .ref (ad k 93))] dX8_learn_40 (by decide) rfl ?_
      refine v_aload_n X 1 dX8_learn_41 rfl ?_
      refine v_get X cls8 F_40 (by omega) 1 (by decide) m_443 rfl rfl dX8_learn_42 ?_
      refine v_aload_n X 1 dX8_learn_45 rfl ?_
      refine v_get X cls8 F_40 (by omega) 2 (by decide) m_444 rfl rfl dX8_learn_46 ?_
      refine v_callS X hCl hCR (c_X8_copy l k M_35 94 95 nw tl (by omega) (by omega) (by omega) F_41 F_42) mo_X8_copy m_466 m_497 m_498 m_465 (by decide) rfl rfl (Nat.le_of_ble_eq_true rfl) ⟨rfl, rfl⟩ ⟨by decide, by decide⟩ dX8_learn_49 (vV_in (fun M_50 hp_51 => ?_))
      obtain ⟨⟨g_53, F_54, hcp_55⟩, hfr_52⟩ := hp_51
      have F_56 : M_50 94 = IR k 82 nw := by rw [hfr_52 94 (by omega)]; exact F_41
      have F_57 : M_50 96 = IR k 1148 di := by rw [hfr_52 96 (by omega)]; exact F_43
      have F_58 : M_50 97 = IR k 164 kp := by rw [hfr_52 97 (by omega)]; exact F_44
      have F_59 : M_50 98 = .inl (kZ k, 2, .inl (fun zq => bI (ik zq))) := by rw [hfr_52 98 (by omega)]; exact F_45
      have F_60 : M_50 103 = IR k 90 sc := by rw [hfr_52 103 (by omega)]; exact F_46
      have F_61 : M_50 104 = IR k 82 rd := by rw [hfr_52 104 (by omega)]; exact F_47
      have F_62 : M_50 105 = IR k 24 li := by rw [hfr_52 105 (by omega)]; exact F_48
      have F_63 : M_50 93 = RO k 0 mem.length nx (tA ((build cs ds).1)) (tT ((build cs ds).1)) (((build cs ds).1).length) ((tL (build cs ds).1)) ((build cs ds).2) (mdiff (lrnVars cs (build cs ds).1 q) (tT (build cs ds).1)) ((lrnVars cs (build cs ds).1 q) &&& tT (build cs ds).1) tx.length sp lc so := by rw [hfr_52 93 (by omega)]; exact F_40
      have P_64 : RtAt k M_50 (build cs ds).1 := P_49.fr (fun i h1 h2 => hfr_52 i (by omega))
      refine v_aload_n X 1 dX8_learn_52 rfl ?_
      refine v_get X cls8 F_63 (by omega) 2 (by decide) m_444 rfl rfl dX8_learn_53 ?_
      refine v_iconst X (v := nI 0) (by decide) dX8_learn_56 ?_
      refine v_aload_n X 1 dX8_learn_57 rfl ?_
      refine v_get X cls8 F_63 (by omega) 17 (by decide) m_571 rfl rfl dX8_learn_58 ?_
      refine v_aload_n X 1 dX8_learn_61 rfl ?_
      refine v_get X cls8 F_63 (by omega) 18 (by decide) m_572 rfl rfl dX8_learn_62 ?_
      refine v_callS X hCl hCR (c_X8_addTo l k M_50 95 g_53 0 (mdiff (lrnVars cs (build cs ds).1 q) (tT (build cs ds).1)) ((lrnVars cs (build cs ds).1 q) &&& tT (build cs ds).1) (by omega) F_54 (by rw [hcp_55 0 (by omega), hR.1]; exact h24)) mo_X8_addTo m_471 m_520 m_521 m_465 (by decide) rfl rfl (Nat.le_of_ble_eq_true rfl) ⟨rfl, rfl⟩ ⟨by decide, by decide⟩ dX8_learn_65 (vV_in (fun M_65 hp_66 => ?_))
      obtain ⟨F_68, hfr_67⟩ := hp_66
      have F_69 : M_65 94 = IR k 82 nw := by rw [hfr_67 94 (by omega)]; exact F_56
      have F_70 : M_65 96 = IR k 1148 di := by rw [hfr_67 96 (by omega)]; exact F_57
      have F_71 : M_65 97 = IR k 164 kp := by rw [hfr_67 97 (by omega)]; exact F_58
      have F_72 : M_65 98 = .inl (kZ k, 2, .inl (fun zq => bI (ik zq))) := by rw [hfr_67 98 (by omega)]; exact F_59
      have F_73 : M_65 103 = IR k 90 sc := by rw [hfr_67 103 (by omega)]; exact F_60
      have F_74 : M_65 104 = IR k 82 rd := by rw [hfr_67 104 (by omega)]; exact F_61
      have F_75 : M_65 105 = IR k 24 li := by rw [hfr_67 105 (by omega)]; exact F_62
      have F_76 : M_65 93 = RO k 0 mem.length nx (tA ((build cs ds).1)) (tT ((build cs ds).1)) (((build cs ds).1).length) ((tL (build cs ds).1)) ((build cs ds).2) (mdiff (lrnVars cs (build cs ds).1 q) (tT (build cs ds).1)) ((lrnVars cs (build cs ds).1 q) &&& tT (build cs ds).1) tx.length sp lc so := by rw [hfr_67 93 (by omega)]; exact F_63
      have P_77 : RtAt k M_65 (build cs ds).1 := P_64.fr (fun i h1 h2 => hfr_67 i (by omega))
      refine v_aload_n X 1 dX8_learn_68 rfl ?_
      refine v_get X cls8 F_76 (by omega) 2 (by decide) m_444 rfl rfl dX8_learn_69 ?_
      refine v_bipush X (v := nI 73) (by decide) dX8_learn_72 ?_
      refine v_iload_n X 0 dX8_learn_74 rfl ?_
      refine v_iast X nI (bjLev (build cs ds).1 (lrnVars cs (build cs ds).1 q)) F_68 (by omega) (by omega) (by decide) dX8_learn_75 (fun M_78 hM_79 => ?_)
      have F_81 : M_78 94 = IR k 82 nw := by rw [hM_79, mup_n (by omega)]; exact F_69
      have F_82 : M_78 96 = IR k 1148 di := by rw [hM_79, mup_n (by omega)]; exact F_70
      have F_83 : M_78 97 = IR k 164 kp := by rw [hM_79, mup_n (by omega)]; exact F_71
      have F_84 : M_78 98 = .inl (kZ k, 2, .inl (fun zq => bI (ik zq))) := by rw [hM_79, mup_n (by omega)]; exact F_72
      have F_85 : M_78 103 = IR k 90 sc := by rw [hM_79, mup_n (by omega)]; exact F_73
      have F_86 : M_78 104 = IR k 82 rd := by rw [hM_79, mup_n (by omega)]; exact F_74
      have F_87 : M_78 105 = IR k 24 li := by rw [hM_79, mup_n (by omega)]; exact F_75
      have F_88 : M_78 93 = RO k 0 mem.length nx (tA ((build cs ds).1)) (tT ((build cs ds).1)) (((build cs ds).1).length) ((tL (build cs ds).1)) ((build cs ds).2) (mdiff (lrnVars cs (build cs ds).1 q) (tT (build cs ds).1)) ((lrnVars cs (build cs ds).1 q) &&& tT (build cs ds).1) tx.length sp lc so := by rw [hM_79, mup_n (by omega)]; exact F_76
      have F_89 : M_78 95 = IR k 82 (va_up (addF g_53 0 (mdiff (lrnVars cs (build cs ds).1 q) (tT (build cs ds).1)) ((lrnVars cs (build cs ds).1 q) &&& tT (build cs ds).1)) 73 (bjLev (build cs ds).1 (lrnVars cs (build cs ds).1 q))) := by rw [hM_79]; exact mup_s
      have P_90 : RtAt k M_78 (build cs ds).1 := P_77.fr (fun i h1 h2 => by rw [hM_79, mup_n (by omega)])
      refine v_aload_n X 1 dX8_learn_76 rfl ?_
      have hRef_91 : RefAt k M_78 0 cs ds mem sl tx := ⟨hN, hV, htx9, htxc, nx, mdiff (lrnVars cs (build cs ds).1 q) (tT (build cs ds).1), (lrnVars cs (build cs ds).1 q) &&& tT (build cs ds).1, sp, lc, so, nw, va_up (addF g_53 0 (mdiff (lrnVars cs (build cs ds).1 q) (tT (build cs ds).1)) ((lrnVars cs (build cs ds).1 q) &&& tT (build cs ds).1)) 73 (bjLev (build cs ds).1 (lrnVars cs (build cs ds).1 q)), di, kp, ik, sc, rd, li, F_88, F_81, F_89, F_82, F_83, F_84, P_90, F_85, F_86, F_87, hR, hD, hK, hS⟩
      have hL := lrn_lt (cs := cs) (tr := (build cs ds).1) (c := q)
      have hrow := addF_ok (hR.cong hlc hld hcp_55) h24 (x := falseCl (build cs ds).1 (lrnVars cs (build cs ds).1 q)) (by have := xClause_lt (mdiff_lt (b := tT (build cs ds).1) hL) (and_ltl (b := tT (build cs ds).1) hL); unfold falseCl; omega)
      unfold falseCl at hrow
      rw [xPar_clause (mdiff_lt hL) (and_ltl hL), xFirst_clause (mdiff_lt hL), xSecond_clause (mdiff_lt hL) (and_ltl hL)] at hrow
      refine v_callV X hCl hCR (c_X8_act l k M_78 0 cs ds mem sl tx (va_up (addF g_53 0 (mdiff (lrnVars cs (build cs ds).1 q) (tT (build cs ds).1)) ((lrnVars cs (build cs ds).1 q) &&& tT (build cs ds).1)) 73 (bjLev (build cs ds).1 (lrnVars cs (build cs ds).1 q))) ((cs ++ [falseCl (build cs ds).1 (lrnVars cs (build cs ds).1 q)])) ((ds.take (bjLev (build cs ds).1 (lrnVars cs (build cs ds).1 q)))) hRef_91 F_89 (hrow.take (by simp; omega) hbl) hc2 hd2 (by rw [List.length_take]; omega)) cls8 ⟨_, F_88⟩ (by omega) mo_X8_act m_502 m_547 m_548 m_549 m_465 (by decide) rfl rfl (Nat.le_of_ble_eq_true rfl) ⟨rfl, rfl⟩ ⟨by decide, by decide⟩ dX8_learn_77 (vV_in (fun M_92 hp_93 => ?_))
      obtain ⟨hRef_95, hfr_94⟩ := hp_93
      refine v_iload_n X 0 dX8_learn_80 rfl ?_
      exact v_iret X rq ⟨by decide, by decide⟩ rfl dX8_learn_81 ⟨_, rfl, Or.inr ⟨q, hq9, by omega, h24, rfl, hRef_95⟩, (fun i hi => by rw [hfr_94 i (by omega), hM_79, mup_n (by omega), hfr_67 i (by omega), hfr_52 i (by omega), hfr_37 i (by omega), hfr_20 i (by omega)])⟩
    · have h24 : 24 ≤ cs.length := by omega
      refine v_iconst X (v := nI 1) (by decide) dX8_learn_19 ?_
      refine v_goto X 24 dX8_learn_20 (by decide) ?_
      refine v_callV X hCl hCR (c_X8_refused l k M w mem.length nx (tA ((build cs ds).1)) (tT ((build cs ds).1)) (((build cs ds).1).length) ((tL (build cs ds).1)) ((build cs ds).2) lp ln tx.length sp lc so 1 (by omega) F93 (by omega)) cls8 ⟨_, F93⟩ (by omega) mo_X8_refused m_458 m_508 m_509 m_510 m_465 (by decide) rfl rfl (Nat.le_of_ble_eq_true rfl) ⟨rfl, rfl⟩ ⟨by decide, by decide⟩ dX8_learn_24 (vI_in (fun r_100 M_96 hp_97 => ?_))
      obtain ⟨he_101, F_99, hfr_98⟩ := hp_97
      subst he_101
      have F_102 : M_96 94 = IR k 82 nw := by rw [hfr_98 94 (by omega)]; exact F94
      have F_103 : M_96 95 = IR k 82 tl := by rw [hfr_98 95 (by omega)]; exact F95
      have F_104 : M_96 96 = IR k 1148 di := by rw [hfr_98 96 (by omega)]; exact F96
      have F_105 : M_96 97 = IR k 164 kp := by rw [hfr_98 97 (by omega)]; exact F97
      have F_106 : M_96 98 = .inl (kZ k, 2, .inl (fun zq => bI (ik zq))) := by rw [hfr_98 98 (by omega)]; exact F98
      have F_107 : M_96 103 = IR k 90 sc := by rw [hfr_98 103 (by omega)]; exact F103
      have F_108 : M_96 104 = IR k 82 rd := by rw [hfr_98 104 (by omega)]; exact F104
      have F_109 : M_96 105 = IR k 24 li := by rw [hfr_98 105 (by omega)]; exact F105
      have P_110 : RtAt k M_96 (build cs ds).1 := hT.fr (fun i h1 h2 => hfr_98 i (by omega))
      refine v_top (show (Value.int (bI (decide (0 < 1))) : Value) = .int (bI true) from congrArg _ (congrArg bI (by decide))) ?_
      refine v_ieqB X 32 dX8_learn_27 (by decide) (fun h => absurd h (by decide)) (fun _ => ?_)
      refine v_iconst X (v := nI 0) (by decide) dX8_learn_30 ?_
      exact v_iret X rq ⟨by decide, by decide⟩ rfl dX8_learn_31 ⟨_, rfl, Or.inl ⟨(by rw [← htL]; first | (exact Or.inr (Or.inr h24)) | (by_cases w : (build cs ds).2 = none; (exact Or.inl w); (exact Or.inr (Or.inl (Decidable.byContradiction fun w2 => hnc ⟨w, w2⟩))))), ⟨hN, hV, htx9, htxc, nx, lp, ln, sp, lc, so, nw, tl, di, kp, ik, sc, rd, li, F_99, F_102, F_103, F_104, F_105, F_106, P_110, F_107, F_108, F_109, hR, hD, hK, hS⟩⟩, (fun i hi => by rw [hfr_98 i (by omega)])⟩
set_option maxHeartbeats 4000000 in
set_option maxRecDepth 100000 in
theorem c_X8_hasN (l : Launch) (k : KX) (M : Mem) (A v : Nat) (hA : A < 256) (hv : v < 8) : CM l yX8_has cX8_has 2 ((some .boolean)) { frames := 0, cells := 0, slots := 0, locals := 0 } k [.int ((nI (A ^^^ 4294967295))), .int (nI v)] M (pP (.int (bI (!(A.testBit v)))) M) := by
  refine CM.of (by decide) (Nat.le_of_ble_eq_true rfl) (fun C X hCl hCR rq => ?_)
  show V C k 2 (0, 0) M 0 [(0, .int ((nI (A ^^^ 4294967295)))), (1, .int (nI v))] []
  refine v_iload_n X 0 dX8_has_0 rfl ?_
  refine v_iload_n X 1 dX8_has_1 rfl ?_
  refine v_ishr X dX8_has_2 ?_
  refine v_iconst X (v := nI 1) (by decide) dX8_has_3 ?_
  refine v_iand X dX8_has_4 ?_
  refine v_iconst X (v := nI 1) (by decide) dX8_has_5 ?_
  refine v_icmp_ne X 13 dX8_has_6 (by decide) (fun c_1 => ?_) (fun c_1 => ?_)
  · refine v_iconst X (v := bI false) (by decide) dX8_has_13 ?_
    exact v_iret X rq ⟨by decide, by decide⟩ (narZ _) dX8_has_14 (pP_i (by congr 1; have q := hasN_all A hA v hv; first | (rw [q.mp c_1]; rfl) | (rw [show A.testBit v = true from by cases z : A.testBit v with | true => rfl | false => exact absurd (q.mpr z) c_1]; rfl)))
  · refine v_iconst X (v := bI true) (by decide) dX8_has_9 ?_
    refine v_goto X 14 dX8_has_10 (by decide) ?_
    exact v_iret X rq ⟨by decide, by decide⟩ (narZ _) dX8_has_14 (pP_i (by congr 1; have q := hasN_all A hA v hv; first | (rw [q.mp c_1]; rfl) | (rw [show A.testBit v = true from by cases z : A.testBit v with | true => rfl | false => exact absurd (q.mpr z) c_1]; rfl)))
set_option maxHeartbeats 4000000 in
set_option maxRecDepth 100000 in
theorem c_X8_lowestN (l : Launch) (k : KX) (M : Mem) (A w : Nat) (hA : A < 256) (hw : w < 8) (hf : A.testBit w = false) (hl : ∀ u, u < w → A.testBit u = true) : CM l yX8_lowest cX8_lowest 2 ((some .int)) { frames := 1, cells := 0, slots := 0, locals := 21 } k [.int ((nI (A ^^^ 4294967295)))] M (pP (.int (nI w)) M) := by
  refine CM.of (by decide) (Nat.le_of_ble_eq_true rfl) (fun C X hCl hCR rq => ?_)
  show V C k 2 (0, 0) M 0 [(0, .int ((nI (A ^^^ 4294967295))))] []
  have L : ∀ (fu : Nat) (i : Nat), 9 - i < fu → (i ≤ w) → V C k 2 (0, 0) M 2 [(0, .int ((nI (A ^^^ 4294967295)))), (1, .int (nI i))] [] := by
    intro fu
    induction fu with
    | zero => intro i hfu; exact absurd hfu (Nat.not_lt_zero _)
    | succ fu ih =>
      intro i hfu hi 
      have hi8 : i < 8 := by omega
      refine v_iload_n X 0 dX8_lowest_2 rfl ?_
      refine v_iload_n X 1 dX8_lowest_3 rfl ?_
      refine v_callS X hCl hCR (c_X8_hasN l k M A i hA hi8) mo_X8_has m_460 m_463 m_464 m_465 (by decide) rfl rfl (Nat.le_of_ble_eq_true rfl) ⟨rfl, rfl⟩ ⟨by decide, by decide⟩ dX8_lowest_4 (vP_in ?_)
      refine v_ineB X 16 dX8_lowest_7 (by decide) (fun c_1 => ?_) (fun c_1 => ?_)
      · have hb := c_1
        refine v_iload_n X 1 dX8_lowest_16 rfl ?_
        exact v_iret X rq ⟨by decide, by decide⟩ rfl dX8_lowest_17 (pP_i (by have e : i = w := (by rcases Nat.lt_or_ge i w with q | q; (rw [hl i q] at hb; cases hb); omega); rw [e]))
      · have hb := c_1
        refine v_iinc X (v := nI (i + 1)) 1 [(1, .int (nI (i + 1))), (0, .int ((nI (A ^^^ 4294967295))))] dX8_lowest_10 rfl (nI_1 _) (by decide) rfl ?_
        refine v_goto X 2 dX8_lowest_13 (by decide) ?_
        have hi8 : i < 8 := by omega
        refine v_lv [1, 0] rfl ?_
        exact ih (i + 1) (by omega) (by have : i ≠ w := fun e => (by rw [e, hf] at hb; cases hb); omega)
  refine v_iconst X (v := nI 0) (by decide) dX8_lowest_0 ?_
  refine v_istore_n X [(1, .int (nI 0)), (0, .int ((nI (A ^^^ 4294967295))))] dX8_lowest_1 (by decide) rfl ?_
  refine v_lv [1, 0] rfl ?_
  exact L 10 0 (by omega) (by omega)
def FrS (M M' : Mem) : Prop := ∀ i, i ≠ 93 → i ≠ 95 → (i < 99 ∨ 103 ≤ i) → M' i = M i
set_option maxHeartbeats 4000000 in
set_option maxRecDepth 100000 in
theorem c_X8_solved (l : Launch) (k : KX) (M : Mem) (w : Nat) (cs ds : List Nat) (mem : List SD) (sl : Nat → Option SD) (tx : List Nat) (nx lp0 ln0 sp lc : Nat) (so : Bool) (nw tl : Nat → Nat) (hN : 107 ≤ kN k) (hV : vOK cs ds mem sl) (F93 : M 93 = RO k w mem.length nx (tA ((build cs ds).1)) (tT ((build cs ds).1)) (((build cs ds).1).length) ((tL (build cs ds).1)) ((build cs ds).2) lp0 ln0 tx.length sp lc so) (F94 : M 94 = IR k 82 nw) (F95 : M 95 = IR k 82 tl) (hT : RtAt k M (build cs ds).1) (hR : rowOK nw cs ds) : CM l yX8_solved cX8_solved 3 ((some .int)) { frames := 5, cells := 0, slots := 0, locals := 117 } k [.ref (ad k 93)] M (pI (fun r M' => r = solveF 25 0 cs (sNew cs []) ∧ (∃ (as ts tz lv : Nat) (cf : Option Nat) (lp ln : Nat) (tr2 : List Ent) (f : Nat → Nat), M' 93 = RO k w mem.length nx as ts tz lv cf lp ln tx.length sp lc so ∧ M' 95 = IR k 82 f ∧ RtAt k M' tr2) ∧ FrS M M')) := by
  refine CM.of (by decide) (Nat.le_of_ble_eq_true rfl) (fun C X hCl hCR rq => ?_)
  show V C k 3 (0, 0) M 0 [(0, .ref (ad k 93))] []
  have ho2 : csOK cs := hV.1.1
  have hlc : cs.length ≤ 24 := ho2.1
  have hld : ds.length ≤ 8 := hV.1.2.2
  have S : ∀ (fu : Nat) (n v : Nat) (c d0 dq : List Nat) (f : Nat → Nat) (as ts tz lv : Nat) (cf : Option Nat) (lp ln : Nat) (tr2 : List Ent) (M1 : Mem), ((25 - n) * 9 + (8 - v)) < fu → (n ≤ c.length) → (v ≤ 8) → (csOK c) → (dOK c d0) → (∀ x ∈ dq, x < 16) → (dq.length ≤ 8) → (sNew c dq = decF c d0 v) → (∀ w, w < v → (tA (build c (sNew c dq)).1).testBit w = true ∨ (build c (sNew c dq)).2 ≠ none) → (solveF (25 - n) n c d0 = solveF 25 0 cs (sNew cs [])) → (rowOK f c dq) → (FrS M M1) → M1 93 = RO k w mem.length nx as ts tz lv cf lp ln tx.length sp lc so → M1 95 = IR k 82 f → RtAt k M1 tr2 → V C k 3 (0, 0) M1 21 [(0, .ref (ad k 93)), (1, .int (nI n))] [] := by
    intro fu
    induction fu with
    | zero => intro n v c d0 dq f as ts tz lv cf lp ln tr2 M1 hfu; exact absurd hfu (Nat.not_lt_zero _)
    | succ fu ih =>
      intro n v c d0 dq f as ts tz lv cf lp ln tr2 M1 hfu hnc hv8 hco hdo hd16 hdq8 hde hA hres hrow hfr G0 G1 hT1
      refine v_aload_n X 0 dX8_solved_21 rfl ?_
      refine v_aload_n X 0 dX8_solved_22 rfl ?_
      refine v_get X cls8 G0 (by omega) 2 (by decide) m_444 rfl rfl dX8_solved_23 ?_
      refine v_callV X hCl hCR (c_X8_build l k M1 w mem.length nx as ts tz lv cf lp ln tx.length sp lc so tr2 95 f c dq (by omega) G0 hT1 (by omega) G1 hrow hco hd16 hdq8) cls8 ⟨_, G0⟩ (by omega) mo_X8_build m_494 m_499 m_500 m_501 m_465 (by decide) rfl rfl (Nat.le_of_ble_eq_true rfl) ⟨rfl, rfl⟩ ⟨by decide, by decide⟩ dX8_solved_26 (vV_in (fun M_1 hp_2 => ?_))
      obtain ⟨F_4, T_5, ⟨g_6, F_7, hrow_8⟩, hfr_3⟩ := hp_2
      obtain ⟨d, hdd⟩ : ∃ d, d = sNew c dq := ⟨_, rfl⟩
      have hbd : build c d = build c dq := by rw [hdd]; exact (sNew_spec c dq).1
      have F_9 : M_1 93 = RO k w mem.length nx (tA (build c d).1) (tT (build c d).1) ((build c d).1.length) ((tL (build c d).1)) ((build c d).2) lp ln tx.length sp lc so := by rw [hbd]; exact F_4
      have T_10 : RtAt k M_1 (build c d).1 := by rw [hbd]; exact T_5
      have hrd : rowOK g_6 c d := by rw [hdd]; exact hrow_8
      rw [← hdd] at hde hA
      have hdl : tL (build c d).1 = d.length := by rw [hbd, hdd]; exact (sNew_spec c dq).2.symm
      have hdx : ∀ x ∈ d, x < 16 := by rw [hdd]; exact sNew_16 hd16
      have hTk := T_10.2.1
      have hTA8 := hTk.A
      have hTl8 := hTk.le
      have htl := tL_le (build c d).1
      have hcb : ∀ n, (build c d).2 = some n → n < 24 := fun n hn => by have := (build_ok hco.1 hdx).2 n hn; have := hco.1; omega
      have hc24 := hco.1
      obtain ⟨fu2, hfu2⟩ : ∃ m, 25 - n = m + 1 := ⟨25 - n - 1, by omega⟩
      have hres1 := hres
      rw [hfu2] at hres1
      refine v_aload_n X 0 dX8_solved_29 rfl ?_
      refine v_get X cls8 F_9 (by omega) 16 (by decide) m_452 rfl rfl dX8_solved_30 ?_
      refine v_bipush X (v := (-9)) (by decide) dX8_solved_33 ?_
      refine v_icmp_ne X 49 dX8_solved_35 (by decide) (fun c_11 => ?_) (fun c_11 => ?_)
      · have hcf : (build c d).2 ≠ none := fun w => c_11 (by rw [w]; rfl)
        refine v_aload_n X 0 dX8_solved_49 rfl ?_
        refine v_get X cls8 F_9 (by omega) 16 (by decide) m_452 rfl rfl dX8_solved_50 ?_
        refine v_bipush X (v := (-9)) (by decide) dX8_solved_53 ?_
        refine v_icmp_ne X 98 dX8_solved_55 (by decide) (fun c_12 => ?_) (fun c_12 => ?_)
        · obtain ⟨q, hq9⟩ := Option.ne_none_iff_exists'.mp hcf
          have hfull := decF_cf hde.symm hv8 hcf
          have hq8 : (build c (decF c d0 8)).2 = some q := by rw [hfull]; exact hq9
          have hbX := build_X c d
          have hqX := hbX.2 q hq9
          refine v_aload_n X 0 dX8_solved_98 rfl ?_
          refine v_get X cls8 F_9 (by omega) 12 (by decide) m_476 rfl rfl dX8_solved_99 ?_
          refine v_ineN X 109 (by omega) dX8_solved_102 (by decide) (fun c_13 => ?_) (fun c_13 => ?_)
          · have hl0 : d.length ≠ 0 := by rw [← hdl]; exact c_13
            refine v_aload_n X 0 dX8_solved_109 rfl ?_
            refine v_get X cls8 F_9 (by omega) 2 (by decide) m_444 rfl rfl dX8_solved_110 ?_
            refine v_iconst X (v := nI 0) (by decide) dX8_solved_113 ?_
            refine v_iald X nI F_7 (by omega) (by omega) (by decide) dX8_solved_114 ?_
            refine v_top (show (Value.int (nI (g_6 0)) : Value) = .int (nI c.length) from congrArg _ (congrArg nI hrd.1)) ?_
            refine v_bipush X (v := nI 24) (by decide) dX8_solved_115 ?_
            refine v_cneN X 123 (by omega) (by omega) dX8_solved_117 (by decide) (fun c_14 => ?_) (fun c_14 => ?_)
            · have hlt24 : c.length < 24 := by omega
              have hL := lrn_lt (cs := c) (tr := (build c d).1) (c := q)
              have hbl : bjLev (build c d).1 (lrnVars c (build c d).1 q) ≤ d.length := by rw [← hdl]; exact bj_tL 8
              have hc2 := hco.app hlt24 (falseCl_ok (tr := (build c d).1) hL)
              have hd2 : ∀ y ∈ (d.take (bjLev (build c d).1 (lrnVars c (build c d).1 q))), y < 16 := fun y hy => hdx y (List.mem_of_mem_take hy)
              have hrow2 := addF_ok hrd hlt24 (x := falseCl (build c d).1 (lrnVars c (build c d).1 q)) (by have := xClause_lt (mdiff_lt (b := tT (build c d).1) hL) (and_ltl (b := tT (build c d).1) hL); unfold falseCl; omega)
              rw [show falseCl (build c d).1 (lrnVars c (build c d).1 q) = xClause (mdiff (lrnVars c (build c d).1 q) (tT (build c d).1)) ((lrnVars c (build c d).1 q) &&& tT (build c d).1) from rfl, xPar_clause (mdiff_lt hL) (and_ltl hL), xFirst_clause (mdiff_lt hL), xSecond_clause (mdiff_lt hL) (and_ltl hL)] at hrow2
              have hsn := solve_next hres1 hq8 (by rw [hfull]; exact hl0) hlt24
              rw [hfull] at hsn
              rw [show fu2 = 25 - n - 1 by omega] at hsn
              refine v_aload_n X 0 dX8_solved_123 rfl ?_
              refine v_aload_n X 0 dX8_solved_124 rfl ?_
              refine v_get X cls8 F_9 (by omega) 2 (by decide) m_444 rfl rfl dX8_solved_125 ?_
              have F_15 : M_1 93 = RO k w mem.length nx (tA (build c d).1) (tT (build c d).1) ((build c d).1.length) ((tL (build c d).1)) ((some q)) lp ln tx.length sp lc so := by rw [← hq9]; exact F_9
              refine v_callV X hCl hCR (c_X8_analyse l k M_1 w mem.length nx lp ln tx.length sp lc so (build c d).1 q 95 g_6 c (by omega) F_15 T_10 (by omega) F_7 hrd.c hco hbX.1 hqX.1 hqX.2) cls8 ⟨_, F_9⟩ (by omega) mo_X8_analyse m_570 m_582 m_583 m_584 m_465 (by decide) rfl rfl (Nat.le_of_ble_eq_true rfl) ⟨rfl, rfl⟩ ⟨by decide, by decide⟩ dX8_solved_128 (vI_in (fun r_16 M_17 hp_18 => ?_))
              obtain ⟨he_21, F_20, hfr_19⟩ := hp_18
              subst he_21
              have F_22 : M_17 93 = RO k w mem.length nx (tA (build c d).1) (tT (build c d).1) ((build c d).1.length) ((tL (build c d).1)) ((build c d).2) (mdiff (lrnVars c (build c d).1 q) (tT (build c d).1)) ((lrnVars c (build c d).1 q) &&& tT (build c d).1) tx.length sp lc so := by rw [hq9]; exact F_20
              have F_23 : M_17 95 = IR k 82 g_6 := by rw [hfr_19 95 (by omega)]; exact F_7
              have P_24 : RtAt k M_17 (build c d).1 := T_10.fr (fun i h1 h2 => hfr_19 i (by omega))
              refine v_istore_n X [(2, .int (nI (bjLev (build c d).1 (lrnVars c (build c d).1 q)))), (0, .ref (ad k 93)), (1, .int (nI n))] dX8_solved_131 (by decide) rfl ?_
              refine v_aload_n X 1 dX8_solved_132 rfl ?_
              refine v_get X cls8 F_22 (by omega) 2 (by decide) m_444 rfl rfl dX8_solved_133 ?_
              refine v_iconst X (v := nI 0) (by decide) dX8_solved_136 ?_
              refine v_aload_n X 1 dX8_solved_137 rfl ?_
              refine v_get X cls8 F_22 (by omega) 17 (by decide) m_571 rfl rfl dX8_solved_138 ?_
              refine v_aload_n X 1 dX8_solved_141 rfl ?_
              refine v_get X cls8 F_22 (by omega) 18 (by decide) m_572 rfl rfl dX8_solved_142 ?_
              refine v_callS X hCl hCR (c_X8_addTo l k M_17 95 g_6 0 (mdiff (lrnVars c (build c d).1 q) (tT (build c d).1)) ((lrnVars c (build c d).1 q) &&& tT (build c d).1) (by omega) F_23 (by rw [hrd.1]; exact hlt24)) mo_X8_addTo m_471 m_520 m_521 m_465 (by decide) rfl rfl (Nat.le_of_ble_eq_true rfl) ⟨rfl, rfl⟩ ⟨by decide, by decide⟩ dX8_solved_145 (vV_in (fun M_25 hp_26 => ?_))
              obtain ⟨F_28, hfr_27⟩ := hp_26
              have F_29 : M_25 93 = RO k w mem.length nx (tA (build c d).1) (tT (build c d).1) ((build c d).1.length) ((tL (build c d).1)) ((build c d).2) (mdiff (lrnVars c (build c d).1 q) (tT (build c d).1)) ((lrnVars c (build c d).1 q) &&& tT (build c d).1) tx.length sp lc so := by rw [hfr_27 93 (by omega)]; exact F_22
              have P_30 : RtAt k M_25 (build c d).1 := P_24.fr (fun i h1 h2 => hfr_27 i (by omega))
              refine v_aload_n X 1 dX8_solved_148 rfl ?_
              refine v_get X cls8 F_29 (by omega) 2 (by decide) m_444 rfl rfl dX8_solved_149 ?_
              refine v_bipush X (v := nI 73) (by decide) dX8_solved_152 ?_
              refine v_iload_n X 0 dX8_solved_154 rfl ?_
              refine v_iast X nI (bjLev (build c d).1 (lrnVars c (build c d).1 q)) F_28 (by omega) (by omega) (by decide) dX8_solved_155 (fun M_31 hM_32 => ?_)
              have F_34 : M_31 93 = RO k w mem.length nx (tA (build c d).1) (tT (build c d).1) ((build c d).1.length) ((tL (build c d).1)) ((build c d).2) (mdiff (lrnVars c (build c d).1 q) (tT (build c d).1)) ((lrnVars c (build c d).1 q) &&& tT (build c d).1) tx.length sp lc so := by rw [hM_32, mup_n (by omega)]; exact F_29
              have F_35 : M_31 95 = IR k 82 (va_up (addF g_6 0 (mdiff (lrnVars c (build c d).1 q) (tT (build c d).1)) ((lrnVars c (build c d).1 q) &&& tT (build c d).1)) 73 (bjLev (build c d).1 (lrnVars c (build c d).1 q))) := by rw [hM_32]; exact mup_s
              have P_36 : RtAt k M_31 (build c d).1 := P_30.fr (fun i h1 h2 => by rw [hM_32, mup_n (by omega)])
              refine v_iinc X (v := nI (n + 1)) 2 [(1, .int (nI (n + 1))), (2, .int (nI (bjLev (build c d).1 (lrnVars c (build c d).1 q)))), (0, .ref (ad k 93))] dX8_solved_156 rfl (nI_1 _) (by decide) rfl ?_
              refine v_goto X 21 dX8_solved_159 (by decide) ?_
              refine v_lv [2, 0] rfl ?_
              exact ih (n + 1) 0 (c ++ [falseCl (build c d).1 (lrnVars c (build c d).1 q)]) (sNew (c ++ [falseCl (build c d).1 (lrnVars c (build c d).1 q)]) (d.take (bjLev (build c d).1 (lrnVars c (build c d).1 q)))) (d.take (bjLev (build c d).1 (lrnVars c (build c d).1 q))) (va_up (addF g_6 0 (mdiff (lrnVars c (build c d).1 q) (tT (build c d).1)) ((lrnVars c (build c d).1 q) &&& tT (build c d).1)) 73 (bjLev (build c d).1 (lrnVars c (build c d).1 q))) (tA (build c d).1) (tT (build c d).1) ((build c d).1.length) ((tL (build c d).1)) ((build c d).2) (mdiff (lrnVars c (build c d).1 q) (tT (build c d).1)) ((lrnVars c (build c d).1 q) &&& tT (build c d).1) ((build c d).1) M_31  (by omega) (by simp; omega) (by omega) hc2 (dOK.new hd2 (by rw [List.length_take]; omega)) hd2 (by rw [List.length_take]; omega) rfl (fun w hw => absurd hw (Nat.not_lt_zero _)) (by rw [show 25 - (n + 1) = 25 - n - 1 by omega]; exact hsn) (hrow2.take (by simp; omega) hbl) (fun i h1 h2 h3 => by rw [hM_32, mup_n (by omega), hfr_27 i (by omega), hfr_19 i (by omega), hfr_3 i (by omega) (by omega) (by omega)]; exact hfr i h1 h2 h3) F_34 F_35 P_36
            · have hge24 : 24 ≤ c.length := by omega
              refine v_bipush X (v := (-90)) (by decide) dX8_solved_120 ?_
              exact v_iret X rq ⟨by decide, by decide⟩ rfl dX8_solved_122 ⟨_, rfl, (by rw [solve_full hres1 hq8 (by rw [hfull]; exact hl0) hge24]), ⟨(tA (build c d).1), (tT (build c d).1), ((build c d).1.length), ((tL (build c d).1)), ((build c d).2), lp, ln, ((build c d).1), g_6, F_9, F_7, T_10⟩, (fun i h1 h2 h3 => by rw [hfr_3 i (by omega) (by omega) (by omega)]; exact hfr i h1 h2 h3)⟩
          · have hl0 : d.length = 0 := by rw [← hdl]; exact c_13
            refine v_iconst X (v := (-1)) (by decide) dX8_solved_105 ?_
            refine v_iload_n X 1 dX8_solved_106 rfl ?_
            refine v_isub X dX8_solved_107 ?_
            exact v_iret X rq ⟨by decide, by decide⟩ rfl dX8_solved_108 ⟨_, rfl, (by rw [solve_zero hres1 hq8 (by rw [hfull]; exact hl0)]), ⟨(tA (build c d).1), (tT (build c d).1), ((build c d).1.length), ((tL (build c d).1)), ((build c d).2), lp, ln, ((build c d).1), g_6, F_9, F_7, T_10⟩, (fun i h1 h2 h3 => by rw [hfr_3 i (by omega) (by omega) (by omega)]; exact hfr i h1 h2 h3)⟩
        · exact absurd ((oI_eq (fun n hn => by have := hcb n hn; omega)).mp c_12) hcf
      · have hcf : (build c d).2 = none := (oI_eq (fun n hn => by have := hcb n hn; omega)).mp c_11
        refine v_aload_n X 0 dX8_solved_38 rfl ?_
        refine v_get X cls8 F_9 (by omega) 11 (by decide) m_475 rfl rfl dX8_solved_39 ?_
        refine v_bipush X (v := nI 8) (by decide) dX8_solved_42 ?_
        refine v_cneN X 49 (by omega) (by omega) dX8_solved_44 (by decide) (fun c_37 => ?_) (fun c_37 => ?_)
        · have hne255 : tA (build c d).1 ≠ 255 := fun w => by have e := hTk.len; rw [w, show pcN 8 255 = 8 by decide] at e; omega
          obtain ⟨hu1, hu2, hu3⟩ := low_free _ hTA8 hne255
          generalize hu : low (mdiff 255 (tA (build c d).1)) = u at hu1 hu2 hu3
          have hlw : ∀ w, w < u → (tA (build c d).1).testBit w = true := fun w hw => hu3 w (by omega) hw
          have hdn := decF_next hde.symm (fun w hw => (hA w hw).resolve_right (fun z => z hcf)) hcf hu2 hlw
          have hd8 : d.length < 8 := by have := hTk.lt hu1 hu2; omega
          have hd2 : ∀ y ∈ d ++ [2 * u], y < 16 := fun y hy => by
            rcases List.mem_append.mp hy with h | h
            · exact hdx y h
            · rw [List.mem_singleton.mp h]; omega
          refine v_aload_n X 0 dX8_solved_49 rfl ?_
          refine v_get X cls8 F_9 (by omega) 16 (by decide) m_452 rfl rfl dX8_solved_50 ?_
          refine v_bipush X (v := (-9)) (by decide) dX8_solved_53 ?_
          refine v_icmp_ne X 98 dX8_solved_55 (by decide) (fun c_38 => ?_) (fun c_38 => ?_)
          · exact absurd (by rw [hcf]; rfl) c_38
          · refine v_aload_n X 0 dX8_solved_58 rfl ?_
            refine v_get X cls8 F_9 (by omega) 2 (by decide) m_444 rfl rfl dX8_solved_59 ?_
            refine v_bipush X (v := nI 74) (by decide) dX8_solved_62 ?_
            refine v_aload_n X 0 dX8_solved_64 rfl ?_
            refine v_get X cls8 F_9 (by omega) 2 (by decide) m_444 rfl rfl dX8_solved_65 ?_
            refine v_bipush X (v := nI 73) (by decide) dX8_solved_68 ?_
            refine v_iald X nI F_7 (by omega) (by omega) (by decide) dX8_solved_70 ?_
            refine v_top (show (Value.int (nI (g_6 73)) : Value) = .int (nI d.length) from congrArg _ (congrArg nI hrd.2.1)) ?_
            refine v_addN X dX8_solved_71 ?_
            refine v_iconst X (v := nI 2) (by decide) dX8_solved_72 ?_
            refine v_aload_n X 0 dX8_solved_73 rfl ?_
            refine v_get X cls8 F_9 (by omega) 8 (by decide) m_473 rfl rfl dX8_solved_74 ?_
            refine v_iconst X (v := nI 4294967295) (by decide) dX8_solved_77 ?_
            refine v_xorN X dX8_solved_78 ?_
            refine v_callS X hCl hCR (c_X8_lowestN l k M_1 (tA (build c d).1) u hTA8 hu1 hu2 hlw) mo_X8_lowest m_462 m_485 m_486 m_465 (by decide) rfl rfl (Nat.le_of_ble_eq_true rfl) ⟨rfl, rfl⟩ ⟨by decide, by decide⟩ dX8_solved_79 (vP_in ?_)
            refine v_mulN X dX8_solved_82 ?_
            refine v_iast X nI (2 * u) F_7 (by omega) (by omega) (by decide) dX8_solved_83 (fun M_39 hM_40 => ?_)
            have F_42 : M_39 93 = RO k w mem.length nx (tA (build c d).1) (tT (build c d).1) ((build c d).1.length) ((tL (build c d).1)) ((build c d).2) lp ln tx.length sp lc so := by rw [hM_40, mup_n (by omega)]; exact F_9
            have F_43 : M_39 95 = IR k 82 (va_up g_6 (74 + d.length) (2 * u)) := by rw [hM_40]; exact mup_s
            have P_44 : RtAt k M_39 (build c d).1 := T_10.fr (fun i h1 h2 => by rw [hM_40, mup_n (by omega)])
            refine v_aload_n X 0 dX8_solved_84 rfl ?_
            refine v_get X cls8 F_42 (by omega) 2 (by decide) m_444 rfl rfl dX8_solved_85 ?_
            refine v_bipush X (v := nI 73) (by decide) dX8_solved_88 ?_
            refine v_dup2 X rfl rfl dX8_solved_90 ?_
            refine v_iald X nI F_43 (by omega) (by omega) (by decide) dX8_solved_91 ?_
            refine v_top (show (Value.int (nI (va_up g_6 (74 + d.length) (2 * u) 73)) : Value) = .int (nI d.length) from congrArg _ (congrArg nI ((up_n _ _ (by omega)).trans hrd.2.1))) ?_
            refine v_iconst X (v := nI 1) (by decide) dX8_solved_92 ?_
            refine v_addN X dX8_solved_93 ?_
            refine v_iast X nI (d.length + 1) F_43 (by omega) (by omega) (by decide) dX8_solved_94 (fun M_45 hM_46 => ?_)
            have F_48 : M_45 93 = RO k w mem.length nx (tA (build c d).1) (tT (build c d).1) ((build c d).1.length) ((tL (build c d).1)) ((build c d).2) lp ln tx.length sp lc so := by rw [hM_46, mup_n (by omega)]; exact F_42
            have F_49 : M_45 95 = IR k 82 (va_up (va_up g_6 (74 + d.length) (2 * u)) 73 (d.length + 1)) := by rw [hM_46]; exact mup_s
            have P_50 : RtAt k M_45 (build c d).1 := P_44.fr (fun i h1 h2 => by rw [hM_46, mup_n (by omega)])
            refine v_goto X 21 dX8_solved_95 (by decide) ?_
            exact ih n (u + 1) c d0 (d ++ [2 * u]) (va_up (va_up g_6 (74 + d.length) (2 * u)) 73 (d.length + 1)) (tA (build c d).1) (tT (build c d).1) ((build c d).1.length) ((tL (build c d).1)) ((build c d).2) lp ln ((build c d).1) M_45  (by have := hdn.1; omega) (by omega) (by omega) hco hdo hd2 (by simp; omega) hdn.2.symm (fun w hw => Or.inl (next_A hdl hcf hu2 hlw w hw)) hres (hrd.dec hco.1 (2 * u)) (fun i h1 h2 h3 => by rw [hM_46, mup_n (by omega), hM_40, mup_n (by omega), hfr_3 i (by omega) (by omega) (by omega)]; exact hfr i h1 h2 h3) F_48 F_49 P_50
        · have h255 := pc8_all _ hTA8 (hTk.len.trans c_37)
          have hfull := decF_full hde.symm hv8 h255
          refine v_iload_n X 1 dX8_solved_47 rfl ?_
          exact v_iret X rq ⟨by decide, by decide⟩ rfl dX8_solved_48 ⟨_, rfl, (by rw [solve_none hres1 (by rw [hfull]; exact hcf)]), ⟨(tA (build c d).1), (tT (build c d).1), ((build c d).1.length), ((tL (build c d).1)), ((build c d).2), lp, ln, ((build c d).1), g_6, F_9, F_7, T_10⟩, (fun i h1 h2 h3 => by rw [hfr_3 i (by omega) (by omega) (by omega)]; exact hfr i h1 h2 h3)⟩
  refine v_aload_n X 0 dX8_solved_0 rfl ?_
  refine v_get X cls8 F93 (by omega) 1 (by decide) m_443 rfl rfl dX8_solved_1 ?_
  refine v_aload_n X 0 dX8_solved_4 rfl ?_
  refine v_get X cls8 F93 (by omega) 2 (by decide) m_444 rfl rfl dX8_solved_5 ?_
  refine v_callS X hCl hCR (c_X8_copy l k M 94 95 nw tl (by omega) (by omega) (by omega) F94 F95) mo_X8_copy m_466 m_497 m_498 m_465 (by decide) rfl rfl (Nat.le_of_ble_eq_true rfl) ⟨rfl, rfl⟩ ⟨by decide, by decide⟩ dX8_solved_8 (vV_in (fun M_51 hp_52 => ?_))
  obtain ⟨⟨g_54, F_55, hcp_56⟩, hfr_53⟩ := hp_52
  have F_57 : M_51 93 = RO k w mem.length nx (tA ((build cs ds).1)) (tT ((build cs ds).1)) (((build cs ds).1).length) ((tL (build cs ds).1)) ((build cs ds).2) lp0 ln0 tx.length sp lc so := by rw [hfr_53 93 (by omega)]; exact F93
  have F_58 : M_51 94 = IR k 82 nw := by rw [hfr_53 94 (by omega)]; exact F94
  have P_59 : RtAt k M_51 (build cs ds).1 := hT.fr (fun i h1 h2 => hfr_53 i (by omega))
  refine v_aload_n X 0 dX8_solved_11 rfl ?_
  refine v_get X cls8 F_57 (by omega) 2 (by decide) m_444 rfl rfl dX8_solved_12 ?_
  refine v_bipush X (v := nI 73) (by decide) dX8_solved_15 ?_
  refine v_iconst X (v := nI 0) (by decide) dX8_solved_17 ?_
  refine v_iast X nI 0 F_55 (by omega) (by omega) (by decide) dX8_solved_18 (fun M_60 hM_61 => ?_)
  have F_63 : M_60 93 = RO k w mem.length nx (tA ((build cs ds).1)) (tT ((build cs ds).1)) (((build cs ds).1).length) ((tL (build cs ds).1)) ((build cs ds).2) lp0 ln0 tx.length sp lc so := by rw [hM_61, mup_n (by omega)]; exact F_57
  have F_64 : M_60 94 = IR k 82 nw := by rw [hM_61, mup_n (by omega)]; exact F_58
  have F_65 : M_60 95 = IR k 82 (va_up g_54 73 0) := by rw [hM_61]; exact mup_s
  have P_66 : RtAt k M_60 (build cs ds).1 := P_59.fr (fun i h1 h2 => by rw [hM_61, mup_n (by omega)])
  refine v_iconst X (v := nI 0) (by decide) dX8_solved_19 ?_
  refine v_istore_n X [(1, .int (nI 0)), (0, .ref (ad k 93))] dX8_solved_20 (by decide) rfl ?_
  refine v_lv [1, 0] rfl ?_
  exact S 234 0 0 cs (sNew cs []) [] (va_up g_54 73 0) (tA ((build cs ds).1)) (tT ((build cs ds).1)) (((build cs ds).1).length) ((tL (build cs ds).1)) ((build cs ds).2) lp0 ln0 ((build cs ds).1) M_60  (by omega) (by omega) (by omega) ho2 (dOK.new (by intro x hx; cases hx) (by decide)) (by intro x hx; cases hx) (by decide) rfl (fun w hw => absurd hw (Nat.not_lt_zero _)) rfl ((hR.cong hlc hld hcp_56).take hlc (Nat.zero_le _)) (fun i h1 h2 h3 => by rw [hM_61, mup_n (by omega), hfr_53 i (by omega)]) F_63 F_65 P_66
