set_option maxHeartbeats 4000000 in
set_option maxRecDepth 100000 in
theorem c_X8_character (l : Launch) (k : KX) (M : Mem) (rf ac nx as ts tz lv : Nat) (cf : Option Nat) (lp ln sp lc : Nat) (so : Bool) (tx : List Nat) (sc : Nat → Nat) (hN : 107 ≤ kN k) (F0 : M 93 = RO k rf ac nx as ts tz lv cf lp ln tx.length sp lc so) (F1 : M 103 = IR k 90 sc) (hS : ∀ j, j < tx.length → sc j = cAt tx j) (h9 : tx.length ≤ 90) (hsp : sp ≤ 90) : CM l yX8_character cX8_character 1 ((some .int)) { frames := 0, cells := 0, slots := 0, locals := 0 } k [.ref (ad k 93)] M (pP (.int (nI (cAt tx sp))) M) := by
  refine CM.of (by decide) (Nat.le_of_ble_eq_true rfl) (fun C X hCl hCR rq => ?_)
  show V C k 1 (0, 0) M 0 [(0, .ref (ad k 93))] []
  refine v_aload_n X 0 dX8_character_0 rfl ?_
  refine v_get X cls8 F0 (by omega) 21 (by decide) m_513 rfl rfl dX8_character_1 ?_
  refine v_aload_n X 0 dX8_character_4 rfl ?_
  refine v_get X cls8 F0 (by omega) 20 (by decide) m_505 rfl rfl dX8_character_5 ?_
  refine v_cgeN X 23 (by omega) (by omega) dX8_character_8 (by decide) (fun c_1 => ?_) (fun c_1 => ?_)
  · refine v_iconst X (v := nI 0) (by decide) dX8_character_23 ?_
    exact v_iret X rq ⟨by decide, by decide⟩ rfl dX8_character_24 (pP_i (by rw [cAt_out (by omega)]))
  · refine v_aload_n X 0 dX8_character_11 rfl ?_
    refine v_get X cls8 F0 (by omega) 19 (by decide) m_453 rfl rfl dX8_character_12 ?_
    refine v_aload_n X 0 dX8_character_15 rfl ?_
    refine v_get X cls8 F0 (by omega) 21 (by decide) m_513 rfl rfl dX8_character_16 ?_
    refine v_iald X nI F1 (by omega) (by omega) (by decide) dX8_character_19 ?_
    refine v_goto X 24 dX8_character_20 (by decide) ?_
    exact v_iret X rq ⟨by decide, by decide⟩ rfl dX8_character_24 (pP_i (by rw [hS _ (by omega)]))
set_option maxHeartbeats 4000000 in
set_option maxRecDepth 100000 in
theorem c_X8_append (l : Launch) (k : KX) (M : Mem) (w : Nat) (cs ds : List Nat) (mem : List SD) (sl : Nat → Option SD) (tx : List Nat) (x : Int32) (hRef : RefAt k M w cs ds mem sl tx) : CM l yX8_append cX8_append 2 ((some .int)) { frames := 1, cells := 0, slots := 0, locals := 25 } k [.ref (ad k 93), .int x] M (pI (fun r M' => ((inR x 255 = false ∧ RefAt k M' 1 cs ds mem sl tx) ∨ (inR x 255 = true ∧ 90 ≤ tx.length ∧ RefAt k M' 2 cs ds mem sl tx) ∨ (∃ n, n < 256 ∧ x = nI n ∧ tx.length < 90 ∧ r = nI (tx.length + 1) ∧ RefAt k M' 0 cs ds mem sl (tx ++ [n]))) ∧ FrR M M')) := by
  refine CM.of (by decide) (Nat.le_of_ble_eq_true rfl) (fun C X hCl hCR rq => ?_)
  show V C k 2 (0, 0) M 0 [(0, .ref (ad k 93)), (1, .int x)] []
  obtain ⟨hN, hV, htx9, htxc, nx, lp, ln, sp, lc, so, nw, tl, di, kp, ik, sc, rd, li, F93, F94, F95, F96, F97, F98, hT, F103, F104, F105, hR, hD, hK, hS⟩ := id hRef
  have ho2 : csOK cs := hV.1.1
  have hds : ∀ d ∈ ds, d < 16 := hV.1.2.1
  have hlc : cs.length ≤ 24 := ho2.1
  have hld : ds.length ≤ 8 := hV.1.2.2
  have hok := cAt_ok ho2
  have hr := hR.c
  have hTk := hT.2.1
  have hTA := hTk.A
  have hTT := hTk.T
  have hTl := hTk.le
  have htL : tL (build cs ds).1 = ds.length := hV.2.1
  have hcf : ∀ n, (build cs ds).2 = some n → n < 24 := fun n hn => by have := (build_ok hlc hds).2 n hn; omega
  refine v_aload_n X 0 dX8_append_0 rfl ?_
  refine v_iload_n X 1 dX8_append_1 rfl ?_
  refine v_i2l X (v := (x).toInt64) rfl dX8_append_2 ?_
  refine v_lconst X (v := (nI 0).toInt64) (by decide) dX8_append_3 ?_
  refine v_ldc2 X m_504 dX8_append_4 ?_
  refine v_top (show Value.long 255 = .long (nI 255).toInt64 from congrArg _ (by decide)) ?_
  refine v_callS X hCl hCR (c_in_R l k M x 255) mo_X8_in m_459 m_506 m_507 m_465 (by decide) rfl rfl (Nat.le_of_ble_eq_true rfl) ⟨rfl, rfl⟩ ⟨by decide, by decide⟩ dX8_append_7 (vP_in ?_)
  refine v_ineB X 17 dX8_append_10 (by decide) (fun c_1 => ?_) (fun c_1 => ?_)
  · have hb := c_1
    refine v_aload_n X 0 dX8_append_17 rfl ?_
    refine v_get X cls8 F93 (by omega) 20 (by decide) m_505 rfl rfl dX8_append_18 ?_
    refine v_bipush X (v := nI 90) (by decide) dX8_append_21 ?_
    refine v_cneN X 30 (by omega) (by omega) dX8_append_23 (by decide) (fun c_2 => ?_) (fun c_2 => ?_)
    · have h23 := c_2
      refine v_iconst X (v := nI 0) (by decide) dX8_append_30 ?_
      refine v_callV X hCl hCR (c_X8_refused l k M w mem.length nx (tA ((build cs ds).1)) (tT ((build cs ds).1)) (((build cs ds).1).length) ((tL (build cs ds).1)) ((build cs ds).2) lp ln tx.length sp lc so 0 (by omega) F93 (by omega)) cls8 ⟨_, F93⟩ (by omega) mo_X8_refused m_458 m_508 m_509 m_510 m_465 (by decide) rfl rfl (Nat.le_of_ble_eq_true rfl) ⟨rfl, rfl⟩ ⟨by decide, by decide⟩ dX8_append_31 (vI_in (fun r_7 M_3 hp_4 => ?_))
      obtain ⟨he_8, F_6, hfr_5⟩ := hp_4
      subst he_8
      have F_9 : M_3 94 = IR k 82 nw := by rw [hfr_5 94 (by omega)]; exact F94
      have F_10 : M_3 95 = IR k 82 tl := by rw [hfr_5 95 (by omega)]; exact F95
      have F_11 : M_3 96 = IR k 1148 di := by rw [hfr_5 96 (by omega)]; exact F96
      have F_12 : M_3 97 = IR k 164 kp := by rw [hfr_5 97 (by omega)]; exact F97
      have F_13 : M_3 98 = .inl (kZ k, 2, .inl (fun zq => bI (ik zq))) := by rw [hfr_5 98 (by omega)]; exact F98
      have F_14 : M_3 103 = IR k 90 sc := by rw [hfr_5 103 (by omega)]; exact F103
      have F_15 : M_3 104 = IR k 82 rd := by rw [hfr_5 104 (by omega)]; exact F104
      have F_16 : M_3 105 = IR k 24 li := by rw [hfr_5 105 (by omega)]; exact F105
      have P_17 : RtAt k M_3 (build cs ds).1 := hT.fr (fun i h1 h2 => hfr_5 i (by omega))
      refine v_top (show (Value.int (bI (decide (0 < 0))) : Value) = .int (bI false) from congrArg _ (congrArg bI (by decide))) ?_
      refine v_ieqB X 39 dX8_append_34 (by decide) (fun _ => ?_) (fun h => absurd h (by decide))
      obtain ⟨n, hn, rfl⟩ := inR_of (by decide) hb
      refine v_aload_n X 0 dX8_append_39 rfl ?_
      refine v_get X cls8 F_6 (by omega) 19 (by decide) m_453 rfl rfl dX8_append_40 ?_
      refine v_aload_n X 0 dX8_append_43 rfl ?_
      refine v_get X cls8 F_6 (by omega) 20 (by decide) m_505 rfl rfl dX8_append_44 ?_
      refine v_iload_n X 1 dX8_append_47 rfl ?_
      refine v_iast X nI n F_14 (by omega) (by omega) (by decide) dX8_append_48 (fun M_18 hM_19 => ?_)
      have F_21 : M_18 94 = IR k 82 nw := by rw [hM_19, mup_n (by omega)]; exact F_9
      have F_22 : M_18 95 = IR k 82 tl := by rw [hM_19, mup_n (by omega)]; exact F_10
      have F_23 : M_18 96 = IR k 1148 di := by rw [hM_19, mup_n (by omega)]; exact F_11
      have F_24 : M_18 97 = IR k 164 kp := by rw [hM_19, mup_n (by omega)]; exact F_12
      have F_25 : M_18 98 = .inl (kZ k, 2, .inl (fun zq => bI (ik zq))) := by rw [hM_19, mup_n (by omega)]; exact F_13
      have F_26 : M_18 103 = IR k 90 (va_up sc tx.length n) := by rw [hM_19]; exact mup_s
      have F_27 : M_18 104 = IR k 82 rd := by rw [hM_19, mup_n (by omega)]; exact F_15
      have F_28 : M_18 105 = IR k 24 li := by rw [hM_19, mup_n (by omega)]; exact F_16
      have F_29 : M_18 93 = RO k 0 mem.length nx (tA ((build cs ds).1)) (tT ((build cs ds).1)) (((build cs ds).1).length) ((tL (build cs ds).1)) ((build cs ds).2) lp ln tx.length sp lc so := by rw [hM_19, mup_n (by omega)]; exact F_6
      have P_30 : RtAt k M_18 (build cs ds).1 := P_17.fr (fun i h1 h2 => by rw [hM_19, mup_n (by omega)])
      refine v_aload_n X 0 dX8_append_49 rfl ?_
      refine v_dup X rfl dX8_append_50 ?_
      refine v_get X cls8 F_29 (by omega) 20 (by decide) m_505 rfl rfl dX8_append_51 ?_
      refine v_iconst X (v := nI 1) (by decide) dX8_append_54 ?_
      refine v_addN X dX8_append_55 ?_
      refine v_put X cls8 F_29 (by omega) 20 (by decide) m_505 rfl rfl rfl rfl (Nat.le_of_ble_eq_true rfl) dX8_append_56 (fun M_31 hM_32 => ?_)
      have F_33 : M_31 94 = IR k 82 nw := by rw [hM_32, mup_n (by omega)]; exact F_21
      have F_34 : M_31 95 = IR k 82 tl := by rw [hM_32, mup_n (by omega)]; exact F_22
      have F_35 : M_31 96 = IR k 1148 di := by rw [hM_32, mup_n (by omega)]; exact F_23
      have F_36 : M_31 97 = IR k 164 kp := by rw [hM_32, mup_n (by omega)]; exact F_24
      have F_37 : M_31 98 = .inl (kZ k, 2, .inl (fun zq => bI (ik zq))) := by rw [hM_32, mup_n (by omega)]; exact F_25
      have F_38 : M_31 103 = IR k 90 (va_up sc tx.length n) := by rw [hM_32, mup_n (by omega)]; exact F_26
      have F_39 : M_31 104 = IR k 82 rd := by rw [hM_32, mup_n (by omega)]; exact F_27
      have F_40 : M_31 105 = IR k 24 li := by rw [hM_32, mup_n (by omega)]; exact F_28
      have F_41 : M_31 93 = RO k 0 mem.length nx (tA ((build cs ds).1)) (tT ((build cs ds).1)) (((build cs ds).1).length) ((tL (build cs ds).1)) ((build cs ds).2) lp ln (tx.length + 1) sp lc so := by rw [hM_32]; exact mup_s
      have P_42 : RtAt k M_31 (build cs ds).1 := P_30.fr (fun i h1 h2 => by rw [hM_32, mup_n (by omega)])
      refine v_aload_n X 0 dX8_append_59 rfl ?_
      refine v_get X cls8 F_41 (by omega) 20 (by decide) m_505 rfl rfl dX8_append_60 ?_
      have hlen : (tx ++ [n]).length = tx.length + 1 := by simp
      have F_43 : M_31 93 = RO k 0 mem.length nx (tA ((build cs ds).1)) (tT ((build cs ds).1)) (((build cs ds).1).length) ((tL (build cs ds).1)) ((build cs ds).2) lp ln ((tx ++ [n]).length) sp lc so := by rw [hlen]; exact F_41
      exact v_iret X rq ⟨by decide, by decide⟩ rfl dX8_append_63 ⟨_, rfl, Or.inr (Or.inr ⟨n, by omega, rfl, by omega, rfl, ⟨hN, hV, (by omega), (fun c hc => by rcases List.mem_append.mp hc with h | h; exact htxc c h; rw [List.mem_singleton.mp h]; omega), nx, lp, ln, sp, lc, so, nw, tl, di, kp, ik, va_up sc tx.length n, rd, li, F_43, F_33, F_34, F_35, F_36, F_37, P_42, F_38, F_39, F_40, hR, hD, hK, (fa_app hS)⟩⟩), (fun i hi => by rw [hM_32, mup_n (by omega), hM_19, mup_n (by omega), hfr_5 i (by omega)])⟩
    · have h23 := c_2
      refine v_iconst X (v := nI 2) (by decide) dX8_append_26 ?_
      refine v_goto X 31 dX8_append_27 (by decide) ?_
      refine v_callV X hCl hCR (c_X8_refused l k M w mem.length nx (tA ((build cs ds).1)) (tT ((build cs ds).1)) (((build cs ds).1).length) ((tL (build cs ds).1)) ((build cs ds).2) lp ln tx.length sp lc so 2 (by omega) F93 (by omega)) cls8 ⟨_, F93⟩ (by omega) mo_X8_refused m_458 m_508 m_509 m_510 m_465 (by decide) rfl rfl (Nat.le_of_ble_eq_true rfl) ⟨rfl, rfl⟩ ⟨by decide, by decide⟩ dX8_append_31 (vI_in (fun r_48 M_44 hp_45 => ?_))
      obtain ⟨he_49, F_47, hfr_46⟩ := hp_45
      subst he_49
      have F_50 : M_44 94 = IR k 82 nw := by rw [hfr_46 94 (by omega)]; exact F94
      have F_51 : M_44 95 = IR k 82 tl := by rw [hfr_46 95 (by omega)]; exact F95
      have F_52 : M_44 96 = IR k 1148 di := by rw [hfr_46 96 (by omega)]; exact F96
      have F_53 : M_44 97 = IR k 164 kp := by rw [hfr_46 97 (by omega)]; exact F97
      have F_54 : M_44 98 = .inl (kZ k, 2, .inl (fun zq => bI (ik zq))) := by rw [hfr_46 98 (by omega)]; exact F98
      have F_55 : M_44 103 = IR k 90 sc := by rw [hfr_46 103 (by omega)]; exact F103
      have F_56 : M_44 104 = IR k 82 rd := by rw [hfr_46 104 (by omega)]; exact F104
      have F_57 : M_44 105 = IR k 24 li := by rw [hfr_46 105 (by omega)]; exact F105
      have P_58 : RtAt k M_44 (build cs ds).1 := hT.fr (fun i h1 h2 => hfr_46 i (by omega))
      refine v_top (show (Value.int (bI (decide (0 < 2))) : Value) = .int (bI true) from congrArg _ (congrArg bI (by decide))) ?_
      refine v_ieqB X 39 dX8_append_34 (by decide) (fun h => absurd h (by decide)) (fun _ => ?_)
      refine v_iconst X (v := nI 0) (by decide) dX8_append_37 ?_
      exact v_iret X rq ⟨by decide, by decide⟩ rfl dX8_append_38 ⟨_, rfl, Or.inr (Or.inl ⟨hb, by omega, ⟨hN, hV, htx9, htxc, nx, lp, ln, sp, lc, so, nw, tl, di, kp, ik, sc, rd, li, F_47, F_50, F_51, F_52, F_53, F_54, P_58, F_55, F_56, F_57, hR, hD, hK, hS⟩⟩), (fun i hi => by rw [hfr_46 i (by omega)])⟩
  · have hb := c_1
    refine v_iconst X (v := nI 1) (by decide) dX8_append_13 ?_
    refine v_goto X 31 dX8_append_14 (by decide) ?_
    refine v_callV X hCl hCR (c_X8_refused l k M w mem.length nx (tA ((build cs ds).1)) (tT ((build cs ds).1)) (((build cs ds).1).length) ((tL (build cs ds).1)) ((build cs ds).2) lp ln tx.length sp lc so 1 (by omega) F93 (by omega)) cls8 ⟨_, F93⟩ (by omega) mo_X8_refused m_458 m_508 m_509 m_510 m_465 (by decide) rfl rfl (Nat.le_of_ble_eq_true rfl) ⟨rfl, rfl⟩ ⟨by decide, by decide⟩ dX8_append_31 (vI_in (fun r_63 M_59 hp_60 => ?_))
    obtain ⟨he_64, F_62, hfr_61⟩ := hp_60
    subst he_64
    have F_65 : M_59 94 = IR k 82 nw := by rw [hfr_61 94 (by omega)]; exact F94
    have F_66 : M_59 95 = IR k 82 tl := by rw [hfr_61 95 (by omega)]; exact F95
    have F_67 : M_59 96 = IR k 1148 di := by rw [hfr_61 96 (by omega)]; exact F96
    have F_68 : M_59 97 = IR k 164 kp := by rw [hfr_61 97 (by omega)]; exact F97
    have F_69 : M_59 98 = .inl (kZ k, 2, .inl (fun zq => bI (ik zq))) := by rw [hfr_61 98 (by omega)]; exact F98
    have F_70 : M_59 103 = IR k 90 sc := by rw [hfr_61 103 (by omega)]; exact F103
    have F_71 : M_59 104 = IR k 82 rd := by rw [hfr_61 104 (by omega)]; exact F104
    have F_72 : M_59 105 = IR k 24 li := by rw [hfr_61 105 (by omega)]; exact F105
    have P_73 : RtAt k M_59 (build cs ds).1 := hT.fr (fun i h1 h2 => hfr_61 i (by omega))
    refine v_top (show (Value.int (bI (decide (0 < 1))) : Value) = .int (bI true) from congrArg _ (congrArg bI (by decide))) ?_
    refine v_ieqB X 39 dX8_append_34 (by decide) (fun h => absurd h (by decide)) (fun _ => ?_)
    refine v_iconst X (v := nI 0) (by decide) dX8_append_37 ?_
    exact v_iret X rq ⟨by decide, by decide⟩ rfl dX8_append_38 ⟨_, rfl, Or.inl ⟨hb, ⟨hN, hV, htx9, htxc, nx, lp, ln, sp, lc, so, nw, tl, di, kp, ik, sc, rd, li, F_62, F_65, F_66, F_67, F_68, F_69, P_73, F_70, F_71, F_72, hR, hD, hK, hS⟩⟩, (fun i hi => by rw [hfr_61 i (by omega)])⟩
set_option maxHeartbeats 4000000 in
set_option maxRecDepth 100000 in
theorem c_X8_clearText (l : Launch) (k : KX) (M : Mem) (w : Nat) (cs ds : List Nat) (mem : List SD) (sl : Nat → Option SD) (tx : List Nat) (hRef : RefAt k M w cs ds mem sl tx) : CM l yX8_clearText cX8_clearText 2 ((some .int)) { frames := 0, cells := 0, slots := 0, locals := 0 } k [.ref (ad k 93)] M (pI (fun r M' => (r = nI tx.length ∧ RefAt k M' 0 cs ds mem sl ([])) ∧ FrR M M')) := by
  refine CM.of (by decide) (Nat.le_of_ble_eq_true rfl) (fun C X hCl hCR rq => ?_)
  show V C k 2 (0, 0) M 0 [(0, .ref (ad k 93))] []
  obtain ⟨hN, hV, htx9, htxc, nx, lp, ln, sp, lc, so, nw, tl, di, kp, ik, sc, rd, li, F93, F94, F95, F96, F97, F98, hT, F103, F104, F105, hR, hD, hK, hS⟩ := id hRef
  have ho2 : csOK cs := hV.1.1
  have hds : ∀ d ∈ ds, d < 16 := hV.1.2.1
  have hlc : cs.length ≤ 24 := ho2.1
  have hld : ds.length ≤ 8 := hV.1.2.2
  have hok := cAt_ok ho2
  have hr := hR.c
  have hTk := hT.2.1
  have hTA := hTk.A
  have hTT := hTk.T
  have hTl := hTk.le
  have htL : tL (build cs ds).1 = ds.length := hV.2.1
  have hcf : ∀ n, (build cs ds).2 = some n → n < 24 := fun n hn => by have := (build_ok hlc hds).2 n hn; omega
  refine v_aload_n X 0 dX8_clearText_0 rfl ?_
  refine v_iconst X (v := nI 0) (by decide) dX8_clearText_1 ?_
  refine v_put X cls8 F93 (by omega) 0 (by decide) m_457 rfl rfl rfl rfl (Nat.le_of_ble_eq_true rfl) dX8_clearText_2 (fun M_1 hM_2 => ?_)
  have F_3 : M_1 93 = RO k 0 mem.length nx (tA ((build cs ds).1)) (tT ((build cs ds).1)) (((build cs ds).1).length) ((tL (build cs ds).1)) ((build cs ds).2) lp ln tx.length sp lc so := by rw [hM_2]; exact mup_s
  have F_4 : M_1 94 = IR k 82 nw := by rw [hM_2, mup_n (by omega)]; exact F94
  have F_5 : M_1 95 = IR k 82 tl := by rw [hM_2, mup_n (by omega)]; exact F95
  have F_6 : M_1 96 = IR k 1148 di := by rw [hM_2, mup_n (by omega)]; exact F96
  have F_7 : M_1 97 = IR k 164 kp := by rw [hM_2, mup_n (by omega)]; exact F97
  have F_8 : M_1 98 = .inl (kZ k, 2, .inl (fun zq => bI (ik zq))) := by rw [hM_2, mup_n (by omega)]; exact F98
  have F_9 : M_1 103 = IR k 90 sc := by rw [hM_2, mup_n (by omega)]; exact F103
  have F_10 : M_1 104 = IR k 82 rd := by rw [hM_2, mup_n (by omega)]; exact F104
  have F_11 : M_1 105 = IR k 24 li := by rw [hM_2, mup_n (by omega)]; exact F105
  have P_12 : RtAt k M_1 (build cs ds).1 := hT.fr (fun i h1 h2 => by rw [hM_2, mup_n (by omega)])
  refine v_aload_n X 0 dX8_clearText_5 rfl ?_
  refine v_get X cls8 F_3 (by omega) 20 (by decide) m_505 rfl rfl dX8_clearText_6 ?_
  refine v_istore_n X [(1, .int (nI tx.length)), (0, .ref (ad k 93))] dX8_clearText_9 (by decide) rfl ?_
  refine v_aload_n X 1 dX8_clearText_10 rfl ?_
  refine v_iconst X (v := nI 0) (by decide) dX8_clearText_11 ?_
  refine v_put X cls8 F_3 (by omega) 20 (by decide) m_505 rfl rfl rfl rfl (Nat.le_of_ble_eq_true rfl) dX8_clearText_12 (fun M_13 hM_14 => ?_)
  have F_15 : M_13 93 = RO k 0 mem.length nx (tA ((build cs ds).1)) (tT ((build cs ds).1)) (((build cs ds).1).length) ((tL (build cs ds).1)) ((build cs ds).2) lp ln 0 sp lc so := by rw [hM_14]; exact mup_s
  have F_16 : M_13 94 = IR k 82 nw := by rw [hM_14, mup_n (by omega)]; exact F_4
  have F_17 : M_13 95 = IR k 82 tl := by rw [hM_14, mup_n (by omega)]; exact F_5
  have F_18 : M_13 96 = IR k 1148 di := by rw [hM_14, mup_n (by omega)]; exact F_6
  have F_19 : M_13 97 = IR k 164 kp := by rw [hM_14, mup_n (by omega)]; exact F_7
  have F_20 : M_13 98 = .inl (kZ k, 2, .inl (fun zq => bI (ik zq))) := by rw [hM_14, mup_n (by omega)]; exact F_8
  have F_21 : M_13 103 = IR k 90 sc := by rw [hM_14, mup_n (by omega)]; exact F_9
  have F_22 : M_13 104 = IR k 82 rd := by rw [hM_14, mup_n (by omega)]; exact F_10
  have F_23 : M_13 105 = IR k 24 li := by rw [hM_14, mup_n (by omega)]; exact F_11
  have P_24 : RtAt k M_13 (build cs ds).1 := P_12.fr (fun i h1 h2 => by rw [hM_14, mup_n (by omega)])
  refine v_iload_n X 0 dX8_clearText_15 rfl ?_
  exact v_iret X rq ⟨by decide, by decide⟩ rfl dX8_clearText_16 ⟨_, rfl, ⟨rfl, ⟨hN, hV, (Nat.zero_le _), (fun c hc => by cases hc), nx, lp, ln, sp, lc, so, nw, tl, di, kp, ik, sc, rd, li, F_15, F_16, F_17, F_18, F_19, F_20, P_24, F_21, F_22, F_23, hR, hD, hK, (fun j hj => absurd hj (Nat.not_lt_zero _))⟩⟩, (fun i hi => by rw [hM_14, mup_n (by omega), hM_2, mup_n (by omega)])⟩
set_option maxHeartbeats 4000000 in
set_option maxRecDepth 100000 in
theorem c_X8_readParity (l : Launch) (k : KX) (M : Mem) (rf ac nx as ts tz lv : Nat) (cf : Option Nat) (lp ln sp lc : Nat) (so : Bool) (tx : List Nat) (sc : Nat → Nat) (cs : List Nat) (rd : Nat → Nat) (R : Option Nat × TS) (hN : 107 ≤ kN k) (F0 : M 93 = RO k rf ac nx as ts tz lv cf lp ln tx.length sp lc so) (F1 : M 103 = IR k 90 sc) (hS : ∀ j, j < tx.length → sc j = cAt tx j) (h9 : tx.length ≤ 90) (F2 : M 104 = IR k 82 rd) (hch : ∀ c ∈ tx, c < 256) (hrd : rowOK rd cs []) (hl : cs.length < 24) (hsp : sp < tx.length) (hR : txRun tx (tx.length - sp) sp (cs, 0, 0, 0) = R) (hc61 : cAt tx sp = 61) : CM l yX8_readParity cX8_readParity 3 ((some .boolean)) { frames := 1, cells := 0, slots := 0, locals := 25 } k [.ref (ad k 93)] M (pI (fun r M' => ∃ (sq : Nat) (rd2 : Nat → Nat), M' 93 = RO k rf ac nx as ts tz lv cf lp ln tx.length sq lc so ∧ M' 104 = IR k 82 rd2 ∧ sp ≤ sq ∧ ((r = bI true ∧ sq < tx.length ∧ ∃ x, xOK x ∧ rowOK rd2 (cs ++ [x]) [] ∧ txRun tx (tx.length - (sq + 1)) (sq + 1) (cs ++ [x], 0, 0, 0) = R) ∨ (r = bI false ∧ R.1 = some sq)) ∧ ∀ i, i ≠ 93 → i ≠ 104 → M' i = M i)) := by
  refine CM.of (by decide) (Nat.le_of_ble_eq_true rfl) (fun C X hCl hCR rq => ?_)
  show V C k 3 (0, 0) M 0 [(0, .ref (ad k 93))] []
  refine v_aload_n X 0 dX8_readParity_0 rfl ?_
  refine v_dup X rfl dX8_readParity_1 ?_
  refine v_get X cls8 F0 (by omega) 21 (by decide) m_513 rfl rfl dX8_readParity_2 ?_
  refine v_iconst X (v := nI 1) (by decide) dX8_readParity_5 ?_
  refine v_addN X dX8_readParity_6 ?_
  refine v_put X cls8 F0 (by omega) 21 (by decide) m_513 rfl rfl rfl rfl (Nat.le_of_ble_eq_true rfl) dX8_readParity_7 (fun M_1 hM_2 => ?_)
  have F_3 : M_1 93 = RO k rf ac nx as ts tz lv cf lp ln tx.length (sp + 1) lc so := by rw [hM_2]; exact mup_s
  have F_4 : M_1 103 = IR k 90 sc := by rw [hM_2, mup_n (by omega)]; exact F1
  have F_5 : M_1 104 = IR k 82 rd := by rw [hM_2, mup_n (by omega)]; exact F2
  have hR2 := rp_eq hR hsp hc61 hl
  have hc1 := cAt_256 hch (sp + 1)
  refine v_aload_n X 0 dX8_readParity_10 rfl ?_
  refine v_callV X hCl hCR (c_X8_character l k M_1 rf ac nx as ts tz lv cf lp ln (sp + 1) lc so tx sc (by omega) F_3 F_4 hS (by omega) (by omega)) cls8 ⟨_, F_3⟩ (by omega) mo_X8_character m_512 m_517 m_518 m_519 m_465 (by decide) rfl rfl (Nat.le_of_ble_eq_true rfl) ⟨rfl, rfl⟩ ⟨by decide, by decide⟩ dX8_readParity_11 (vP_in ?_)
  refine v_bipush X (v := nI 48) (by decide) dX8_readParity_14 ?_
  refine v_isub X dX8_readParity_16 ?_
  refine v_istore_n X [(1, .int (nI (cAt tx (sp + 1)) - nI 48)), (0, .ref (ad k 93))] dX8_readParity_17 (by decide) rfl ?_
  refine v_iload_n X 0 dX8_readParity_18 rfl ?_
  refine v_i2l X (v := ((nI (cAt tx (sp + 1)) - nI 48)).toInt64) rfl dX8_readParity_19 ?_
  refine v_lconst X (v := (nI 0).toInt64) (by decide) dX8_readParity_20 ?_
  refine v_lconst X (v := (nI 1).toInt64) (by decide) dX8_readParity_21 ?_
  refine v_callS X hCl hCR (c_in_R l k M_1 (nI (cAt tx (sp + 1)) - nI 48) 1) mo_X8_in m_459 m_506 m_507 m_465 (by decide) rfl rfl (Nat.le_of_ble_eq_true rfl) ⟨rfl, rfl⟩ ⟨by decide, by decide⟩ dX8_readParity_22 (vP_in ?_)
  refine v_top (show (Value.int (bI (inR (nI (cAt tx (sp + 1)) - nI 48) 1)) : Value) = .int (bI (inL (nI (cAt tx (sp + 1)) - nI 48) 2)) from congrArg _ (congrArg bI inR_1)) ?_
  refine v_top (show (Value.int (bI (inL (nI (cAt tx (sp + 1)) - nI 48) 2)) : Value) = .int (bI (decide (cAt tx (sp + 1) = 48 ∨ cAt tx (sp + 1) = 49))) from congrArg _ (congrArg bI (by rw [← inR_1, in_bit _ hc1]))) ?_
  refine v_ineB X 30 dX8_readParity_25 (by decide) (fun c_6 => ?_) (fun c_6 => ?_)
  · have hbit := of_decide_eq_true c_6
    obtain ⟨hs1, hR3⟩ := rp_bit hR2 hbit
    rw [pk_sub (show 48 ≤ cAt tx (sp + 1) by omega)]
    have hb2 : cAt tx (sp + 1) - 48 < 2 := by omega
    generalize hbe : cAt tx (sp + 1) - 48 = b at hR3 hb2
    refine v_aload_n X 1 dX8_readParity_30 rfl ?_
    refine v_dup X rfl dX8_readParity_31 ?_
    refine v_get X cls8 F_3 (by omega) 21 (by decide) m_513 rfl rfl dX8_readParity_32 ?_
    refine v_iconst X (v := nI 1) (by decide) dX8_readParity_35 ?_
    refine v_addN X dX8_readParity_36 ?_
    refine v_put X cls8 F_3 (by omega) 21 (by decide) m_513 rfl rfl rfl rfl (Nat.le_of_ble_eq_true rfl) dX8_readParity_37 (fun M_7 hM_8 => ?_)
    have F_9 : M_7 93 = RO k rf ac nx as ts tz lv cf lp ln tx.length ((sp + 1) + 1) lc so := by rw [hM_8]; exact mup_s
    have F_10 : M_7 103 = IR k 90 sc := by rw [hM_8, mup_n (by omega)]; exact F_4
    have F_11 : M_7 104 = IR k 82 rd := by rw [hM_8, mup_n (by omega)]; exact F_5
    refine v_iconst X (v := nI 0) (by decide) dX8_readParity_40 ?_
    refine v_istore_n X [(2, .int (nI 0)), (1, .int (nI b)), (0, .ref (ad k 93))] dX8_readParity_41 (by decide) rfl ?_
    have L : ∀ (fu : Nat) (s f : Nat) (M1 : Mem), tx.length - s < fu → (sp ≤ s) → (s ≤ tx.length) → (f < 256) → (txRun tx (tx.length - s) s (cs, 3, f, b) = R) → (∀ i, i ≠ 93 → i ≠ 104 → M1 i = M i) → M1 103 = IR k 90 sc → M1 104 = IR k 82 rd → M1 93 = RO k rf ac nx as ts tz lv cf lp ln tx.length s lc so → V C k 3 (0, 0) M1 42 [(0, .ref (ad k 93)), (1, .int (nI b)), (2, .int (nI f))] [] := by
      intro fu
      induction fu with
      | zero => intro s f M1 hfu; exact absurd hfu (Nat.not_lt_zero _)
      | succ fu ih =>
        intro s f M1 hfu hs0 hsl hf hR4 hfr F_10 F_11 F_9
        have hcs := cAt_256 hch s
        refine v_aload_n X 0 dX8_readParity_42 rfl ?_
        refine v_callV X hCl hCR (c_X8_character l k M1 rf ac nx as ts tz lv cf lp ln s lc so tx sc (by omega) F_9 F_10 hS (by omega) (by omega)) cls8 ⟨_, F_9⟩ (by omega) mo_X8_character m_512 m_517 m_518 m_519 m_465 (by decide) rfl rfl (Nat.le_of_ble_eq_true rfl) ⟨rfl, rfl⟩ ⟨by decide, by decide⟩ dX8_readParity_43 (vP_in ?_)
        refine v_i2l X (v := (nI (cAt tx s)).toInt64) rfl dX8_readParity_46 ?_
        refine v_ldc2 X m_515 dX8_readParity_47 ?_
        refine v_top (show Value.long 97 = .long (nI 97).toInt64 from congrArg _ (by decide)) ?_
        refine v_ldc2 X m_516 dX8_readParity_50 ?_
        refine v_top (show Value.long 104 = .long (nI 104).toInt64 from congrArg _ (by decide)) ?_
        refine v_callS X hCl hCR (c_X8_in l k M1 (nI (cAt tx s)) (nI 97) (nI 104)) mo_X8_in m_459 m_506 m_507 m_465 (by decide) rfl rfl (Nat.le_of_ble_eq_true rfl) ⟨rfl, rfl⟩ ⟨by decide, by decide⟩ dX8_readParity_53 (vP_in ?_)
        refine v_top (show (Value.int (bI (inB (nI (cAt tx s)) (nI 97) (nI 104))) : Value) = .int (bI (decide (97 ≤ (cAt tx s) ∧ (cAt tx s) < 97 + 8))) from congrArg _ (congrArg bI (by rw [inB_N (by omega) (by omega) (by omega)]; exact decide_eq_decide.mpr (by omega)))) ?_
        refine v_ieqB X 98 dX8_readParity_56 (by decide) (fun c_12 => ?_) (fun c_12 => ?_)
        · have hnl : newL (cAt tx s) 97 f = false := by unfold newL; rw [c_12]; rfl
          refine v_aload_n X 0 dX8_readParity_98 rfl ?_
          refine v_get X cls8 F_9 (by omega) 22 (by decide) m_454 rfl rfl dX8_readParity_99 ?_
          refine v_iconst X (v := nI 1) (by decide) dX8_readParity_102 ?_
          refine v_iload_n X 2 dX8_readParity_103 rfl ?_
          refine v_iload_n X 1 dX8_readParity_104 rfl ?_
          refine v_callS X hCl hCR (c_X8_addTo l k M1 104 rd 1 f b (by omega) F_11 (by rw [hrd.1]; exact hl)) mo_X8_addTo m_471 m_520 m_521 m_465 (by decide) rfl rfl (Nat.le_of_ble_eq_true rfl) ⟨rfl, rfl⟩ ⟨by decide, by decide⟩ dX8_readParity_105 (vV_in (fun M_13 hp_14 => ?_))
          obtain ⟨F_16, hfr_15⟩ := hp_14
          have F_17 : M_13 103 = IR k 90 sc := by rw [hfr_15 103 (by omega)]; exact F_10
          have F_18 : M_13 93 = RO k rf ac nx as ts tz lv cf lp ln tx.length s lc so := by rw [hfr_15 93 (by omega)]; exact F_9
          refine v_iload_n X 2 dX8_readParity_108 rfl ?_
          refine v_ieqN X 125 (by omega) dX8_readParity_109 (by decide) (fun c_19 => ?_) (fun c_19 => ?_)
          · have hno := rp_no hR4 hsl hnl (fun w => w.1 c_19)
            refine v_iconst X (v := bI false) (by decide) dX8_readParity_125 ?_
            exact v_iret X rq ⟨by decide, by decide⟩ (narZ _) dX8_readParity_126 ⟨_, rfl, s, addF rd 1 f b, F_18, F_16, by omega, (Or.inr ⟨rfl, hno⟩), (fun i hi1 hi2 => by rw [hfr_15 i (by omega)]; exact hfr i hi1 hi2)⟩
          · have hf0 := c_19
            refine v_aload_n X 0 dX8_readParity_112 rfl ?_
            refine v_callV X hCl hCR (c_X8_character l k M_13 rf ac nx as ts tz lv cf lp ln s lc so tx sc (by omega) F_18 F_17 hS (by omega) (by omega)) cls8 ⟨_, F_18⟩ (by omega) mo_X8_character m_512 m_517 m_518 m_519 m_465 (by decide) rfl rfl (Nat.le_of_ble_eq_true rfl) ⟨rfl, rfl⟩ ⟨by decide, by decide⟩ dX8_readParity_113 (vP_in ?_)
            refine v_bipush X (v := nI 59) (by decide) dX8_readParity_116 ?_
            refine v_cneN X 125 (by omega) (by omega) dX8_readParity_118 (by decide) (fun c_20 => ?_) (fun c_20 => ?_)
            · have hno := rp_no hR4 hsl hnl (fun w => c_20 w.2)
              refine v_iconst X (v := bI false) (by decide) dX8_readParity_125 ?_
              exact v_iret X rq ⟨by decide, by decide⟩ (narZ _) dX8_readParity_126 ⟨_, rfl, s, addF rd 1 f b, F_18, F_16, by omega, (Or.inr ⟨rfl, hno⟩), (fun i hi1 hi2 => by rw [hfr_15 i (by omega)]; exact hfr i hi1 hi2)⟩
            · obtain ⟨hs3, hR5⟩ := rp_yes hR4 hf0 c_20
              refine v_iconst X (v := bI true) (by decide) dX8_readParity_121 ?_
              refine v_goto X 126 dX8_readParity_122 (by decide) ?_
              exact v_iret X rq ⟨by decide, by decide⟩ (narZ _) dX8_readParity_126 ⟨_, rfl, s, addF rd 1 f b, F_18, F_16, by omega, (Or.inl ⟨rfl, hs3, xParity f b, xOK_parity hf hb2, (by have q := addF_ok hrd hl (xParity_lt hf (show b < 256 by omega)); rw [xPar_parity, xFirst_parity hf, xSecond_parity hf (show b < 256 by omega)] at q; exact q), hR5⟩), (fun i hi1 hi2 => by rw [hfr_15 i (by omega)]; exact hfr i hi1 hi2)⟩
        · have h97 := of_decide_eq_true c_12
          refine v_iload_n X 2 dX8_readParity_59 rfl ?_
          refine v_aload_n X 0 dX8_readParity_60 rfl ?_
          refine v_callV X hCl hCR (c_X8_character l k M1 rf ac nx as ts tz lv cf lp ln s lc so tx sc (by omega) F_9 F_10 hS (by omega) (by omega)) cls8 ⟨_, F_9⟩ (by omega) mo_X8_character m_512 m_517 m_518 m_519 m_465 (by decide) rfl rfl (Nat.le_of_ble_eq_true rfl) ⟨rfl, rfl⟩ ⟨by decide, by decide⟩ dX8_readParity_61 (vP_in ?_)
          refine v_bipush X (v := nI 97) (by decide) dX8_readParity_64 ?_
          refine v_subN X (by omega) dX8_readParity_66 ?_
          refine v_callS X hCl hCR (c_X8_has l k M1 f ((cAt tx s) - 97) (by omega) (by omega)) mo_X8_has m_460 m_463 m_464 m_465 (by decide) rfl rfl (Nat.le_of_ble_eq_true rfl) ⟨rfl, rfl⟩ ⟨by decide, by decide⟩ dX8_readParity_67 (vP_in ?_)
          refine v_ineB X 98 dX8_readParity_70 (by decide) (fun c_21 => ?_) (fun c_21 => ?_)
          · have hnl : newL (cAt tx s) 97 f = false := by unfold newL; rw [c_21]; simp
            refine v_aload_n X 0 dX8_readParity_98 rfl ?_
            refine v_get X cls8 F_9 (by omega) 22 (by decide) m_454 rfl rfl dX8_readParity_99 ?_
            refine v_iconst X (v := nI 1) (by decide) dX8_readParity_102 ?_
            refine v_iload_n X 2 dX8_readParity_103 rfl ?_
            refine v_iload_n X 1 dX8_readParity_104 rfl ?_
            refine v_callS X hCl hCR (c_X8_addTo l k M1 104 rd 1 f b (by omega) F_11 (by rw [hrd.1]; exact hl)) mo_X8_addTo m_471 m_520 m_521 m_465 (by decide) rfl rfl (Nat.le_of_ble_eq_true rfl) ⟨rfl, rfl⟩ ⟨by decide, by decide⟩ dX8_readParity_105 (vV_in (fun M_22 hp_23 => ?_))
            obtain ⟨F_25, hfr_24⟩ := hp_23
            have F_26 : M_22 103 = IR k 90 sc := by rw [hfr_24 103 (by omega)]; exact F_10
            have F_27 : M_22 93 = RO k rf ac nx as ts tz lv cf lp ln tx.length s lc so := by rw [hfr_24 93 (by omega)]; exact F_9
            refine v_iload_n X 2 dX8_readParity_108 rfl ?_
            refine v_ieqN X 125 (by omega) dX8_readParity_109 (by decide) (fun c_28 => ?_) (fun c_28 => ?_)
            · have hno := rp_no hR4 hsl hnl (fun w => w.1 c_28)
              refine v_iconst X (v := bI false) (by decide) dX8_readParity_125 ?_
              exact v_iret X rq ⟨by decide, by decide⟩ (narZ _) dX8_readParity_126 ⟨_, rfl, s, addF rd 1 f b, F_27, F_25, by omega, (Or.inr ⟨rfl, hno⟩), (fun i hi1 hi2 => by rw [hfr_24 i (by omega)]; exact hfr i hi1 hi2)⟩
            · have hf0 := c_28
              refine v_aload_n X 0 dX8_readParity_112 rfl ?_
              refine v_callV X hCl hCR (c_X8_character l k M_22 rf ac nx as ts tz lv cf lp ln s lc so tx sc (by omega) F_27 F_26 hS (by omega) (by omega)) cls8 ⟨_, F_27⟩ (by omega) mo_X8_character m_512 m_517 m_518 m_519 m_465 (by decide) rfl rfl (Nat.le_of_ble_eq_true rfl) ⟨rfl, rfl⟩ ⟨by decide, by decide⟩ dX8_readParity_113 (vP_in ?_)
              refine v_bipush X (v := nI 59) (by decide) dX8_readParity_116 ?_
              refine v_cneN X 125 (by omega) (by omega) dX8_readParity_118 (by decide) (fun c_29 => ?_) (fun c_29 => ?_)
              · have hno := rp_no hR4 hsl hnl (fun w => c_29 w.2)
                refine v_iconst X (v := bI false) (by decide) dX8_readParity_125 ?_
                exact v_iret X rq ⟨by decide, by decide⟩ (narZ _) dX8_readParity_126 ⟨_, rfl, s, addF rd 1 f b, F_27, F_25, by omega, (Or.inr ⟨rfl, hno⟩), (fun i hi1 hi2 => by rw [hfr_24 i (by omega)]; exact hfr i hi1 hi2)⟩
              · obtain ⟨hs3, hR5⟩ := rp_yes hR4 hf0 c_29
                refine v_iconst X (v := bI true) (by decide) dX8_readParity_121 ?_
                refine v_goto X 126 dX8_readParity_122 (by decide) ?_
                exact v_iret X rq ⟨by decide, by decide⟩ (narZ _) dX8_readParity_126 ⟨_, rfl, s, addF rd 1 f b, F_27, F_25, by omega, (Or.inl ⟨rfl, hs3, xParity f b, xOK_parity hf hb2, (by have q := addF_ok hrd hl (xParity_lt hf (show b < 256 by omega)); rw [xPar_parity, xFirst_parity hf, xSecond_parity hf (show b < 256 by omega)] at q; exact q), hR5⟩), (fun i hi1 hi2 => by rw [hfr_24 i (by omega)]; exact hfr i hi1 hi2)⟩
          · have hnl : newL (cAt tx s) 97 f = true := by unfold newL; rw [c_21, decide_eq_true h97]; rfl
            have hgo := rp_let hR4 hnl
            refine v_iload_n X 2 dX8_readParity_73 rfl ?_
            refine v_iconst X (v := nI 1) (by decide) dX8_readParity_74 ?_
            refine v_aload_n X 0 dX8_readParity_75 rfl ?_
            refine v_callV X hCl hCR (c_X8_character l k M1 rf ac nx as ts tz lv cf lp ln s lc so tx sc (by omega) F_9 F_10 hS (by omega) (by omega)) cls8 ⟨_, F_9⟩ (by omega) mo_X8_character m_512 m_517 m_518 m_519 m_465 (by decide) rfl rfl (Nat.le_of_ble_eq_true rfl) ⟨rfl, rfl⟩ ⟨by decide, by decide⟩ dX8_readParity_76 (vP_in ?_)
            refine v_bipush X (v := nI 97) (by decide) dX8_readParity_79 ?_
            refine v_subN X (by omega) dX8_readParity_81 ?_
            refine v_shlN X (by omega) dX8_readParity_82 ?_
            refine v_orN X dX8_readParity_83 ?_
            refine v_istore_n X [(2, .int (nI (f ||| (1 <<< ((cAt tx s) - 97))))), (0, .ref (ad k 93)), (1, .int (nI b))] dX8_readParity_84 (by decide) rfl ?_
            refine v_aload_n X 1 dX8_readParity_85 rfl ?_
            refine v_dup X rfl dX8_readParity_86 ?_
            refine v_get X cls8 F_9 (by omega) 21 (by decide) m_513 rfl rfl dX8_readParity_87 ?_
            refine v_iconst X (v := nI 1) (by decide) dX8_readParity_90 ?_
            refine v_addN X dX8_readParity_91 ?_
            refine v_put X cls8 F_9 (by omega) 21 (by decide) m_513 rfl rfl rfl rfl (Nat.le_of_ble_eq_true rfl) dX8_readParity_92 (fun M_30 hM_31 => ?_)
            have F_32 : M_30 103 = IR k 90 sc := by rw [hM_31, mup_n (by omega)]; exact F_10
            have F_33 : M_30 104 = IR k 82 rd := by rw [hM_31, mup_n (by omega)]; exact F_11
            have F_34 : M_30 93 = RO k rf ac nx as ts tz lv cf lp ln tx.length (s + 1) lc so := by rw [hM_31]; exact mup_s
            refine v_goto X 42 dX8_readParity_95 (by decide) ?_
            have hcs := cAt_256 hch s
            refine v_lv [1, 2, 0] rfl ?_
            exact ih (s + 1) (f ||| 1 <<< (cAt tx s - 97)) M_30 (by omega) (by omega) (by omega) (or_lt256 hf (bit1_lt (by omega))) hgo.2 (fun i hi1 hi2 => by rw [hM_31, mup_n (by omega)]; exact hfr i hi1 hi2) F_32 F_33 F_34
    refine v_lv [2, 1, 0] rfl ?_
    exact L 91 (sp + 1 + 1) 0 M_7 (by omega) (by omega) (by omega) (by decide) hR3 (fun i hi1 hi2 => by rw [hM_8, mup_n (by omega), hM_2, mup_n (by omega)]) F_10 F_11 F_9
  · have hno := rp_bitno hR2 (by omega) (of_decide_eq_false c_6)
    refine v_iconst X (v := bI false) (by decide) dX8_readParity_28 ?_
    exact v_iret X rq ⟨by decide, by decide⟩ (narZ _) dX8_readParity_29 ⟨_, rfl, sp + 1, rd, F_3, F_5, by omega, (Or.inr ⟨rfl, hno⟩), (fun i hi1 hi2 => by rw [hM_2, mup_n (by omega)])⟩
set_option maxHeartbeats 4000000 in
set_option maxRecDepth 100000 in
theorem c_X8_readClause (l : Launch) (k : KX) (M : Mem) (rf ac nx as ts tz lv : Nat) (cf : Option Nat) (lp ln sp lc : Nat) (so : Bool) (tx : List Nat) (sc : Nat → Nat) (cs : List Nat) (rd : Nat → Nat) (R : Option Nat × TS) (hN : 107 ≤ kN k) (F0 : M 93 = RO k rf ac nx as ts tz lv cf lp ln tx.length sp lc so) (F1 : M 103 = IR k 90 sc) (hS : ∀ j, j < tx.length → sc j = cAt tx j) (h9 : tx.length ≤ 90) (F2 : M 104 = IR k 82 rd) (hch : ∀ c ∈ tx, c < 256) (hrd : rowOK rd cs []) (hl : cs.length < 24) (hsp : sp < tx.length) (hR : txRun tx (tx.length - sp) sp (cs, 0, 0, 0) = R) (hc61 : cAt tx sp ≠ 61) : CM l yX8_readClause cX8_readClause 6 ((some .boolean)) { frames := 1, cells := 0, slots := 0, locals := 25 } k [.ref (ad k 93)] M (pI (fun r M' => ∃ (sq : Nat) (rd2 : Nat → Nat), M' 93 = RO k rf ac nx as ts tz lv cf lp ln tx.length sq lc so ∧ M' 104 = IR k 82 rd2 ∧ sp ≤ sq ∧ ((r = bI true ∧ sq < tx.length ∧ ∃ x, xOK x ∧ rowOK rd2 (cs ++ [x]) [] ∧ txRun tx (tx.length - (sq + 1)) (sq + 1) (cs ++ [x], 0, 0, 0) = R) ∨ (r = bI false ∧ R.1 = some sq)) ∧ ∀ i, i ≠ 93 → i ≠ 104 → M' i = M i)) := by
  refine CM.of (by decide) (Nat.le_of_ble_eq_true rfl) (fun C X hCl hCR rq => ?_)
  show V C k 6 (0, 0) M 0 [(0, .ref (ad k 93))] []
  refine v_iconst X (v := nI 0) (by decide) dX8_readClause_0 ?_
  refine v_istore_n X [(1, .int (nI 0)), (0, .ref (ad k 93))] dX8_readClause_1 (by decide) rfl ?_
  refine v_iconst X (v := nI 0) (by decide) dX8_readClause_2 ?_
  refine v_istore_n X [(2, .int (nI 0)), (1, .int (nI 0)), (0, .ref (ad k 93))] dX8_readClause_3 (by decide) rfl ?_
  refine v_iconst X (v := bI true) (by decide) dX8_readClause_4 ?_
  refine v_istore_n X [(3, .int (bI true)), (2, .int (nI 0)), (1, .int (nI 0)), (0, .ref (ad k 93))] dX8_readClause_5 (by decide) rfl ?_
  have L : ∀ (fu : Nat) (s f g : Nat) (M1 : Mem), tx.length - s < fu → (sp ≤ s) → (s ≤ tx.length) → (f < 256) → (g < 256) → (f &&& g = 0) → (f ||| g = 0 → s = sp ∧ cAt tx s ≠ 61) → (txRun tx (tx.length - s) s (cs, plc f g, f, g) = R) → (∀ i, i ≠ 93 → i ≠ 104 → M1 i = M i) → M1 103 = IR k 90 sc → M1 104 = IR k 82 rd → M1 93 = RO k rf ac nx as ts tz lv cf lp ln tx.length s lc so → V C k 6 (0, 0) M1 6 [(0, .ref (ad k 93)), (1, .int (nI f)), (2, .int (nI g)), (3, .int (bI true))] [] := by
    intro fu
    induction fu with
    | zero => intro s f g M1 hfu; exact absurd hfu (Nat.not_lt_zero _)
    | succ fu ih =>
      intro s f g M1 hfu hs0 hsl hf hg hdj hz hR4 hfr F1 F2 F0
      refine v_iload_n X 3 dX8_readClause_6 rfl ?_
      refine v_ieqB X 143 dX8_readClause_7 (by decide) (fun h => absurd h (by decide)) (fun _ => ?_)
      have hcs := cAt_256 hch s
      have hfg := or_lt256 hf hg
      refine v_aload_n X 0 dX8_readClause_10 rfl ?_
      refine v_callV X hCl hCR (c_X8_character l k M1 rf ac nx as ts tz lv cf lp ln s lc so tx sc (by omega) F0 F1 hS (by omega) (by omega)) cls8 ⟨_, F0⟩ (by omega) mo_X8_character m_512 m_517 m_518 m_519 m_465 (by decide) rfl rfl (Nat.le_of_ble_eq_true rfl) ⟨rfl, rfl⟩ ⟨by decide, by decide⟩ dX8_readClause_11 (vP_in ?_)
      refine v_istore X [(4, .int (nI (cAt tx s))), (0, .ref (ad k 93)), (1, .int (nI f)), (2, .int (nI g)), (3, .int (bI true))] dX8_readClause_14 (by decide) rfl ?_
      refine v_iload X 0 dX8_readClause_16 rfl ?_
      refine v_i2l X (v := (nI (cAt tx s)).toInt64) rfl dX8_readClause_18 ?_
      refine v_ldc2 X m_515 dX8_readClause_19 ?_
      refine v_top (show Value.long 97 = .long (nI 97).toInt64 from congrArg _ (by decide)) ?_
      refine v_ldc2 X m_516 dX8_readClause_22 ?_
      refine v_top (show Value.long 104 = .long (nI 104).toInt64 from congrArg _ (by decide)) ?_
      refine v_callS X hCl hCR (c_X8_in l k M1 (nI (cAt tx s)) (nI 97) (nI 104)) mo_X8_in m_459 m_506 m_507 m_465 (by decide) rfl rfl (Nat.le_of_ble_eq_true rfl) ⟨rfl, rfl⟩ ⟨by decide, by decide⟩ dX8_readClause_25 (vP_in ?_)
      refine v_top (show (Value.int (bI (inB (nI (cAt tx s)) (nI 97) (nI 104))) : Value) = .int (bI (decide (97 ≤ (cAt tx s) ∧ (cAt tx s) < 97 + 8))) from congrArg _ (congrArg bI (by rw [inB_N (by omega) (by omega) (by omega)]; exact decide_eq_decide.mpr (by omega)))) ?_
      refine v_ieqB X 39 dX8_readClause_28 (by decide) (fun c_1 => ?_) (fun c_1 => ?_)
      · have hA := c_1
        have hnA : newL (cAt tx s) 97 (f ||| g) = false := by unfold newL; rw [hA]; rfl
        refine v_iload X 0 dX8_readClause_39 rfl ?_
        refine v_i2l X (v := (nI (cAt tx s)).toInt64) rfl dX8_readClause_41 ?_
        refine v_ldc2 X m_523 dX8_readClause_42 ?_
        refine v_top (show Value.long 65 = .long (nI 65).toInt64 from congrArg _ (by decide)) ?_
        refine v_ldc2 X m_524 dX8_readClause_45 ?_
        refine v_top (show Value.long 72 = .long (nI 72).toInt64 from congrArg _ (by decide)) ?_
        refine v_callS X hCl hCR (c_X8_in l k M1 (nI (cAt tx s)) (nI 65) (nI 72)) mo_X8_in m_459 m_506 m_507 m_465 (by decide) rfl rfl (Nat.le_of_ble_eq_true rfl) ⟨rfl, rfl⟩ ⟨by decide, by decide⟩ dX8_readClause_48 (vP_in ?_)
        refine v_top (show (Value.int (bI (inB (nI (cAt tx s)) (nI 65) (nI 72))) : Value) = .int (bI (decide (65 ≤ (cAt tx s) ∧ (cAt tx s) < 65 + 8))) from congrArg _ (congrArg bI (by rw [inB_N (by omega) (by omega) (by omega)]; exact decide_eq_decide.mpr (by omega)))) ?_
        refine v_ieqB X 62 dX8_readClause_51 (by decide) (fun c_2 => ?_) (fun c_2 => ?_)
        · have hnB : newL (cAt tx s) 65 (f ||| g) = false := by unfold newL; rw [c_2]; rfl
          refine v_bipush X (v := (-9)) (by decide) dX8_readClause_62 ?_
          refine v_istore X [(5, .int ((-9))), (4, .int (nI (cAt tx s))), (0, .ref (ad k 93)), (1, .int (nI f)), (2, .int (nI g)), (3, .int (bI true))] dX8_readClause_64 (by decide) rfl ?_
          refine v_iload X 0 dX8_readClause_66 rfl ?_
          refine v_bipush X (v := (-9)) (by decide) dX8_readClause_68 ?_
          refine v_icmp_eq X 88 dX8_readClause_70 (by decide) (fun c_3 => ?_) (fun c_3 => ?_)
          · refine v_iconst X (v := bI false) (by decide) dX8_readClause_88 ?_
            refine v_istore_n X [(3, .int (bI false)), (5, .int ((-9))), (4, .int (nI (cAt tx s))), (0, .ref (ad k 93)), (1, .int (nI f)), (2, .int (nI g))] dX8_readClause_89 (by decide) rfl ?_
            refine v_iload_n X 0 dX8_readClause_90 rfl ?_
            refine v_ieqB X 140 dX8_readClause_91 (by decide) (fun _ => ?_) (fun h => absurd h (by decide))
            refine v_goto X 6 dX8_readClause_140 (by decide) ?_
            refine v_iload_n X 0 dX8_readClause_6 rfl ?_
            refine v_ieqB X 143 dX8_readClause_7 (by decide) (fun _ => ?_) (fun h => absurd h (by decide))
            refine v_aload_n X 3 dX8_readClause_143 rfl ?_
            refine v_get X cls8 F0 (by omega) 22 (by decide) m_454 rfl rfl dX8_readClause_144 ?_
            refine v_iconst X (v := nI 0) (by decide) dX8_readClause_147 ?_
            refine v_iload_n X 4 dX8_readClause_148 rfl ?_
            refine v_iload_n X 5 dX8_readClause_149 rfl ?_
            refine v_callS X hCl hCR (c_X8_addTo l k M1 104 rd 0 f g (by omega) F2 (by rw [hrd.1]; exact hl)) mo_X8_addTo m_471 m_520 m_521 m_465 (by decide) rfl rfl (Nat.le_of_ble_eq_true rfl) ⟨rfl, rfl⟩ ⟨by decide, by decide⟩ dX8_readClause_150 (vV_in (fun M_4 hp_5 => ?_))
            obtain ⟨F_7, hfr_6⟩ := hp_5
            have F_8 : M_4 103 = IR k 90 sc := by rw [hfr_6 103 (by omega)]; exact F1
            have F_9 : M_4 93 = RO k rf ac nx as ts tz lv cf lp ln tx.length s lc so := by rw [hfr_6 93 (by omega)]; exact F0
            refine v_iload_n X 4 dX8_readClause_153 rfl ?_
            refine v_iload_n X 5 dX8_readClause_154 rfl ?_
            refine v_orN X dX8_readClause_155 ?_
            refine v_ieqN X 172 (by omega) dX8_readClause_156 (by decide) (fun c_10 => ?_) (fun c_10 => ?_)
            · have hno := rc_no hR4 hsl hl (fun w => ⟨by have := (hz w).1; omega, (hz w).2⟩) hnA hnB (fun w => w.1 c_10)
              refine v_iconst X (v := bI false) (by decide) dX8_readClause_172 ?_
              exact v_iret X rq ⟨by decide, by decide⟩ (narZ _) dX8_readClause_173 ⟨_, rfl, s, addF rd 0 f g, F_9, F_7, by omega, (Or.inr ⟨rfl, hno⟩), (fun i hi1 hi2 => by rw [hfr_6 i (by omega)]; exact hfr i hi1 hi2)⟩
            · have hf0 := c_10
              refine v_aload_n X 3 dX8_readClause_159 rfl ?_
              refine v_callV X hCl hCR (c_X8_character l k M_4 rf ac nx as ts tz lv cf lp ln s lc so tx sc (by omega) F_9 F_8 hS (by omega) (by omega)) cls8 ⟨_, F_9⟩ (by omega) mo_X8_character m_512 m_517 m_518 m_519 m_465 (by decide) rfl rfl (Nat.le_of_ble_eq_true rfl) ⟨rfl, rfl⟩ ⟨by decide, by decide⟩ dX8_readClause_160 (vP_in ?_)
              refine v_bipush X (v := nI 59) (by decide) dX8_readClause_163 ?_
              refine v_cneN X 172 (by omega) (by omega) dX8_readClause_165 (by decide) (fun c_11 => ?_) (fun c_11 => ?_)
              · have hno := rc_no hR4 hsl hl (fun w => ⟨by have := (hz w).1; omega, (hz w).2⟩) hnA hnB (fun w => c_11 w.2)
                refine v_iconst X (v := bI false) (by decide) dX8_readClause_172 ?_
                exact v_iret X rq ⟨by decide, by decide⟩ (narZ _) dX8_readClause_173 ⟨_, rfl, s, addF rd 0 f g, F_9, F_7, by omega, (Or.inr ⟨rfl, hno⟩), (fun i hi1 hi2 => by rw [hfr_6 i (by omega)]; exact hfr i hi1 hi2)⟩
              · obtain ⟨hs3, hR5⟩ := rc_yes hR4 hf0 c_11
                refine v_iconst X (v := bI true) (by decide) dX8_readClause_168 ?_
                refine v_goto X 173 dX8_readClause_169 (by decide) ?_
                exact v_iret X rq ⟨by decide, by decide⟩ (narZ _) dX8_readClause_173 ⟨_, rfl, s, addF rd 0 f g, F_9, F_7, by omega, (Or.inl ⟨rfl, hs3, xClause f g, xOK_clause hf hg hdj, (by have q := addF_ok hrd hl (show xClause f g < 131072 by have := xClause_lt hf hg; omega); rw [xPar_clause hf hg, xFirst_clause hf, xSecond_clause hf hg] at q; exact q), hR5⟩), (fun i hi1 hi2 => by rw [hfr_6 i (by omega)]; exact hfr i hi1 hi2)⟩
          · exact absurd rfl c_3
        · have h65 := of_decide_eq_true c_2
          refine v_iload X 0 dX8_readClause_54 rfl ?_
          refine v_bipush X (v := nI 65) (by decide) dX8_readClause_56 ?_
          refine v_subN X (by omega) dX8_readClause_58 ?_
          refine v_goto X 64 dX8_readClause_59 (by decide) ?_
          refine v_istore X [(5, .int (nI ((cAt tx s) - 65))), (4, .int (nI (cAt tx s))), (0, .ref (ad k 93)), (1, .int (nI f)), (2, .int (nI g)), (3, .int (bI true))] dX8_readClause_64 (by decide) rfl ?_
          refine v_iload X 0 dX8_readClause_66 rfl ?_
          refine v_bipush X (v := (-9)) (by decide) dX8_readClause_68 ?_
          refine v_icmp_eq X 88 dX8_readClause_70 (by decide) (fun c_12 => ?_) (fun c_12 => ?_)
          · exact absurd c_12 (nI_ne_m9 (by omega))
          · refine v_iload_n X 3 dX8_readClause_73 rfl ?_
            refine v_iload_n X 4 dX8_readClause_74 rfl ?_
            refine v_orN X dX8_readClause_75 ?_
            refine v_iload X 0 dX8_readClause_76 rfl ?_
            refine v_callS X hCl hCR (c_X8_has l k M1 (f ||| g) ((cAt tx s) - 65) (by omega) (by omega)) mo_X8_has m_460 m_463 m_464 m_465 (by decide) rfl rfl (Nat.le_of_ble_eq_true rfl) ⟨rfl, rfl⟩ ⟨by decide, by decide⟩ dX8_readClause_78 (vP_in ?_)
            refine v_ineB X 88 dX8_readClause_81 (by decide) (fun c_13 => ?_) (fun c_13 => ?_)
            · have hnB : newL (cAt tx s) 65 (f ||| g) = false := by unfold newL; rw [c_13]; simp
              refine v_iconst X (v := bI false) (by decide) dX8_readClause_88 ?_
              refine v_istore_n X [(3, .int (bI false)), (5, .int (nI ((cAt tx s) - 65))), (4, .int (nI (cAt tx s))), (0, .ref (ad k 93)), (1, .int (nI f)), (2, .int (nI g))] dX8_readClause_89 (by decide) rfl ?_
              refine v_iload_n X 0 dX8_readClause_90 rfl ?_
              refine v_ieqB X 140 dX8_readClause_91 (by decide) (fun _ => ?_) (fun h => absurd h (by decide))
              refine v_goto X 6 dX8_readClause_140 (by decide) ?_
              refine v_iload_n X 0 dX8_readClause_6 rfl ?_
              refine v_ieqB X 143 dX8_readClause_7 (by decide) (fun _ => ?_) (fun h => absurd h (by decide))
              refine v_aload_n X 3 dX8_readClause_143 rfl ?_
              refine v_get X cls8 F0 (by omega) 22 (by decide) m_454 rfl rfl dX8_readClause_144 ?_
              refine v_iconst X (v := nI 0) (by decide) dX8_readClause_147 ?_
              refine v_iload_n X 4 dX8_readClause_148 rfl ?_
              refine v_iload_n X 5 dX8_readClause_149 rfl ?_
              refine v_callS X hCl hCR (c_X8_addTo l k M1 104 rd 0 f g (by omega) F2 (by rw [hrd.1]; exact hl)) mo_X8_addTo m_471 m_520 m_521 m_465 (by decide) rfl rfl (Nat.le_of_ble_eq_true rfl) ⟨rfl, rfl⟩ ⟨by decide, by decide⟩ dX8_readClause_150 (vV_in (fun M_14 hp_15 => ?_))
              obtain ⟨F_17, hfr_16⟩ := hp_15
              have F_18 : M_14 103 = IR k 90 sc := by rw [hfr_16 103 (by omega)]; exact F1
              have F_19 : M_14 93 = RO k rf ac nx as ts tz lv cf lp ln tx.length s lc so := by rw [hfr_16 93 (by omega)]; exact F0
              refine v_iload_n X 4 dX8_readClause_153 rfl ?_
              refine v_iload_n X 5 dX8_readClause_154 rfl ?_
              refine v_orN X dX8_readClause_155 ?_
              refine v_ieqN X 172 (by omega) dX8_readClause_156 (by decide) (fun c_20 => ?_) (fun c_20 => ?_)
              · have hno := rc_no hR4 hsl hl (fun w => ⟨by have := (hz w).1; omega, (hz w).2⟩) hnA hnB (fun w => w.1 c_20)
                refine v_iconst X (v := bI false) (by decide) dX8_readClause_172 ?_
                exact v_iret X rq ⟨by decide, by decide⟩ (narZ _) dX8_readClause_173 ⟨_, rfl, s, addF rd 0 f g, F_19, F_17, by omega, (Or.inr ⟨rfl, hno⟩), (fun i hi1 hi2 => by rw [hfr_16 i (by omega)]; exact hfr i hi1 hi2)⟩
              · have hf0 := c_20
                refine v_aload_n X 3 dX8_readClause_159 rfl ?_
                refine v_callV X hCl hCR (c_X8_character l k M_14 rf ac nx as ts tz lv cf lp ln s lc so tx sc (by omega) F_19 F_18 hS (by omega) (by omega)) cls8 ⟨_, F_19⟩ (by omega) mo_X8_character m_512 m_517 m_518 m_519 m_465 (by decide) rfl rfl (Nat.le_of_ble_eq_true rfl) ⟨rfl, rfl⟩ ⟨by decide, by decide⟩ dX8_readClause_160 (vP_in ?_)
                refine v_bipush X (v := nI 59) (by decide) dX8_readClause_163 ?_
                refine v_cneN X 172 (by omega) (by omega) dX8_readClause_165 (by decide) (fun c_21 => ?_) (fun c_21 => ?_)
                · have hno := rc_no hR4 hsl hl (fun w => ⟨by have := (hz w).1; omega, (hz w).2⟩) hnA hnB (fun w => c_21 w.2)
                  refine v_iconst X (v := bI false) (by decide) dX8_readClause_172 ?_
                  exact v_iret X rq ⟨by decide, by decide⟩ (narZ _) dX8_readClause_173 ⟨_, rfl, s, addF rd 0 f g, F_19, F_17, by omega, (Or.inr ⟨rfl, hno⟩), (fun i hi1 hi2 => by rw [hfr_16 i (by omega)]; exact hfr i hi1 hi2)⟩
                · obtain ⟨hs3, hR5⟩ := rc_yes hR4 hf0 c_21
                  refine v_iconst X (v := bI true) (by decide) dX8_readClause_168 ?_
                  refine v_goto X 173 dX8_readClause_169 (by decide) ?_
                  exact v_iret X rq ⟨by decide, by decide⟩ (narZ _) dX8_readClause_173 ⟨_, rfl, s, addF rd 0 f g, F_19, F_17, by omega, (Or.inl ⟨rfl, hs3, xClause f g, xOK_clause hf hg hdj, (by have q := addF_ok hrd hl (show xClause f g < 131072 by have := xClause_lt hf hg; omega); rw [xPar_clause hf hg, xFirst_clause hf, xSecond_clause hf hg] at q; exact q), hR5⟩), (fun i hi1 hi2 => by rw [hfr_16 i (by omega)]; exact hfr i hi1 hi2)⟩
            · have hnl : newL (cAt tx s) 65 (f ||| g) = true := by unfold newL; rw [c_13, decide_eq_true (by omega)]; rfl
              have hgo := rc_b hR4 hl (fun w => (hz w).2) hnl
              refine v_iconst X (v := bI true) (by decide) dX8_readClause_84 ?_
              refine v_goto X 89 dX8_readClause_85 (by decide) ?_
              refine v_istore_n X [(3, .int (bI true)), (5, .int (nI ((cAt tx s) - 65))), (4, .int (nI (cAt tx s))), (0, .ref (ad k 93)), (1, .int (nI f)), (2, .int (nI g))] dX8_readClause_89 (by decide) rfl ?_
              refine v_iload_n X 0 dX8_readClause_90 rfl ?_
              refine v_ieqB X 140 dX8_readClause_91 (by decide) (fun h => absurd h (by decide)) (fun _ => ?_)
              refine v_iload_n X 4 dX8_readClause_94 rfl ?_
              refine v_iload X 2 dX8_readClause_95 rfl ?_
              refine v_bipush X (v := nI 97) (by decide) dX8_readClause_97 ?_
              refine v_cltN X 109 (by omega) (by omega) dX8_readClause_99 (by decide) (fun c_22 => ?_) (fun c_22 => ?_)
              · refine v_iconst X (v := nI 0) (by decide) dX8_readClause_109 ?_
                refine v_orN X dX8_readClause_110 ?_
                refine v_top (show (Value.int (nI (f ||| 0)) : Value) = .int (nI f) from congrArg _ (by rw [Nat.or_zero])) ?_
                refine v_istore_n X [(1, .int (nI f)), (3, .int (bI true)), (5, .int (nI ((cAt tx s) - 65))), (4, .int (nI (cAt tx s))), (0, .ref (ad k 93)), (2, .int (nI g))] dX8_readClause_111 (by decide) rfl ?_
                refine v_iload_n X 5 dX8_readClause_112 rfl ?_
                refine v_iload X 3 dX8_readClause_113 rfl ?_
                refine v_bipush X (v := nI 97) (by decide) dX8_readClause_115 ?_
                refine v_cltN X 124 (by omega) (by omega) dX8_readClause_117 (by decide) (fun c_23 => ?_) (fun c_23 => ?_)
                · refine v_iconst X (v := nI 1) (by decide) dX8_readClause_124 ?_
                  refine v_iload X 2 dX8_readClause_125 rfl ?_
                  refine v_shlN X (by omega) dX8_readClause_127 ?_
                  refine v_orN X dX8_readClause_128 ?_
                  refine v_istore_n X [(2, .int (nI (g ||| (1 <<< ((cAt tx s) - 65))))), (1, .int (nI f)), (3, .int (bI true)), (5, .int (nI ((cAt tx s) - 65))), (4, .int (nI (cAt tx s))), (0, .ref (ad k 93))] dX8_readClause_129 (by decide) rfl ?_
                  refine v_aload_n X 5 dX8_readClause_130 rfl ?_
                  refine v_dup X rfl dX8_readClause_131 ?_
                  refine v_get X cls8 F0 (by omega) 21 (by decide) m_513 rfl rfl dX8_readClause_132 ?_
                  refine v_iconst X (v := nI 1) (by decide) dX8_readClause_135 ?_
                  refine v_addN X dX8_readClause_136 ?_
                  refine v_put X cls8 F0 (by omega) 21 (by decide) m_513 rfl rfl rfl rfl (Nat.le_of_ble_eq_true rfl) dX8_readClause_137 (fun M_24 hM_25 => ?_)
                  have F_26 : M_24 103 = IR k 90 sc := by rw [hM_25, mup_n (by omega)]; exact F1
                  have F_27 : M_24 104 = IR k 82 rd := by rw [hM_25, mup_n (by omega)]; exact F2
                  have F_28 : M_24 93 = RO k rf ac nx as ts tz lv cf lp ln tx.length (s + 1) lc so := by rw [hM_25]; exact mup_s
                  refine v_goto X 6 dX8_readClause_140 (by decide) ?_
                  refine v_lv [5, 1, 0, 2] rfl ?_
                  exact ih (s + 1) (f) (g ||| (1 <<< ((cAt tx s) - 65))) M_24 (by omega) (by omega) (by omega) hf (or_lt256 hg (bit1_lt (by omega))) (and_comm0 (or1_and (and_comm0 hdj) (by have q := newL_not hnl; rw [Nat.testBit_or, Bool.or_eq_false_iff] at q; exact q.1))) (fun w => absurd (or3 (c := 0) w).2 or_ne) hgo.2 (fun i hi1 hi2 => by rw [hM_25, mup_n (by omega)]; exact hfr i hi1 hi2) F_26 F_27 F_28
                · exact absurd c_23 (by omega)
              · exact absurd c_22 (by omega)
      · have h97 := of_decide_eq_true c_1
        have hnB : newL (cAt tx s) 65 (f ||| g) = false := by unfold newL; rw [decide_eq_false (by omega)]; rfl
        refine v_iload X 0 dX8_readClause_31 rfl ?_
        refine v_bipush X (v := nI 97) (by decide) dX8_readClause_33 ?_
        refine v_subN X (by omega) dX8_readClause_35 ?_
        refine v_goto X 64 dX8_readClause_36 (by decide) ?_
        refine v_istore X [(5, .int (nI ((cAt tx s) - 97))), (4, .int (nI (cAt tx s))), (0, .ref (ad k 93)), (1, .int (nI f)), (2, .int (nI g)), (3, .int (bI true))] dX8_readClause_64 (by decide) rfl ?_
        refine v_iload X 0 dX8_readClause_66 rfl ?_
        refine v_bipush X (v := (-9)) (by decide) dX8_readClause_68 ?_
        refine v_icmp_eq X 88 dX8_readClause_70 (by decide) (fun c_29 => ?_) (fun c_29 => ?_)
        · exact absurd c_29 (nI_ne_m9 (by omega))
        · refine v_iload_n X 3 dX8_readClause_73 rfl ?_
          refine v_iload_n X 4 dX8_readClause_74 rfl ?_
          refine v_orN X dX8_readClause_75 ?_
          refine v_iload X 0 dX8_readClause_76 rfl ?_
          refine v_callS X hCl hCR (c_X8_has l k M1 (f ||| g) ((cAt tx s) - 97) (by omega) (by omega)) mo_X8_has m_460 m_463 m_464 m_465 (by decide) rfl rfl (Nat.le_of_ble_eq_true rfl) ⟨rfl, rfl⟩ ⟨by decide, by decide⟩ dX8_readClause_78 (vP_in ?_)
          refine v_ineB X 88 dX8_readClause_81 (by decide) (fun c_30 => ?_) (fun c_30 => ?_)
          · have hnA : newL (cAt tx s) 97 (f ||| g) = false := by unfold newL; rw [c_30]; simp
            refine v_iconst X (v := bI false) (by decide) dX8_readClause_88 ?_
            refine v_istore_n X [(3, .int (bI false)), (5, .int (nI ((cAt tx s) - 97))), (4, .int (nI (cAt tx s))), (0, .ref (ad k 93)), (1, .int (nI f)), (2, .int (nI g))] dX8_readClause_89 (by decide) rfl ?_
            refine v_iload_n X 0 dX8_readClause_90 rfl ?_
            refine v_ieqB X 140 dX8_readClause_91 (by decide) (fun _ => ?_) (fun h => absurd h (by decide))
            refine v_goto X 6 dX8_readClause_140 (by decide) ?_
            refine v_iload_n X 0 dX8_readClause_6 rfl ?_
            refine v_ieqB X 143 dX8_readClause_7 (by decide) (fun _ => ?_) (fun h => absurd h (by decide))
            refine v_aload_n X 3 dX8_readClause_143 rfl ?_
            refine v_get X cls8 F0 (by omega) 22 (by decide) m_454 rfl rfl dX8_readClause_144 ?_
            refine v_iconst X (v := nI 0) (by decide) dX8_readClause_147 ?_
            refine v_iload_n X 4 dX8_readClause_148 rfl ?_
            refine v_iload_n X 5 dX8_readClause_149 rfl ?_
            refine v_callS X hCl hCR (c_X8_addTo l k M1 104 rd 0 f g (by omega) F2 (by rw [hrd.1]; exact hl)) mo_X8_addTo m_471 m_520 m_521 m_465 (by decide) rfl rfl (Nat.le_of_ble_eq_true rfl) ⟨rfl, rfl⟩ ⟨by decide, by decide⟩ dX8_readClause_150 (vV_in (fun M_31 hp_32 => ?_))
            obtain ⟨F_34, hfr_33⟩ := hp_32
            have F_35 : M_31 103 = IR k 90 sc := by rw [hfr_33 103 (by omega)]; exact F1
            have F_36 : M_31 93 = RO k rf ac nx as ts tz lv cf lp ln tx.length s lc so := by rw [hfr_33 93 (by omega)]; exact F0
            refine v_iload_n X 4 dX8_readClause_153 rfl ?_
            refine v_iload_n X 5 dX8_readClause_154 rfl ?_
            refine v_orN X dX8_readClause_155 ?_
            refine v_ieqN X 172 (by omega) dX8_readClause_156 (by decide) (fun c_37 => ?_) (fun c_37 => ?_)
            · have hno := rc_no hR4 hsl hl (fun w => ⟨by have := (hz w).1; omega, (hz w).2⟩) hnA hnB (fun w => w.1 c_37)
              refine v_iconst X (v := bI false) (by decide) dX8_readClause_172 ?_
              exact v_iret X rq ⟨by decide, by decide⟩ (narZ _) dX8_readClause_173 ⟨_, rfl, s, addF rd 0 f g, F_36, F_34, by omega, (Or.inr ⟨rfl, hno⟩), (fun i hi1 hi2 => by rw [hfr_33 i (by omega)]; exact hfr i hi1 hi2)⟩
            · have hf0 := c_37
              refine v_aload_n X 3 dX8_readClause_159 rfl ?_
              refine v_callV X hCl hCR (c_X8_character l k M_31 rf ac nx as ts tz lv cf lp ln s lc so tx sc (by omega) F_36 F_35 hS (by omega) (by omega)) cls8 ⟨_, F_36⟩ (by omega) mo_X8_character m_512 m_517 m_518 m_519 m_465 (by decide) rfl rfl (Nat.le_of_ble_eq_true rfl) ⟨rfl, rfl⟩ ⟨by decide, by decide⟩ dX8_readClause_160 (vP_in ?_)
              refine v_bipush X (v := nI 59) (by decide) dX8_readClause_163 ?_
              refine v_cneN X 172 (by omega) (by omega) dX8_readClause_165 (by decide) (fun c_38 => ?_) (fun c_38 => ?_)
              · have hno := rc_no hR4 hsl hl (fun w => ⟨by have := (hz w).1; omega, (hz w).2⟩) hnA hnB (fun w => c_38 w.2)
                refine v_iconst X (v := bI false) (by decide) dX8_readClause_172 ?_
                exact v_iret X rq ⟨by decide, by decide⟩ (narZ _) dX8_readClause_173 ⟨_, rfl, s, addF rd 0 f g, F_36, F_34, by omega, (Or.inr ⟨rfl, hno⟩), (fun i hi1 hi2 => by rw [hfr_33 i (by omega)]; exact hfr i hi1 hi2)⟩
              · obtain ⟨hs3, hR5⟩ := rc_yes hR4 hf0 c_38
                refine v_iconst X (v := bI true) (by decide) dX8_readClause_168 ?_
                refine v_goto X 173 dX8_readClause_169 (by decide) ?_
                exact v_iret X rq ⟨by decide, by decide⟩ (narZ _) dX8_readClause_173 ⟨_, rfl, s, addF rd 0 f g, F_36, F_34, by omega, (Or.inl ⟨rfl, hs3, xClause f g, xOK_clause hf hg hdj, (by have q := addF_ok hrd hl (show xClause f g < 131072 by have := xClause_lt hf hg; omega); rw [xPar_clause hf hg, xFirst_clause hf, xSecond_clause hf hg] at q; exact q), hR5⟩), (fun i hi1 hi2 => by rw [hfr_33 i (by omega)]; exact hfr i hi1 hi2)⟩
          · have hnl : newL (cAt tx s) 97 (f ||| g) = true := by unfold newL; rw [c_30, decide_eq_true (by omega)]; rfl
            have hgo := rc_a hR4 hl (fun w => (hz w).2) hnl
            refine v_iconst X (v := bI true) (by decide) dX8_readClause_84 ?_
            refine v_goto X 89 dX8_readClause_85 (by decide) ?_
            refine v_istore_n X [(3, .int (bI true)), (5, .int (nI ((cAt tx s) - 97))), (4, .int (nI (cAt tx s))), (0, .ref (ad k 93)), (1, .int (nI f)), (2, .int (nI g))] dX8_readClause_89 (by decide) rfl ?_
            refine v_iload_n X 0 dX8_readClause_90 rfl ?_
            refine v_ieqB X 140 dX8_readClause_91 (by decide) (fun h => absurd h (by decide)) (fun _ => ?_)
            refine v_iload_n X 4 dX8_readClause_94 rfl ?_
            refine v_iload X 2 dX8_readClause_95 rfl ?_
            refine v_bipush X (v := nI 97) (by decide) dX8_readClause_97 ?_
            refine v_cltN X 109 (by omega) (by omega) dX8_readClause_99 (by decide) (fun c_39 => ?_) (fun c_39 => ?_)
            · exact absurd c_39 (by omega)
            · refine v_iconst X (v := nI 1) (by decide) dX8_readClause_102 ?_
              refine v_iload X 1 dX8_readClause_103 rfl ?_
              refine v_shlN X (by omega) dX8_readClause_105 ?_
              refine v_goto X 110 dX8_readClause_106 (by decide) ?_
              refine v_orN X dX8_readClause_110 ?_
              refine v_istore_n X [(1, .int (nI (f ||| (1 <<< ((cAt tx s) - 97))))), (3, .int (bI true)), (5, .int (nI ((cAt tx s) - 97))), (4, .int (nI (cAt tx s))), (0, .ref (ad k 93)), (2, .int (nI g))] dX8_readClause_111 (by decide) rfl ?_
              refine v_iload_n X 5 dX8_readClause_112 rfl ?_
              refine v_iload X 3 dX8_readClause_113 rfl ?_
              refine v_bipush X (v := nI 97) (by decide) dX8_readClause_115 ?_
              refine v_cltN X 124 (by omega) (by omega) dX8_readClause_117 (by decide) (fun c_40 => ?_) (fun c_40 => ?_)
              · exact absurd c_40 (by omega)
              · refine v_iconst X (v := nI 0) (by decide) dX8_readClause_120 ?_
                refine v_goto X 128 dX8_readClause_121 (by decide) ?_
                refine v_orN X dX8_readClause_128 ?_
                refine v_top (show (Value.int (nI (g ||| 0)) : Value) = .int (nI g) from congrArg _ (by rw [Nat.or_zero])) ?_
                refine v_istore_n X [(2, .int (nI g)), (1, .int (nI (f ||| (1 <<< ((cAt tx s) - 97))))), (3, .int (bI true)), (5, .int (nI ((cAt tx s) - 97))), (4, .int (nI (cAt tx s))), (0, .ref (ad k 93))] dX8_readClause_129 (by decide) rfl ?_
                refine v_aload_n X 5 dX8_readClause_130 rfl ?_
                refine v_dup X rfl dX8_readClause_131 ?_
                refine v_get X cls8 F0 (by omega) 21 (by decide) m_513 rfl rfl dX8_readClause_132 ?_
                refine v_iconst X (v := nI 1) (by decide) dX8_readClause_135 ?_
                refine v_addN X dX8_readClause_136 ?_
                refine v_put X cls8 F0 (by omega) 21 (by decide) m_513 rfl rfl rfl rfl (Nat.le_of_ble_eq_true rfl) dX8_readClause_137 (fun M_41 hM_42 => ?_)
                have F_43 : M_41 103 = IR k 90 sc := by rw [hM_42, mup_n (by omega)]; exact F1
                have F_44 : M_41 104 = IR k 82 rd := by rw [hM_42, mup_n (by omega)]; exact F2
                have F_45 : M_41 93 = RO k rf ac nx as ts tz lv cf lp ln tx.length (s + 1) lc so := by rw [hM_42]; exact mup_s
                refine v_goto X 6 dX8_readClause_140 (by decide) ?_
                refine v_lv [5, 1, 0, 2] rfl ?_
                exact ih (s + 1) (f ||| (1 <<< ((cAt tx s) - 97))) (g) M_41 (by omega) (by omega) (by omega) (or_lt256 hf (bit1_lt (by omega))) hg (or1_and hdj (by have q := newL_not hnl; rw [Nat.testBit_or, Bool.or_eq_false_iff] at q; exact q.2)) (fun w => absurd (or3 (c := 0) w).1 or_ne) hgo.2 (fun i hi1 hi2 => by rw [hM_42, mup_n (by omega)]; exact hfr i hi1 hi2) F_43 F_44 F_45
  refine v_lv [3, 2, 1, 0] rfl ?_
  exact L 91 sp 0 0 M (by omega) (by omega) (by omega) (by decide) (by decide) rfl (fun _ => ⟨rfl, hc61⟩) hR (fun _ _ _ => rfl) F1 F2 F0
