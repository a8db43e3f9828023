set_option maxHeartbeats 4000000 in
set_option maxRecDepth 100000 in
theorem c_X6_assign (l : Launch) (k : KX) (M : Mem) (b n A T tl bl : Nat) (cf : Option Nat) (o lv : Nat → Nat) (rs : Nat → Option Nat) (v : Nat) (t : Bool) (r : Option Nat) (hN : b + 4 ≤ kN k) (F0 : M b = .inr (6, [.ref (ad k (b + 1)), .ref (ad k (b + 2)), .ref (ad k (b + 3)), .int (nI n), .int (nI A), .int (nI T), .int (nI tl), .int (nI bl), .int (oI cf)])) (F1 : M (b + 1) = .inl (kI k, 8, .inl (fun zq => nI (o zq)))) (F2 : M (b + 2) = .inl (kI k, 8, .inl (fun zq => nI (lv zq)))) (F3 : M (b + 3) = .inl (kI k, 8, .inl (fun zq => oI (rs zq)))) (hv : v < 8) (hn : n < 8) : CM l yX6_assign cX6_assign 4 none { frames := 1, cells := 0, slots := 0, locals := 20 } k [.ref (ad k b), .int (nI v), .int (bI t), .int (oI r)] M (pV (fun M' => (M' b = .inr (6, [.ref (ad k (b + 1)), .ref (ad k (b + 2)), .ref (ad k (b + 3)), .int (nI (n + 1)), .int (nI (A ||| 1 <<< v)), .int (nI (if t then T ||| 1 <<< v else T)), .int (nI tl), .int (nI bl), .int (oI cf)]) ∧ M' (b + 1) = .inl (kI k, 8, .inl (fun zq => nI (va_up o n v zq))) ∧ M' (b + 2) = .inl (kI k, 8, .inl (fun zq => nI (va_up lv v tl zq))) ∧ M' (b + 3) = .inl (kI k, 8, .inl (fun zq => oI (va_up rs v r zq)))) ∧ Fr b 4 M M')) := by
  refine CM.of (by decide) (Nat.le_of_ble_eq_true rfl) (fun C X hCl hCR rq => ?_)
  show V C k 4 (0, 0) M 0 [(0, .ref (ad k b)), (1, .int (nI v)), (2, .int (bI t)), (3, .int (oI r))] []
  refine v_iload_n X 1 dX6_assign_0 rfl ?_
  refine v_callSN X hCl hCR (c_X7_isVariable l k M (nI v)) mo_X7_isVariable m_25 nw_29 m_29 m_21 (by decide) rfl rfl (Nat.le_of_ble_eq_true rfl) ⟨rfl, rfl⟩ ⟨by decide, by decide⟩ dX6_assign_1 (vP_in ?_)
  refine v_ieqB X 16 dX6_assign_4 (by decide) (fun c_1 => ?_) (fun c_1 => ?_)
  · exact absurd c_1 (by rw [inL_n (by omega) (by decide)]; simp; exact hv)
  · refine v_aload_n X 0 dX6_assign_7 rfl ?_
    refine v_get X cls6 F0 (by omega) 3 (by decide) m_190 rfl rfl dX6_assign_8 ?_
    refine v_bipush X (v := nI 8) (by decide) dX6_assign_11 ?_
    refine v_cltN X 17 (by omega) (by omega) dX6_assign_13 (by decide) (fun c_2 => ?_) (fun c_2 => ?_)
    · refine v_aload_n X 0 dX6_assign_17 rfl ?_
      refine v_get X cls6 F0 (by omega) 0 (by decide) m_187 rfl rfl dX6_assign_18 ?_
      refine v_aload_n X 0 dX6_assign_21 rfl ?_
      refine v_get X cls6 F0 (by omega) 3 (by decide) m_190 rfl rfl dX6_assign_22 ?_
      refine v_iload_n X 1 dX6_assign_25 rfl ?_
      refine v_iast X nI v F1 (by omega) (by omega) (by decide) dX6_assign_26 (fun M_3 hM_4 => ?_)
      have F_6 : M_3 b = .inr (6, [.ref (ad k (b + 1)), .ref (ad k (b + 2)), .ref (ad k (b + 3)), .int (nI n), .int (nI A), .int (nI T), .int (nI tl), .int (nI bl), .int (oI cf)]) := by rw [hM_4, mup_n (by omega)]; exact F0
      have F_7 : M_3 (b + 1) = .inl (kI k, 8, .inl (fun zq => nI (va_up o n v zq))) := by rw [hM_4]; exact mup_s
      have F_8 : M_3 (b + 2) = .inl (kI k, 8, .inl (fun zq => nI (lv zq))) := by rw [hM_4, mup_n (by omega)]; exact F2
      have F_9 : M_3 (b + 3) = .inl (kI k, 8, .inl (fun zq => oI (rs zq))) := by rw [hM_4, mup_n (by omega)]; exact F3
      refine v_aload_n X 0 dX6_assign_27 rfl ?_
      refine v_dup X rfl dX6_assign_28 ?_
      refine v_get X cls6 F_6 (by omega) 3 (by decide) m_190 rfl rfl dX6_assign_29 ?_
      refine v_iconst X (v := nI 1) (by decide) dX6_assign_32 ?_
      refine v_addN X dX6_assign_33 ?_
      refine v_put X cls6 F_6 (by omega) 3 (by decide) m_190 rfl rfl rfl rfl (Nat.le_of_ble_eq_true rfl) dX6_assign_34 (fun M_10 hM_11 => ?_)
      have F_12 : M_10 b = .inr (6, [.ref (ad k (b + 1)), .ref (ad k (b + 2)), .ref (ad k (b + 3)), .int (nI (n + 1)), .int (nI A), .int (nI T), .int (nI tl), .int (nI bl), .int (oI cf)]) := by rw [hM_11]; exact mup_s
      have F_13 : M_10 (b + 1) = .inl (kI k, 8, .inl (fun zq => nI (va_up o n v zq))) := by rw [hM_11, mup_n (by omega)]; exact F_7
      have F_14 : M_10 (b + 2) = .inl (kI k, 8, .inl (fun zq => nI (lv zq))) := by rw [hM_11, mup_n (by omega)]; exact F_8
      have F_15 : M_10 (b + 3) = .inl (kI k, 8, .inl (fun zq => oI (rs zq))) := by rw [hM_11, mup_n (by omega)]; exact F_9
      refine v_aload_n X 0 dX6_assign_37 rfl ?_
      refine v_get X cls6 F_12 (by omega) 1 (by decide) m_188 rfl rfl dX6_assign_38 ?_
      refine v_iload_n X 1 dX6_assign_41 rfl ?_
      refine v_aload_n X 0 dX6_assign_42 rfl ?_
      refine v_get X cls6 F_12 (by omega) 6 (by decide) m_193 rfl rfl dX6_assign_43 ?_
      refine v_iast X nI tl F_14 (by omega) (by omega) (by decide) dX6_assign_46 (fun M_16 hM_17 => ?_)
      have F_19 : M_16 b = .inr (6, [.ref (ad k (b + 1)), .ref (ad k (b + 2)), .ref (ad k (b + 3)), .int (nI (n + 1)), .int (nI A), .int (nI T), .int (nI tl), .int (nI bl), .int (oI cf)]) := by rw [hM_17, mup_n (by omega)]; exact F_12
      have F_20 : M_16 (b + 1) = .inl (kI k, 8, .inl (fun zq => nI (va_up o n v zq))) := by rw [hM_17, mup_n (by omega)]; exact F_13
      have F_21 : M_16 (b + 2) = .inl (kI k, 8, .inl (fun zq => nI (va_up lv v tl zq))) := by rw [hM_17]; exact mup_s
      have F_22 : M_16 (b + 3) = .inl (kI k, 8, .inl (fun zq => oI (rs zq))) := by rw [hM_17, mup_n (by omega)]; exact F_15
      refine v_aload_n X 0 dX6_assign_47 rfl ?_
      refine v_get X cls6 F_19 (by omega) 2 (by decide) m_189 rfl rfl dX6_assign_48 ?_
      refine v_iload_n X 1 dX6_assign_51 rfl ?_
      refine v_iload_n X 3 dX6_assign_52 rfl ?_
      refine v_iast X oI r F_22 (by omega) (by omega) (by decide) dX6_assign_53 (fun M_23 hM_24 => ?_)
      have F_26 : M_23 b = .inr (6, [.ref (ad k (b + 1)), .ref (ad k (b + 2)), .ref (ad k (b + 3)), .int (nI (n + 1)), .int (nI A), .int (nI T), .int (nI tl), .int (nI bl), .int (oI cf)]) := by rw [hM_24, mup_n (by omega)]; exact F_19
      have F_27 : M_23 (b + 1) = .inl (kI k, 8, .inl (fun zq => nI (va_up o n v zq))) := by rw [hM_24, mup_n (by omega)]; exact F_20
      have F_28 : M_23 (b + 2) = .inl (kI k, 8, .inl (fun zq => nI (va_up lv v tl zq))) := by rw [hM_24, mup_n (by omega)]; exact F_21
      have F_29 : M_23 (b + 3) = .inl (kI k, 8, .inl (fun zq => oI (va_up rs v r zq))) := by rw [hM_24]; exact mup_s
      refine v_aload_n X 0 dX6_assign_54 rfl ?_
      refine v_dup X rfl dX6_assign_55 ?_
      refine v_get X cls6 F_26 (by omega) 4 (by decide) m_191 rfl rfl dX6_assign_56 ?_
      refine v_iconst X (v := nI 1) (by decide) dX6_assign_59 ?_
      refine v_iload_n X 1 dX6_assign_60 rfl ?_
      refine v_shlN X (by omega) dX6_assign_61 ?_
      refine v_orN X dX6_assign_62 ?_
      refine v_put X cls6 F_26 (by omega) 4 (by decide) m_191 rfl rfl rfl rfl (Nat.le_of_ble_eq_true rfl) dX6_assign_63 (fun M_30 hM_31 => ?_)
      have F_32 : M_30 b = .inr (6, [.ref (ad k (b + 1)), .ref (ad k (b + 2)), .ref (ad k (b + 3)), .int (nI (n + 1)), .int (nI (A ||| (1 <<< v))), .int (nI T), .int (nI tl), .int (nI bl), .int (oI cf)]) := by rw [hM_31]; exact mup_s
      have F_33 : M_30 (b + 1) = .inl (kI k, 8, .inl (fun zq => nI (va_up o n v zq))) := by rw [hM_31, mup_n (by omega)]; exact F_27
      have F_34 : M_30 (b + 2) = .inl (kI k, 8, .inl (fun zq => nI (va_up lv v tl zq))) := by rw [hM_31, mup_n (by omega)]; exact F_28
      have F_35 : M_30 (b + 3) = .inl (kI k, 8, .inl (fun zq => oI (va_up rs v r zq))) := by rw [hM_31, mup_n (by omega)]; exact F_29
      refine v_iload_n X 2 dX6_assign_66 rfl ?_
      refine v_ieqB X 82 dX6_assign_67 (by decide) (fun c_36 => ?_) (fun c_36 => ?_)
      · have ht := c_36
        exact v_vret X rq ⟨by decide, by decide⟩ dX6_assign_82 ⟨rfl, ⟨F_32.trans (by rw [ht]; rfl), F_33, F_34, F_35⟩, (fun i hi => by rw [hM_31, mup_n (by omega), hM_24, mup_n (by omega), hM_17, mup_n (by omega), hM_11, mup_n (by omega), hM_4, mup_n (by omega)])⟩
      · have ht := c_36
        refine v_aload_n X 0 dX6_assign_70 rfl ?_
        refine v_dup X rfl dX6_assign_71 ?_
        refine v_get X cls6 F_32 (by omega) 5 (by decide) m_192 rfl rfl dX6_assign_72 ?_
        refine v_iconst X (v := nI 1) (by decide) dX6_assign_75 ?_
        refine v_iload_n X 1 dX6_assign_76 rfl ?_
        refine v_shlN X (by omega) dX6_assign_77 ?_
        refine v_orN X dX6_assign_78 ?_
        refine v_put X cls6 F_32 (by omega) 5 (by decide) m_192 rfl rfl rfl rfl (Nat.le_of_ble_eq_true rfl) dX6_assign_79 (fun M_37 hM_38 => ?_)
        have F_39 : M_37 b = .inr (6, [.ref (ad k (b + 1)), .ref (ad k (b + 2)), .ref (ad k (b + 3)), .int (nI (n + 1)), .int (nI (A ||| (1 <<< v))), .int (nI (T ||| (1 <<< v))), .int (nI tl), .int (nI bl), .int (oI cf)]) := by rw [hM_38]; exact mup_s
        have F_40 : M_37 (b + 1) = .inl (kI k, 8, .inl (fun zq => nI (va_up o n v zq))) := by rw [hM_38, mup_n (by omega)]; exact F_33
        have F_41 : M_37 (b + 2) = .inl (kI k, 8, .inl (fun zq => nI (va_up lv v tl zq))) := by rw [hM_38, mup_n (by omega)]; exact F_34
        have F_42 : M_37 (b + 3) = .inl (kI k, 8, .inl (fun zq => oI (va_up rs v r zq))) := by rw [hM_38, mup_n (by omega)]; exact F_35
        exact v_vret X rq ⟨by decide, by decide⟩ dX6_assign_82 ⟨rfl, ⟨F_39.trans (by rw [ht]; rfl), F_40, F_41, F_42⟩, (fun i hi => by rw [hM_38, mup_n (by omega), hM_31, mup_n (by omega), hM_24, mup_n (by omega), hM_17, mup_n (by omega), hM_11, mup_n (by omega), hM_4, mup_n (by omega)])⟩
    · exact absurd c_2 (by omega)
set_option maxHeartbeats 4000000 in
set_option maxRecDepth 100000 in
theorem c_X6_allows (l : Launch) (k : KX) (M : Mem) (b : Nat) (tr : List Ent) (cf : Option Nat) (d : Nat) (hT : TrAt k M b tr cf) (hd : d < 16) : CM l yX6_allows cX6_allows 2 ((some .boolean)) { frames := 2, cells := 0, slots := 0, locals := 42 } k [.ref (ad k b), .int (nI d)] M (pP (.int (bI (okDec (tr, cf) d))) M) := by
  refine CM.of (by decide) (Nat.le_of_ble_eq_true rfl) (fun C X hCl hCR rq => ?_)
  show V C k 2 (0, 0) M 0 [(0, .ref (ad k b)), (1, .int (nI d))] []
  obtain ⟨hN, hk, hc, o, lv, rs, F0, F1, F2, F3, ho, hv⟩ := id hT
  have hA := hk.A
  have hTT := hk.T
  have hBB := hk.B
  have hlen := hk.le
  have htL := tL_le tr
  refine v_aload_n X 0 dX6_allows_0 rfl ?_
  refine v_get X cls6 F0 (by omega) 8 (by decide) m_195 rfl rfl dX6_allows_1 ?_
  refine v_bipush X (v := (-9)) (by decide) dX6_allows_4 ?_
  refine v_icmp_ne X 24 dX6_allows_6 (by decide) (fun c_1 => ?_) (fun c_1 => ?_)
  · have e6 : ¬ cf = none := fun q => c_1 (by rw [q]; rfl)
    refine v_iconst X (v := bI false) (by decide) dX6_allows_24 ?_
    exact v_iret X rq ⟨by decide, by decide⟩ (narZ _) dX6_allows_25 (pP_i (by simp [okDec, e6]))
  · have e6 : cf = none := (oI_eq (fun n hn => by have := hc n hn; omega)).mp c_1
    refine v_aload_n X 0 dX6_allows_9 rfl ?_
    refine v_iload_n X 1 dX6_allows_10 rfl ?_
    refine v_callSN X hCl hCR (c_X7_variableOf l k M d (by omega)) mo_X7_variableOf m_206 nw_30 m_209 m_21 (by decide) rfl rfl (Nat.le_of_ble_eq_true rfl) ⟨rfl, rfl⟩ ⟨by decide, by decide⟩ dX6_allows_11 (vP_in ?_)
    refine v_callV X hCl hCR (c_X6_isAssigned l k M b tr cf (d / 2) hT (by omega)) cls6 ⟨_, F0⟩ (by omega) mo_X6_isAssigned m_207 m_210 m_211 m_212 m_204 (by decide) rfl rfl (Nat.le_of_ble_eq_true rfl) ⟨rfl, rfl⟩ ⟨by decide, by decide⟩ dX6_allows_14 (vP_in ?_)
    refine v_ineB X 24 dX6_allows_17 (by decide) (fun c_2 => ?_) (fun c_2 => ?_)
    · have e17 := c_2
      refine v_iconst X (v := bI false) (by decide) dX6_allows_24 ?_
      exact v_iret X rq ⟨by decide, by decide⟩ (narZ _) dX6_allows_25 (pP_i (by simp [okDec, e6, e17]))
    · have e17 := c_2
      refine v_iconst X (v := bI true) (by decide) dX6_allows_20 ?_
      refine v_goto X 25 dX6_allows_21 (by decide) ?_
      exact v_iret X rq ⟨by decide, by decide⟩ (narZ _) dX6_allows_25 (pP_i (by simp [okDec, e6, e17]))
set_option maxHeartbeats 4000000 in
set_option maxRecDepth 100000 in
theorem c_X6_startLevel (l : Launch) (k : KX) (M : Mem) (b : Nat) (tr : List Ent) (cf : Option Nat) (d : Nat) (hT : TrAt k M b tr cf) (hd : d < 16) (hfree : (tA tr).testBit (d / 2) = false) : CM l yX6_startLevel cX6_startLevel 3 none { frames := 2, cells := 0, slots := 0, locals := 43 } k [.ref (ad k b), .int (nI d)] M (pV (fun M' => TrAt k M' b ((d / 2, decide (d % 2 = 0), none) :: tr) cf ∧ Fr b 4 M M')) := by
  refine CM.of (by decide) (Nat.le_of_ble_eq_true rfl) (fun C X hCl hCR rq => ?_)
  show V C k 3 (0, 0) M 0 [(0, .ref (ad k b)), (1, .int (nI d))] []
  obtain ⟨hN, hk, hc, o, lv, rs, F0, F1, F2, F3, ho, hv⟩ := id hT
  have hA := hk.A
  have hTT := hk.T
  have hBB := hk.B
  have hlen := hk.le
  have htL := tL_le tr
  have hd2 : d / 2 < 8 := by omega
  refine v_aload_n X 0 dX6_startLevel_0 rfl ?_
  refine v_aload_n X 0 dX6_startLevel_1 rfl ?_
  refine v_get X cls6 F0 (by omega) 4 (by decide) m_191 rfl rfl dX6_startLevel_2 ?_
  refine v_put X cls6 F0 (by omega) 7 (by decide) m_194 rfl rfl rfl rfl (Nat.le_of_ble_eq_true rfl) dX6_startLevel_5 (fun M_1 hM_2 => ?_)
  have F_3 : M_1 b = .inr (6, [.ref (ad k (b + 1)), .ref (ad k (b + 2)), .ref (ad k (b + 3)), .int (nI tr.length), .int (nI (tA tr)), .int (nI (tT tr)), .int (nI (tL tr)), .int (nI (tA tr)), .int (oI cf)]) := by rw [hM_2]; exact mup_s
  have F_4 : M_1 (b + 1) = .inl (kI k, 8, .inl (fun zq => nI (o zq))) := by rw [hM_2, mup_n (by omega)]; exact F1
  have F_5 : M_1 (b + 2) = .inl (kI k, 8, .inl (fun zq => nI (lv zq))) := by rw [hM_2, mup_n (by omega)]; exact F2
  have F_6 : M_1 (b + 3) = .inl (kI k, 8, .inl (fun zq => oI (rs zq))) := by rw [hM_2, mup_n (by omega)]; exact F3
  refine v_aload_n X 0 dX6_startLevel_8 rfl ?_
  refine v_dup X rfl dX6_startLevel_9 ?_
  refine v_get X cls6 F_3 (by omega) 6 (by decide) m_193 rfl rfl dX6_startLevel_10 ?_
  refine v_iconst X (v := nI 1) (by decide) dX6_startLevel_13 ?_
  refine v_addN X dX6_startLevel_14 ?_
  refine v_put X cls6 F_3 (by omega) 6 (by decide) m_193 rfl rfl rfl rfl (Nat.le_of_ble_eq_true rfl) dX6_startLevel_15 (fun M_7 hM_8 => ?_)
  have F_9 : M_7 b = .inr (6, [.ref (ad k (b + 1)), .ref (ad k (b + 2)), .ref (ad k (b + 3)), .int (nI tr.length), .int (nI (tA tr)), .int (nI (tT tr)), .int (nI ((tL tr) + 1)), .int (nI (tA tr)), .int (oI cf)]) := by rw [hM_8]; exact mup_s
  have F_10 : M_7 (b + 1) = .inl (kI k, 8, .inl (fun zq => nI (o zq))) := by rw [hM_8, mup_n (by omega)]; exact F_4
  have F_11 : M_7 (b + 2) = .inl (kI k, 8, .inl (fun zq => nI (lv zq))) := by rw [hM_8, mup_n (by omega)]; exact F_5
  have F_12 : M_7 (b + 3) = .inl (kI k, 8, .inl (fun zq => oI (rs zq))) := by rw [hM_8, mup_n (by omega)]; exact F_6
  refine v_iload_n X 1 dX6_startLevel_18 rfl ?_
  refine v_callSN X hCl hCR (c_X7_variableOf l k M_7 d (by omega)) mo_X7_variableOf m_206 nw_30 m_209 m_21 (by decide) rfl rfl (Nat.le_of_ble_eq_true rfl) ⟨rfl, rfl⟩ ⟨by decide, by decide⟩ dX6_startLevel_19 (vP_in ?_)
  refine v_istore_n X [(2, .int (nI (d / 2))), (0, .ref (ad k b)), (1, .int (nI d))] dX6_startLevel_22 (by decide) rfl ?_
  refine v_aload_n X 1 dX6_startLevel_23 rfl ?_
  refine v_iload_n X 0 dX6_startLevel_24 rfl ?_
  refine v_iload_n X 2 dX6_startLevel_25 rfl ?_
  refine v_iload_n X 0 dX6_startLevel_26 rfl ?_
  refine v_iconst X (v := bI true) (by decide) dX6_startLevel_27 ?_
  refine v_callSN X hCl hCR (c_X7_literalOf l k M_7 (d / 2) true) mo_X7_literalOf m_213 nw_32 m_215 m_21 (by decide) rfl rfl (Nat.le_of_ble_eq_true rfl) ⟨rfl, rfl⟩ ⟨by decide, by decide⟩ dX6_startLevel_28 (vP_in ?_)
  refine v_cneN X 38 (by omega) (by simp; omega) dX6_startLevel_31 (by decide) (fun c_13 => ?_) (fun c_13 => ?_)
  · have hdd : decide (d % 2 = 0) = false := decide_eq_false (fun q => c_13 (by simp; omega))
    refine v_iconst X (v := bI false) (by decide) dX6_startLevel_38 ?_
    refine v_bipush X (v := oI none) (by decide) dX6_startLevel_39 ?_
    refine v_callV X hCl hCR (c_X6_assign l k M_7 b tr.length (tA tr) (tT tr) ((tL tr) + 1) (tA tr) cf o lv rs (d / 2) false none (by omega) F_9 F_10 F_11 F_12 hd2 (hk.lt hd2 hfree)) cls6 ⟨_, F_9⟩ (by omega) mo_X6_assign m_196 m_201 m_202 m_203 m_204 (by decide) rfl rfl (Nat.le_of_ble_eq_true rfl) ⟨rfl, rfl⟩ ⟨by decide, by decide⟩ dX6_startLevel_41 (vV_in (fun M_14 hp_15 => ?_))
    obtain ⟨⟨F_17, F_18, F_19, F_20⟩, hfr_16⟩ := hp_15
    exact v_vret X rq ⟨by decide, by decide⟩ dX6_startLevel_44 ⟨rfl, by rw [hdd]; exact TrAt.push hN hk hc ho hv hd2 hfree (fun n h => by cases h) rfl rfl rfl rfl rfl F_17 F_18 F_19 F_20, (fun i hi => by rw [hfr_16 i (by omega), hM_8, mup_n (by omega), hM_2, mup_n (by omega)])⟩
  · have hdd : decide (d % 2 = 0) = true := decide_eq_true (by simp at c_13; omega)
    refine v_iconst X (v := bI true) (by decide) dX6_startLevel_34 ?_
    refine v_goto X 39 dX6_startLevel_35 (by decide) ?_
    refine v_bipush X (v := oI none) (by decide) dX6_startLevel_39 ?_
    refine v_callV X hCl hCR (c_X6_assign l k M_7 b tr.length (tA tr) (tT tr) ((tL tr) + 1) (tA tr) cf o lv rs (d / 2) true none (by omega) F_9 F_10 F_11 F_12 hd2 (hk.lt hd2 hfree)) cls6 ⟨_, F_9⟩ (by omega) mo_X6_assign m_196 m_201 m_202 m_203 m_204 (by decide) rfl rfl (Nat.le_of_ble_eq_true rfl) ⟨rfl, rfl⟩ ⟨by decide, by decide⟩ dX6_startLevel_41 (vV_in (fun M_21 hp_22 => ?_))
    obtain ⟨⟨F_24, F_25, F_26, F_27⟩, hfr_23⟩ := hp_22
    exact v_vret X rq ⟨by decide, by decide⟩ dX6_startLevel_44 ⟨rfl, by rw [hdd]; exact TrAt.push hN hk hc ho hv hd2 hfree (fun n h => by cases h) rfl rfl rfl rfl rfl F_24 F_25 F_26 F_27, (fun i hi => by rw [hfr_23 i (by omega), hM_8, mup_n (by omega), hM_2, mup_n (by omega)])⟩
set_option maxHeartbeats 4000000 in
set_option maxRecDepth 100000 in
theorem c_X6_propagate (l : Launch) (k : KX) (M : Mem) (b b2 : Nat) (tr : List Ent) (cs : List Nat) (hT : TrAt k M b tr none) (hF : FmAt k M b2 cs) (ho2 : csOK cs) (hap : b + 4 ≤ b2 ∨ b2 + 2 ≤ b) : CM l yX6_propagate cX6_propagate 6 none { frames := 3, cells := 0, slots := 0, locals := 67 } k [.ref (ad k b), .ref (ad k b2)] M (pV (fun M' => TrAt k M' b (prop cs tr).1 (prop cs tr).2 ∧ Fr b 4 M M')) := by
  refine CM.of (by decide) (Nat.le_of_ble_eq_true rfl) (fun C X hCl hCR rq => ?_)
  show V C k 6 (0, 0) M 0 [(0, .ref (ad k b)), (1, .ref (ad k b2))] []
  have hok := cAt_ok ho2
  have hN2 := hF.1
  have hN1 := hT.1
  have hlc := hF.2.1
  have L : ∀ (fu : Nat) (q : Nat) (t : List Ent) (M1 : Mem), 9 - q < fu → (q ≤ 9) → (propF cs (9 - q) t = prop cs tr) → (Fr b 4 M M1) → TrAt k M1 b t none → FmAt k M1 b2 cs → V C k 6 (0, 0) M1 2 [(0, .ref (ad k b)), (1, .ref (ad k b2)), (2, .int (nI q))] [] := by
    intro fu
    induction fu with
    | zero => intro q t M1 hfu; exact absurd hfu (Nat.not_lt_zero _)
    | succ fu ih =>
      intro q t M1 hfu hq hp hfr hT1 hF1
      refine v_iload_n X 2 dX6_propagate_2 rfl ?_
      refine v_bipush X (v := nI 8) (by decide) dX6_propagate_3 ?_
      refine v_cgtN X 96 (by omega) (by omega) dX6_propagate_5 (by decide) (fun c_1 => ?_) (fun c_1 => ?_)
      · exact v_vret X rq ⟨by decide, by decide⟩ dX6_propagate_96 ⟨rfl, by rw [← prop_end hp (by omega)]; exact hT1, hfr⟩
      · obtain ⟨hN_2, hk_3, hc_4, o_5, lv_6, rs_7, F0_8, F1_9, F2_10, F3_11, ho_12, hv_13⟩ := id hT1
        have hk_3_A := hk_3.A
        have hk_3_T := hk_3.T
        have hk_3_B := hk_3.B
        have hk_3_l := hk_3.le
        have hk_3_L := tL_le t
        refine v_aload_n X 0 dX6_propagate_8 rfl ?_
        refine v_get X cls6 F0_8 (by omega) 8 (by decide) m_195 rfl rfl dX6_propagate_9 ?_
        refine v_bipush X (v := (-9)) (by decide) dX6_propagate_12 ?_
        refine v_icmp_ne X 96 dX6_propagate_14 (by decide) (fun c_14 => ?_) (fun c_14 => ?_)
        · exact absurd rfl c_14
        · refine v_aload_n X 1 dX6_propagate_17 rfl ?_
          refine v_aload_n X 0 dX6_propagate_18 rfl ?_
          refine v_get X cls6 F0_8 (by omega) 4 (by decide) m_191 rfl rfl dX6_propagate_19 ?_
          refine v_aload_n X 0 dX6_propagate_22 rfl ?_
          refine v_get X cls6 F0_8 (by omega) 5 (by decide) m_192 rfl rfl dX6_propagate_23 ?_
          refine v_callV X hCl hCR (c_X1_firstViolatedOrUnit l k M1 b2 cs (tA t) (tT t) hF1 ho2 (by omega)) cls1 hF1.obj (by omega) mo_X1_firstViolatedOrUnit m_62 m_197 m_198 m_199 m_15 (by decide) rfl rfl (Nat.le_of_ble_eq_true rfl) ⟨rfl, rfl⟩ ⟨by decide, by decide⟩ dX6_propagate_26 (vP_in ?_)
          refine v_istore_n X [(3, .int (oI (fstAct cs (tA t) (tT t)))), (0, .ref (ad k b)), (1, .ref (ad k b2)), (2, .int (nI q))] dX6_propagate_29 (by decide) rfl ?_
          refine v_iload_n X 0 dX6_propagate_30 rfl ?_
          refine v_bipush X (v := (-9)) (by decide) dX6_propagate_31 ?_
          refine v_icmp_ne X 37 dX6_propagate_33 (by decide) (fun c_15 => ?_) (fun c_15 => ?_)
          · obtain ⟨i, hi⟩ := Option.ne_none_iff_exists'.mp (fun w => c_15 ((oI_eq (fun n hn => by have := (fstAct_spec hn).1; omega)).mpr w))
            rw [hi]
            have his := (fstAct_spec hi).1
            have hpp := prop_at hp (by omega)
            rw [hi] at hpp
            simp only [] at hpp
            refine v_aload_n X 2 dX6_propagate_37 rfl ?_
            refine v_iload_n X 0 dX6_propagate_38 rfl ?_
            refine v_callV X hCl hCR (c_X1_codeAtN l k M1 b2 cs i hF1 (by omega)) cls1 hF1.obj (by omega) mo_X1_codeAt m_10 m_200 m_32 m_33 m_15 (by decide) rfl rfl (Nat.le_of_ble_eq_true rfl) ⟨rfl, rfl⟩ ⟨by decide, by decide⟩ dX6_propagate_39 (vP_in ?_)
            refine v_istore X [(4, .int (nI (cAt cs i))), (3, .int (nI i)), (0, .ref (ad k b)), (1, .ref (ad k b2)), (2, .int (nI q))] dX6_propagate_42 (by decide) rfl ?_
            refine v_iload X 0 dX6_propagate_44 rfl ?_
            refine v_callSN X hCl hCR (c_X7_variablesOf l k M1 (cAt cs i) (by have := hok i; omega)) mo_X7_variablesOf m_53 nw_26 m_63 m_21 (by decide) rfl rfl (Nat.le_of_ble_eq_true rfl) ⟨rfl, rfl⟩ ⟨by decide, by decide⟩ dX6_propagate_46 (vP_in ?_)
            refine v_aload_n X 2 dX6_propagate_49 rfl ?_
            refine v_get X cls6 F0_8 (by omega) 4 (by decide) m_191 rfl rfl dX6_propagate_50 ?_
            refine v_iconst X (v := nI 4294967295) (by decide) dX6_propagate_53 ?_
            refine v_xorN X dX6_propagate_54 ?_
            refine v_andN X dX6_propagate_55 ?_
            refine v_top (show (Value.int (nI ((xVars (cAt cs i)) &&& ((tA t) ^^^ 4294967295))) : Value) = .int (nI ((mdiff (xVars (cAt cs i)) (tA t)))) from congrArg _ (rfl)) ?_
            refine v_istore X [(5, .int (nI ((mdiff (xVars (cAt cs i)) (tA t))))), (4, .int (nI (cAt cs i))), (3, .int (nI i)), (0, .ref (ad k b)), (1, .ref (ad k b2)), (2, .int (nI q))] dX6_propagate_56 (by decide) rfl ?_
            refine v_iload X 0 dX6_propagate_58 rfl ?_
            refine v_ineN X 71 (by have := mdiff_lt (b := tA t) (xVars_lt (cAt cs i)); omega) dX6_propagate_60 (by decide) (fun c_16 => ?_) (fun c_16 => ?_)
            · rw [if_neg c_16] at hpp
              obtain ⟨ho1, ho2, -⟩ := open_fresh c_16
              have hlo := lowO_low c_16 (mdiff_lt (xVars_lt _))
              refine v_aload_n X 3 dX6_propagate_71 rfl ?_
              refine v_iload X 0 dX6_propagate_72 rfl ?_
              refine v_callSN X hCl hCR (c_X7_smallestVariable l k M1 ((mdiff (xVars (cAt cs i)) (tA t))) (by have := mdiff_lt (b := tA t) (xVars_lt (cAt cs i)); omega)) mo_X7_smallestVariable m_23 nw_27 m_28 m_21 (by decide) rfl rfl (Nat.le_of_ble_eq_true rfl) ⟨rfl, rfl⟩ ⟨by decide, by decide⟩ dX6_propagate_74 (vP_in ?_)
              refine v_top (show (Value.int (oI (lowO ((mdiff (xVars (cAt cs i)) (tA t))))) : Value) = .int (nI (low (mdiff (xVars (cAt cs i)) (tA t)))) from congrArg _ (by rw [hlo]; rfl)) ?_
              refine v_iload X 1 dX6_propagate_77 rfl ?_
              refine v_aload_n X 3 dX6_propagate_79 rfl ?_
              refine v_get X cls6 F0_8 (by omega) 5 (by decide) m_192 rfl rfl dX6_propagate_80 ?_
              refine v_callSN X hCl hCR (c_X7_isViolated l k M1 (cAt cs i) (tT t) (by have := hok i; omega)) mo_X7_isViolated m_58 nw_28 m_65 m_21 (by decide) rfl rfl (Nat.le_of_ble_eq_true rfl) ⟨rfl, rfl⟩ ⟨by decide, by decide⟩ dX6_propagate_83 (vP_in ?_)
              refine v_iload_n X 2 dX6_propagate_86 rfl ?_
              refine v_callV X hCl hCR (c_X6_assign l k M1 b t.length (tA t) (tT t) (tL t) (tB t) none o_5 lv_6 rs_7 (low (mdiff (xVars (cAt cs i)) (tA t))) (xViol (cAt cs i) (tT t)) ((some i)) (by omega) F0_8 F1_9 F2_10 F3_11 ho1 (hT1.2.1.lt ho1 ho2)) cls6 ⟨_, F0_8⟩ (by omega) mo_X6_assign m_196 m_201 m_202 m_203 m_204 (by decide) rfl rfl (Nat.le_of_ble_eq_true rfl) ⟨rfl, rfl⟩ ⟨by decide, by decide⟩ dX6_propagate_87 (vV_in (fun M_17 hp_18 => ?_))
              obtain ⟨⟨F_20, F_21, F_22, F_23⟩, hfr_19⟩ := hp_18
              have P_24 : FmAt k M_17 b2 cs := hF1.fr (fun i h1 h2 => hfr_19 i (by omega))
              refine v_iinc X (v := nI (q + 1)) 5 [(2, .int (nI (q + 1))), (5, .int (nI ((mdiff (xVars (cAt cs i)) (tA t))))), (4, .int (nI (cAt cs i))), (3, .int (nI i)), (0, .ref (ad k b)), (1, .ref (ad k b2))] dX6_propagate_90 rfl (nI_1 _) (by decide) rfl ?_
              refine v_goto X 2 dX6_propagate_93 (by decide) ?_
              have hpush : TrAt k M_17 b ((low (mdiff (xVars (cAt cs i)) (tA t)), xViol (cAt cs i) (tT t), some i) :: t) none := TrAt.push hN_2 hk_3 hc_4 ho_12 hv_13 ho1 ho2 (fun n h => by cases h; omega) rfl rfl rfl rfl rfl F_20 F_21 F_22 F_23
              refine v_lv [4, 5, 0] rfl ?_
              exact ih (q + 1) ((low (mdiff (xVars (cAt cs i)) (tA t)), xViol (cAt cs i) (tT t), some i) :: t) M_17 (by omega) (by omega) (hpp) (fun i hi => by rw [hfr_19 i (by omega)]; exact hfr i hi) hpush P_24
            · rw [if_pos c_16] at hpp
              refine v_aload_n X 3 dX6_propagate_63 rfl ?_
              refine v_iload_n X 2 dX6_propagate_64 rfl ?_
              refine v_put X cls6 F0_8 (by omega) 8 (by decide) m_195 rfl rfl rfl rfl (Nat.le_of_ble_eq_true rfl) dX6_propagate_65 (fun M_25 hM_26 => ?_)
              have F_27 : M_25 b = .inr (6, [.ref (ad k (b + 1)), .ref (ad k (b + 2)), .ref (ad k (b + 3)), .int (nI t.length), .int (nI (tA t)), .int (nI (tT t)), .int (nI (tL t)), .int (nI (tB t)), .int (nI i)]) := by rw [hM_26]; exact mup_s
              have F_28 : M_25 (b + 1) = .inl (kI k, 8, .inl (fun zq => nI (o_5 zq))) := by rw [hM_26, mup_n (by omega)]; exact F1_9
              have F_29 : M_25 (b + 2) = .inl (kI k, 8, .inl (fun zq => nI (lv_6 zq))) := by rw [hM_26, mup_n (by omega)]; exact F2_10
              have F_30 : M_25 (b + 3) = .inl (kI k, 8, .inl (fun zq => oI (rs_7 zq))) := by rw [hM_26, mup_n (by omega)]; exact F3_11
              have P_31 : FmAt k M_25 b2 cs := hF1.fr (fun i h1 h2 => by rw [hM_26, mup_n (by omega)])
              refine v_goto X 90 dX6_propagate_68 (by decide) ?_
              refine v_iinc X (v := nI (q + 1)) 5 [(2, .int (nI (q + 1))), (5, .int (nI ((mdiff (xVars (cAt cs i)) (tA t))))), (4, .int (nI (cAt cs i))), (3, .int (nI i)), (0, .ref (ad k b)), (1, .ref (ad k b2))] dX6_propagate_90 rfl (nI_1 _) (by decide) rfl ?_
              refine v_goto X 2 dX6_propagate_93 (by decide) ?_
              refine v_iload_n X 0 dX6_propagate_2 rfl ?_
              refine v_bipush X (v := nI 8) (by decide) dX6_propagate_3 ?_
              refine v_cgtN X 96 (by omega) (by omega) dX6_propagate_5 (by decide) (fun c_32 => ?_) (fun c_32 => ?_)
              · exact v_vret X rq ⟨by decide, by decide⟩ dX6_propagate_96 ⟨rfl, by rw [← hpp]; exact ⟨hN_2, hk_3, (fun n h => by cases h; omega), o_5, lv_6, rs_7, F_27, F_28, F_29, F_30, ho_12, hv_13⟩, (fun i hi => by rw [hM_26, mup_n (by omega)]; exact hfr i hi)⟩
              · refine v_aload_n X 4 dX6_propagate_8 rfl ?_
                refine v_get X cls6 F_27 (by omega) 8 (by decide) m_195 rfl rfl dX6_propagate_9 ?_
                refine v_bipush X (v := (-9)) (by decide) dX6_propagate_12 ?_
                refine v_icmp_ne X 96 dX6_propagate_14 (by decide) (fun c_33 => ?_) (fun c_33 => ?_)
                · exact v_vret X rq ⟨by decide, by decide⟩ dX6_propagate_96 ⟨rfl, by rw [← hpp]; exact ⟨hN_2, hk_3, (fun n h => by cases h; omega), o_5, lv_6, rs_7, F_27, F_28, F_29, F_30, ho_12, hv_13⟩, (fun i hi => by rw [hM_26, mup_n (by omega)]; exact hfr i hi)⟩
                · exact absurd c_33 (nI_ne_m9 (by omega))
          · have hpp := prop_at hp (by omega)
            rw [(oI_eq (fun n hn => by have := (fstAct_spec hn).1; omega)).mp c_15] at hpp
            simp only [] at hpp
            exact v_vret X rq ⟨by decide, by decide⟩ dX6_propagate_36 ⟨rfl, by rw [← hpp]; exact hT1, hfr⟩
  refine v_iconst X (v := nI 0) (by decide) dX6_propagate_0 ?_
  refine v_istore_n X [(2, .int (nI 0)), (0, .ref (ad k b)), (1, .ref (ad k b2))] dX6_propagate_1 (by decide) rfl ?_
  refine v_lv [1, 2, 0] rfl ?_
  exact L 10 0 tr M (by omega) (by omega) rfl Fr.rf hT hF
set_option maxHeartbeats 4000000 in
set_option maxRecDepth 100000 in
theorem c_X6_build (l : Launch) (k : KX) (M : Mem) (b b2 : Nat) (tr : List Ent) (cf0 : Option Nat) (cs ds : List Nat) (hT : TrAt k M b tr cf0) (hS : StAt k M b2 cs ds) (ho2 : csOK cs) (hds : ∀ d ∈ ds, d < 16) (hap : b + 4 ≤ b2 ∨ b2 + 4 ≤ b) : CM l yX6_build cX6_build 4 none { frames := 4, cells := 0, slots := 0, locals := 92 } k [.ref (ad k b), .ref (ad k b2)] M (pV (fun M' => TrAt k M' b (build cs ds).1 (build cs ds).2 ∧ StAt k M' b2 cs (ds.take (tL (build cs ds).1)) ∧ ∀ i, (i < b ∨ b + 4 ≤ i) → (i < b2 ∨ b2 + 4 ≤ i) → M' i = M i)) := by
  refine CM.of (by decide) (Nat.le_of_ble_eq_true rfl) (fun C X hCl hCR rq => ?_)
  show V C k 4 (0, 0) M 0 [(0, .ref (ad k b)), (1, .ref (ad k b2))] []
  have hok := cAt_ok ho2
  have hN2 := hS.1
  have hN1 := hT.1
  have hlc := ho2.1
  have hld := hS.2.2.1
  have L : ∀ (fu : Nat) (i : Nat) (sx : List Ent × Option Nat) (M1 : Mem), ds.length - i < fu → (i ≤ ds.length) → (buildF cs (ds.drop i) sx = build cs ds) → (Fr b 4 M M1) → TrAt k M1 b sx.1 sx.2 → StAt k M1 b2 cs ds → V C k 4 (0, 0) M1 46 [(0, .ref (ad k b)), (1, .ref (ad k b2)), (2, .int (nI ds.length)), (3, .int (nI i))] [] := by
    intro fu
    induction fu with
    | zero => intro i sx M1 hfu; exact absurd hfu (Nat.not_lt_zero _)
    | succ fu ih =>
      intro i sx M1 hfu hi0 hb hfr hT1 hS1
      refine v_iload_n X 3 dX6_build_46 rfl ?_
      refine v_iload_n X 2 dX6_build_47 rfl ?_
      refine v_cgeN X 86 (by omega) (by omega) dX6_build_48 (by decide) (fun c_1 => ?_) (fun c_1 => ?_)
      · have hend := build_end hb c_1
        obtain ⟨hN_2, hk_3, hc_4, o_5, lv_6, rs_7, F0_8, F1_9, F2_10, F3_11, ho_12, hv_13⟩ := id hT1
        have hk_3_A := hk_3.A
        have hk_3_T := hk_3.T
        have hk_3_B := hk_3.B
        have hk_3_l := hk_3.le
        have hk_3_L := tL_le sx.1
        refine v_aload_n X 1 dX6_build_86 rfl ?_
        refine v_aload_n X 0 dX6_build_87 rfl ?_
        refine v_get X cls6 F0_8 (by omega) 6 (by decide) m_193 rfl rfl dX6_build_88 ?_
        refine v_callV X hCl hCR (c_X5_keepDecisions l k M1 b2 cs ds (tL sx.1) hS1 (by omega)) cls5 hS1.obj (by omega) mo_X5_keepDecisions m_177 m_228 m_229 m_230 m_133 (by decide) rfl rfl (Nat.le_of_ble_eq_true rfl) ⟨rfl, rfl⟩ ⟨by decide, by decide⟩ dX6_build_91 (vV_in (fun M_14 hp_15 => ?_))
        obtain ⟨P_17, hfr_16⟩ := hp_15
        have F_18 : M_14 b = .inr (6, [.ref (ad k (b + 1)), .ref (ad k (b + 2)), .ref (ad k (b + 3)), .int (nI sx.1.length), .int (nI (tA sx.1)), .int (nI (tT sx.1)), .int (nI (tL sx.1)), .int (nI (tB sx.1)), .int (oI sx.2)]) := by rw [hfr_16 b (by omega)]; exact F0_8
        have F_19 : M_14 (b + 1) = .inl (kI k, 8, .inl (fun zq => nI (o_5 zq))) := by rw [hfr_16 (b + 1) (by omega)]; exact F1_9
        have F_20 : M_14 (b + 2) = .inl (kI k, 8, .inl (fun zq => nI (lv_6 zq))) := by rw [hfr_16 (b + 2) (by omega)]; exact F2_10
        have F_21 : M_14 (b + 3) = .inl (kI k, 8, .inl (fun zq => oI (rs_7 zq))) := by rw [hfr_16 (b + 3) (by omega)]; exact F3_11
        have P_22 : TrAt k M_14 b sx.1 sx.2 := hT1.fr (fun i h1 h2 => hfr_16 i (by omega))
        exact v_vret X rq ⟨by decide, by decide⟩ dX6_build_94 ⟨rfl, (by rw [← hend]; exact P_22), (by rw [← hend]; exact P_17), (fun i hi hi2 => by rw [hfr_16 i (by omega)]; exact hfr i hi)⟩
      · have hi := c_1
        have hd16 := hds _ (cAt_mem hi)
        obtain ⟨hN_23, hF_24, hl_25, g_26, F0_27, F3_28, hg_29⟩ := id hS1
        refine v_aload_n X 0 dX6_build_51 rfl ?_
        refine v_aload_n X 1 dX6_build_52 rfl ?_
        refine v_iload_n X 3 dX6_build_53 rfl ?_
        refine v_callV X hCl hCR (c_X5_decisionAt l k M1 b2 cs ds i hS1 (by omega)) cls5 ⟨_, F0_27⟩ (by omega) mo_X5_decisionAt m_175 m_219 m_220 m_221 m_133 (by decide) rfl rfl (Nat.le_of_ble_eq_true rfl) ⟨rfl, rfl⟩ ⟨by decide, by decide⟩ dX6_build_54 (vP_in ?_)
        refine v_callV X hCl hCR (c_X6_allows l k M1 b sx.1 sx.2 (cAt ds i) hT1 hd16) cls6 hT1.obj (by omega) mo_X6_allows m_208 m_222 m_223 m_224 m_204 (by decide) rfl rfl (Nat.le_of_ble_eq_true rfl) ⟨rfl, rfl⟩ ⟨by decide, by decide⟩ dX6_build_57 (vP_in ?_)
        refine v_ieqB X 86 dX6_build_60 (by decide) (fun c_30 => ?_) (fun c_30 => ?_)
        · have hend := build_stop hb hi c_30
          obtain ⟨hN_31, hk_32, hc_33, o_34, lv_35, rs_36, F0_37, F1_38, F2_39, F3_40, ho_41, hv_42⟩ := id hT1
          have hk_32_A := hk_32.A
          have hk_32_T := hk_32.T
          have hk_32_B := hk_32.B
          have hk_32_l := hk_32.le
          have hk_32_L := tL_le sx.1
          refine v_aload_n X 1 dX6_build_86 rfl ?_
          refine v_aload_n X 0 dX6_build_87 rfl ?_
          refine v_get X cls6 F0_37 (by omega) 6 (by decide) m_193 rfl rfl dX6_build_88 ?_
          refine v_callV X hCl hCR (c_X5_keepDecisions l k M1 b2 cs ds (tL sx.1) hS1 (by omega)) cls5 ⟨_, F0_27⟩ (by omega) mo_X5_keepDecisions m_177 m_228 m_229 m_230 m_133 (by decide) rfl rfl (Nat.le_of_ble_eq_true rfl) ⟨rfl, rfl⟩ ⟨by decide, by decide⟩ dX6_build_91 (vV_in (fun M_43 hp_44 => ?_))
          obtain ⟨P_46, hfr_45⟩ := hp_44
          have F_47 : M_43 b = .inr (6, [.ref (ad k (b + 1)), .ref (ad k (b + 2)), .ref (ad k (b + 3)), .int (nI sx.1.length), .int (nI (tA sx.1)), .int (nI (tT sx.1)), .int (nI (tL sx.1)), .int (nI (tB sx.1)), .int (oI sx.2)]) := by rw [hfr_45 b (by omega)]; exact F0_37
          have F_48 : M_43 (b + 1) = .inl (kI k, 8, .inl (fun zq => nI (o_34 zq))) := by rw [hfr_45 (b + 1) (by omega)]; exact F1_38
          have F_49 : M_43 (b + 2) = .inl (kI k, 8, .inl (fun zq => nI (lv_35 zq))) := by rw [hfr_45 (b + 2) (by omega)]; exact F2_39
          have F_50 : M_43 (b + 3) = .inl (kI k, 8, .inl (fun zq => oI (rs_36 zq))) := by rw [hfr_45 (b + 3) (by omega)]; exact F3_40
          have P_51 : TrAt k M_43 b sx.1 sx.2 := hT1.fr (fun i h1 h2 => hfr_45 i (by omega))
          exact v_vret X rq ⟨by decide, by decide⟩ dX6_build_94 ⟨rfl, (by rw [← hend]; exact P_51), (by rw [← hend]; exact P_46), (fun i hi hi2 => by rw [hfr_45 i (by omega)]; exact hfr i hi)⟩
        · have hok3 := c_30
          obtain ⟨hcf, hfree⟩ := okDec_t hok3
          have P_52 : TrAt k M1 b sx.1 none := hcf ▸ hT1
          refine v_aload_n X 0 dX6_build_63 rfl ?_
          refine v_aload_n X 1 dX6_build_64 rfl ?_
          refine v_iload_n X 3 dX6_build_65 rfl ?_
          refine v_callV X hCl hCR (c_X5_decisionAt l k M1 b2 cs ds i hS1 (by omega)) cls5 ⟨_, F0_27⟩ (by omega) mo_X5_decisionAt m_175 m_219 m_220 m_221 m_133 (by decide) rfl rfl (Nat.le_of_ble_eq_true rfl) ⟨rfl, rfl⟩ ⟨by decide, by decide⟩ dX6_build_66 (vP_in ?_)
          refine v_callV X hCl hCR (c_X6_startLevel l k M1 b sx.1 none (cAt ds i) P_52 hd16 hfree) cls6 P_52.obj (by omega) mo_X6_startLevel m_214 m_225 m_226 m_227 m_204 (by decide) rfl rfl (Nat.le_of_ble_eq_true rfl) ⟨rfl, rfl⟩ ⟨by decide, by decide⟩ dX6_build_69 (vV_in (fun M_53 hp_54 => ?_))
          obtain ⟨P_56, hfr_55⟩ := hp_54
          have F_57 : M_53 b2 = .inr (5, [.ref (ad k (b2 + 1)), .ref (ad k (b2 + 3)), .int (nI ds.length)]) := by rw [hfr_55 b2 (by omega)]; exact F0_27
          have F_58 : M_53 (b2 + 3) = .inl (kI k, 8, .inl (fun zq => nI (g_26 zq))) := by rw [hfr_55 (b2 + 3) (by omega)]; exact F3_28
          have P_59 : StAt k M_53 b2 cs ds := hS1.fr (fun i h1 h2 => hfr_55 i (by omega))
          have P_60 : FmAt k M_53 (b2 + 1) cs := hF_24.fr (fun i h1 h2 => hfr_55 i (by omega))
          refine v_aload_n X 0 dX6_build_72 rfl ?_
          refine v_aload_n X 1 dX6_build_73 rfl ?_
          refine v_getN X cls5 F_57 (by omega) 0 (by decide) nw_10 rfl rfl dX6_build_74 ?_
          refine v_callV X hCl hCR (c_X6_propagate l k M_53 b (b2 + 1) (((cAt ds i) / 2, decide ((cAt ds i) % 2 = 0), none) :: sx.1) cs P_56 P_60 ho2 (by omega)) cls6 P_56.obj (by omega) mo_X6_propagate m_205 m_216 m_217 m_218 m_204 (by decide) rfl rfl (Nat.le_of_ble_eq_true rfl) ⟨rfl, rfl⟩ ⟨by decide, by decide⟩ dX6_build_77 (vV_in (fun M_61 hp_62 => ?_))
          obtain ⟨P_64, hfr_63⟩ := hp_62
          have F_65 : M_61 b2 = .inr (5, [.ref (ad k (b2 + 1)), .ref (ad k (b2 + 3)), .int (nI ds.length)]) := by rw [hfr_63 b2 (by omega)]; exact F_57
          have F_66 : M_61 (b2 + 3) = .inl (kI k, 8, .inl (fun zq => nI (g_26 zq))) := by rw [hfr_63 (b2 + 3) (by omega)]; exact F_58
          have P_67 : StAt k M_61 b2 cs ds := P_59.fr (fun i h1 h2 => hfr_63 i (by omega))
          have P_68 : FmAt k M_61 (b2 + 1) cs := P_60.fr (fun i h1 h2 => hfr_63 i (by omega))
          refine v_iinc X (v := nI (i + 1)) 3 [(3, .int (nI (i + 1))), (0, .ref (ad k b)), (1, .ref (ad k b2)), (2, .int (nI ds.length))] dX6_build_80 rfl (nI_1 _) (by decide) rfl ?_
          refine v_goto X 46 dX6_build_83 (by decide) ?_
          refine v_lv [1, 2, 3, 0] rfl ?_
          exact ih (i + 1) (prop cs ((cAt ds i / 2, decide (cAt ds i % 2 = 0), none) :: sx.1)) M_61 (by omega) (by omega) (build_go hb hi hok3) (fun i hi => by rw [hfr_63 i (by omega), hfr_55 i (by omega)]; exact hfr i hi) P_64 P_67
  obtain ⟨hN_69, hk_70, hc_71, o_72, lv_73, rs_74, F0_75, F1_76, F2_77, F3_78, ho_79, hv_80⟩ := id hT
  have hk_70_A := hk_70.A
  have hk_70_T := hk_70.T
  have hk_70_B := hk_70.B
  have hk_70_l := hk_70.le
  have hk_70_L := tL_le tr
  obtain ⟨hN_81, hF_82, hl_83, g_84, F0_85, F3_86, hg_87⟩ := id hS
  refine v_aload_n X 0 dX6_build_0 rfl ?_
  refine v_iconst X (v := nI 0) (by decide) dX6_build_1 ?_
  refine v_put X cls6 F0_75 (by omega) 3 (by decide) m_190 rfl rfl rfl rfl (Nat.le_of_ble_eq_true rfl) dX6_build_2 (fun M_88 hM_89 => ?_)
  have F_90 : M_88 b = .inr (6, [.ref (ad k (b + 1)), .ref (ad k (b + 2)), .ref (ad k (b + 3)), .int (nI 0), .int (nI (tA tr)), .int (nI (tT tr)), .int (nI (tL tr)), .int (nI (tB tr)), .int (oI cf0)]) := by rw [hM_89]; exact mup_s
  have F_91 : M_88 (b + 1) = .inl (kI k, 8, .inl (fun zq => nI (o_72 zq))) := by rw [hM_89, mup_n (by omega)]; exact F1_76
  have F_92 : M_88 (b + 2) = .inl (kI k, 8, .inl (fun zq => nI (lv_73 zq))) := by rw [hM_89, mup_n (by omega)]; exact F2_77
  have F_93 : M_88 (b + 3) = .inl (kI k, 8, .inl (fun zq => oI (rs_74 zq))) := by rw [hM_89, mup_n (by omega)]; exact F3_78
  have F_94 : M_88 b2 = .inr (5, [.ref (ad k (b2 + 1)), .ref (ad k (b2 + 3)), .int (nI ds.length)]) := by rw [hM_89, mup_n (by omega)]; exact F0_85
  have F_95 : M_88 (b2 + 3) = .inl (kI k, 8, .inl (fun zq => nI (g_84 zq))) := by rw [hM_89, mup_n (by omega)]; exact F3_86
  have P_96 : StAt k M_88 b2 cs ds := hS.fr (fun i h1 h2 => by rw [hM_89, mup_n (by omega)])
  have P_97 : FmAt k M_88 (b2 + 1) cs := hF_82.fr (fun i h1 h2 => by rw [hM_89, mup_n (by omega)])
  refine v_aload_n X 0 dX6_build_5 rfl ?_
  refine v_iconst X (v := nI 0) (by decide) dX6_build_6 ?_
  refine v_put X cls6 F_90 (by omega) 4 (by decide) m_191 rfl rfl rfl rfl (Nat.le_of_ble_eq_true rfl) dX6_build_7 (fun M_98 hM_99 => ?_)
  have F_100 : M_98 b = .inr (6, [.ref (ad k (b + 1)), .ref (ad k (b + 2)), .ref (ad k (b + 3)), .int (nI 0), .int (nI 0), .int (nI (tT tr)), .int (nI (tL tr)), .int (nI (tB tr)), .int (oI cf0)]) := by rw [hM_99]; exact mup_s
  have F_101 : M_98 (b + 1) = .inl (kI k, 8, .inl (fun zq => nI (o_72 zq))) := by rw [hM_99, mup_n (by omega)]; exact F_91
  have F_102 : M_98 (b + 2) = .inl (kI k, 8, .inl (fun zq => nI (lv_73 zq))) := by rw [hM_99, mup_n (by omega)]; exact F_92
  have F_103 : M_98 (b + 3) = .inl (kI k, 8, .inl (fun zq => oI (rs_74 zq))) := by rw [hM_99, mup_n (by omega)]; exact F_93
  have F_104 : M_98 b2 = .inr (5, [.ref (ad k (b2 + 1)), .ref (ad k (b2 + 3)), .int (nI ds.length)]) := by rw [hM_99, mup_n (by omega)]; exact F_94
  have F_105 : M_98 (b2 + 3) = .inl (kI k, 8, .inl (fun zq => nI (g_84 zq))) := by rw [hM_99, mup_n (by omega)]; exact F_95
  have P_106 : StAt k M_98 b2 cs ds := P_96.fr (fun i h1 h2 => by rw [hM_99, mup_n (by omega)])
  have P_107 : FmAt k M_98 (b2 + 1) cs := P_97.fr (fun i h1 h2 => by rw [hM_99, mup_n (by omega)])
  refine v_aload_n X 0 dX6_build_10 rfl ?_
  refine v_iconst X (v := nI 0) (by decide) dX6_build_11 ?_
  refine v_put X cls6 F_100 (by omega) 5 (by decide) m_192 rfl rfl rfl rfl (Nat.le_of_ble_eq_true rfl) dX6_build_12 (fun M_108 hM_109 => ?_)
  have F_110 : M_108 b = .inr (6, [.ref (ad k (b + 1)), .ref (ad k (b + 2)), .ref (ad k (b + 3)), .int (nI 0), .int (nI 0), .int (nI 0), .int (nI (tL tr)), .int (nI (tB tr)), .int (oI cf0)]) := by rw [hM_109]; exact mup_s
  have F_111 : M_108 (b + 1) = .inl (kI k, 8, .inl (fun zq => nI (o_72 zq))) := by rw [hM_109, mup_n (by omega)]; exact F_101
  have F_112 : M_108 (b + 2) = .inl (kI k, 8, .inl (fun zq => nI (lv_73 zq))) := by rw [hM_109, mup_n (by omega)]; exact F_102
  have F_113 : M_108 (b + 3) = .inl (kI k, 8, .inl (fun zq => oI (rs_74 zq))) := by rw [hM_109, mup_n (by omega)]; exact F_103
  have F_114 : M_108 b2 = .inr (5, [.ref (ad k (b2 + 1)), .ref (ad k (b2 + 3)), .int (nI ds.length)]) := by rw [hM_109, mup_n (by omega)]; exact F_104
  have F_115 : M_108 (b2 + 3) = .inl (kI k, 8, .inl (fun zq => nI (g_84 zq))) := by rw [hM_109, mup_n (by omega)]; exact F_105
  have P_116 : StAt k M_108 b2 cs ds := P_106.fr (fun i h1 h2 => by rw [hM_109, mup_n (by omega)])
  have P_117 : FmAt k M_108 (b2 + 1) cs := P_107.fr (fun i h1 h2 => by rw [hM_109, mup_n (by omega)])
  refine v_aload_n X 0 dX6_build_15 rfl ?_
  refine v_iconst X (v := nI 0) (by decide) dX6_build_16 ?_
  refine v_put X cls6 F_110 (by omega) 6 (by decide) m_193 rfl rfl rfl rfl (Nat.le_of_ble_eq_true rfl) dX6_build_17 (fun M_118 hM_119 => ?_)
  have F_120 : M_118 b = .inr (6, [.ref (ad k (b + 1)), .ref (ad k (b + 2)), .ref (ad k (b + 3)), .int (nI 0), .int (nI 0), .int (nI 0), .int (nI 0), .int (nI (tB tr)), .int (oI cf0)]) := by rw [hM_119]; exact mup_s
  have F_121 : M_118 (b + 1) = .inl (kI k, 8, .inl (fun zq => nI (o_72 zq))) := by rw [hM_119, mup_n (by omega)]; exact F_111
  have F_122 : M_118 (b + 2) = .inl (kI k, 8, .inl (fun zq => nI (lv_73 zq))) := by rw [hM_119, mup_n (by omega)]; exact F_112
  have F_123 : M_118 (b + 3) = .inl (kI k, 8, .inl (fun zq => oI (rs_74 zq))) := by rw [hM_119, mup_n (by omega)]; exact F_113
  have F_124 : M_118 b2 = .inr (5, [.ref (ad k (b2 + 1)), .ref (ad k (b2 + 3)), .int (nI ds.length)]) := by rw [hM_119, mup_n (by omega)]; exact F_114
  have F_125 : M_118 (b2 + 3) = .inl (kI k, 8, .inl (fun zq => nI (g_84 zq))) := by rw [hM_119, mup_n (by omega)]; exact F_115
  have P_126 : StAt k M_118 b2 cs ds := P_116.fr (fun i h1 h2 => by rw [hM_119, mup_n (by omega)])
  have P_127 : FmAt k M_118 (b2 + 1) cs := P_117.fr (fun i h1 h2 => by rw [hM_119, mup_n (by omega)])
  refine v_aload_n X 0 dX6_build_20 rfl ?_
  refine v_iconst X (v := nI 0) (by decide) dX6_build_21 ?_
  refine v_put X cls6 F_120 (by omega) 7 (by decide) m_194 rfl rfl rfl rfl (Nat.le_of_ble_eq_true rfl) dX6_build_22 (fun M_128 hM_129 => ?_)
  have F_130 : M_128 b = .inr (6, [.ref (ad k (b + 1)), .ref (ad k (b + 2)), .ref (ad k (b + 3)), .int (nI 0), .int (nI 0), .int (nI 0), .int (nI 0), .int (nI 0), .int (oI cf0)]) := by rw [hM_129]; exact mup_s
  have F_131 : M_128 (b + 1) = .inl (kI k, 8, .inl (fun zq => nI (o_72 zq))) := by rw [hM_129, mup_n (by omega)]; exact F_121
  have F_132 : M_128 (b + 2) = .inl (kI k, 8, .inl (fun zq => nI (lv_73 zq))) := by rw [hM_129, mup_n (by omega)]; exact F_122
  have F_133 : M_128 (b + 3) = .inl (kI k, 8, .inl (fun zq => oI (rs_74 zq))) := by rw [hM_129, mup_n (by omega)]; exact F_123
  have F_134 : M_128 b2 = .inr (5, [.ref (ad k (b2 + 1)), .ref (ad k (b2 + 3)), .int (nI ds.length)]) := by rw [hM_129, mup_n (by omega)]; exact F_124
  have F_135 : M_128 (b2 + 3) = .inl (kI k, 8, .inl (fun zq => nI (g_84 zq))) := by rw [hM_129, mup_n (by omega)]; exact F_125
  have P_136 : StAt k M_128 b2 cs ds := P_126.fr (fun i h1 h2 => by rw [hM_129, mup_n (by omega)])
  have P_137 : FmAt k M_128 (b2 + 1) cs := P_127.fr (fun i h1 h2 => by rw [hM_129, mup_n (by omega)])
  refine v_aload_n X 0 dX6_build_25 rfl ?_
  refine v_bipush X (v := oI none) (by decide) dX6_build_26 ?_
  refine v_put X cls6 F_130 (by omega) 8 (by decide) m_195 rfl rfl rfl rfl (Nat.le_of_ble_eq_true rfl) dX6_build_28 (fun M_138 hM_139 => ?_)
  have F_140 : M_138 b = .inr (6, [.ref (ad k (b + 1)), .ref (ad k (b + 2)), .ref (ad k (b + 3)), .int (nI 0), .int (nI 0), .int (nI 0), .int (nI 0), .int (nI 0), .int (oI none)]) := by rw [hM_139]; exact mup_s
  have F_141 : M_138 (b + 1) = .inl (kI k, 8, .inl (fun zq => nI (o_72 zq))) := by rw [hM_139, mup_n (by omega)]; exact F_131
  have F_142 : M_138 (b + 2) = .inl (kI k, 8, .inl (fun zq => nI (lv_73 zq))) := by rw [hM_139, mup_n (by omega)]; exact F_132
  have F_143 : M_138 (b + 3) = .inl (kI k, 8, .inl (fun zq => oI (rs_74 zq))) := by rw [hM_139, mup_n (by omega)]; exact F_133
  have F_144 : M_138 b2 = .inr (5, [.ref (ad k (b2 + 1)), .ref (ad k (b2 + 3)), .int (nI ds.length)]) := by rw [hM_139, mup_n (by omega)]; exact F_134
  have F_145 : M_138 (b2 + 3) = .inl (kI k, 8, .inl (fun zq => nI (g_84 zq))) := by rw [hM_139, mup_n (by omega)]; exact F_135
  have P_146 : StAt k M_138 b2 cs ds := P_136.fr (fun i h1 h2 => by rw [hM_139, mup_n (by omega)])
  have P_147 : FmAt k M_138 (b2 + 1) cs := P_137.fr (fun i h1 h2 => by rw [hM_139, mup_n (by omega)])
  have P_148 : TrAt k M_138 b [] none := TrAt.nil hN_69 F_140 F_141 F_142 F_143
  refine v_aload_n X 0 dX6_build_31 rfl ?_
  refine v_aload_n X 1 dX6_build_32 rfl ?_
  refine v_getN X cls5 F_144 (by omega) 0 (by decide) nw_10 rfl rfl dX6_build_33 ?_
  refine v_callV X hCl hCR (c_X6_propagate l k M_138 b (b2 + 1) [] cs P_148 P_147 ho2 (by omega)) cls6 P_148.obj (by omega) mo_X6_propagate m_205 m_216 m_217 m_218 m_204 (by decide) rfl rfl (Nat.le_of_ble_eq_true rfl) ⟨rfl, rfl⟩ ⟨by decide, by decide⟩ dX6_build_36 (vV_in (fun M_149 hp_150 => ?_))
  obtain ⟨P_152, hfr_151⟩ := hp_150
  have F_153 : M_149 b2 = .inr (5, [.ref (ad k (b2 + 1)), .ref (ad k (b2 + 3)), .int (nI ds.length)]) := by rw [hfr_151 b2 (by omega)]; exact F_144
  have F_154 : M_149 (b2 + 3) = .inl (kI k, 8, .inl (fun zq => nI (g_84 zq))) := by rw [hfr_151 (b2 + 3) (by omega)]; exact F_145
  have P_155 : StAt k M_149 b2 cs ds := P_146.fr (fun i h1 h2 => hfr_151 i (by omega))
  have P_156 : FmAt k M_149 (b2 + 1) cs := P_147.fr (fun i h1 h2 => hfr_151 i (by omega))
  refine v_aload_n X 1 dX6_build_39 rfl ?_
  refine v_getN X cls5 F_153 (by omega) 2 (by decide) nw_12 rfl rfl dX6_build_40 ?_
  refine v_istore_n X [(2, .int (nI ds.length)), (0, .ref (ad k b)), (1, .ref (ad k b2))] dX6_build_43 (by decide) rfl ?_
  refine v_iconst X (v := nI 0) (by decide) dX6_build_44 ?_
  refine v_istore_n X [(3, .int (nI 0)), (2, .int (nI ds.length)), (0, .ref (ad k b)), (1, .ref (ad k b2))] dX6_build_45 (by decide) rfl ?_
  refine v_lv [2, 3, 1, 0] rfl ?_
  exact L (ds.length + 1) 0 (prop cs []) M_149 (by omega) (by omega) (build_0 cs ds) (fun i hi => by rw [hfr_151 i (by omega), hM_139, mup_n (by omega), hM_129, mup_n (by omega), hM_119, mup_n (by omega), hM_109, mup_n (by omega), hM_99, mup_n (by omega), hM_89, mup_n (by omega)]) P_152 P_155
