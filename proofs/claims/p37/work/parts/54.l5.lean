/-! the law's loop -/
set_option maxHeartbeats 4000000 in
set_option maxRecDepth 100000 in
theorem law_loop {C : CT} {k : KX} {b L : Nat} {xs : Nat → Int32} {l : Launch} (hst0 : l.stackTraces = false) (X : OKc C k cL_law RL 7 ret) (hCl : C_l C = l) (hCR : C_R C = room_1) (hLP : LPX (C_A C) (C_s C) (C_s C).heap) (hX : va_X b L xs (C_s C) (C_s C).heap) (hbl : b < (C_s C).heap.size) (hbA : ¬ C_A C b) (hL : L < 2 ^ 31) (hN0 : kN k = 186) (M : Mem) (S : SS) (hm : S.2.2.1 = []) (hA : At k M S) (hB : At (kq k) (mq M) S) (hret : ∀ (z : Nat × Nat) (M : Mem) (lv : List (Nat × Value)), z.1 ≤ 669154 → z.2 ≤ 7094006 → V C k 7 z M 144 lv [.int (nI 1)]) : V C k 7 (2000, 20000) M 16 [(2, .ref (ad k 93)), (1, .ref (ad k 0)), (0, .ref b)] [] := by
  have hN : 186 ≤ kN k := by omega
  have L24 : ∀ (fu : Nat) (i : Nat) (S : SS) (Mq : Mem), 9 - i < fu → (i ≤ 9) → At k Mq S → At (kq k) (mq Mq) S → V C k 7 (4000 + 3000 * i, 40000 + 20000 * i) Mq 24 [(4, .int (nI i)), (3, .int (nI 1)), (2, .ref (ad k 93)), (1, .ref (ad k 0)), (0, .ref b)] [] := by
    intro fu
    induction fu with
    | zero => intro i S Mq hfu; exact absurd hfu (Nat.not_lt_zero _)
    | succ fu ih_L24 =>
      intro i S Mq hfu hi hAq hBq
      refine v_iload X 0 dL_law_24 rfl ?_
      refine v_bipush X (v := nI 9) (by decide) dL_law_26 ?_
      refine v_cgeN X 143 (by omega) (by omega) dL_law_28 (by decide) (fun c_1 => ?_) (fun c_2 => ?_)
      · refine v_iload_n X 1 dL_law_143 rfl ?_
        exact hret _ _ _ (show 4000 + 3000 * i ≤ 669154 by omega) (show 40000 + 20000 * i ≤ 7094006 by omega)
      · refine v_iload_n X 1 dL_law_31 rfl ?_
        refine v_ieqN X 143 (by omega) dL_law_32 (by decide) (fun q_1 => absurd q_1 (by decide)) (fun _ => ?_)
        refine v_aload_n X 4 dL_law_35 rfl ?_
        refine v_iconst X (v := nI 2) (by decide) dL_law_36 ?_
        refine v_iload X 0 dL_law_37 rfl ?_
        refine v_mulN X dL_law_39 ?_
        refine v_cell X hCR hX hbl hbA hL (by omega) m_689 m_581 ⟨Nat.le_of_ble_eq_true rfl, Nat.le_of_ble_eq_true rfl⟩ (Nat.le_of_ble_eq_true rfl) ⟨(show 4000 + 3000 * i ≤ 669154 by omega), (show 40000 + 20000 * i ≤ 7094006 by omega)⟩ dL_law_40 ?_
        obtain ⟨x, hx, ex⟩ := cellV_n L xs (2 * i)
        rw [ex]
        refine v_istore X [(5, .int (nI x)), (4, .int (nI i)), (3, .int (nI 1)), (2, .ref (ad k 93)), (1, .ref (ad k 0)), (0, .ref b)] dL_law_43 (by decide) rfl ?_
        refine v_aload_n X 5 dL_law_45 rfl ?_
        refine v_iconst X (v := nI 2) (by decide) dL_law_46 ?_
        refine v_iload X 1 dL_law_47 rfl ?_
        refine v_mulN X dL_law_49 ?_
        refine v_iconst X (v := nI 1) (by decide) dL_law_50 ?_
        refine v_addN X dL_law_51 ?_
        refine v_cell X hCR hX hbl hbA hL (by omega) m_689 m_581 ⟨Nat.le_of_ble_eq_true rfl, Nat.le_of_ble_eq_true rfl⟩ (Nat.le_of_ble_eq_true rfl) ⟨(show 4000 + 3000 * i ≤ 669154 by omega), (show 40000 + 20000 * i ≤ 7094006 by omega)⟩ dL_law_52 ?_
        obtain ⟨y, hy, ey⟩ := cellV_n L xs ((2 * i) + 1)
        rw [ey]
        refine v_istore X [(6, .int (nI y)), (5, .int (nI x)), (4, .int (nI i)), (3, .int (nI 1)), (2, .ref (ad k 93)), (1, .ref (ad k 0)), (0, .ref b)] dL_law_55 (by decide) rfl ?_
        refine v_aload_n X 5 dL_law_57 rfl ?_
        refine v_iload X 1 dL_law_58 rfl ?_
        refine v_iload X 0 dL_law_60 rfl ?_
        refine v_callB X hLP hCl hCR (c_L_act l hst0 k Mq S x y ⟨hx, hy⟩ hAq) mo_L_act m_b2 m_691 m_692 m_581 ⟨Nat.le_of_ble_eq_true rfl, Nat.le_of_ble_eq_true rfl⟩ rfl rfl (Nat.le_of_ble_eq_true rfl) ⟨(show 4000 + 3000 * i + 104 ≤ 669154 by omega), (show 40000 + 20000 * i + 624 ≤ 7094006 by omega)⟩ dL_law_62 (vI_in (fun r_4 M_2 h_3 => ?_))
        refine v_widen (z' := (4000 + 3000 * i + 104, 40000 + 20000 * i + 624)) (show 4000 + 3000 * i + 104 ≤ 4000 + 3000 * i + 104 by omega) (show 40000 + 20000 * i + 624 ≤ 40000 + 20000 * i + 624 by omega) ?_
        obtain ⟨hr_5, hA_6, hF_7⟩ := h_3
        subst hr_5
        have hO_8 := hBq.p hF_7
        refine v_aload_n X 4 dL_law_65 rfl ?_
        refine v_iload X 1 dL_law_66 rfl ?_
        refine v_iload X 0 dL_law_68 rfl ?_
        refine v_callB X hLP hCl hCR (CB.q hN (c_L_act l hst0 (kq k) (mq M_2) S x y ⟨hx, hy⟩ hO_8)) mo_L_act m_b2 m_691 m_692 m_581 ⟨Nat.le_of_ble_eq_true rfl, Nat.le_of_ble_eq_true rfl⟩ rfl rfl (Nat.le_of_ble_eq_true rfl) ⟨(show 4000 + 3000 * i + 104 + 104 ≤ 669154 by omega), (show 40000 + 20000 * i + 624 + 624 ≤ 7094006 by omega)⟩ dL_law_70 (vI_in (fun r_11 M_9 h_10 => ?_))
        refine v_widen (z' := (4000 + 3000 * i + 208, 40000 + 20000 * i + 1248)) (show 4000 + 3000 * i + 104 + 104 ≤ 4000 + 3000 * i + 208 by omega) (show 40000 + 20000 * i + 624 + 624 ≤ 40000 + 20000 * i + 1248 by omega) ?_
        obtain ⟨hr_12, hA_13, hF_14⟩ := h_10
        subst hr_12
        have hO_15 := hA_6.q hF_14
        refine v_icmp_ne X 135 dL_law_73 (by decide) (fun q_16 => absurd rfl q_16) (fun _ => ?_)
        obtain ⟨S1, hS1⟩ : ∃ S1 : SS, S1 = (W_act S x y).2 := ⟨_, rfl⟩
        rw [← hS1] at hO_15 hA_13
        refine v_aload_n X 5 dL_law_76 rfl ?_
        refine v_aload_n X 4 dL_law_77 rfl ?_
        refine v_callB X hLP hCl hCR (c_L_alike l hst0 k M_9 S1 hN hO_15 hA_13) mo_L_alike m_b4 m_693 m_694 m_581 ⟨Nat.le_of_ble_eq_true rfl, Nat.le_of_ble_eq_true rfl⟩ rfl rfl (Nat.le_of_ble_eq_true rfl) ⟨(show 4000 + 3000 * i + 208 + 224 ≤ 669154 by omega), (show 40000 + 20000 * i + 1248 + 1344 ≤ 7094006 by omega)⟩ dL_law_78 (vI_in (fun r_19 M_17 h_18 => ?_))
        refine v_widen (z' := (4000 + 3000 * i + 432, 40000 + 20000 * i + 2592)) (show 4000 + 3000 * i + 208 + 224 ≤ 4000 + 3000 * i + 432 by omega) (show 40000 + 20000 * i + 1248 + 1344 ≤ 40000 + 20000 * i + 2592 by omega) ?_
        obtain ⟨hr_20, hA_21, hB_22⟩ := h_18
        subst hr_20
        refine v_ieqB X 135 dL_law_81 (by decide) (fun q_23 => absurd q_23 (by decide)) (fun _ => ?_)
        refine v_aload_n X 5 dL_law_84 rfl ?_
        refine v_callB X hLP hCl hCR (c_L_built l hst0 k M_17 S1 hN0 hA_21) mo_L_built m_b7 m_695 m_696 m_581 ⟨Nat.le_of_ble_eq_true rfl, Nat.le_of_ble_eq_true rfl⟩ rfl rfl (Nat.le_of_ble_eq_true rfl) ⟨(show 4000 + 3000 * i + 432 + 220 ≤ 669154 by omega), (show 40000 + 20000 * i + 2592 + 1400 ≤ 7094006 by omega)⟩ dL_law_85 (vI_in (fun r_26 M_24 h_25 => ?_))
        refine v_widen (z' := (4000 + 3000 * i + 652, 40000 + 20000 * i + 3992)) (show 4000 + 3000 * i + 432 + 220 ≤ 4000 + 3000 * i + 652 by omega) (show 40000 + 20000 * i + 2592 + 1400 ≤ 40000 + 20000 * i + 3992 by omega) ?_
        obtain ⟨hr_27, hA_28, hF_29⟩ := h_25
        subst hr_27
        have hO_30 := hB_22.p hF_29
        refine v_ieqB X 135 dL_law_88 (by decide) (fun q_31 => absurd q_31 (by decide)) (fun _ => ?_)
        refine v_aload_n X 5 dL_law_91 rfl ?_
        refine v_iload X 0 dL_law_92 rfl ?_
        refine v_callB X hLP hCl hCR (c_L_ahead l hst0 k M_24 S1 y hy hA_28) mo_L_ahead m_b8 m_697 m_698 m_581 ⟨Nat.le_of_ble_eq_true rfl, Nat.le_of_ble_eq_true rfl⟩ rfl rfl (Nat.le_of_ble_eq_true rfl) ⟨(show 4000 + 3000 * i + 652 + 660 ≤ 669154 by omega), (show 40000 + 20000 * i + 3992 + 3960 ≤ 7094006 by omega)⟩ dL_law_94 (vI_in (fun r_34 M_32 h_33 => ?_))
        refine v_widen (z' := (4000 + 3000 * i + 1312, 40000 + 20000 * i + 7952)) (show 4000 + 3000 * i + 652 + 660 ≤ 4000 + 3000 * i + 1312 by omega) (show 40000 + 20000 * i + 3992 + 3960 ≤ 40000 + 20000 * i + 7952 by omega) ?_
        obtain ⟨hr_35, hA_36, hF_37⟩ := h_33
        subst hr_35
        have hO_38 := hO_30.p hF_37
        refine v_ieqB X 135 dL_law_97 (by decide) (fun q_39 => absurd q_39 (by decide)) (fun _ => ?_)
        refine v_aload_n X 4 dL_law_100 rfl ?_
        refine v_iload X 0 dL_law_101 rfl ?_
        refine v_callB X hLP hCl hCR (CB.q hN (c_L_ahead l hst0 (kq k) (mq M_32) S1 y hy hO_38)) mo_L_ahead m_b8 m_697 m_698 m_581 ⟨Nat.le_of_ble_eq_true rfl, Nat.le_of_ble_eq_true rfl⟩ rfl rfl (Nat.le_of_ble_eq_true rfl) ⟨(show 4000 + 3000 * i + 1312 + 660 ≤ 669154 by omega), (show 40000 + 20000 * i + 7952 + 3960 ≤ 7094006 by omega)⟩ dL_law_103 (vI_in (fun r_42 M_40 h_41 => ?_))
        refine v_widen (z' := (4000 + 3000 * i + 1972, 40000 + 20000 * i + 11912)) (show 4000 + 3000 * i + 1312 + 660 ≤ 4000 + 3000 * i + 1972 by omega) (show 40000 + 20000 * i + 7952 + 3960 ≤ 40000 + 20000 * i + 11912 by omega) ?_
        obtain ⟨hr_43, hA_44, hF_45⟩ := h_41
        subst hr_43
        have hO_46 := hA_36.q hF_45
        refine v_ieqB X 135 dL_law_106 (by decide) (fun q_47 => absurd q_47 (by decide)) (fun _ => ?_)
        refine v_aload_n X 4 dL_law_109 rfl ?_
        refine v_callB X hLP hCl hCR (CB.q hN (c_L_errors l hst0 (kq k) (mq M_40) (aS S1 []) rfl hA_44)) mo_L_errors m_b0 m_687 m_688 m_581 ⟨Nat.le_of_ble_eq_true rfl, Nat.le_of_ble_eq_true rfl⟩ rfl rfl (Nat.le_of_ble_eq_true rfl) ⟨(show 4000 + 3000 * i + 1972 + 140 ≤ 669154 by omega), (show 40000 + 20000 * i + 11912 + 900 ≤ 7094006 by omega)⟩ dL_law_110 (vI_in (fun r_50 M_48 h_49 => ?_))
        refine v_widen (z' := (4000 + 3000 * i + 2112, 40000 + 20000 * i + 12812)) (show 4000 + 3000 * i + 1972 + 140 ≤ 4000 + 3000 * i + 2112 by omega) (show 40000 + 20000 * i + 11912 + 900 ≤ 40000 + 20000 * i + 12812 by omega) ?_
        obtain ⟨hr_51, hA_52, hF_53⟩ := h_49
        subst hr_51
        have hO_54 := hO_46.q hF_53
        refine v_ieqB X 135 dL_law_113 (by decide) (fun q_55 => absurd q_55 (by decide)) (fun _ => ?_)
        refine v_aload_n X 5 dL_law_116 rfl ?_
        refine v_callB X hLP hCl hCR (c_L_errors l hst0 k M_48 (aS S1 []) rfl hO_54) mo_L_errors m_b0 m_687 m_688 m_581 ⟨Nat.le_of_ble_eq_true rfl, Nat.le_of_ble_eq_true rfl⟩ rfl rfl (Nat.le_of_ble_eq_true rfl) ⟨(show 4000 + 3000 * i + 2112 + 140 ≤ 669154 by omega), (show 40000 + 20000 * i + 12812 + 900 ≤ 7094006 by omega)⟩ dL_law_117 (vI_in (fun r_58 M_56 h_57 => ?_))
        refine v_widen (z' := (4000 + 3000 * i + 2252, 40000 + 20000 * i + 13712)) (show 4000 + 3000 * i + 2112 + 140 ≤ 4000 + 3000 * i + 2252 by omega) (show 40000 + 20000 * i + 12812 + 900 ≤ 40000 + 20000 * i + 13712 by omega) ?_
        obtain ⟨hr_59, hA_60, hF_61⟩ := h_57
        subst hr_59
        have hO_62 := hA_52.p hF_61
        refine v_ieqB X 135 dL_law_120 (by decide) (fun q_63 => absurd q_63 (by decide)) (fun _ => ?_)
        refine v_aload_n X 5 dL_law_123 rfl ?_
        refine v_aload_n X 4 dL_law_124 rfl ?_
        refine v_callB X hLP hCl hCR (c_L_alike l hst0 k M_56 (aS S1 []) hN hA_60 hO_62) mo_L_alike m_b4 m_693 m_694 m_581 ⟨Nat.le_of_ble_eq_true rfl, Nat.le_of_ble_eq_true rfl⟩ rfl rfl (Nat.le_of_ble_eq_true rfl) ⟨(show 4000 + 3000 * i + 2252 + 224 ≤ 669154 by omega), (show 40000 + 20000 * i + 13712 + 1344 ≤ 7094006 by omega)⟩ dL_law_125 (vI_in (fun r_66 M_64 h_65 => ?_))
        refine v_widen (z' := (4000 + 3000 * i + 2476, 40000 + 20000 * i + 15056)) (show 4000 + 3000 * i + 2252 + 224 ≤ 4000 + 3000 * i + 2476 by omega) (show 40000 + 20000 * i + 13712 + 1344 ≤ 40000 + 20000 * i + 15056 by omega) ?_
        obtain ⟨hr_67, hA_68, hB_69⟩ := h_65
        subst hr_67
        refine v_ieqB X 135 dL_law_128 (by decide) (fun q_70 => absurd q_70 (by decide)) (fun _ => ?_)
        refine v_iconst X (v := nI 1) (by decide) dL_law_131 ?_
        refine v_goto X 136 dL_law_132 (by decide) ?_
        refine v_istore_n X [(3, .int (nI 1)), (6, .int (nI y)), (5, .int (nI x)), (4, .int (nI i)), (2, .ref (ad k 93)), (1, .ref (ad k 0)), (0, .ref b)] dL_law_136 (by decide) rfl ?_
        refine v_iinc X (v := nI (i + 1)) 3 [(4, .int (nI (i + 1))), (3, .int (nI 1)), (6, .int (nI y)), (5, .int (nI x)), (2, .ref (ad k 93)), (1, .ref (ad k 0)), (0, .ref b)] dL_law_137 rfl (nI_1 _) (by decide) rfl ?_
        refine v_goto X 24 dL_law_140 (by decide) ?_
        refine v_widen (z' := (4000 + 3000 * (i + 1), 40000 + 20000 * (i + 1))) (show 4000 + 3000 * i + 2476 ≤ 4000 + 3000 * (i + 1) by omega) (show 40000 + 20000 * i + 15056 ≤ 40000 + 20000 * (i + 1) by omega) ?_
        refine v_lv [0, 1, 4, 5, 6] rfl ?_
        exact ih_L24 (i + 1) (aS S1 []) M_64 (by omega) (by omega) hA_68 hB_69
  refine v_aload_n X 0 dL_law_16 rfl ?_
  refine v_callB X hLP hCl hCR (CB.q hN (c_L_errors l hst0 (kq k) (mq M) S hm hB)) mo_L_errors m_b0 m_687 m_688 m_581 ⟨Nat.le_of_ble_eq_true rfl, Nat.le_of_ble_eq_true rfl⟩ rfl rfl (Nat.le_of_ble_eq_true rfl) ⟨Nat.le_of_ble_eq_true rfl, Nat.le_of_ble_eq_true rfl⟩ dL_law_17 (vI_in (fun r_73 M_71 h_72 => ?_))
  refine v_widen (z' := (2140, 20900)) (Nat.le_of_ble_eq_true rfl) (Nat.le_of_ble_eq_true rfl) ?_
  obtain ⟨hr_74, hA_75, hF_76⟩ := h_72
  subst hr_74
  have hO_77 := hA.q hF_76
  refine v_istore_n X [(3, .int (bI true)), (2, .ref (ad k 93)), (1, .ref (ad k 0)), (0, .ref b)] dL_law_20 (by decide) rfl ?_
  refine v_iconst X (v := nI 0) (by decide) dL_law_21 ?_
  refine v_istore X [(4, .int (nI 0)), (3, .int (bI true)), (2, .ref (ad k 93)), (1, .ref (ad k 0)), (0, .ref b)] dL_law_22 (by decide) rfl ?_
  refine v_widen (z' := (4000 + 3000 * 0, 40000 + 20000 * 0)) (show 2140 ≤ 4000 + 3000 * 0 by omega) (show 20900 ≤ 40000 + 20000 * 0 by omega) ?_
  exact L24 10 0 S M_71 (by omega) (Nat.zero_le _) hO_77 hA_75
