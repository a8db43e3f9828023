/-! the law's own methods: alike, ahead -/
set_option maxHeartbeats 4000000 in
set_option maxRecDepth 100000 in
theorem c_L_alike (l : Launch) (hst0 : l.stackTraces = false) (k : KX) (M : Mem) (S : SS) (hN : 186 ≤ kN k) (hA : At k M S) (hB : At (kq k) (mq M) S) : CB l yL_alike cL_alike 4 (some .boolean) { frames := 10, cells := 224, slots := 1344, locals := 178 } k [.ref (ad k 0), .ref (ad k 93)] M (pI (fun r M' => r = bI true ∧ At k M' S ∧ At (kq k) (mq M') S)) := by
  refine CB.of (by decide) (Nat.le_of_ble_eq_true rfl) (fun C X hCl hCR rb => ?_)
  show V C k 4 (0, 0) M 0 [(0, .ref (ad k 0)), (1, .ref (ad k 93))] []
  have L97 : ∀ (fu : Nat) (i : Nat) (Mq : Mem), 4 - i < fu → (i ≤ 4) → At k Mq S → At (kq k) (mq Mq) S → V C k 4 (200 + 6 * i, 1200 + 36 * i) Mq 97 [(3, .int (nI i)), (2, .int (nI 1)), (1, .ref (ad k 93)), (0, .ref (ad k 0))] [] := by
    intro fu
    induction fu with
    | zero => intro i Mq hfu; exact absurd hfu (Nat.not_lt_zero _)
    | succ fu ih_L97 =>
      intro i Mq hfu hi hAq hBq
      refine v_iload_n X 0 dL_alike_97 rfl ?_
      refine v_iconst X (v := nI 4) (by decide) dL_alike_98 ?_
      refine v_cgeN X 192 (by omega) (by omega) dL_alike_99 (by decide) (fun c_1 => ?_) (fun c_2 => ?_)
      · have hi_ : i = 4 := by omega
        subst hi_
        refine v_iload_n X 1 dL_alike_192 rfl ?_
        exact v_iret X rb.1 ⟨(show 200 + 6 * 4 ≤ 224 by omega), (show 1200 + 36 * 4 ≤ 1344 by omega)⟩ (by decide +kernel) dL_alike_193 ⟨_, rfl, rfl, hAq, hBq⟩
      · refine v_iload_n X 1 dL_alike_102 rfl ?_
        refine v_ieqN X 184 (by omega) dL_alike_103 (by decide) (fun q_1 => absurd q_1 (by decide)) (fun _ => ?_)
        refine v_aload_n X 3 dL_alike_106 rfl ?_
        refine v_iconst X (v := nI 5) (by decide) dL_alike_107 ?_
        refine v_iload_n X 0 dL_alike_108 rfl ?_
        refine v_mulN X dL_alike_109 ?_
        refine v_callV X hCl hCR (c_X7_model l k Mq S.1 S.2.1 S.2.2.1 S.2.2.2.1 S.2.2.2.2 (nI (5 * i)) hAq) cls7 hAq.obj (by omega) mo_X7_model m_404 m_625 m_626 m_627 m_21 (by decide) rfl rfl (Nat.le_of_ble_eq_true rfl) ⟨rfl, rfl⟩ ⟨(show 200 + 6 * i ≤ 224 by omega), (show 1200 + 36 * i ≤ 1344 by omega)⟩ dL_alike_110 (vI_in (fun r_4 M_2 h_3 => ?_))
        obtain ⟨hr_5, hA_6, hF_7⟩ : r_4 = oI (nthF (isMod S.1) (nI (5 * i)) 256 0 0) ∧ At k M_2 S ∧ Fr 0 93 Mq M_2 := h_3
        subst hr_5
        have hO_8 := hBq.p hF_7
        refine v_aload_n X 2 dL_alike_113 rfl ?_
        refine v_iconst X (v := nI 5) (by decide) dL_alike_114 ?_
        refine v_iload_n X 0 dL_alike_115 rfl ?_
        refine v_mulN X dL_alike_116 ?_
        refine v_callV X hCl hCR (CM.q hN (c_X7_model l (kq k) (mq M_2) S.1 S.2.1 S.2.2.1 S.2.2.2.1 S.2.2.2.2 (nI (5 * i)) hO_8)) cls7 (At.obq hO_8) (by omega) mo_X7_model m_404 m_625 m_626 m_627 m_21 (by decide) rfl rfl (Nat.le_of_ble_eq_true rfl) ⟨rfl, rfl⟩ ⟨(show 200 + 6 * i ≤ 224 by omega), (show 1200 + 36 * i ≤ 1344 by omega)⟩ dL_alike_117 (vI_in (fun r_11 M_9 h_10 => ?_))
        obtain ⟨hr_12, hA_13, hF_14⟩ : r_11 = oI (nthF (isMod S.1) (nI (5 * i)) 256 0 0) ∧ At (kq k) (mq M_9) S ∧ Fr 0 93 (mq M_2) (mq M_9) := h_10
        subst hr_12
        have hO_15 := hA_6.q hF_14
        refine v_icmp_ne X 184 dL_alike_120 (by decide) (fun q_16 => absurd rfl q_16) (fun _ => ?_)
        refine v_aload_n X 3 dL_alike_123 rfl ?_
        refine v_iload_n X 0 dL_alike_124 rfl ?_
        refine v_callL X rb.2.1 rb.2.2.1 hCl hCR (c_L_row l hst0 k M_9 S (nI i) hO_15) mo_L_row m_570 m_638 m_639 m_581 ⟨Nat.le_of_ble_eq_true rfl, Nat.le_of_ble_eq_true rfl⟩ rfl rfl (Nat.le_of_ble_eq_true rfl) ⟨(show 200 + 6 * i + 1 ≤ 224 by omega), (show 1200 + 36 * i + 6 ≤ 1344 by omega)⟩ dL_alike_125 (vI_in (fun r_19 M_17 h_18 => ?_))
        refine v_widen (z' := (200 + 6 * i + 1, 1200 + 36 * i + 6)) (show 200 + 6 * i + 1 ≤ 200 + 6 * i + 1 by omega) (show 1200 + 36 * i + 6 ≤ 1200 + 36 * i + 6 by omega) ?_
        obtain ⟨hr_20, hA_21, hF_22⟩ := pa_eq ((rfl : W_row S (nI i) = ((W_row S (nI i)).1, S))) h_18
        subst hr_20
        have hO_23 := hA_13.p hF_22
        refine v_aload_n X 2 dL_alike_128 rfl ?_
        refine v_iload_n X 0 dL_alike_129 rfl ?_
        refine v_callL X rb.2.1 rb.2.2.1 hCl hCR (CL.q hN (c_L_row l hst0 (kq k) (mq M_17) S (nI i) hO_23)) mo_L_row m_570 m_638 m_639 m_581 ⟨Nat.le_of_ble_eq_true rfl, Nat.le_of_ble_eq_true rfl⟩ rfl rfl (Nat.le_of_ble_eq_true rfl) ⟨(show 200 + 6 * i + 1 + 1 ≤ 224 by omega), (show 1200 + 36 * i + 6 + 6 ≤ 1344 by omega)⟩ dL_alike_130 (vI_in (fun r_26 M_24 h_25 => ?_))
        refine v_widen (z' := (200 + 6 * i + 2, 1200 + 36 * i + 12)) (show 200 + 6 * i + 1 + 1 ≤ 200 + 6 * i + 2 by omega) (show 1200 + 36 * i + 6 + 6 ≤ 1200 + 36 * i + 12 by omega) ?_
        obtain ⟨hr_27, hA_28, hF_29⟩ := pa_eq ((rfl : W_row S (nI i) = ((W_row S (nI i)).1, S))) h_25
        subst hr_27
        have hO_30 := hA_21.q hF_29
        refine v_icmp_ne X 184 dL_alike_133 (by decide) (fun q_31 => absurd rfl q_31) (fun _ => ?_)
        refine v_aload_n X 3 dL_alike_136 rfl ?_
        refine v_iconst X (v := nI 1) (by decide) dL_alike_137 ?_
        refine v_iload_n X 0 dL_alike_138 rfl ?_
        refine v_shlN X (by omega) dL_alike_139 ?_
        refine v_bipush X (v := nI 16) (by decide) dL_alike_140 ?_
        refine v_callL X rb.2.1 rb.2.2.1 hCl hCR (c_L_clauseHolds l hst0 k M_24 S (nI (1 <<< i)) (nI 16) hO_30) mo_L_clauseHolds m_562 m_617 m_618 m_581 ⟨Nat.le_of_ble_eq_true rfl, Nat.le_of_ble_eq_true rfl⟩ rfl rfl (Nat.le_of_ble_eq_true rfl) ⟨(show 200 + 6 * i + 2 + 1 ≤ 224 by omega), (show 1200 + 36 * i + 12 + 6 ≤ 1344 by omega)⟩ dL_alike_142 (vI_in (fun r_34 M_32 h_33 => ?_))
        refine v_widen (z' := (200 + 6 * i + 3, 1200 + 36 * i + 18)) (show 200 + 6 * i + 2 + 1 ≤ 200 + 6 * i + 3 by omega) (show 1200 + 36 * i + 12 + 6 ≤ 1200 + 36 * i + 18 by omega) ?_
        obtain ⟨hr_35, hA_36, hF_37⟩ := pa_eq ((rfl : W_clauseHolds S (nI (1 <<< i)) (nI 16) = ((W_clauseHolds S (nI (1 <<< i)) (nI 16)).1, S))) h_33
        subst hr_35
        have hO_38 := hA_28.p hF_37
        refine v_aload_n X 2 dL_alike_145 rfl ?_
        refine v_iconst X (v := nI 1) (by decide) dL_alike_146 ?_
        refine v_iload_n X 0 dL_alike_147 rfl ?_
        refine v_shlN X (by omega) dL_alike_148 ?_
        refine v_bipush X (v := nI 16) (by decide) dL_alike_149 ?_
        refine v_callL X rb.2.1 rb.2.2.1 hCl hCR (CL.q hN (c_L_clauseHolds l hst0 (kq k) (mq M_32) S (nI (1 <<< i)) (nI 16) hO_38)) mo_L_clauseHolds m_562 m_617 m_618 m_581 ⟨Nat.le_of_ble_eq_true rfl, Nat.le_of_ble_eq_true rfl⟩ rfl rfl (Nat.le_of_ble_eq_true rfl) ⟨(show 200 + 6 * i + 3 + 1 ≤ 224 by omega), (show 1200 + 36 * i + 18 + 6 ≤ 1344 by omega)⟩ dL_alike_151 (vI_in (fun r_41 M_39 h_40 => ?_))
        refine v_widen (z' := (200 + 6 * i + 4, 1200 + 36 * i + 24)) (show 200 + 6 * i + 3 + 1 ≤ 200 + 6 * i + 4 by omega) (show 1200 + 36 * i + 18 + 6 ≤ 1200 + 36 * i + 24 by omega) ?_
        obtain ⟨hr_42, hA_43, hF_44⟩ := pa_eq ((rfl : W_clauseHolds S (nI (1 <<< i)) (nI 16) = ((W_clauseHolds S (nI (1 <<< i)) (nI 16)).1, S))) h_40
        subst hr_42
        have hO_45 := hA_36.q hF_44
        refine v_icmp_ne X 184 dL_alike_154 (by decide) (fun q_46 => absurd rfl q_46) (fun _ => ?_)
        refine v_aload_n X 3 dL_alike_157 rfl ?_
        refine v_iconst X (v := nI 3) (by decide) dL_alike_158 ?_
        refine v_iload_n X 0 dL_alike_159 rfl ?_
        refine v_shlN X (by omega) dL_alike_160 ?_
        refine v_iload_n X 0 dL_alike_161 rfl ?_
        refine v_iconst X (v := nI 1) (by decide) dL_alike_162 ?_
        refine v_andN X dL_alike_163 ?_
        refine v_callL X rb.2.1 rb.2.2.1 hCl hCR (c_L_parityHolds l hst0 k M_39 S (nI (3 <<< i)) (nI (i &&& 1)) hO_45) mo_L_parityHolds m_566 m_619 m_620 m_581 ⟨Nat.le_of_ble_eq_true rfl, Nat.le_of_ble_eq_true rfl⟩ rfl rfl (Nat.le_of_ble_eq_true rfl) ⟨(show 200 + 6 * i + 4 + 1 ≤ 224 by omega), (show 1200 + 36 * i + 24 + 6 ≤ 1344 by omega)⟩ dL_alike_164 (vI_in (fun r_49 M_47 h_48 => ?_))
        refine v_widen (z' := (200 + 6 * i + 5, 1200 + 36 * i + 30)) (show 200 + 6 * i + 4 + 1 ≤ 200 + 6 * i + 5 by omega) (show 1200 + 36 * i + 24 + 6 ≤ 1200 + 36 * i + 30 by omega) ?_
        obtain ⟨hr_50, hA_51, hF_52⟩ := pa_eq ((rfl : W_parityHolds S (nI (3 <<< i)) (nI (i &&& 1)) = ((W_parityHolds S (nI (3 <<< i)) (nI (i &&& 1))).1, S))) h_48
        subst hr_50
        have hO_53 := hA_43.p hF_52
        refine v_aload_n X 2 dL_alike_167 rfl ?_
        refine v_iconst X (v := nI 3) (by decide) dL_alike_168 ?_
        refine v_iload_n X 0 dL_alike_169 rfl ?_
        refine v_shlN X (by omega) dL_alike_170 ?_
        refine v_iload_n X 0 dL_alike_171 rfl ?_
        refine v_iconst X (v := nI 1) (by decide) dL_alike_172 ?_
        refine v_andN X dL_alike_173 ?_
        refine v_callL X rb.2.1 rb.2.2.1 hCl hCR (CL.q hN (c_L_parityHolds l hst0 (kq k) (mq M_47) S (nI (3 <<< i)) (nI (i &&& 1)) hO_53)) mo_L_parityHolds m_566 m_619 m_620 m_581 ⟨Nat.le_of_ble_eq_true rfl, Nat.le_of_ble_eq_true rfl⟩ rfl rfl (Nat.le_of_ble_eq_true rfl) ⟨(show 200 + 6 * i + 5 + 1 ≤ 224 by omega), (show 1200 + 36 * i + 30 + 6 ≤ 1344 by omega)⟩ dL_alike_174 (vI_in (fun r_56 M_54 h_55 => ?_))
        refine v_widen (z' := (200 + 6 * i + 6, 1200 + 36 * i + 36)) (show 200 + 6 * i + 5 + 1 ≤ 200 + 6 * i + 6 by omega) (show 1200 + 36 * i + 30 + 6 ≤ 1200 + 36 * i + 36 by omega) ?_
        obtain ⟨hr_57, hA_58, hF_59⟩ := pa_eq ((rfl : W_parityHolds S (nI (3 <<< i)) (nI (i &&& 1)) = ((W_parityHolds S (nI (3 <<< i)) (nI (i &&& 1))).1, S))) h_55
        subst hr_57
        have hO_60 := hA_51.q hF_59
        refine v_icmp_ne X 184 dL_alike_177 (by decide) (fun q_61 => absurd rfl q_61) (fun _ => ?_)
        refine v_iconst X (v := nI 1) (by decide) dL_alike_180 ?_
        refine v_goto X 185 dL_alike_181 (by decide) ?_
        refine v_istore_n X [(2, .int (nI 1)), (3, .int (nI i)), (1, .ref (ad k 93)), (0, .ref (ad k 0))] dL_alike_185 (by decide) rfl ?_
        refine v_iinc X (v := nI (i + 1)) 1 [(3, .int (nI (i + 1))), (2, .int (nI 1)), (1, .ref (ad k 93)), (0, .ref (ad k 0))] dL_alike_186 rfl (nI_1 _) (by decide) rfl ?_
        refine v_goto X 97 dL_alike_189 (by decide) ?_
        refine v_widen (z' := (200 + 6 * (i + 1), 1200 + 36 * (i + 1))) (show 200 + 6 * i + 6 ≤ 200 + 6 * (i + 1) by omega) (show 1200 + 36 * i + 36 ≤ 1200 + 36 * (i + 1) by omega) ?_
        exact ih_L97 (i + 1) M_54 (by omega) (by omega) hO_60 hA_58
  refine v_aload_n X 0 dL_alike_0 rfl ?_
  refine v_callB X rb.2 hCl hCR (c_L_now l hst0 k M S hA) mo_L_now m_b3 m_662 m_663 m_581 ⟨Nat.le_of_ble_eq_true rfl, Nat.le_of_ble_eq_true rfl⟩ rfl rfl (Nat.le_of_ble_eq_true rfl) ⟨Nat.le_of_ble_eq_true rfl, Nat.le_of_ble_eq_true rfl⟩ dL_alike_1 (vJ_in (fun r_64 M_62 h_63 => ?_))
  refine v_widen (z' := (96, 576)) (Nat.le_of_ble_eq_true rfl) (Nat.le_of_ble_eq_true rfl) ?_
  obtain ⟨hr_65, hA_66, hF_67⟩ := h_63
  subst hr_65
  have hO_68 := hB.p hF_67
  refine v_aload_n X 1 dL_alike_4 rfl ?_
  refine v_callB X rb.2 hCl hCR (CB.qJ hN (c_L_now l hst0 (kq k) (mq M_62) S hO_68)) mo_L_now m_b3 m_662 m_663 m_581 ⟨Nat.le_of_ble_eq_true rfl, Nat.le_of_ble_eq_true rfl⟩ rfl rfl (Nat.le_of_ble_eq_true rfl) ⟨Nat.le_of_ble_eq_true rfl, Nat.le_of_ble_eq_true rfl⟩ dL_alike_5 (vJ_in (fun r_71 M_69 h_70 => ?_))
  refine v_widen (z' := (192, 1152)) (Nat.le_of_ble_eq_true rfl) (Nat.le_of_ble_eq_true rfl) ?_
  obtain ⟨hr_72, hA_73, hF_74⟩ := h_70
  subst hr_72
  have hO_75 := hA_66.q hF_74
  refine v_lcmp X dL_alike_8 ?_
  refine v_if_ne X 93 dL_alike_9 (by decide) (fun q_76 => absurd ((lg_cmp_eq _ _).mpr rfl) q_76) (fun _ => ?_)
  refine v_aload_n X 0 dL_alike_12 rfl ?_
  refine v_callV X hCl hCR (c_X7_errorPosition l k M_69 S.1 S.2.1 S.2.2.1 S.2.2.2.1 S.2.2.2.2 hO_75) cls7 hO_75.obj (by omega) mo_X7_errorPosition m_285 m_664 m_665 m_666 m_21 (by decide) rfl rfl (Nat.le_of_ble_eq_true rfl) ⟨rfl, rfl⟩ ⟨Nat.le_of_ble_eq_true rfl, Nat.le_of_ble_eq_true rfl⟩ dL_alike_13 (vI_in (fun r_79 M_77 h_78 => ?_))
  obtain ⟨hr_80, hA_81, hF_82⟩ : r_79 = oI (rdText S.2.2.2.2).1 ∧ At k M_77 S ∧ Fr 0 93 M_69 M_77 := h_78
  subst hr_80
  have hO_83 := hA_73.p hF_82
  refine v_aload_n X 1 dL_alike_16 rfl ?_
  refine v_callV X hCl hCR (CM.q hN (c_X7_errorPosition l (kq k) (mq M_77) S.1 S.2.1 S.2.2.1 S.2.2.2.1 S.2.2.2.2 hO_83)) cls7 (At.obq hO_83) (by omega) mo_X7_errorPosition m_285 m_664 m_665 m_666 m_21 (by decide) rfl rfl (Nat.le_of_ble_eq_true rfl) ⟨rfl, rfl⟩ ⟨Nat.le_of_ble_eq_true rfl, Nat.le_of_ble_eq_true rfl⟩ dL_alike_17 (vI_in (fun r_86 M_84 h_85 => ?_))
  obtain ⟨hr_87, hA_88, hF_89⟩ : r_86 = oI (rdText S.2.2.2.2).1 ∧ At (kq k) (mq M_84) S ∧ Fr 0 93 (mq M_77) (mq M_84) := h_85
  subst hr_87
  have hO_90 := hA_81.q hF_89
  refine v_icmp_ne X 93 dL_alike_20 (by decide) (fun q_91 => absurd rfl q_91) (fun _ => ?_)
  refine v_aload_n X 0 dL_alike_23 rfl ?_
  refine v_callV X hCl hCR (c_X7_modelCount l k M_84 S.1 S.2.1 S.2.2.1 S.2.2.2.1 S.2.2.2.2 hO_90) cls7 hO_90.obj (by omega) mo_X7_modelCount m_400 m_667 m_668 m_669 m_21 (by decide) rfl rfl (Nat.le_of_ble_eq_true rfl) ⟨rfl, rfl⟩ ⟨Nat.le_of_ble_eq_true rfl, Nat.le_of_ble_eq_true rfl⟩ dL_alike_24 (vI_in (fun r_94 M_92 h_93 => ?_))
  obtain ⟨hr_95, hA_96, hF_97⟩ : r_94 = nI (cntP (isMod S.1) 256) ∧ At k M_92 S ∧ Fr 0 93 M_84 M_92 := h_93
  subst hr_95
  have hO_98 := hA_88.p hF_97
  refine v_aload_n X 1 dL_alike_27 rfl ?_
  refine v_callV X hCl hCR (CM.q hN (c_X7_modelCount l (kq k) (mq M_92) S.1 S.2.1 S.2.2.1 S.2.2.2.1 S.2.2.2.2 hO_98)) cls7 (At.obq hO_98) (by omega) mo_X7_modelCount m_400 m_667 m_668 m_669 m_21 (by decide) rfl rfl (Nat.le_of_ble_eq_true rfl) ⟨rfl, rfl⟩ ⟨Nat.le_of_ble_eq_true rfl, Nat.le_of_ble_eq_true rfl⟩ dL_alike_28 (vI_in (fun r_101 M_99 h_100 => ?_))
  obtain ⟨hr_102, hA_103, hF_104⟩ : r_101 = nI (cntP (isMod S.1) 256) ∧ At (kq k) (mq M_99) S ∧ Fr 0 93 (mq M_92) (mq M_99) := h_100
  subst hr_102
  have hO_105 := hA_96.q hF_104
  refine v_icmp_ne X 93 dL_alike_31 (by decide) (fun q_106 => absurd rfl q_106) (fun _ => ?_)
  refine v_aload_n X 0 dL_alike_34 rfl ?_
  refine v_callV X hCl hCR (c_X7_core l k M_99 S.1 S.2.1 S.2.2.1 S.2.2.2.1 S.2.2.2.2 hO_105) cls7 hO_105.obj (by omega) mo_X7_core m_413 m_670 m_671 m_672 m_21 (by decide) rfl rfl (Nat.le_of_ble_eq_true rfl) ⟨rfl, rfl⟩ ⟨Nat.le_of_ble_eq_true rfl, Nat.le_of_ble_eq_true rfl⟩ dL_alike_35 (vI_in (fun r_109 M_107 h_108 => ?_))
  obtain ⟨hr_110, hA_111, hF_112⟩ : r_109 = oI (coreO S.1) ∧ At k M_107 S ∧ Fr 0 93 M_99 M_107 := h_108
  subst hr_110
  have hO_113 := hA_103.p hF_112
  refine v_aload_n X 1 dL_alike_38 rfl ?_
  refine v_callV X hCl hCR (CM.q hN (c_X7_core l (kq k) (mq M_107) S.1 S.2.1 S.2.2.1 S.2.2.2.1 S.2.2.2.2 hO_113)) cls7 (At.obq hO_113) (by omega) mo_X7_core m_413 m_670 m_671 m_672 m_21 (by decide) rfl rfl (Nat.le_of_ble_eq_true rfl) ⟨rfl, rfl⟩ ⟨Nat.le_of_ble_eq_true rfl, Nat.le_of_ble_eq_true rfl⟩ dL_alike_39 (vI_in (fun r_116 M_114 h_115 => ?_))
  obtain ⟨hr_117, hA_118, hF_119⟩ : r_116 = oI (coreO S.1) ∧ At (kq k) (mq M_114) S ∧ Fr 0 93 (mq M_107) (mq M_114) := h_115
  subst hr_117
  have hO_120 := hA_111.q hF_119
  refine v_icmp_ne X 93 dL_alike_42 (by decide) (fun q_121 => absurd rfl q_121) (fun _ => ?_)
  refine v_aload_n X 0 dL_alike_45 rfl ?_
  refine v_callV X hCl hCR (c_X7_rank l k M_114 S.1 S.2.1 S.2.2.1 S.2.2.2.1 S.2.2.2.2 hO_120) cls7 hO_120.obj (by omega) mo_X7_rank m_417 m_673 m_674 m_675 m_21 (by decide) rfl rfl (Nat.le_of_ble_eq_true rfl) ⟨rfl, rfl⟩ ⟨Nat.le_of_ble_eq_true rfl, Nat.le_of_ble_eq_true rfl⟩ dL_alike_46 (vI_in (fun r_124 M_122 h_123 => ?_))
  obtain ⟨hr_125, hA_126, hF_127⟩ : r_124 = nI (elRun S.1).2.1 ∧ At k M_122 S ∧ Fr 0 93 M_114 M_122 := h_123
  subst hr_125
  have hO_128 := hA_118.p hF_127
  refine v_aload_n X 1 dL_alike_49 rfl ?_
  refine v_callV X hCl hCR (CM.q hN (c_X7_rank l (kq k) (mq M_122) S.1 S.2.1 S.2.2.1 S.2.2.2.1 S.2.2.2.2 hO_128)) cls7 (At.obq hO_128) (by omega) mo_X7_rank m_417 m_673 m_674 m_675 m_21 (by decide) rfl rfl (Nat.le_of_ble_eq_true rfl) ⟨rfl, rfl⟩ ⟨Nat.le_of_ble_eq_true rfl, Nat.le_of_ble_eq_true rfl⟩ dL_alike_50 (vI_in (fun r_131 M_129 h_130 => ?_))
  obtain ⟨hr_132, hA_133, hF_134⟩ : r_131 = nI (elRun S.1).2.1 ∧ At (kq k) (mq M_129) S ∧ Fr 0 93 (mq M_122) (mq M_129) := h_130
  subst hr_132
  have hO_135 := hA_126.q hF_134
  refine v_icmp_ne X 93 dL_alike_53 (by decide) (fun q_136 => absurd rfl q_136) (fun _ => ?_)
  refine v_aload_n X 0 dL_alike_56 rfl ?_
  refine v_callV X hCl hCR (c_X7_isConsistent l k M_129 S.1 S.2.1 S.2.2.1 S.2.2.2.1 S.2.2.2.2 hO_135) cls7 hO_135.obj (by omega) mo_X7_isConsistent m_418 m_635 m_636 m_637 m_21 (by decide) rfl rfl (Nat.le_of_ble_eq_true rfl) ⟨rfl, rfl⟩ ⟨Nat.le_of_ble_eq_true rfl, Nat.le_of_ble_eq_true rfl⟩ dL_alike_57 (vI_in (fun r_139 M_137 h_138 => ?_))
  obtain ⟨hr_140, hA_141, hF_142⟩ : r_139 = bI (elRun S.1).2.2 ∧ At k M_137 S ∧ Fr 0 93 M_129 M_137 := h_138
  subst hr_140
  have hO_143 := hA_133.p hF_142
  refine v_aload_n X 1 dL_alike_60 rfl ?_
  refine v_callV X hCl hCR (CM.q hN (c_X7_isConsistent l (kq k) (mq M_137) S.1 S.2.1 S.2.2.1 S.2.2.2.1 S.2.2.2.2 hO_143)) cls7 (At.obq hO_143) (by omega) mo_X7_isConsistent m_418 m_635 m_636 m_637 m_21 (by decide) rfl rfl (Nat.le_of_ble_eq_true rfl) ⟨rfl, rfl⟩ ⟨Nat.le_of_ble_eq_true rfl, Nat.le_of_ble_eq_true rfl⟩ dL_alike_61 (vI_in (fun r_146 M_144 h_145 => ?_))
  obtain ⟨hr_147, hA_148, hF_149⟩ : r_146 = bI (elRun S.1).2.2 ∧ At (kq k) (mq M_144) S ∧ Fr 0 93 (mq M_137) (mq M_144) := h_145
  subst hr_147
  have hO_150 := hA_141.q hF_149
  refine v_icmp_ne X 93 dL_alike_64 (by decide) (fun q_151 => absurd rfl q_151) (fun _ => ?_)
  refine v_aload_n X 0 dL_alike_67 rfl ?_
  refine v_callV X hCl hCR (c_X7_solve l k M_144 S.1 S.2.1 S.2.2.1 S.2.2.2.1 S.2.2.2.2 hO_150) cls7 hO_150.obj (by omega) mo_X7_solve m_428 m_676 m_677 m_678 m_21 (by decide) rfl rfl (Nat.le_of_ble_eq_true rfl) ⟨rfl, rfl⟩ ⟨Nat.le_of_ble_eq_true rfl, Nat.le_of_ble_eq_true rfl⟩ dL_alike_68 (vI_in (fun r_154 M_152 h_153 => ?_))
  obtain ⟨hr_155, hA_156, hF_157⟩ : r_154 = solveF 25 0 S.1 (sNew S.1 []) ∧ At k M_152 S ∧ Fr 0 93 M_144 M_152 := h_153
  subst hr_155
  have hO_158 := hA_148.p hF_157
  refine v_aload_n X 1 dL_alike_71 rfl ?_
  refine v_callV X hCl hCR (CM.q hN (c_X7_solve l (kq k) (mq M_152) S.1 S.2.1 S.2.2.1 S.2.2.2.1 S.2.2.2.2 hO_158)) cls7 (At.obq hO_158) (by omega) mo_X7_solve m_428 m_676 m_677 m_678 m_21 (by decide) rfl rfl (Nat.le_of_ble_eq_true rfl) ⟨rfl, rfl⟩ ⟨Nat.le_of_ble_eq_true rfl, Nat.le_of_ble_eq_true rfl⟩ dL_alike_72 (vI_in (fun r_161 M_159 h_160 => ?_))
  obtain ⟨hr_162, hA_163, hF_164⟩ : r_161 = solveF 25 0 S.1 (sNew S.1 []) ∧ At (kq k) (mq M_159) S ∧ Fr 0 93 (mq M_152) (mq M_159) := h_160
  subst hr_162
  have hO_165 := hA_156.q hF_164
  refine v_icmp_ne X 93 dL_alike_75 (by decide) (fun q_166 => absurd rfl q_166) (fun _ => ?_)
  refine v_aload_n X 0 dL_alike_78 rfl ?_
  refine v_callL X rb.2.1 rb.2.2.1 hCl hCR (c_L_learned l hst0 k M_159 S hO_165) mo_L_learned m_558 m_633 m_634 m_581 ⟨Nat.le_of_ble_eq_true rfl, Nat.le_of_ble_eq_true rfl⟩ rfl rfl (Nat.le_of_ble_eq_true rfl) ⟨Nat.le_of_ble_eq_true rfl, Nat.le_of_ble_eq_true rfl⟩ dL_alike_79 (vI_in (fun r_169 M_167 h_168 => ?_))
  refine v_widen (z' := (193, 1158)) (Nat.le_of_ble_eq_true rfl) (Nat.le_of_ble_eq_true rfl) ?_
  obtain ⟨hr_170, hA_171, hF_172⟩ := pa_eq (e_learned_id) h_168
  subst hr_170
  have hO_173 := hA_163.p hF_172
  refine v_aload_n X 1 dL_alike_82 rfl ?_
  refine v_callL X rb.2.1 rb.2.2.1 hCl hCR (CL.q hN (c_L_learned l hst0 (kq k) (mq M_167) S hO_173)) mo_L_learned m_558 m_633 m_634 m_581 ⟨Nat.le_of_ble_eq_true rfl, Nat.le_of_ble_eq_true rfl⟩ rfl rfl (Nat.le_of_ble_eq_true rfl) ⟨Nat.le_of_ble_eq_true rfl, Nat.le_of_ble_eq_true rfl⟩ dL_alike_83 (vI_in (fun r_176 M_174 h_175 => ?_))
  refine v_widen (z' := (194, 1164)) (Nat.le_of_ble_eq_true rfl) (Nat.le_of_ble_eq_true rfl) ?_
  obtain ⟨hr_177, hA_178, hF_179⟩ := pa_eq (e_learned_id) h_175
  subst hr_177
  have hO_180 := hA_171.q hF_179
  refine v_icmp_ne X 93 dL_alike_86 (by decide) (fun q_181 => absurd rfl q_181) (fun _ => ?_)
  refine v_iconst X (v := nI 1) (by decide) dL_alike_89 ?_
  refine v_goto X 94 dL_alike_90 (by decide) ?_
  refine v_istore_n X [(2, .int (nI 1)), (0, .ref (ad k 0)), (1, .ref (ad k 93))] dL_alike_94 (by decide) rfl ?_
  refine v_iconst X (v := nI 0) (by decide) dL_alike_95 ?_
  refine v_istore_n X [(3, .int (nI 0)), (2, .int (nI 1)), (0, .ref (ad k 0)), (1, .ref (ad k 93))] dL_alike_96 (by decide) rfl ?_
  refine v_widen (z' := (200 + 6 * 0, 1200 + 36 * 0)) (show 194 ≤ 200 + 6 * 0 by omega) (show 1164 ≤ 1200 + 36 * 0 by omega) ?_
  refine v_lv [0, 1, 3, 2] rfl ?_
  exact L97 5 0 M_174 (by omega) (Nat.zero_le _) hO_180 hA_178
set_option maxHeartbeats 4000000 in
set_option maxRecDepth 100000 in
theorem c_L_ahead (l : Launch) (hst0 : l.stackTraces = false) (k : KX) (M : Mem) (S : SS) (x : Nat) (hx : x < 2 ^ 31) (hA : At k M S) : CB l yL_ahead cL_ahead 12 (some .boolean) { frames := 10, cells := 660, slots := 3960, locals := 208 } k [.ref (ad k 0), .int (nI x)] M (pI (fun r M' => r = bI true ∧ At k M' (aS S []) ∧ Fr 0 93 M M')) := by
  refine CB.of (by decide) (Nat.le_of_ble_eq_true rfl) (fun C X hCl hCR rb => ?_)
  show V C k 12 (0, 0) M 0 [(0, .ref (ad k 0)), (1, .int (nI x))] []
  have hN := hA.N
  have hl := hA.len
  have hd := hA.dlen
  have hv := hA.vok
  have hcf := hA.cf
  have hok : trOK (sTr S) := (build_ok hv.1.1.1 hv.1.2.1).1
  have B654 : ∀ (SB : SS) (Mq : Mem), (SB.2.2.2.1 = va_up S.2.2.2.1 1 (some (S.1, S.2.1))) → (SB.2.2.2.2 = S.2.2.2.2) → At k Mq SB → Fr 0 93 M Mq → V C k 12 (550, 3300) Mq 654 [(7, .int (nI 1)), (4, .int (nI S.1.length)), (2, .long (nowF S)), (0, .ref (ad k 0))] [] := by
    intro SB Mq h1 h2 hAq hFq
    refine v_iload X 0 dL_ahead_654 rfl ?_
    refine v_ieqN X 691 (by omega) dL_ahead_656 (by decide) (fun q_1 => absurd q_1 (by decide)) (fun _ => ?_)
    refine v_aload_n X 3 dL_ahead_659 rfl ?_
    refine v_iconst X (v := nI 1) (by decide) dL_ahead_660 ?_
    refine v_callL X rb.2.1 rb.2.2.1 hCl hCR (c_L_restore l hst0 k Mq SB (nI 1) hAq) mo_L_restore m_578 m_623 m_624 m_581 ⟨Nat.le_of_ble_eq_true rfl, Nat.le_of_ble_eq_true rfl⟩ rfl rfl (Nat.le_of_ble_eq_true rfl) ⟨Nat.le_of_ble_eq_true rfl, Nat.le_of_ble_eq_true rfl⟩ dL_ahead_661 (vI_in (fun r_4 M_2 h_3 => ?_))
    refine v_widen (z' := (552, 3312)) (Nat.le_of_ble_eq_true rfl) (Nat.le_of_ble_eq_true rfl) ?_
    obtain ⟨hr_5, hA_6, hF_7⟩ := pa_eq (e_rest1 h1 h2 hv.2.1) h_3
    subst hr_5
    have hFr_8 := hFq.tr hF_7
    refine v_iload X 1 dL_ahead_664 rfl ?_
    refine v_icmp_ne X 691 dL_ahead_666 (by decide) (fun q_9 => absurd rfl q_9) (fun _ => ?_)
    refine v_aload_n X 3 dL_ahead_669 rfl ?_
    refine v_callB X rb.2 hCl hCR (c_L_now l hst0 k M_2 (aS S []) hA_6) mo_L_now m_b3 m_662 m_663 m_581 ⟨Nat.le_of_ble_eq_true rfl, Nat.le_of_ble_eq_true rfl⟩ rfl rfl (Nat.le_of_ble_eq_true rfl) ⟨Nat.le_of_ble_eq_true rfl, Nat.le_of_ble_eq_true rfl⟩ dL_ahead_670 (vJ_in (fun r_12 M_10 h_11 => ?_))
    refine v_widen (z' := (648, 3888)) (Nat.le_of_ble_eq_true rfl) (Nat.le_of_ble_eq_true rfl) ?_
    obtain ⟨hr_13, hA_14, hF_15⟩ := h_11
    subst hr_13
    have hFr_16 := hFr_8.tr hF_15
    refine v_lload_n X 2 dL_ahead_673 rfl ?_
    refine v_lcmp X dL_ahead_674 ?_
    refine v_if_ne X 691 dL_ahead_675 (by decide) (fun q_17 => absurd ((lg_cmp_eq _ _).mpr now_aS) q_17) (fun _ => ?_)
    refine v_aload_n X 3 dL_ahead_678 rfl ?_
    refine v_callL X rb.2.1 rb.2.2.1 hCl hCR (c_L_undo l hst0 k M_10 (aS S []) hA_14) mo_L_undo m_542 m_579 m_580 m_581 ⟨Nat.le_of_ble_eq_true rfl, Nat.le_of_ble_eq_true rfl⟩ rfl rfl (Nat.le_of_ble_eq_true rfl) ⟨Nat.le_of_ble_eq_true rfl, Nat.le_of_ble_eq_true rfl⟩ dL_ahead_679 (vI_in (fun r_20 M_18 h_19 => ?_))
    refine v_widen (z' := (649, 3894)) (Nat.le_of_ble_eq_true rfl) (Nat.le_of_ble_eq_true rfl) ?_
    obtain ⟨hr_21, hA_22, hF_23⟩ := pa_eq (e_undoE) h_19
    subst hr_21
    have hFr_24 := hFr_16.tr hF_23
    refine v_bipush X (v := (-103)) (by decide) dL_ahead_682 ?_
    refine v_icmp_ne X 691 dL_ahead_684 (by decide) (fun q_25 => absurd rfl q_25) (fun _ => ?_)
    refine v_iconst X (v := nI 1) (by decide) dL_ahead_687 ?_
    refine v_goto X 692 dL_ahead_688 (by decide) ?_
    exact v_iret X rb.1 ⟨Nat.le_of_ble_eq_true rfl, Nat.le_of_ble_eq_true rfl⟩ (by decide +kernel) dL_ahead_692 ⟨_, rfl, rfl, hA_22, hFr_24⟩
  have B593 : ∀ (mem : List SD) (i : Nat) (Mq : Mem), (S.1.length ≠ 0 → i < S.1.length) → At k Mq (aS S mem) → Fr 0 93 M Mq → V C k 12 (540, 3240) Mq 593 [(8, .int (nI i)), (7, .int (nI 1)), (6, .int (nI (cntP (isMod S.1) 256))), (5, .int (nI S.2.1.length)), (4, .int (nI S.1.length)), (2, .long (nowF S)), (1, .int (nI x)), (0, .ref (ad k 0))] [] := by
    intro mem i Mq hi0 hAq hFq
    have hvm := hAq.vok
    have hml : (mem).length ≤ 14 := hAq.mlen
    have hum := uM_lt hml
    have hb0 : (build S.1 []).1.length ≤ 8 := (build_ok hv.1.1.1 (fun d h => absurd h List.not_mem_nil)).1.le
    refine v_iload X 1 dL_ahead_593 rfl ?_
    refine v_ieqN X 651 (by omega) dL_ahead_595 (by decide) (fun q_26 => absurd q_26 (by decide)) (fun _ => ?_)
    refine v_aload_n X 7 dL_ahead_598 rfl ?_
    refine v_iconst X (v := nI 0) (by decide) dL_ahead_599 ?_
    refine v_callL X rb.2.1 rb.2.2.1 hCl hCR (c_L_backtrack l hst0 k Mq (aS S mem) (nI 0) hAq) mo_L_backtrack m_534 m_609 m_610 m_581 ⟨Nat.le_of_ble_eq_true rfl, Nat.le_of_ble_eq_true rfl⟩ rfl rfl (Nat.le_of_ble_eq_true rfl) ⟨Nat.le_of_ble_eq_true rfl, Nat.le_of_ble_eq_true rfl⟩ dL_ahead_600 (vI_in (fun r_29 M_27 h_28 => ?_))
    refine v_widen (z' := (541, 3246)) (Nat.le_of_ble_eq_true rfl) (Nat.le_of_ble_eq_true rfl) ?_
    obtain ⟨hr_30, hA_31, hF_32⟩ := pa_eq (e_back0 hd) h_28
    subst hr_30
    have hFr_33 := hFq.tr hF_32
    refine v_iltN X (by omega) dL_ahead_603 ?_
    refine v_aload_n X 7 dL_ahead_606 rfl ?_
    refine v_callV X hCl hCR (c_X7_level l k M_27 (actS (aS S mem) S.1 []).1 (actS (aS S mem) S.1 []).2.1 (actS (aS S mem) S.1 []).2.2.1 (actS (aS S mem) S.1 []).2.2.2.1 (actS (aS S mem) S.1 []).2.2.2.2 hA_31) cls7 hA_31.obj (by omega) mo_X7_level m_383 m_606 m_607 m_608 m_21 (by decide) rfl rfl (Nat.le_of_ble_eq_true rfl) ⟨rfl, rfl⟩ ⟨Nat.le_of_ble_eq_true rfl, Nat.le_of_ble_eq_true rfl⟩ dL_ahead_607 (vI_in (fun r_36 M_34 h_35 => ?_))
    obtain ⟨hr_37, hA_38, hF_39⟩ : r_36 = nI (actS (aS S mem) S.1 []).2.1.length ∧ At k M_34 (actS (aS S mem) S.1 []) ∧ Fr 0 93 M_27 M_34 := h_35
    subst hr_37
    have hFr_40 := hFr_33.tr hF_39
    rw [show (actS (aS S mem) S.1 []).2.1.length = 0 from len_0]
    refine v_ineN X 651 (by omega) dL_ahead_610 (by decide) (fun q_41 => absurd rfl q_41) (fun _ => ?_)
    have hv3 := hA_38.vok
    have hml3 : (actS (aS S mem) S.1 []).2.2.1.length ≤ 14 := hA_38.mlen
    have hum3 := uM_lt hml3
    refine v_iload X 4 dL_ahead_613 rfl ?_
    refine v_ieqN X 647 (by omega) dL_ahead_615 (by decide) (fun hn1 => ?_) (fun hn2 => ?_)
    · refine v_iconst X (v := nI 1) (by decide) dL_ahead_647 ?_
      refine v_goto X 652 dL_ahead_648 (by decide) ?_
      refine v_istore X [(7, .int (nI 1)), (8, .int (nI i)), (6, .int (nI (cntP (isMod S.1) 256))), (5, .int (nI S.2.1.length)), (4, .int (nI S.1.length)), (2, .long (nowF S)), (1, .int (nI x)), (0, .ref (ad k 0))] dL_ahead_652 (by decide) rfl ?_
      refine v_widen (z' := (550, 3300)) (Nat.le_of_ble_eq_true rfl) (Nat.le_of_ble_eq_true rfl) ?_
      refine v_lv [0, 4, 5, 7] rfl ?_
      exact B654 (actS (aS S mem) S.1 []) M_34 rfl rfl hA_38 hFr_40
    · have hi3 := hi0 hn2
      have hcnt : cntP (isMod S.1) 256 ≤ cntP (isMod (actS (actS (aS S mem) S.1 []) (S.1.eraseIdx i) (actS (aS S mem) S.1 []).2.1).1) 256 := cnt_er hi3
      have hc256 := cntP_le (isMod S.1) 256
      have hc257 := cntP_le (isMod (actS (actS (aS S mem) S.1 []) (S.1.eraseIdx i) (actS (aS S mem) S.1 []).2.1).1) 256
      refine v_aload_n X 7 dL_ahead_618 rfl ?_
      refine v_iload X 0 dL_ahead_619 rfl ?_
      refine v_callL X rb.2.1 rb.2.2.1 hCl hCR (c_L_remove l hst0 k M_34 (actS (aS S mem) S.1 []) (nI i) hA_38) mo_L_remove m_518 m_598 m_599 m_581 ⟨Nat.le_of_ble_eq_true rfl, Nat.le_of_ble_eq_true rfl⟩ rfl rfl (Nat.le_of_ble_eq_true rfl) ⟨Nat.le_of_ble_eq_true rfl, Nat.le_of_ble_eq_true rfl⟩ dL_ahead_621 (vI_in (fun r_44 M_42 h_43 => ?_))
      refine v_widen (z' := (542, 3252)) (Nat.le_of_ble_eq_true rfl) (Nat.le_of_ble_eq_true rfl) ?_
      obtain ⟨hr_45, hA_46, hF_47⟩ := pa_eq ((e_remT (S := actS (aS S mem) S.1 []) hl hi3 : W_remove (actS (aS S mem) S.1 []) (nI i) = (nI (S.1.length - 1), actS (actS (aS S mem) S.1 []) (S.1.eraseIdx i) (actS (aS S mem) S.1 []).2.1))) h_43
      subst hr_45
      have hFr_48 := hFr_40.tr hF_47
      refine v_iload X 4 dL_ahead_624 rfl ?_
      refine v_iconst X (v := nI 1) (by decide) dL_ahead_626 ?_
      refine v_subN X (by omega) dL_ahead_627 ?_
      refine v_icmp_ne X 651 dL_ahead_628 (by decide) (fun q_49 => absurd rfl q_49) (fun _ => ?_)
      refine v_aload_n X 7 dL_ahead_631 rfl ?_
      refine v_callV X hCl hCR (c_X7_modelCount l k M_42 (actS (actS (aS S mem) S.1 []) (S.1.eraseIdx i) (actS (aS S mem) S.1 []).2.1).1 (actS (actS (aS S mem) S.1 []) (S.1.eraseIdx i) (actS (aS S mem) S.1 []).2.1).2.1 (actS (actS (aS S mem) S.1 []) (S.1.eraseIdx i) (actS (aS S mem) S.1 []).2.1).2.2.1 (actS (actS (aS S mem) S.1 []) (S.1.eraseIdx i) (actS (aS S mem) S.1 []).2.1).2.2.2.1 (actS (actS (aS S mem) S.1 []) (S.1.eraseIdx i) (actS (aS S mem) S.1 []).2.1).2.2.2.2 hA_46) cls7 hA_46.obj (by omega) mo_X7_modelCount m_400 m_667 m_668 m_669 m_21 (by decide) rfl rfl (Nat.le_of_ble_eq_true rfl) ⟨rfl, rfl⟩ ⟨Nat.le_of_ble_eq_true rfl, Nat.le_of_ble_eq_true rfl⟩ dL_ahead_632 (vI_in (fun r_52 M_50 h_51 => ?_))
      obtain ⟨hr_53, hA_54, hF_55⟩ : r_52 = nI (cntP (isMod (actS (actS (aS S mem) S.1 []) (S.1.eraseIdx i) (actS (aS S mem) S.1 []).2.1).1) 256) ∧ At k M_50 (actS (actS (aS S mem) S.1 []) (S.1.eraseIdx i) (actS (aS S mem) S.1 []).2.1) ∧ Fr 0 93 M_42 M_50 := h_51
      subst hr_53
      have hFr_56 := hFr_48.tr hF_55
      refine v_iload X 2 dL_ahead_635 rfl ?_
      refine v_cltN X 651 (by omega) (by omega) dL_ahead_637 (by decide) (fun q_57 => absurd q_57 (by omega)) (fun _ => ?_)
      refine v_aload_n X 7 dL_ahead_640 rfl ?_
      refine v_callL X rb.2.1 rb.2.2.1 hCl hCR (c_L_undo l hst0 k M_50 (actS (actS (aS S mem) S.1 []) (S.1.eraseIdx i) (actS (aS S mem) S.1 []).2.1) hA_54) mo_L_undo m_542 m_579 m_580 m_581 ⟨Nat.le_of_ble_eq_true rfl, Nat.le_of_ble_eq_true rfl⟩ rfl rfl (Nat.le_of_ble_eq_true rfl) ⟨Nat.le_of_ble_eq_true rfl, Nat.le_of_ble_eq_true rfl⟩ dL_ahead_641 (vI_in (fun r_60 M_58 h_59 => ?_))
      refine v_widen (z' := (543, 3258)) (Nat.le_of_ble_eq_true rfl) (Nat.le_of_ble_eq_true rfl) ?_
      obtain ⟨hr_61, hA_62, hF_63⟩ := pa_eq (e_undoU hv3 _ _) h_59
      subst hr_61
      have hFr_64 := hFr_56.tr hF_63
      refine v_iltN X (by omega) dL_ahead_644 ?_
      refine v_iconst X (v := nI 1) (by decide) dL_ahead_647 ?_
      refine v_goto X 652 dL_ahead_648 (by decide) ?_
      refine v_istore X [(7, .int (nI 1)), (8, .int (nI i)), (6, .int (nI (cntP (isMod S.1) 256))), (5, .int (nI S.2.1.length)), (4, .int (nI S.1.length)), (2, .long (nowF S)), (1, .int (nI x)), (0, .ref (ad k 0))] dL_ahead_652 (by decide) rfl ?_
      refine v_widen (z' := (550, 3300)) (Nat.le_of_ble_eq_true rfl) (Nat.le_of_ble_eq_true rfl) ?_
      refine v_lv [0, 4, 5, 7] rfl ?_
      exact B654 (((actS (aS S mem) S.1 []).1, (actS (aS S mem) S.1 []).2.1, uM (actS (aS S mem) S.1 []).2.2.1, (actS (aS S mem) S.1 []).2.2.2.1, (actS (aS S mem) S.1 []).2.2.2.2)) M_58 rfl rfl hA_62 hFr_64
  have B468 : ∀ (mem : List SD) (i j : Nat) (Mq : Mem), ((S.1.length = 0 ∧ i = 0 ∧ j = 0) ∨ (i < S.1.length ∧ j < S.1.length)) → At k Mq (aS S mem) → Fr 0 93 M Mq → V C k 12 (430, 2580) Mq 468 [(9, .int (nI j)), (8, .int (nI i)), (7, .int (nI 1)), (6, .int (nI (cntP (isMod S.1) 256))), (5, .int (nI S.2.1.length)), (4, .int (nI S.1.length)), (2, .long (nowF S)), (1, .int (nI x)), (0, .ref (ad k 0))] [] := by
    intro mem i j Mq hij hAq hFq
    have hvm := hAq.vok
    have hml : (mem).length ≤ 14 := hAq.mlen
    have hum := uM_lt hml
    rcases hij with ⟨hn0, rfl, rfl⟩ | ⟨hi2, hj2⟩
    · refine v_iload_n X 7 dL_ahead_468 rfl ?_
      refine v_sipush X (v := nI 9000) (by decide) dL_ahead_469 ?_
      refine v_divN X (by omega) (by omega) (by omega) dL_ahead_472 ?_
      refine v_bipush X (v := nI 8) (by decide) dL_ahead_473 ?_
      refine v_remN X (by omega) (by omega) (by omega) dL_ahead_475 ?_
      refine v_istore X [(11, .int (nI ((x / 9000) % 8))), (9, .int (nI 0)), (8, .int (nI 0)), (7, .int (nI 1)), (6, .int (nI (cntP (isMod S.1) 256))), (5, .int (nI S.2.1.length)), (4, .int (nI S.1.length)), (2, .long (nowF S)), (1, .int (nI x)), (0, .ref (ad k 0))] dL_ahead_476 (by decide) rfl ?_
      refine v_aload_n X 9 dL_ahead_478 rfl ?_
      refine v_iload X 2 dL_ahead_479 rfl ?_
      refine v_iload X 1 dL_ahead_481 rfl ?_
      refine v_iload X 0 dL_ahead_483 rfl ?_
      refine v_callL X rb.2.1 rb.2.2.1 hCl hCR (c_L_resolve l hst0 k Mq (aS S mem) (nI 0) (nI 0) (nI ((x / 9000) % 8)) hAq) mo_L_resolve m_522 m_600 m_601 m_581 ⟨Nat.le_of_ble_eq_true rfl, Nat.le_of_ble_eq_true rfl⟩ rfl rfl (Nat.le_of_ble_eq_true rfl) ⟨Nat.le_of_ble_eq_true rfl, Nat.le_of_ble_eq_true rfl⟩ dL_ahead_485 (vI_in (fun r_67 M_65 h_66 => ?_))
      refine v_widen (z' := (435, 2610)) (Nat.le_of_ble_eq_true rfl) (Nat.le_of_ble_eq_true rfl) ?_
      obtain ⟨hr_68, hA_69, hF_70⟩ := pa_eq (e_res0 hn0) h_66
      subst hr_68
      have hFr_71 := hFq.tr hF_70
      refine v_istore X [(10, .int ((-101))), (11, .int (nI ((x / 9000) % 8))), (9, .int (nI 0)), (8, .int (nI 0)), (7, .int (nI 1)), (6, .int (nI (cntP (isMod S.1) 256))), (5, .int (nI S.2.1.length)), (4, .int (nI S.1.length)), (2, .long (nowF S)), (1, .int (nI x)), (0, .ref (ad k 0))] dL_ahead_488 (by decide) rfl ?_
      refine v_iload X 0 dL_ahead_490 rfl ?_
      refine v_if_lt X 593 dL_ahead_492 (by decide) (fun _ => ?_) (fun q_72 => absurd (by decide) q_72)
      refine v_widen (z' := (540, 3240)) (Nat.le_of_ble_eq_true rfl) (Nat.le_of_ble_eq_true rfl) ?_
      refine v_lv [3, 4, 5, 6, 7, 8, 9, 10] rfl ?_
      exact B593 mem 0 M_65 (by omega) hA_69 hFr_71
    · obtain ⟨v, hv0⟩ : ∃ v, v = x / 9000 % 8 := ⟨_, rfl⟩
      have hv8 : v < 8 := by rw [hv0]; exact Nat.mod_lt _ (by decide)
      by_cases hrs : rsOK S.1 i j v
      · refine v_iload_n X 7 dL_ahead_468 rfl ?_
        refine v_sipush X (v := nI 9000) (by decide) dL_ahead_469 ?_
        refine v_divN X (by omega) (by omega) (by omega) dL_ahead_472 ?_
        refine v_bipush X (v := nI 8) (by decide) dL_ahead_473 ?_
        refine v_remN X (by omega) (by omega) (by omega) dL_ahead_475 ?_
        refine v_top (show (Value.int (nI ((x / 9000) % 8)) : Value) = .int (nI v) from congrArg _ (congrArg nI hv0.symm)) ?_
        refine v_istore X [(11, .int (nI v)), (9, .int (nI j)), (8, .int (nI i)), (7, .int (nI 1)), (6, .int (nI (cntP (isMod S.1) 256))), (5, .int (nI S.2.1.length)), (4, .int (nI S.1.length)), (2, .long (nowF S)), (1, .int (nI x)), (0, .ref (ad k 0))] dL_ahead_476 (by decide) rfl ?_
        refine v_aload_n X 9 dL_ahead_478 rfl ?_
        refine v_iload X 2 dL_ahead_479 rfl ?_
        refine v_iload X 1 dL_ahead_481 rfl ?_
        refine v_iload X 0 dL_ahead_483 rfl ?_
        refine v_callL X rb.2.1 rb.2.2.1 hCl hCR (c_L_resolve l hst0 k Mq (aS S mem) (nI i) (nI j) (nI v) hAq) mo_L_resolve m_522 m_600 m_601 m_581 ⟨Nat.le_of_ble_eq_true rfl, Nat.le_of_ble_eq_true rfl⟩ rfl rfl (Nat.le_of_ble_eq_true rfl) ⟨Nat.le_of_ble_eq_true rfl, Nat.le_of_ble_eq_true rfl⟩ dL_ahead_485 (vI_in (fun r_75 M_73 h_74 => ?_))
        refine v_widen (z' := (435, 2610)) (Nat.le_of_ble_eq_true rfl) (Nat.le_of_ble_eq_true rfl) ?_
        obtain ⟨hr_76, hA_77, hF_78⟩ := pa_eq ((e_resT (S := aS S mem) hl hi2 hj2 hv8 hrs : W_resolve (aS S mem) (nI i) (nI j) (nI v) = (nI S.1.length, actS (aS S mem) (S.1 ++ [xClause (rsP S.1 i j v) (rsN S.1 i j v)]) S.2.1))) h_74
        subst hr_76
        have hFr_79 := hFq.tr hF_78
        refine v_istore X [(10, .int (nI S.1.length)), (11, .int (nI v)), (9, .int (nI j)), (8, .int (nI i)), (7, .int (nI 1)), (6, .int (nI (cntP (isMod S.1) 256))), (5, .int (nI S.2.1.length)), (4, .int (nI S.1.length)), (2, .long (nowF S)), (1, .int (nI x)), (0, .ref (ad k 0))] dL_ahead_488 (by decide) rfl ?_
        refine v_iload X 0 dL_ahead_490 rfl ?_
        refine v_iltN X (by omega) dL_ahead_492 ?_
        refine v_iload X 4 dL_ahead_495 rfl ?_
        refine v_ieqN X 590 (by omega) dL_ahead_497 (by decide) (fun q_80 => absurd q_80 (by decide)) (fun _ => ?_)
        refine v_iload X 0 dL_ahead_500 rfl ?_
        refine v_iload X 7 dL_ahead_502 rfl ?_
        refine v_icmp_ne X 590 dL_ahead_504 (by decide) (fun q_81 => absurd rfl q_81) (fun _ => ?_)
        refine v_aload_n X 10 dL_ahead_507 rfl ?_
        refine v_iload X 7 dL_ahead_508 rfl ?_
        refine v_callL X rb.2.1 rb.2.2.1 hCl hCR (c_L_first l hst0 k M_73 (actS (aS S mem) (S.1 ++ [xClause (rsP S.1 i j v) (rsN S.1 i j v)]) S.2.1) (nI S.1.length) hA_77) mo_L_first m_502 m_590 m_591 m_581 ⟨Nat.le_of_ble_eq_true rfl, Nat.le_of_ble_eq_true rfl⟩ rfl rfl (Nat.le_of_ble_eq_true rfl) ⟨Nat.le_of_ble_eq_true rfl, Nat.le_of_ble_eq_true rfl⟩ dL_ahead_510 (vI_in (fun r_84 M_82 h_83 => ?_))
        refine v_widen (z' := (436, 2616)) (Nat.le_of_ble_eq_true rfl) (Nat.le_of_ble_eq_true rfl) ?_
        obtain ⟨hr_85, hA_86, hF_87⟩ := pa_eq (e_firstR hrs.2.2.2.2.2) h_83
        subst hr_85
        have hFr_88 := hFr_79.tr hF_87
        refine v_iconst X (v := nI 1) (by decide) dL_ahead_513 ?_
        refine v_iload X 1 dL_ahead_514 rfl ?_
        refine v_shlN X (by omega) dL_ahead_516 ?_
        refine v_orN X dL_ahead_517 ?_
        refine v_aload_n X 10 dL_ahead_518 rfl ?_
        refine v_iload X 3 dL_ahead_519 rfl ?_
        refine v_callL X rb.2.1 rb.2.2.1 hCl hCR (c_L_first l hst0 k M_82 (actS (aS S mem) (S.1 ++ [xClause (rsP S.1 i j v) (rsN S.1 i j v)]) S.2.1) (nI i) hA_86) mo_L_first m_502 m_590 m_591 m_581 ⟨Nat.le_of_ble_eq_true rfl, Nat.le_of_ble_eq_true rfl⟩ rfl rfl (Nat.le_of_ble_eq_true rfl) ⟨Nat.le_of_ble_eq_true rfl, Nat.le_of_ble_eq_true rfl⟩ dL_ahead_521 (vI_in (fun r_91 M_89 h_90 => ?_))
        refine v_widen (z' := (437, 2622)) (Nat.le_of_ble_eq_true rfl) (Nat.le_of_ble_eq_true rfl) ?_
        obtain ⟨hr_92, hA_93, hF_94⟩ := pa_eq (e_firstAi hrs.2.2.2.2.2 hi2) h_90
        subst hr_92
        have hFr_95 := hFr_88.tr hF_94
        refine v_aload_n X 10 dL_ahead_524 rfl ?_
        refine v_iload X 2 dL_ahead_525 rfl ?_
        refine v_callL X rb.2.1 rb.2.2.1 hCl hCR (c_L_first l hst0 k M_89 (actS (aS S mem) (S.1 ++ [xClause (rsP S.1 i j v) (rsN S.1 i j v)]) S.2.1) (nI j) hA_93) mo_L_first m_502 m_590 m_591 m_581 ⟨Nat.le_of_ble_eq_true rfl, Nat.le_of_ble_eq_true rfl⟩ rfl rfl (Nat.le_of_ble_eq_true rfl) ⟨Nat.le_of_ble_eq_true rfl, Nat.le_of_ble_eq_true rfl⟩ dL_ahead_527 (vI_in (fun r_98 M_96 h_97 => ?_))
        refine v_widen (z' := (438, 2628)) (Nat.le_of_ble_eq_true rfl) (Nat.le_of_ble_eq_true rfl) ?_
        obtain ⟨hr_99, hA_100, hF_101⟩ := pa_eq (e_firstAi hrs.2.2.2.2.2 hj2) h_97
        subst hr_99
        have hFr_102 := hFr_95.tr hF_101
        refine v_orN X dL_ahead_530 ?_
        refine v_icmp_ne X 590 dL_ahead_531 (by decide) (fun q_103 => absurd (congrArg nI (rs_orP hv8 hrs)) q_103) (fun _ => ?_)
        refine v_aload_n X 10 dL_ahead_534 rfl ?_
        refine v_iload X 7 dL_ahead_535 rfl ?_
        refine v_callL X rb.2.1 rb.2.2.1 hCl hCR (c_L_second l hst0 k M_96 (actS (aS S mem) (S.1 ++ [xClause (rsP S.1 i j v) (rsN S.1 i j v)]) S.2.1) (nI S.1.length) hA_100) mo_L_second m_506 m_592 m_593 m_581 ⟨Nat.le_of_ble_eq_true rfl, Nat.le_of_ble_eq_true rfl⟩ rfl rfl (Nat.le_of_ble_eq_true rfl) ⟨Nat.le_of_ble_eq_true rfl, Nat.le_of_ble_eq_true rfl⟩ dL_ahead_537 (vI_in (fun r_106 M_104 h_105 => ?_))
        refine v_widen (z' := (439, 2634)) (Nat.le_of_ble_eq_true rfl) (Nat.le_of_ble_eq_true rfl) ?_
        obtain ⟨hr_107, hA_108, hF_109⟩ := pa_eq (e_secondR hrs.2.2.2.2.2) h_105
        subst hr_107
        have hFr_110 := hFr_102.tr hF_109
        refine v_iconst X (v := nI 1) (by decide) dL_ahead_540 ?_
        refine v_iload X 1 dL_ahead_541 rfl ?_
        refine v_shlN X (by omega) dL_ahead_543 ?_
        refine v_orN X dL_ahead_544 ?_
        refine v_aload_n X 10 dL_ahead_545 rfl ?_
        refine v_iload X 3 dL_ahead_546 rfl ?_
        refine v_callL X rb.2.1 rb.2.2.1 hCl hCR (c_L_second l hst0 k M_104 (actS (aS S mem) (S.1 ++ [xClause (rsP S.1 i j v) (rsN S.1 i j v)]) S.2.1) (nI i) hA_108) mo_L_second m_506 m_592 m_593 m_581 ⟨Nat.le_of_ble_eq_true rfl, Nat.le_of_ble_eq_true rfl⟩ rfl rfl (Nat.le_of_ble_eq_true rfl) ⟨Nat.le_of_ble_eq_true rfl, Nat.le_of_ble_eq_true rfl⟩ dL_ahead_548 (vI_in (fun r_113 M_111 h_112 => ?_))
        refine v_widen (z' := (440, 2640)) (Nat.le_of_ble_eq_true rfl) (Nat.le_of_ble_eq_true rfl) ?_
        obtain ⟨hr_114, hA_115, hF_116⟩ := pa_eq (e_secondAi hrs.2.2.2.2.2 hi2) h_112
        subst hr_114
        have hFr_117 := hFr_110.tr hF_116
        refine v_aload_n X 10 dL_ahead_551 rfl ?_
        refine v_iload X 2 dL_ahead_552 rfl ?_
        refine v_callL X rb.2.1 rb.2.2.1 hCl hCR (c_L_second l hst0 k M_111 (actS (aS S mem) (S.1 ++ [xClause (rsP S.1 i j v) (rsN S.1 i j v)]) S.2.1) (nI j) hA_115) mo_L_second m_506 m_592 m_593 m_581 ⟨Nat.le_of_ble_eq_true rfl, Nat.le_of_ble_eq_true rfl⟩ rfl rfl (Nat.le_of_ble_eq_true rfl) ⟨Nat.le_of_ble_eq_true rfl, Nat.le_of_ble_eq_true rfl⟩ dL_ahead_554 (vI_in (fun r_120 M_118 h_119 => ?_))
        refine v_widen (z' := (441, 2646)) (Nat.le_of_ble_eq_true rfl) (Nat.le_of_ble_eq_true rfl) ?_
        obtain ⟨hr_121, hA_122, hF_123⟩ := pa_eq (e_secondAi hrs.2.2.2.2.2 hj2) h_119
        subst hr_121
        have hFr_124 := hFr_117.tr hF_123
        refine v_orN X dL_ahead_557 ?_
        refine v_icmp_ne X 590 dL_ahead_558 (by decide) (fun q_125 => absurd (congrArg nI (rs_orN hv8 hrs)) q_125) (fun _ => ?_)
        refine v_aload_n X 10 dL_ahead_561 rfl ?_
        refine v_callV X hCl hCR (c_X7_modelCount l k M_118 (actS (aS S mem) (S.1 ++ [xClause (rsP S.1 i j v) (rsN S.1 i j v)]) S.2.1).1 (actS (aS S mem) (S.1 ++ [xClause (rsP S.1 i j v) (rsN S.1 i j v)]) S.2.1).2.1 (actS (aS S mem) (S.1 ++ [xClause (rsP S.1 i j v) (rsN S.1 i j v)]) S.2.1).2.2.1 (actS (aS S mem) (S.1 ++ [xClause (rsP S.1 i j v) (rsN S.1 i j v)]) S.2.1).2.2.2.1 (actS (aS S mem) (S.1 ++ [xClause (rsP S.1 i j v) (rsN S.1 i j v)]) S.2.1).2.2.2.2 hA_122) cls7 hA_122.obj (by omega) mo_X7_modelCount m_400 m_667 m_668 m_669 m_21 (by decide) rfl rfl (Nat.le_of_ble_eq_true rfl) ⟨rfl, rfl⟩ ⟨Nat.le_of_ble_eq_true rfl, Nat.le_of_ble_eq_true rfl⟩ dL_ahead_562 (vI_in (fun r_128 M_126 h_127 => ?_))
        obtain ⟨hr_129, hA_130, hF_131⟩ : r_128 = nI (cntP (isMod (actS (aS S mem) (S.1 ++ [xClause (rsP S.1 i j v) (rsN S.1 i j v)]) S.2.1).1) 256) ∧ At k M_126 (actS (aS S mem) (S.1 ++ [xClause (rsP S.1 i j v) (rsN S.1 i j v)]) S.2.1) ∧ Fr 0 93 M_118 M_126 := h_127
        subst hr_129
        have hFr_132 := hFr_124.tr hF_131
        rw [show cntP (isMod (actS (aS S mem) (S.1 ++ [xClause (rsP S.1 i j v) (rsN S.1 i j v)]) S.2.1).1) 256 = cntP (isMod S.1) 256 from cnt_same (res_imp hv.1.1 hi2 hj2 hv8 hrs)]
        refine v_iload X 5 dL_ahead_565 rfl ?_
        refine v_icmp_ne X 590 dL_ahead_567 (by decide) (fun q_133 => absurd rfl q_133) (fun _ => ?_)
        refine v_aload_n X 10 dL_ahead_570 rfl ?_
        refine v_callL X rb.2.1 rb.2.2.1 hCl hCR (c_L_undo l hst0 k M_126 (actS (aS S mem) (S.1 ++ [xClause (rsP S.1 i j v) (rsN S.1 i j v)]) S.2.1) hA_130) mo_L_undo m_542 m_579 m_580 m_581 ⟨Nat.le_of_ble_eq_true rfl, Nat.le_of_ble_eq_true rfl⟩ rfl rfl (Nat.le_of_ble_eq_true rfl) ⟨Nat.le_of_ble_eq_true rfl, Nat.le_of_ble_eq_true rfl⟩ dL_ahead_571 (vI_in (fun r_136 M_134 h_135 => ?_))
        refine v_widen (z' := (442, 2652)) (Nat.le_of_ble_eq_true rfl) (Nat.le_of_ble_eq_true rfl) ?_
        obtain ⟨hr_137, hA_138, hF_139⟩ := pa_eq (e_undoS hvm _ _) h_135
        subst hr_137
        have hFr_140 := hFr_132.tr hF_139
        refine v_iltN X (by omega) dL_ahead_574 ?_
        refine v_aload_n X 10 dL_ahead_577 rfl ?_
        refine v_callB X rb.2 hCl hCR (c_L_now l hst0 k M_134 (aS S (uM mem)) hA_138) mo_L_now m_b3 m_662 m_663 m_581 ⟨Nat.le_of_ble_eq_true rfl, Nat.le_of_ble_eq_true rfl⟩ rfl rfl (Nat.le_of_ble_eq_true rfl) ⟨Nat.le_of_ble_eq_true rfl, Nat.le_of_ble_eq_true rfl⟩ dL_ahead_578 (vJ_in (fun r_143 M_141 h_142 => ?_))
        refine v_widen (z' := (538, 3228)) (Nat.le_of_ble_eq_true rfl) (Nat.le_of_ble_eq_true rfl) ?_
        obtain ⟨hr_144, hA_145, hF_146⟩ := h_142
        subst hr_144
        have hFr_147 := hFr_140.tr hF_146
        refine v_lload_n X 8 dL_ahead_581 rfl ?_
        refine v_lcmp X dL_ahead_582 ?_
        refine v_if_ne X 590 dL_ahead_583 (by decide) (fun q_148 => absurd ((lg_cmp_eq _ _).mpr now_aS) q_148) (fun _ => ?_)
        refine v_iconst X (v := nI 1) (by decide) dL_ahead_586 ?_
        refine v_goto X 591 dL_ahead_587 (by decide) ?_
        refine v_istore X [(7, .int (nI 1)), (10, .int (nI S.1.length)), (11, .int (nI v)), (9, .int (nI j)), (8, .int (nI i)), (6, .int (nI (cntP (isMod S.1) 256))), (5, .int (nI S.2.1.length)), (4, .int (nI S.1.length)), (2, .long (nowF S)), (1, .int (nI x)), (0, .ref (ad k 0))] dL_ahead_591 (by decide) rfl ?_
        refine v_widen (z' := (540, 3240)) (Nat.le_of_ble_eq_true rfl) (Nat.le_of_ble_eq_true rfl) ?_
        refine v_lv [4, 0, 5, 6, 7, 8, 9, 10] rfl ?_
        exact B593 (uM mem) i M_141 (by omega) hA_145 hFr_147
      · refine v_iload_n X 7 dL_ahead_468 rfl ?_
        refine v_sipush X (v := nI 9000) (by decide) dL_ahead_469 ?_
        refine v_divN X (by omega) (by omega) (by omega) dL_ahead_472 ?_
        refine v_bipush X (v := nI 8) (by decide) dL_ahead_473 ?_
        refine v_remN X (by omega) (by omega) (by omega) dL_ahead_475 ?_
        refine v_top (show (Value.int (nI ((x / 9000) % 8)) : Value) = .int (nI v) from congrArg _ (congrArg nI hv0.symm)) ?_
        refine v_istore X [(11, .int (nI v)), (9, .int (nI j)), (8, .int (nI i)), (7, .int (nI 1)), (6, .int (nI (cntP (isMod S.1) 256))), (5, .int (nI S.2.1.length)), (4, .int (nI S.1.length)), (2, .long (nowF S)), (1, .int (nI x)), (0, .ref (ad k 0))] dL_ahead_476 (by decide) rfl ?_
        refine v_aload_n X 9 dL_ahead_478 rfl ?_
        refine v_iload X 2 dL_ahead_479 rfl ?_
        refine v_iload X 1 dL_ahead_481 rfl ?_
        refine v_iload X 0 dL_ahead_483 rfl ?_
        refine v_callL X rb.2.1 rb.2.2.1 hCl hCR (c_L_resolve l hst0 k Mq (aS S mem) (nI i) (nI j) (nI v) hAq) mo_L_resolve m_522 m_600 m_601 m_581 ⟨Nat.le_of_ble_eq_true rfl, Nat.le_of_ble_eq_true rfl⟩ rfl rfl (Nat.le_of_ble_eq_true rfl) ⟨Nat.le_of_ble_eq_true rfl, Nat.le_of_ble_eq_true rfl⟩ dL_ahead_485 (vI_in (fun r_151 M_149 h_150 => ?_))
        refine v_widen (z' := (435, 2610)) (Nat.le_of_ble_eq_true rfl) (Nat.le_of_ble_eq_true rfl) ?_
        obtain ⟨hr_152, hA_153, hF_154⟩ := pa_eq ((e_resF (S := aS S mem) hl hi2 hj2 hv8 hrs : W_resolve (aS S mem) (nI i) (nI j) (nI v) = (-103, aS S mem))) h_150
        subst hr_152
        have hFr_155 := hFq.tr hF_154
        refine v_istore X [(10, .int ((-103))), (11, .int (nI v)), (9, .int (nI j)), (8, .int (nI i)), (7, .int (nI 1)), (6, .int (nI (cntP (isMod S.1) 256))), (5, .int (nI S.2.1.length)), (4, .int (nI S.1.length)), (2, .long (nowF S)), (1, .int (nI x)), (0, .ref (ad k 0))] dL_ahead_488 (by decide) rfl ?_
        refine v_iload X 0 dL_ahead_490 rfl ?_
        refine v_if_lt X 593 dL_ahead_492 (by decide) (fun _ => ?_) (fun q_156 => absurd (by decide) q_156)
        refine v_widen (z' := (540, 3240)) (Nat.le_of_ble_eq_true rfl) (Nat.le_of_ble_eq_true rfl) ?_
        refine v_lv [3, 4, 5, 6, 7, 8, 9, 10] rfl ?_
        exact B593 mem i M_149 (by omega) hA_153 hFr_155
  have B328 : ∀ (mem : List SD) (Mq : Mem), At k Mq (aS S mem) → Fr 0 93 M Mq → V C k 12 (320, 1920) Mq 328 [(7, .int (nI 1)), (6, .int (nI (cntP (isMod S.1) 256))), (5, .int (nI S.2.1.length)), (4, .int (nI S.1.length)), (2, .long (nowF S)), (1, .int (nI x)), (0, .ref (ad k 0))] [] := by
    intro mem Mq hAq hFq
    have hvm := hAq.vok
    have hml : (mem).length ≤ 14 := hAq.mlen
    have hum := uM_lt hml
    by_cases hn0 : S.1.length = 0
    · refine v_iload X 3 dL_ahead_328 rfl ?_
      refine v_ineN X 337 (by omega) dL_ahead_330 (by decide) (fun q_157 => absurd (by omega) q_157) (fun _ => ?_)
      refine v_iconst X (v := nI 0) (by decide) dL_ahead_333 ?_
      refine v_goto X 344 dL_ahead_334 (by decide) ?_
      refine v_istore X [(8, .int (nI 0)), (7, .int (nI 1)), (6, .int (nI (cntP (isMod S.1) 256))), (5, .int (nI S.2.1.length)), (4, .int (nI S.1.length)), (2, .long (nowF S)), (1, .int (nI x)), (0, .ref (ad k 0))] dL_ahead_344 (by decide) rfl ?_
      refine v_iload X 4 dL_ahead_346 rfl ?_
      refine v_ineN X 355 (by omega) dL_ahead_348 (by decide) (fun q_158 => absurd (by omega) q_158) (fun _ => ?_)
      refine v_iconst X (v := nI 0) (by decide) dL_ahead_351 ?_
      refine v_goto X 363 dL_ahead_352 (by decide) ?_
      refine v_istore X [(9, .int (nI 0)), (8, .int (nI 0)), (7, .int (nI 1)), (6, .int (nI (cntP (isMod S.1) 256))), (5, .int (nI S.2.1.length)), (4, .int (nI S.1.length)), (2, .long (nowF S)), (1, .int (nI x)), (0, .ref (ad k 0))] dL_ahead_363 (by decide) rfl ?_
      refine v_aload_n X 8 dL_ahead_365 rfl ?_
      refine v_iload X 1 dL_ahead_366 rfl ?_
      refine v_iload X 0 dL_ahead_368 rfl ?_
      refine v_callL X rb.2.1 rb.2.2.1 hCl hCR (c_L_sum l hst0 k Mq (aS S mem) (nI 0) (nI 0) hAq) mo_L_sum m_526 m_602 m_603 m_581 ⟨Nat.le_of_ble_eq_true rfl, Nat.le_of_ble_eq_true rfl⟩ rfl rfl (Nat.le_of_ble_eq_true rfl) ⟨Nat.le_of_ble_eq_true rfl, Nat.le_of_ble_eq_true rfl⟩ dL_ahead_370 (vI_in (fun r_161 M_159 h_160 => ?_))
      refine v_widen (z' := (324, 1944)) (Nat.le_of_ble_eq_true rfl) (Nat.le_of_ble_eq_true rfl) ?_
      obtain ⟨hr_162, hA_163, hF_164⟩ := pa_eq (e_sum0 hn0) h_160
      subst hr_162
      have hFr_165 := hFq.tr hF_164
      refine v_istore X [(10, .int ((-101))), (9, .int (nI 0)), (8, .int (nI 0)), (7, .int (nI 1)), (6, .int (nI (cntP (isMod S.1) 256))), (5, .int (nI S.2.1.length)), (4, .int (nI S.1.length)), (2, .long (nowF S)), (1, .int (nI x)), (0, .ref (ad k 0))] dL_ahead_373 (by decide) rfl ?_
      refine v_iload X 0 dL_ahead_375 rfl ?_
      refine v_if_lt X 468 dL_ahead_377 (by decide) (fun _ => ?_) (fun q_166 => absurd (by decide) q_166)
      refine v_widen (z' := (430, 2580)) (Nat.le_of_ble_eq_true rfl) (Nat.le_of_ble_eq_true rfl) ?_
      refine v_lv [1, 2, 3, 4, 5, 6, 7, 8, 9] rfl ?_
      exact B468 mem 0 0 M_159 (Or.inl ⟨hn0, rfl, rfl⟩) hA_163 hFr_165
    · obtain ⟨i, hi⟩ : ∃ i, i = x / 16 % S.1.length := ⟨_, rfl⟩
      obtain ⟨j, hj⟩ : ∃ j, j = x / 400 % S.1.length := ⟨_, rfl⟩
      have hi2 : i < S.1.length := by rw [hi]; exact Nat.mod_lt _ (by omega)
      have hj2 : j < S.1.length := by rw [hj]; exact Nat.mod_lt _ (by omega)
      refine v_iload X 3 dL_ahead_328 rfl ?_
      refine v_ineN X 337 (by omega) dL_ahead_330 (by decide) (fun _ => ?_) (fun q_167 => absurd q_167 (by omega))
      refine v_iload_n X 5 dL_ahead_337 rfl ?_
      refine v_bipush X (v := nI 16) (by decide) dL_ahead_338 ?_
      refine v_divN X (by omega) (by omega) (by omega) dL_ahead_340 ?_
      refine v_iload X 3 dL_ahead_341 rfl ?_
      refine v_remN X (by omega) (by omega) (by omega) dL_ahead_343 ?_
      refine v_top (show (Value.int (nI ((x / 16) % S.1.length)) : Value) = .int (nI i) from congrArg _ (congrArg nI hi.symm)) ?_
      refine v_istore X [(8, .int (nI i)), (7, .int (nI 1)), (6, .int (nI (cntP (isMod S.1) 256))), (5, .int (nI S.2.1.length)), (4, .int (nI S.1.length)), (2, .long (nowF S)), (1, .int (nI x)), (0, .ref (ad k 0))] dL_ahead_344 (by decide) rfl ?_
      refine v_iload X 4 dL_ahead_346 rfl ?_
      refine v_ineN X 355 (by omega) dL_ahead_348 (by decide) (fun _ => ?_) (fun q_168 => absurd q_168 (by omega))
      refine v_iload_n X 6 dL_ahead_355 rfl ?_
      refine v_sipush X (v := nI 400) (by decide) dL_ahead_356 ?_
      refine v_divN X (by omega) (by omega) (by omega) dL_ahead_359 ?_
      refine v_iload X 4 dL_ahead_360 rfl ?_
      refine v_remN X (by omega) (by omega) (by omega) dL_ahead_362 ?_
      refine v_top (show (Value.int (nI ((x / 400) % S.1.length)) : Value) = .int (nI j) from congrArg _ (congrArg nI hj.symm)) ?_
      refine v_istore X [(9, .int (nI j)), (8, .int (nI i)), (7, .int (nI 1)), (6, .int (nI (cntP (isMod S.1) 256))), (5, .int (nI S.2.1.length)), (4, .int (nI S.1.length)), (2, .long (nowF S)), (1, .int (nI x)), (0, .ref (ad k 0))] dL_ahead_363 (by decide) rfl ?_
      by_cases hsm : smOK S.1 i j
      · refine v_aload_n X 8 dL_ahead_365 rfl ?_
        refine v_iload X 1 dL_ahead_366 rfl ?_
        refine v_iload X 0 dL_ahead_368 rfl ?_
        refine v_callL X rb.2.1 rb.2.2.1 hCl hCR (c_L_sum l hst0 k Mq (aS S mem) (nI i) (nI j) hAq) mo_L_sum m_526 m_602 m_603 m_581 ⟨Nat.le_of_ble_eq_true rfl, Nat.le_of_ble_eq_true rfl⟩ rfl rfl (Nat.le_of_ble_eq_true rfl) ⟨Nat.le_of_ble_eq_true rfl, Nat.le_of_ble_eq_true rfl⟩ dL_ahead_370 (vI_in (fun r_171 M_169 h_170 => ?_))
        refine v_widen (z' := (324, 1944)) (Nat.le_of_ble_eq_true rfl) (Nat.le_of_ble_eq_true rfl) ?_
        obtain ⟨hr_172, hA_173, hF_174⟩ := pa_eq ((e_sumT (S := aS S mem) hl hi2 hj2 hsm : W_sum (aS S mem) (nI i) (nI j) = (nI S.1.length, actS (aS S mem) (S.1 ++ [smX S.1 i j]) S.2.1))) h_170
        subst hr_172
        have hFr_175 := hFq.tr hF_174
        refine v_istore X [(10, .int (nI S.1.length)), (9, .int (nI j)), (8, .int (nI i)), (7, .int (nI 1)), (6, .int (nI (cntP (isMod S.1) 256))), (5, .int (nI S.2.1.length)), (4, .int (nI S.1.length)), (2, .long (nowF S)), (1, .int (nI x)), (0, .ref (ad k 0))] dL_ahead_373 (by decide) rfl ?_
        refine v_iload X 0 dL_ahead_375 rfl ?_
        refine v_iltN X (by omega) dL_ahead_377 ?_
        refine v_iload X 3 dL_ahead_380 rfl ?_
        refine v_ieqN X 465 (by omega) dL_ahead_382 (by decide) (fun q_176 => absurd q_176 (by decide)) (fun _ => ?_)
        refine v_iload X 0 dL_ahead_385 rfl ?_
        refine v_iload X 6 dL_ahead_387 rfl ?_
        refine v_icmp_ne X 465 dL_ahead_389 (by decide) (fun q_177 => absurd rfl q_177) (fun _ => ?_)
        refine v_aload_n X 9 dL_ahead_392 rfl ?_
        refine v_iload X 6 dL_ahead_393 rfl ?_
        refine v_callL X rb.2.1 rb.2.2.1 hCl hCR (c_L_first l hst0 k M_169 (actS (aS S mem) (S.1 ++ [smX S.1 i j]) S.2.1) (nI S.1.length) hA_173) mo_L_first m_502 m_590 m_591 m_581 ⟨Nat.le_of_ble_eq_true rfl, Nat.le_of_ble_eq_true rfl⟩ rfl rfl (Nat.le_of_ble_eq_true rfl) ⟨Nat.le_of_ble_eq_true rfl, Nat.le_of_ble_eq_true rfl⟩ dL_ahead_395 (vI_in (fun r_180 M_178 h_179 => ?_))
        refine v_widen (z' := (325, 1950)) (Nat.le_of_ble_eq_true rfl) (Nat.le_of_ble_eq_true rfl) ?_
        obtain ⟨hr_181, hA_182, hF_183⟩ := pa_eq (e_firstS hsm.2.2) h_179
        subst hr_181
        have hFr_184 := hFr_175.tr hF_183
        refine v_aload_n X 9 dL_ahead_398 rfl ?_
        refine v_iload X 2 dL_ahead_399 rfl ?_
        refine v_callL X rb.2.1 rb.2.2.1 hCl hCR (c_L_first l hst0 k M_178 (actS (aS S mem) (S.1 ++ [smX S.1 i j]) S.2.1) (nI i) hA_182) mo_L_first m_502 m_590 m_591 m_581 ⟨Nat.le_of_ble_eq_true rfl, Nat.le_of_ble_eq_true rfl⟩ rfl rfl (Nat.le_of_ble_eq_true rfl) ⟨Nat.le_of_ble_eq_true rfl, Nat.le_of_ble_eq_true rfl⟩ dL_ahead_401 (vI_in (fun r_187 M_185 h_186 => ?_))
        refine v_widen (z' := (326, 1956)) (Nat.le_of_ble_eq_true rfl) (Nat.le_of_ble_eq_true rfl) ?_
        obtain ⟨hr_188, hA_189, hF_190⟩ := pa_eq (e_firstAi hsm.2.2 hi2) h_186
        subst hr_188
        have hFr_191 := hFr_184.tr hF_190
        refine v_aload_n X 9 dL_ahead_404 rfl ?_
        refine v_iload X 1 dL_ahead_405 rfl ?_
        refine v_callL X rb.2.1 rb.2.2.1 hCl hCR (c_L_first l hst0 k M_185 (actS (aS S mem) (S.1 ++ [smX S.1 i j]) S.2.1) (nI j) hA_189) mo_L_first m_502 m_590 m_591 m_581 ⟨Nat.le_of_ble_eq_true rfl, Nat.le_of_ble_eq_true rfl⟩ rfl rfl (Nat.le_of_ble_eq_true rfl) ⟨Nat.le_of_ble_eq_true rfl, Nat.le_of_ble_eq_true rfl⟩ dL_ahead_407 (vI_in (fun r_194 M_192 h_193 => ?_))
        refine v_widen (z' := (327, 1962)) (Nat.le_of_ble_eq_true rfl) (Nat.le_of_ble_eq_true rfl) ?_
        obtain ⟨hr_195, hA_196, hF_197⟩ := pa_eq (e_firstAi hsm.2.2 hj2) h_193
        subst hr_195
        have hFr_198 := hFr_191.tr hF_197
        refine v_xorN X dL_ahead_410 ?_
        refine v_icmp_ne X 465 dL_ahead_411 (by decide) (fun q_199 => absurd rfl q_199) (fun _ => ?_)
        refine v_aload_n X 9 dL_ahead_414 rfl ?_
        refine v_iload X 6 dL_ahead_415 rfl ?_
        refine v_callL X rb.2.1 rb.2.2.1 hCl hCR (c_L_second l hst0 k M_192 (actS (aS S mem) (S.1 ++ [smX S.1 i j]) S.2.1) (nI S.1.length) hA_196) mo_L_second m_506 m_592 m_593 m_581 ⟨Nat.le_of_ble_eq_true rfl, Nat.le_of_ble_eq_true rfl⟩ rfl rfl (Nat.le_of_ble_eq_true rfl) ⟨Nat.le_of_ble_eq_true rfl, Nat.le_of_ble_eq_true rfl⟩ dL_ahead_417 (vI_in (fun r_202 M_200 h_201 => ?_))
        refine v_widen (z' := (328, 1968)) (Nat.le_of_ble_eq_true rfl) (Nat.le_of_ble_eq_true rfl) ?_
        obtain ⟨hr_203, hA_204, hF_205⟩ := pa_eq (e_secondS hsm.2.2) h_201
        subst hr_203
        have hFr_206 := hFr_198.tr hF_205
        refine v_aload_n X 9 dL_ahead_420 rfl ?_
        refine v_iload X 2 dL_ahead_421 rfl ?_
        refine v_callL X rb.2.1 rb.2.2.1 hCl hCR (c_L_second l hst0 k M_200 (actS (aS S mem) (S.1 ++ [smX S.1 i j]) S.2.1) (nI i) hA_204) mo_L_second m_506 m_592 m_593 m_581 ⟨Nat.le_of_ble_eq_true rfl, Nat.le_of_ble_eq_true rfl⟩ rfl rfl (Nat.le_of_ble_eq_true rfl) ⟨Nat.le_of_ble_eq_true rfl, Nat.le_of_ble_eq_true rfl⟩ dL_ahead_423 (vI_in (fun r_209 M_207 h_208 => ?_))
        refine v_widen (z' := (329, 1974)) (Nat.le_of_ble_eq_true rfl) (Nat.le_of_ble_eq_true rfl) ?_
        obtain ⟨hr_210, hA_211, hF_212⟩ := pa_eq (e_secondAi hsm.2.2 hi2) h_208
        subst hr_210
        have hFr_213 := hFr_206.tr hF_212
        refine v_aload_n X 9 dL_ahead_426 rfl ?_
        refine v_iload X 1 dL_ahead_427 rfl ?_
        refine v_callL X rb.2.1 rb.2.2.1 hCl hCR (c_L_second l hst0 k M_207 (actS (aS S mem) (S.1 ++ [smX S.1 i j]) S.2.1) (nI j) hA_211) mo_L_second m_506 m_592 m_593 m_581 ⟨Nat.le_of_ble_eq_true rfl, Nat.le_of_ble_eq_true rfl⟩ rfl rfl (Nat.le_of_ble_eq_true rfl) ⟨Nat.le_of_ble_eq_true rfl, Nat.le_of_ble_eq_true rfl⟩ dL_ahead_429 (vI_in (fun r_216 M_214 h_215 => ?_))
        refine v_widen (z' := (330, 1980)) (Nat.le_of_ble_eq_true rfl) (Nat.le_of_ble_eq_true rfl) ?_
        obtain ⟨hr_217, hA_218, hF_219⟩ := pa_eq (e_secondAi hsm.2.2 hj2) h_215
        subst hr_217
        have hFr_220 := hFr_213.tr hF_219
        refine v_xorN X dL_ahead_432 ?_
        refine v_icmp_ne X 465 dL_ahead_433 (by decide) (fun q_221 => absurd rfl q_221) (fun _ => ?_)
        refine v_aload_n X 9 dL_ahead_436 rfl ?_
        refine v_callV X hCl hCR (c_X7_modelCount l k M_214 (actS (aS S mem) (S.1 ++ [smX S.1 i j]) S.2.1).1 (actS (aS S mem) (S.1 ++ [smX S.1 i j]) S.2.1).2.1 (actS (aS S mem) (S.1 ++ [smX S.1 i j]) S.2.1).2.2.1 (actS (aS S mem) (S.1 ++ [smX S.1 i j]) S.2.1).2.2.2.1 (actS (aS S mem) (S.1 ++ [smX S.1 i j]) S.2.1).2.2.2.2 hA_218) cls7 hA_218.obj (by omega) mo_X7_modelCount m_400 m_667 m_668 m_669 m_21 (by decide) rfl rfl (Nat.le_of_ble_eq_true rfl) ⟨rfl, rfl⟩ ⟨Nat.le_of_ble_eq_true rfl, Nat.le_of_ble_eq_true rfl⟩ dL_ahead_437 (vI_in (fun r_224 M_222 h_223 => ?_))
        obtain ⟨hr_225, hA_226, hF_227⟩ : r_224 = nI (cntP (isMod (actS (aS S mem) (S.1 ++ [smX S.1 i j]) S.2.1).1) 256) ∧ At k M_222 (actS (aS S mem) (S.1 ++ [smX S.1 i j]) S.2.1) ∧ Fr 0 93 M_214 M_222 := h_223
        subst hr_225
        have hFr_228 := hFr_220.tr hF_227
        rw [show cntP (isMod (actS (aS S mem) (S.1 ++ [smX S.1 i j]) S.2.1).1) 256 = cntP (isMod S.1) 256 from cnt_same (sum_imp hv.1.1 hi2 hj2 hsm)]
        refine v_iload X 4 dL_ahead_440 rfl ?_
        refine v_icmp_ne X 465 dL_ahead_442 (by decide) (fun q_229 => absurd rfl q_229) (fun _ => ?_)
        refine v_aload_n X 9 dL_ahead_445 rfl ?_
        refine v_callL X rb.2.1 rb.2.2.1 hCl hCR (c_L_undo l hst0 k M_222 (actS (aS S mem) (S.1 ++ [smX S.1 i j]) S.2.1) hA_226) mo_L_undo m_542 m_579 m_580 m_581 ⟨Nat.le_of_ble_eq_true rfl, Nat.le_of_ble_eq_true rfl⟩ rfl rfl (Nat.le_of_ble_eq_true rfl) ⟨Nat.le_of_ble_eq_true rfl, Nat.le_of_ble_eq_true rfl⟩ dL_ahead_446 (vI_in (fun r_232 M_230 h_231 => ?_))
        refine v_widen (z' := (331, 1986)) (Nat.le_of_ble_eq_true rfl) (Nat.le_of_ble_eq_true rfl) ?_
        obtain ⟨hr_233, hA_234, hF_235⟩ := pa_eq (e_undoS hvm _ _) h_231
        subst hr_233
        have hFr_236 := hFr_228.tr hF_235
        refine v_iltN X (by omega) dL_ahead_449 ?_
        refine v_aload_n X 9 dL_ahead_452 rfl ?_
        refine v_callB X rb.2 hCl hCR (c_L_now l hst0 k M_230 (aS S (uM mem)) hA_234) mo_L_now m_b3 m_662 m_663 m_581 ⟨Nat.le_of_ble_eq_true rfl, Nat.le_of_ble_eq_true rfl⟩ rfl rfl (Nat.le_of_ble_eq_true rfl) ⟨Nat.le_of_ble_eq_true rfl, Nat.le_of_ble_eq_true rfl⟩ dL_ahead_453 (vJ_in (fun r_239 M_237 h_238 => ?_))
        refine v_widen (z' := (427, 2562)) (Nat.le_of_ble_eq_true rfl) (Nat.le_of_ble_eq_true rfl) ?_
        obtain ⟨hr_240, hA_241, hF_242⟩ := h_238
        subst hr_240
        have hFr_243 := hFr_236.tr hF_242
        refine v_lload_n X 7 dL_ahead_456 rfl ?_
        refine v_lcmp X dL_ahead_457 ?_
        refine v_if_ne X 465 dL_ahead_458 (by decide) (fun q_244 => absurd ((lg_cmp_eq _ _).mpr now_aS) q_244) (fun _ => ?_)
        refine v_iconst X (v := nI 1) (by decide) dL_ahead_461 ?_
        refine v_goto X 466 dL_ahead_462 (by decide) ?_
        refine v_istore X [(7, .int (nI 1)), (10, .int (nI S.1.length)), (9, .int (nI j)), (8, .int (nI i)), (6, .int (nI (cntP (isMod S.1) 256))), (5, .int (nI S.2.1.length)), (4, .int (nI S.1.length)), (2, .long (nowF S)), (1, .int (nI x)), (0, .ref (ad k 0))] dL_ahead_466 (by decide) rfl ?_
        refine v_widen (z' := (430, 2580)) (Nat.le_of_ble_eq_true rfl) (Nat.le_of_ble_eq_true rfl) ?_
        refine v_lv [2, 3, 0, 4, 5, 6, 7, 8, 9] rfl ?_
        exact B468 (uM mem) i j M_237 (Or.inr ⟨hi2, hj2⟩) hA_241 hFr_243
      · refine v_aload_n X 8 dL_ahead_365 rfl ?_
        refine v_iload X 1 dL_ahead_366 rfl ?_
        refine v_iload X 0 dL_ahead_368 rfl ?_
        refine v_callL X rb.2.1 rb.2.2.1 hCl hCR (c_L_sum l hst0 k Mq (aS S mem) (nI i) (nI j) hAq) mo_L_sum m_526 m_602 m_603 m_581 ⟨Nat.le_of_ble_eq_true rfl, Nat.le_of_ble_eq_true rfl⟩ rfl rfl (Nat.le_of_ble_eq_true rfl) ⟨Nat.le_of_ble_eq_true rfl, Nat.le_of_ble_eq_true rfl⟩ dL_ahead_370 (vI_in (fun r_247 M_245 h_246 => ?_))
        refine v_widen (z' := (324, 1944)) (Nat.le_of_ble_eq_true rfl) (Nat.le_of_ble_eq_true rfl) ?_
        obtain ⟨hr_248, hA_249, hF_250⟩ := pa_eq ((e_sumF (S := aS S mem) hl hi2 hj2 hsm : W_sum (aS S mem) (nI i) (nI j) = (-103, aS S mem))) h_246
        subst hr_248
        have hFr_251 := hFq.tr hF_250
        refine v_istore X [(10, .int ((-103))), (9, .int (nI j)), (8, .int (nI i)), (7, .int (nI 1)), (6, .int (nI (cntP (isMod S.1) 256))), (5, .int (nI S.2.1.length)), (4, .int (nI S.1.length)), (2, .long (nowF S)), (1, .int (nI x)), (0, .ref (ad k 0))] dL_ahead_373 (by decide) rfl ?_
        refine v_iload X 0 dL_ahead_375 rfl ?_
        refine v_if_lt X 468 dL_ahead_377 (by decide) (fun _ => ?_) (fun q_252 => absurd (by decide) q_252)
        refine v_widen (z' := (430, 2580)) (Nat.le_of_ble_eq_true rfl) (Nat.le_of_ble_eq_true rfl) ?_
        refine v_lv [1, 2, 3, 4, 5, 6, 7, 8, 9] rfl ?_
        exact B468 mem i j M_245 (Or.inr ⟨hi2, hj2⟩) hA_249 hFr_251
  have B192 : ∀ (mem : List SD) (Mq : Mem), At k Mq (aS S mem) → Fr 0 93 M Mq → V C k 12 (210, 1260) Mq 192 [(7, .int (nI 1)), (6, .int (nI (cntP (isMod S.1) 256))), (5, .int (nI S.2.1.length)), (4, .int (nI S.1.length)), (2, .long (nowF S)), (1, .int (nI x)), (0, .ref (ad k 0))] [] := by
    intro mem Mq hAq hFq
    have hvm := hAq.vok
    have hml : (mem).length ≤ 14 := hAq.mlen
    have hum := uM_lt hml
    refine v_aload_n X 6 dL_ahead_192 rfl ?_
    refine v_callV X hCl hCR (c_X7_conflict l k Mq (aS S mem).1 (aS S mem).2.1 (aS S mem).2.2.1 (aS S mem).2.2.2.1 (aS S mem).2.2.2.2 hAq) cls7 hAq.obj (by omega) mo_X7_conflict m_392 m_628 m_629 m_630 m_21 (by decide) rfl rfl (Nat.le_of_ble_eq_true rfl) ⟨rfl, rfl⟩ ⟨Nat.le_of_ble_eq_true rfl, Nat.le_of_ble_eq_true rfl⟩ dL_ahead_193 (vI_in (fun r_255 M_253 h_254 => ?_))
    obtain ⟨hr_256, hA_257, hF_258⟩ : r_255 = oI (sCf (aS S mem)) ∧ At k M_253 (aS S mem) ∧ Fr 0 93 Mq M_253 := h_254
    subst hr_256
    have hFr_259 := hFq.tr hF_258
    refine v_bipush X (v := (-9)) (by decide) dL_ahead_196 ?_
    refine v_icmp_ne X 328 dL_ahead_198 (by decide) (fun hc3 => ?_) (fun hc4 => ?_)
    · refine v_widen (z' := (320, 1920)) (Nat.le_of_ble_eq_true rfl) (Nat.le_of_ble_eq_true rfl) ?_
      exact B328 mem M_253  hA_257 hFr_259
    · have hcn : sCf S = none := (oI_eq hcf).mp hc4
      refine v_iload X 0 dL_ahead_201 rfl ?_
      refine v_ieqN X 328 (by omega) dL_ahead_203 (by decide) (fun q_260 => absurd q_260 (by decide)) (fun _ => ?_)
      have hx16 : x % 16 < 16 := Nat.mod_lt _ (by decide)
      cases hb : (tA (sTr S)).testBit (x % 16 / 2) with
      | false =>
        obtain ⟨d1, d2, d3, d4⟩ := dec_all (mem := mem) hv.1.1 hv.1.2.1 hx16 hv.2.1 hcn hb
        have hbl : (build S.1 (S.2.1 ++ [x % 16])).1.length ≤ 8 := (build_ok hv.1.1.1 (fun y hy => by
          rcases List.mem_append.mp hy with h | h
          · exact hv.1.2.1 y h
          · rw [List.mem_singleton.mp h]; exact hx16)).1.le
        refine v_iload_n X 5 dL_ahead_206 rfl ?_
        refine v_bipush X (v := nI 16) (by decide) dL_ahead_207 ?_
        refine v_remN X (by omega) (by omega) (by omega) dL_ahead_209 ?_
        refine v_istore X [(8, .int (nI (x % 16))), (7, .int (nI 1)), (6, .int (nI (cntP (isMod S.1) 256))), (5, .int (nI S.2.1.length)), (4, .int (nI S.1.length)), (2, .long (nowF S)), (1, .int (nI x)), (0, .ref (ad k 0))] dL_ahead_210 (by decide) rfl ?_
        refine v_aload_n X 7 dL_ahead_212 rfl ?_
        refine v_iload X 0 dL_ahead_213 rfl ?_
        refine v_iconst X (v := nI 2) (by decide) dL_ahead_215 ?_
        refine v_divN X (by omega) (by omega) (by omega) dL_ahead_216 ?_
        refine v_callL X rb.2.1 rb.2.2.1 hCl hCR (c_L_value l hst0 k M_253 (aS S mem) (nI ((x % 16) / 2)) hA_257) mo_L_value m_546 m_611 m_612 m_581 ⟨Nat.le_of_ble_eq_true rfl, Nat.le_of_ble_eq_true rfl⟩ rfl rfl (Nat.le_of_ble_eq_true rfl) ⟨Nat.le_of_ble_eq_true rfl, Nat.le_of_ble_eq_true rfl⟩ dL_ahead_217 (vI_in (fun r_263 M_261 h_262 => ?_))
        refine v_widen (z' := (211, 1266)) (Nat.le_of_ble_eq_true rfl) (Nat.le_of_ble_eq_true rfl) ?_
        obtain ⟨hr_264, hA_265, hF_266⟩ := pa_eq (e_valF (by omega) hb) h_262
        subst hr_264
        have hFr_267 := hFr_259.tr hF_266
        refine v_iconst X (v := nI 2) (by decide) dL_ahead_220 ?_
        refine v_cneN X 228 (by first | decide | (split <;> decide)) (by decide) dL_ahead_221 (by decide) (fun q_268 => absurd rfl q_268) (fun _ => ?_)
        refine v_iconst X (v := nI 1) (by decide) dL_ahead_224 ?_
        refine v_goto X 229 dL_ahead_225 (by decide) ?_
        refine v_istore X [(9, .int (nI 1)), (8, .int (nI (x % 16))), (7, .int (nI 1)), (6, .int (nI (cntP (isMod S.1) 256))), (5, .int (nI S.2.1.length)), (4, .int (nI S.1.length)), (2, .long (nowF S)), (1, .int (nI x)), (0, .ref (ad k 0))] dL_ahead_229 (by decide) rfl ?_
        refine v_aload_n X 8 dL_ahead_231 rfl ?_
        refine v_iload X 1 dL_ahead_232 rfl ?_
        refine v_callL X rb.2.1 rb.2.2.1 hCl hCR (c_L_decide l hst0 k M_261 (aS S mem) (nI (x % 16)) hA_265) mo_L_decide m_530 m_604 m_605 m_581 ⟨Nat.le_of_ble_eq_true rfl, Nat.le_of_ble_eq_true rfl⟩ rfl rfl (Nat.le_of_ble_eq_true rfl) ⟨Nat.le_of_ble_eq_true rfl, Nat.le_of_ble_eq_true rfl⟩ dL_ahead_234 (vI_in (fun r_271 M_269 h_270 => ?_))
        refine v_widen (z' := (212, 1272)) (Nat.le_of_ble_eq_true rfl) (Nat.le_of_ble_eq_true rfl) ?_
        obtain ⟨hr_272, hA_273, hF_274⟩ := pa_eq (e_decT hx16 hcn hb) h_270
        subst hr_272
        have hFr_275 := hFr_267.tr hF_274
        refine v_istore X [(10, .int (nI ((build S.1 (S.2.1 ++ [x % 16])).1.length))), (9, .int (nI 1)), (8, .int (nI (x % 16))), (7, .int (nI 1)), (6, .int (nI (cntP (isMod S.1) 256))), (5, .int (nI S.2.1.length)), (4, .int (nI S.1.length)), (2, .long (nowF S)), (1, .int (nI x)), (0, .ref (ad k 0))] dL_ahead_237 (by decide) rfl ?_
        refine v_iload X 1 dL_ahead_239 rfl ?_
        refine v_ieqN X 314 (by omega) dL_ahead_241 (by decide) (fun q_276 => absurd q_276 (by decide)) (fun _ => ?_)
        refine v_iload X 0 dL_ahead_244 rfl ?_
        refine v_ileN X 310 (by omega) dL_ahead_246 (by decide) (fun q_277 => absurd q_277 (by omega)) (fun _ => ?_)
        refine v_aload_n X 9 dL_ahead_249 rfl ?_
        refine v_callV X hCl hCR (c_X7_level l k M_269 (actS (aS S mem) S.1 (S.2.1 ++ [x % 16])).1 (actS (aS S mem) S.1 (S.2.1 ++ [x % 16])).2.1 (actS (aS S mem) S.1 (S.2.1 ++ [x % 16])).2.2.1 (actS (aS S mem) S.1 (S.2.1 ++ [x % 16])).2.2.2.1 (actS (aS S mem) S.1 (S.2.1 ++ [x % 16])).2.2.2.2 hA_273) cls7 hA_273.obj (by omega) mo_X7_level m_383 m_606 m_607 m_608 m_21 (by decide) rfl rfl (Nat.le_of_ble_eq_true rfl) ⟨rfl, rfl⟩ ⟨Nat.le_of_ble_eq_true rfl, Nat.le_of_ble_eq_true rfl⟩ dL_ahead_250 (vI_in (fun r_280 M_278 h_279 => ?_))
        obtain ⟨hr_281, hA_282, hF_283⟩ : r_280 = nI (actS (aS S mem) S.1 (S.2.1 ++ [x % 16])).2.1.length ∧ At k M_278 (actS (aS S mem) S.1 (S.2.1 ++ [x % 16])) ∧ Fr 0 93 M_269 M_278 := h_279
        subst hr_281
        have hFr_284 := hFr_275.tr hF_283
        rw [show (actS (aS S mem) S.1 (S.2.1 ++ [x % 16])).2.1.length = S.2.1.length + 1 from d2]
        refine v_iload X 5 dL_ahead_253 rfl ?_
        refine v_iconst X (v := nI 1) (by decide) dL_ahead_255 ?_
        refine v_addN X dL_ahead_256 ?_
        refine v_icmp_ne X 310 dL_ahead_257 (by decide) (fun q_285 => absurd rfl q_285) (fun _ => ?_)
        refine v_aload_n X 9 dL_ahead_260 rfl ?_
        refine v_iload X 2 dL_ahead_261 rfl ?_
        refine v_iconst X (v := nI 2) (by decide) dL_ahead_263 ?_
        refine v_divN X (by omega) (by omega) (by omega) dL_ahead_264 ?_
        refine v_callL X rb.2.1 rb.2.2.1 hCl hCR (c_L_value l hst0 k M_278 (actS (aS S mem) S.1 (S.2.1 ++ [x % 16])) (nI ((x % 16) / 2)) hA_282) mo_L_value m_546 m_611 m_612 m_581 ⟨Nat.le_of_ble_eq_true rfl, Nat.le_of_ble_eq_true rfl⟩ rfl rfl (Nat.le_of_ble_eq_true rfl) ⟨Nat.le_of_ble_eq_true rfl, Nat.le_of_ble_eq_true rfl⟩ dL_ahead_265 (vI_in (fun r_288 M_286 h_287 => ?_))
        refine v_widen (z' := (213, 1278)) (Nat.le_of_ble_eq_true rfl) (Nat.le_of_ble_eq_true rfl) ?_
        obtain ⟨hr_289, hA_290, hF_291⟩ := pa_eq (d3) h_287
        subst hr_289
        have hFr_292 := hFr_284.tr hF_291
        refine v_iconst X (v := nI 1) (by decide) dL_ahead_268 ?_
        refine v_iload X 2 dL_ahead_269 rfl ?_
        refine v_iconst X (v := nI 2) (by decide) dL_ahead_271 ?_
        refine v_remN X (by omega) (by omega) (by omega) dL_ahead_272 ?_
        refine v_subN X (by omega) dL_ahead_273 ?_
        refine v_icmp_ne X 310 dL_ahead_274 (by decide) (fun q_293 => absurd rfl q_293) (fun _ => ?_)
        refine v_aload_n X 9 dL_ahead_277 rfl ?_
        refine v_iload X 2 dL_ahead_278 rfl ?_
        refine v_iconst X (v := nI 2) (by decide) dL_ahead_280 ?_
        refine v_divN X (by omega) (by omega) (by omega) dL_ahead_281 ?_
        refine v_callL X rb.2.1 rb.2.2.1 hCl hCR (c_L_reason l hst0 k M_286 (actS (aS S mem) S.1 (S.2.1 ++ [x % 16])) (nI ((x % 16) / 2)) hA_290) mo_L_reason m_554 m_615 m_616 m_581 ⟨Nat.le_of_ble_eq_true rfl, Nat.le_of_ble_eq_true rfl⟩ rfl rfl (Nat.le_of_ble_eq_true rfl) ⟨Nat.le_of_ble_eq_true rfl, Nat.le_of_ble_eq_true rfl⟩ dL_ahead_282 (vI_in (fun r_296 M_294 h_295 => ?_))
        refine v_widen (z' := (214, 1284)) (Nat.le_of_ble_eq_true rfl) (Nat.le_of_ble_eq_true rfl) ?_
        obtain ⟨hr_297, hA_298, hF_299⟩ := pa_eq (d4) h_295
        subst hr_297
        have hFr_300 := hFr_292.tr hF_299
        refine v_bipush X (v := (-9)) (by decide) dL_ahead_285 ?_
        refine v_icmp_ne X 310 dL_ahead_287 (by decide) (fun q_301 => absurd rfl q_301) (fun _ => ?_)
        refine v_aload_n X 9 dL_ahead_290 rfl ?_
        refine v_callL X rb.2.1 rb.2.2.1 hCl hCR (c_L_undo l hst0 k M_294 (actS (aS S mem) S.1 (S.2.1 ++ [x % 16])) hA_298) mo_L_undo m_542 m_579 m_580 m_581 ⟨Nat.le_of_ble_eq_true rfl, Nat.le_of_ble_eq_true rfl⟩ rfl rfl (Nat.le_of_ble_eq_true rfl) ⟨Nat.le_of_ble_eq_true rfl, Nat.le_of_ble_eq_true rfl⟩ dL_ahead_291 (vI_in (fun r_304 M_302 h_303 => ?_))
        refine v_widen (z' := (215, 1290)) (Nat.le_of_ble_eq_true rfl) (Nat.le_of_ble_eq_true rfl) ?_
        obtain ⟨hr_305, hA_306, hF_307⟩ := pa_eq (e_undoS hvm _ _) h_303
        subst hr_305
        have hFr_308 := hFr_300.tr hF_307
        refine v_iltN X (by omega) dL_ahead_294 ?_
        refine v_aload_n X 9 dL_ahead_297 rfl ?_
        refine v_callB X rb.2 hCl hCR (c_L_now l hst0 k M_302 (aS S (uM mem)) hA_306) mo_L_now m_b3 m_662 m_663 m_581 ⟨Nat.le_of_ble_eq_true rfl, Nat.le_of_ble_eq_true rfl⟩ rfl rfl (Nat.le_of_ble_eq_true rfl) ⟨Nat.le_of_ble_eq_true rfl, Nat.le_of_ble_eq_true rfl⟩ dL_ahead_298 (vJ_in (fun r_311 M_309 h_310 => ?_))
        refine v_widen (z' := (311, 1866)) (Nat.le_of_ble_eq_true rfl) (Nat.le_of_ble_eq_true rfl) ?_
        obtain ⟨hr_312, hA_313, hF_314⟩ := h_310
        subst hr_312
        have hFr_315 := hFr_308.tr hF_314
        refine v_lload_n X 7 dL_ahead_301 rfl ?_
        refine v_lcmp X dL_ahead_302 ?_
        refine v_if_ne X 310 dL_ahead_303 (by decide) (fun q_316 => absurd ((lg_cmp_eq _ _).mpr now_aS) q_316) (fun _ => ?_)
        refine v_iconst X (v := nI 1) (by decide) dL_ahead_306 ?_
        refine v_goto X 326 dL_ahead_307 (by decide) ?_
        refine v_istore X [(7, .int (nI 1)), (10, .int (nI ((build S.1 (S.2.1 ++ [x % 16])).1.length))), (9, .int (nI 1)), (8, .int (nI (x % 16))), (6, .int (nI (cntP (isMod S.1) 256))), (5, .int (nI S.2.1.length)), (4, .int (nI S.1.length)), (2, .long (nowF S)), (1, .int (nI x)), (0, .ref (ad k 0))] dL_ahead_326 (by decide) rfl ?_
        refine v_widen (z' := (320, 1920)) (Nat.le_of_ble_eq_true rfl) (Nat.le_of_ble_eq_true rfl) ?_
        refine v_lv [0, 4, 5, 6, 7, 8, 9] rfl ?_
        exact B328 (uM mem) M_309  hA_313 hFr_315
      | true =>
        refine v_iload_n X 5 dL_ahead_206 rfl ?_
        refine v_bipush X (v := nI 16) (by decide) dL_ahead_207 ?_
        refine v_remN X (by omega) (by omega) (by omega) dL_ahead_209 ?_
        refine v_istore X [(8, .int (nI (x % 16))), (7, .int (nI 1)), (6, .int (nI (cntP (isMod S.1) 256))), (5, .int (nI S.2.1.length)), (4, .int (nI S.1.length)), (2, .long (nowF S)), (1, .int (nI x)), (0, .ref (ad k 0))] dL_ahead_210 (by decide) rfl ?_
        refine v_aload_n X 7 dL_ahead_212 rfl ?_
        refine v_iload X 0 dL_ahead_213 rfl ?_
        refine v_iconst X (v := nI 2) (by decide) dL_ahead_215 ?_
        refine v_divN X (by omega) (by omega) (by omega) dL_ahead_216 ?_
        refine v_callL X rb.2.1 rb.2.2.1 hCl hCR (c_L_value l hst0 k M_253 (aS S mem) (nI ((x % 16) / 2)) hA_257) mo_L_value m_546 m_611 m_612 m_581 ⟨Nat.le_of_ble_eq_true rfl, Nat.le_of_ble_eq_true rfl⟩ rfl rfl (Nat.le_of_ble_eq_true rfl) ⟨Nat.le_of_ble_eq_true rfl, Nat.le_of_ble_eq_true rfl⟩ dL_ahead_217 (vI_in (fun r_319 M_317 h_318 => ?_))
        refine v_widen (z' := (211, 1266)) (Nat.le_of_ble_eq_true rfl) (Nat.le_of_ble_eq_true rfl) ?_
        obtain ⟨hr_320, hA_321, hF_322⟩ := pa_eq (e_valT (by omega) hb) h_318
        subst hr_320
        have hFr_323 := hFr_259.tr hF_322
        refine v_iconst X (v := nI 2) (by decide) dL_ahead_220 ?_
        refine v_cneN X 228 (by first | decide | (split <;> decide)) (by decide) dL_ahead_221 (by decide) (fun _ => ?_) (fun q_324 => absurd q_324 (by split <;> decide))
        refine v_iconst X (v := nI 0) (by decide) dL_ahead_228 ?_
        refine v_istore X [(9, .int (nI 0)), (8, .int (nI (x % 16))), (7, .int (nI 1)), (6, .int (nI (cntP (isMod S.1) 256))), (5, .int (nI S.2.1.length)), (4, .int (nI S.1.length)), (2, .long (nowF S)), (1, .int (nI x)), (0, .ref (ad k 0))] dL_ahead_229 (by decide) rfl ?_
        refine v_aload_n X 8 dL_ahead_231 rfl ?_
        refine v_iload X 1 dL_ahead_232 rfl ?_
        refine v_callL X rb.2.1 rb.2.2.1 hCl hCR (c_L_decide l hst0 k M_317 (aS S mem) (nI (x % 16)) hA_321) mo_L_decide m_530 m_604 m_605 m_581 ⟨Nat.le_of_ble_eq_true rfl, Nat.le_of_ble_eq_true rfl⟩ rfl rfl (Nat.le_of_ble_eq_true rfl) ⟨Nat.le_of_ble_eq_true rfl, Nat.le_of_ble_eq_true rfl⟩ dL_ahead_234 (vI_in (fun r_327 M_325 h_326 => ?_))
        refine v_widen (z' := (212, 1272)) (Nat.le_of_ble_eq_true rfl) (Nat.le_of_ble_eq_true rfl) ?_
        obtain ⟨hr_328, hA_329, hF_330⟩ := pa_eq (e_decN hx16 hb) h_326
        subst hr_328
        have hFr_331 := hFr_323.tr hF_330
        refine v_istore X [(10, .int ((-103))), (9, .int (nI 0)), (8, .int (nI (x % 16))), (7, .int (nI 1)), (6, .int (nI (cntP (isMod S.1) 256))), (5, .int (nI S.2.1.length)), (4, .int (nI S.1.length)), (2, .long (nowF S)), (1, .int (nI x)), (0, .ref (ad k 0))] dL_ahead_237 (by decide) rfl ?_
        refine v_iload X 1 dL_ahead_239 rfl ?_
        refine v_ieqN X 314 (by omega) dL_ahead_241 (by decide) (fun _ => ?_) (fun q_332 => absurd (by decide) q_332)
        refine v_iload X 0 dL_ahead_314 rfl ?_
        refine v_bipush X (v := (-103)) (by decide) dL_ahead_316 ?_
        refine v_icmp_ne X 325 dL_ahead_318 (by decide) (fun q_333 => absurd rfl q_333) (fun _ => ?_)
        refine v_iconst X (v := nI 1) (by decide) dL_ahead_321 ?_
        refine v_goto X 326 dL_ahead_322 (by decide) ?_
        refine v_istore X [(7, .int (nI 1)), (10, .int ((-103))), (9, .int (nI 0)), (8, .int (nI (x % 16))), (6, .int (nI (cntP (isMod S.1) 256))), (5, .int (nI S.2.1.length)), (4, .int (nI S.1.length)), (2, .long (nowF S)), (1, .int (nI x)), (0, .ref (ad k 0))] dL_ahead_326 (by decide) rfl ?_
        refine v_widen (z' := (320, 1920)) (Nat.le_of_ble_eq_true rfl) (Nat.le_of_ble_eq_true rfl) ?_
        refine v_lv [0, 4, 5, 6, 7, 8, 9] rfl ?_
        exact B328 mem M_325  hA_329 hFr_331
  refine v_aload_n X 0 dL_ahead_0 rfl ?_
  refine v_callB X rb.2 hCl hCR (c_L_now l hst0 k M S hA) mo_L_now m_b3 m_662 m_663 m_581 ⟨Nat.le_of_ble_eq_true rfl, Nat.le_of_ble_eq_true rfl⟩ rfl rfl (Nat.le_of_ble_eq_true rfl) ⟨Nat.le_of_ble_eq_true rfl, Nat.le_of_ble_eq_true rfl⟩ dL_ahead_1 (vJ_in (fun r_336 M_334 h_335 => ?_))
  refine v_widen (z' := (96, 576)) (Nat.le_of_ble_eq_true rfl) (Nat.le_of_ble_eq_true rfl) ?_
  obtain ⟨hr_337, hA_338, hF_339⟩ := h_335
  subst hr_337
  have hFr_340 := Fr.rf.tr hF_339
  refine v_lstore_n X [(2, .long (nowF S)), (0, .ref (ad k 0)), (1, .int (nI x))] dL_ahead_4 (by decide) rfl ?_
  refine v_aload_n X 1 dL_ahead_5 rfl ?_
  refine v_callV X hCl hCR (c_X7_constraintCount l k M_334 S.1 S.2.1 S.2.2.1 S.2.2.2.1 S.2.2.2.2 hA_338) cls7 hA_338.obj (by omega) mo_X7_constraintCount m_302 m_583 m_584 m_585 m_21 (by decide) rfl rfl (Nat.le_of_ble_eq_true rfl) ⟨rfl, rfl⟩ ⟨Nat.le_of_ble_eq_true rfl, Nat.le_of_ble_eq_true rfl⟩ dL_ahead_6 (vI_in (fun r_343 M_341 h_342 => ?_))
  obtain ⟨hr_344, hA_345, hF_346⟩ : r_343 = nI S.1.length ∧ At k M_341 S ∧ Fr 0 93 M_334 M_341 := h_342
  subst hr_344
  have hFr_347 := hFr_340.tr hF_346
  refine v_istore X [(4, .int (nI S.1.length)), (2, .long (nowF S)), (0, .ref (ad k 0)), (1, .int (nI x))] dL_ahead_9 (by decide) rfl ?_
  refine v_aload_n X 2 dL_ahead_11 rfl ?_
  refine v_callV X hCl hCR (c_X7_level l k M_341 S.1 S.2.1 S.2.2.1 S.2.2.2.1 S.2.2.2.2 hA_345) cls7 hA_345.obj (by omega) mo_X7_level m_383 m_606 m_607 m_608 m_21 (by decide) rfl rfl (Nat.le_of_ble_eq_true rfl) ⟨rfl, rfl⟩ ⟨Nat.le_of_ble_eq_true rfl, Nat.le_of_ble_eq_true rfl⟩ dL_ahead_12 (vI_in (fun r_350 M_348 h_349 => ?_))
  obtain ⟨hr_351, hA_352, hF_353⟩ : r_350 = nI S.2.1.length ∧ At k M_348 S ∧ Fr 0 93 M_341 M_348 := h_349
  subst hr_351
  have hFr_354 := hFr_347.tr hF_353
  refine v_istore X [(5, .int (nI S.2.1.length)), (4, .int (nI S.1.length)), (2, .long (nowF S)), (0, .ref (ad k 0)), (1, .int (nI x))] dL_ahead_15 (by decide) rfl ?_
  refine v_aload_n X 3 dL_ahead_17 rfl ?_
  refine v_callV X hCl hCR (c_X7_modelCount l k M_348 S.1 S.2.1 S.2.2.1 S.2.2.2.1 S.2.2.2.2 hA_352) cls7 hA_352.obj (by omega) mo_X7_modelCount m_400 m_667 m_668 m_669 m_21 (by decide) rfl rfl (Nat.le_of_ble_eq_true rfl) ⟨rfl, rfl⟩ ⟨Nat.le_of_ble_eq_true rfl, Nat.le_of_ble_eq_true rfl⟩ dL_ahead_18 (vI_in (fun r_357 M_355 h_356 => ?_))
  obtain ⟨hr_358, hA_359, hF_360⟩ : r_357 = nI (cntP (isMod S.1) 256) ∧ At k M_355 S ∧ Fr 0 93 M_348 M_355 := h_356
  subst hr_358
  have hFr_361 := hFr_354.tr hF_360
  refine v_istore X [(6, .int (nI (cntP (isMod S.1) 256))), (5, .int (nI S.2.1.length)), (4, .int (nI S.1.length)), (2, .long (nowF S)), (0, .ref (ad k 0)), (1, .int (nI x))] dL_ahead_21 (by decide) rfl ?_
  refine v_aload_n X 4 dL_ahead_23 rfl ?_
  refine v_iconst X (v := nI 1) (by decide) dL_ahead_24 ?_
  refine v_callL X rb.2.1 rb.2.2.1 hCl hCR (c_L_save l hst0 k M_355 S (nI 1) hA_359) mo_L_save m_574 m_621 m_622 m_581 ⟨Nat.le_of_ble_eq_true rfl, Nat.le_of_ble_eq_true rfl⟩ rfl rfl (Nat.le_of_ble_eq_true rfl) ⟨Nat.le_of_ble_eq_true rfl, Nat.le_of_ble_eq_true rfl⟩ dL_ahead_25 (vI_in (fun r_364 M_362 h_363 => ?_))
  refine v_widen (z' := (97, 582)) (Nat.le_of_ble_eq_true rfl) (Nat.le_of_ble_eq_true rfl) ?_
  obtain ⟨hr_365, hA_366, hF_367⟩ := pa_eq (e_save1) h_363
  subst hr_365
  have hFr_368 := hFr_361.tr hF_367
  refine v_iload X 2 dL_ahead_28 rfl ?_
  refine v_icmp_ne X 37 dL_ahead_30 (by decide) (fun q_369 => absurd rfl q_369) (fun _ => ?_)
  refine v_iconst X (v := nI 1) (by decide) dL_ahead_33 ?_
  refine v_goto X 38 dL_ahead_34 (by decide) ?_
  refine v_istore X [(7, .int (nI 1)), (6, .int (nI (cntP (isMod S.1) 256))), (5, .int (nI S.2.1.length)), (4, .int (nI S.1.length)), (2, .long (nowF S)), (0, .ref (ad k 0)), (1, .int (nI x))] dL_ahead_38 (by decide) rfl ?_
  have hvm := hA_366.vok
  have hml : (S.2.2.1).length ≤ 14 := hA_366.mlen
  have hum := uM_lt hml
  refine v_aload_n X 5 dL_ahead_40 rfl ?_
  refine v_callV X hCl hCR (c_X7_conflict l k M_362 (aS S S.2.2.1).1 (aS S S.2.2.1).2.1 (aS S S.2.2.1).2.2.1 (aS S S.2.2.1).2.2.2.1 (aS S S.2.2.1).2.2.2.2 hA_366) cls7 hA_366.obj (by omega) mo_X7_conflict m_392 m_628 m_629 m_630 m_21 (by decide) rfl rfl (Nat.le_of_ble_eq_true rfl) ⟨rfl, rfl⟩ ⟨Nat.le_of_ble_eq_true rfl, Nat.le_of_ble_eq_true rfl⟩ dL_ahead_41 (vI_in (fun r_372 M_370 h_371 => ?_))
  obtain ⟨hr_373, hA_374, hF_375⟩ : r_372 = oI (sCf (aS S S.2.2.1)) ∧ At k M_370 (aS S S.2.2.1) ∧ Fr 0 93 M_362 M_370 := h_371
  subst hr_373
  have hFr_376 := hFr_368.tr hF_375
  refine v_bipush X (v := (-9)) (by decide) dL_ahead_44 ?_
  refine v_icmp_eq X 192 dL_ahead_46 (by decide) (fun hc1 => ?_) (fun hc2 => ?_)
  · refine v_widen (z' := (210, 1260)) (Nat.le_of_ble_eq_true rfl) (Nat.le_of_ble_eq_true rfl) ?_
    refine v_lv [0, 1, 2, 3, 4, 6, 5] rfl ?_
    exact B192 S.2.2.1 M_370  hA_374 hFr_376
  · refine v_iload X 2 dL_ahead_49 rfl ?_
    refine v_ileN X 192 (by omega) dL_ahead_51 (by decide) (fun hl1 => ?_) (fun hl2 => ?_)
    · refine v_widen (z' := (210, 1260)) (Nat.le_of_ble_eq_true rfl) (Nat.le_of_ble_eq_true rfl) ?_
      refine v_lv [0, 1, 2, 3, 4, 6, 5] rfl ?_
      exact B192 S.2.2.1 M_370  hA_374 hFr_376
    · refine v_iload X 3 dL_ahead_54 rfl ?_
      refine v_bipush X (v := nI 24) (by decide) dL_ahead_56 ?_
      refine v_cgeN X 192 (by omega) (by omega) dL_ahead_58 (by decide) (fun hf1 => ?_) (fun hf2 => ?_)
      · refine v_widen (z' := (210, 1260)) (Nat.le_of_ble_eq_true rfl) (Nat.le_of_ble_eq_true rfl) ?_
        refine v_lv [0, 1, 2, 3, 4, 6, 5] rfl ?_
        exact B192 S.2.2.1 M_370  hA_374 hFr_376
      · obtain ⟨q, hq⟩ : ∃ q, sCf S = some q := by
          cases hz : sCf S with
          | none => exact absurd (show oI (sCf (aS S S.2.2.1)) = -9 by rw [show sCf (aS S S.2.2.1) = none from hz]; rfl) hc2
          | some q => exact ⟨q, rfl⟩
        have hfl : falseCl (sTr S) (lrnS S q) < 65536 := fc_lt lrn_lt
        have hbj : bjLev (sTr S) (lrnS S q) < S.2.1.length := by
          have h3 := bjLev_lt (S := lrnS S q) hok (by rw [hv.2.1]; omega)
          rw [hv.2.1] at h3; exact h3
        have hle : (actS (aS S S.2.2.1) (S.1 ++ [falseCl (sTr S) (lrnS S q)]) (S.2.1.take (bjLev (sTr S) (lrnS S q)))).2.1.length ≤ bjLev (sTr S) (lrnS S q) := len_L
        refine v_aload_n X 5 dL_ahead_61 rfl ?_
        refine v_callL X rb.2.1 rb.2.2.1 hCl hCR (c_L_learned l hst0 k M_370 (aS S S.2.2.1) hA_374) mo_L_learned m_558 m_633 m_634 m_581 ⟨Nat.le_of_ble_eq_true rfl, Nat.le_of_ble_eq_true rfl⟩ rfl rfl (Nat.le_of_ble_eq_true rfl) ⟨Nat.le_of_ble_eq_true rfl, Nat.le_of_ble_eq_true rfl⟩ dL_ahead_62 (vI_in (fun r_379 M_377 h_378 => ?_))
        refine v_widen (z' := (98, 588)) (Nat.le_of_ble_eq_true rfl) (Nat.le_of_ble_eq_true rfl) ?_
        obtain ⟨hr_380, hA_381, hF_382⟩ := pa_eq (e_learnedT hq (by omega)) h_378
        subst hr_380
        have hFr_383 := hFr_376.tr hF_382
        refine v_istore X [(8, .int (nI (falseCl (sTr S) (lrnS S q)))), (7, .int (nI 1)), (6, .int (nI (cntP (isMod S.1) 256))), (5, .int (nI S.2.1.length)), (4, .int (nI S.1.length)), (2, .long (nowF S)), (0, .ref (ad k 0)), (1, .int (nI x))] dL_ahead_65 (by decide) rfl ?_
        refine v_aload_n X 6 dL_ahead_67 rfl ?_
        refine v_iload X 0 dL_ahead_68 rfl ?_
        refine v_sipush X (v := nI 255) (by decide) dL_ahead_70 ?_
        refine v_andN X dL_ahead_73 ?_
        refine v_iload X 0 dL_ahead_74 rfl ?_
        refine v_bipush X (v := nI 8) (by decide) dL_ahead_76 ?_
        refine v_shrN X (by omega) (by omega) dL_ahead_78 ?_
        refine v_callL X rb.2.1 rb.2.2.1 hCl hCR (c_L_clauseHolds l hst0 k M_377 (aS S S.2.2.1) (nI ((falseCl (sTr S) (lrnS S q)) &&& 255)) (nI ((falseCl (sTr S) (lrnS S q)) >>> 8)) hA_381) mo_L_clauseHolds m_562 m_617 m_618 m_581 ⟨Nat.le_of_ble_eq_true rfl, Nat.le_of_ble_eq_true rfl⟩ rfl rfl (Nat.le_of_ble_eq_true rfl) ⟨Nat.le_of_ble_eq_true rfl, Nat.le_of_ble_eq_true rfl⟩ dL_ahead_79 (vI_in (fun r_386 M_384 h_385 => ?_))
        refine v_widen (z' := (99, 594)) (Nat.le_of_ble_eq_true rfl) (Nat.le_of_ble_eq_true rfl) ?_
        obtain ⟨hr_387, hA_388, hF_389⟩ := pa_eq (e_chL hv.1.1 hv.1.2.1 hq) h_385
        subst hr_387
        have hFr_390 := hFr_383.tr hF_389
        refine v_istore X [(9, .int (nI 1)), (8, .int (nI (falseCl (sTr S) (lrnS S q)))), (7, .int (nI 1)), (6, .int (nI (cntP (isMod S.1) 256))), (5, .int (nI S.2.1.length)), (4, .int (nI S.1.length)), (2, .long (nowF S)), (0, .ref (ad k 0)), (1, .int (nI x))] dL_ahead_82 (by decide) rfl ?_
        refine v_aload_n X 7 dL_ahead_84 rfl ?_
        refine v_callL X rb.2.1 rb.2.2.1 hCl hCR (c_L_learn l hst0 k M_384 (aS S S.2.2.1) hA_388) mo_L_learn m_538 m_631 m_632 m_581 ⟨Nat.le_of_ble_eq_true rfl, Nat.le_of_ble_eq_true rfl⟩ rfl rfl (Nat.le_of_ble_eq_true rfl) ⟨Nat.le_of_ble_eq_true rfl, Nat.le_of_ble_eq_true rfl⟩ dL_ahead_85 (vI_in (fun r_393 M_391 h_392 => ?_))
        refine v_widen (z' := (101, 606)) (Nat.le_of_ble_eq_true rfl) (Nat.le_of_ble_eq_true rfl) ?_
        obtain ⟨hr_394, hA_395, hF_396⟩ := pa_eq (e_learnT hq (by omega) (by omega)) h_392
        subst hr_394
        have hFr_397 := hFr_390.tr hF_396
        refine v_istore X [(10, .int (nI (bjLev (sTr S) (lrnS S q)))), (9, .int (nI 1)), (8, .int (nI (falseCl (sTr S) (lrnS S q)))), (7, .int (nI 1)), (6, .int (nI (cntP (isMod S.1) 256))), (5, .int (nI S.2.1.length)), (4, .int (nI S.1.length)), (2, .long (nowF S)), (0, .ref (ad k 0)), (1, .int (nI x))] dL_ahead_88 (by decide) rfl ?_
        refine v_iload X 3 dL_ahead_90 rfl ?_
        refine v_ieqN X 189 (by omega) dL_ahead_92 (by decide) (fun q_398 => absurd q_398 (by decide)) (fun _ => ?_)
        refine v_iload X 1 dL_ahead_95 rfl ?_
        refine v_iconst X (v := nI 1) (by decide) dL_ahead_97 ?_
        refine v_cneN X 189 (by omega) (by omega) dL_ahead_98 (by decide) (fun q_399 => absurd rfl q_399) (fun _ => ?_)
        refine v_iload X 0 dL_ahead_101 rfl ?_
        refine v_iltN X (by omega) dL_ahead_103 ?_
        refine v_iload X 0 dL_ahead_106 rfl ?_
        refine v_iload X 5 dL_ahead_108 rfl ?_
        refine v_cgeN X 189 (by omega) (by omega) dL_ahead_110 (by decide) (fun q_400 => absurd q_400 (by omega)) (fun _ => ?_)
        refine v_aload_n X 8 dL_ahead_113 rfl ?_
        refine v_callV X hCl hCR (c_X7_level l k M_391 (actS (aS S S.2.2.1) (S.1 ++ [falseCl (sTr S) (lrnS S q)]) (S.2.1.take (bjLev (sTr S) (lrnS S q)))).1 (actS (aS S S.2.2.1) (S.1 ++ [falseCl (sTr S) (lrnS S q)]) (S.2.1.take (bjLev (sTr S) (lrnS S q)))).2.1 (actS (aS S S.2.2.1) (S.1 ++ [falseCl (sTr S) (lrnS S q)]) (S.2.1.take (bjLev (sTr S) (lrnS S q)))).2.2.1 (actS (aS S S.2.2.1) (S.1 ++ [falseCl (sTr S) (lrnS S q)]) (S.2.1.take (bjLev (sTr S) (lrnS S q)))).2.2.2.1 (actS (aS S S.2.2.1) (S.1 ++ [falseCl (sTr S) (lrnS S q)]) (S.2.1.take (bjLev (sTr S) (lrnS S q)))).2.2.2.2 hA_395) cls7 hA_395.obj (by omega) mo_X7_level m_383 m_606 m_607 m_608 m_21 (by decide) rfl rfl (Nat.le_of_ble_eq_true rfl) ⟨rfl, rfl⟩ ⟨Nat.le_of_ble_eq_true rfl, Nat.le_of_ble_eq_true rfl⟩ dL_ahead_114 (vI_in (fun r_403 M_401 h_402 => ?_))
        obtain ⟨hr_404, hA_405, hF_406⟩ : r_403 = nI (actS (aS S S.2.2.1) (S.1 ++ [falseCl (sTr S) (lrnS S q)]) (S.2.1.take (bjLev (sTr S) (lrnS S q)))).2.1.length ∧ At k M_401 (actS (aS S S.2.2.1) (S.1 ++ [falseCl (sTr S) (lrnS S q)]) (S.2.1.take (bjLev (sTr S) (lrnS S q)))) ∧ Fr 0 93 M_391 M_401 := h_402
        subst hr_404
        have hFr_407 := hFr_397.tr hF_406
        refine v_iload X 0 dL_ahead_117 rfl ?_
        refine v_cgtN X 189 (by omega) (by omega) dL_ahead_119 (by decide) (fun q_408 => absurd q_408 (by omega)) (fun _ => ?_)
        refine v_aload_n X 8 dL_ahead_122 rfl ?_
        refine v_iload X 6 dL_ahead_123 rfl ?_
        refine v_callL X rb.2.1 rb.2.2.1 hCl hCR (c_L_first l hst0 k M_401 (actS (aS S S.2.2.1) (S.1 ++ [falseCl (sTr S) (lrnS S q)]) (S.2.1.take (bjLev (sTr S) (lrnS S q)))) (nI S.1.length) hA_405) mo_L_first m_502 m_590 m_591 m_581 ⟨Nat.le_of_ble_eq_true rfl, Nat.le_of_ble_eq_true rfl⟩ rfl rfl (Nat.le_of_ble_eq_true rfl) ⟨Nat.le_of_ble_eq_true rfl, Nat.le_of_ble_eq_true rfl⟩ dL_ahead_125 (vI_in (fun r_411 M_409 h_410 => ?_))
        refine v_widen (z' := (102, 612)) (Nat.le_of_ble_eq_true rfl) (Nat.le_of_ble_eq_true rfl) ?_
        obtain ⟨hr_412, hA_413, hF_414⟩ := pa_eq (e_firstL (by omega)) h_410
        subst hr_412
        have hFr_415 := hFr_407.tr hF_414
        refine v_iload X 2 dL_ahead_128 rfl ?_
        refine v_sipush X (v := nI 255) (by decide) dL_ahead_130 ?_
        refine v_andN X dL_ahead_133 ?_
        refine v_icmp_ne X 189 dL_ahead_134 (by decide) (fun q_416 => absurd rfl q_416) (fun _ => ?_)
        refine v_aload_n X 8 dL_ahead_137 rfl ?_
        refine v_iload X 6 dL_ahead_138 rfl ?_
        refine v_callL X rb.2.1 rb.2.2.1 hCl hCR (c_L_second l hst0 k M_409 (actS (aS S S.2.2.1) (S.1 ++ [falseCl (sTr S) (lrnS S q)]) (S.2.1.take (bjLev (sTr S) (lrnS S q)))) (nI S.1.length) hA_413) mo_L_second m_506 m_592 m_593 m_581 ⟨Nat.le_of_ble_eq_true rfl, Nat.le_of_ble_eq_true rfl⟩ rfl rfl (Nat.le_of_ble_eq_true rfl) ⟨Nat.le_of_ble_eq_true rfl, Nat.le_of_ble_eq_true rfl⟩ dL_ahead_140 (vI_in (fun r_419 M_417 h_418 => ?_))
        refine v_widen (z' := (103, 618)) (Nat.le_of_ble_eq_true rfl) (Nat.le_of_ble_eq_true rfl) ?_
        obtain ⟨hr_420, hA_421, hF_422⟩ := pa_eq (e_secondL (by omega)) h_418
        subst hr_420
        have hFr_423 := hFr_415.tr hF_422
        refine v_iload X 2 dL_ahead_143 rfl ?_
        refine v_bipush X (v := nI 8) (by decide) dL_ahead_145 ?_
        refine v_shrN X (by omega) (by omega) dL_ahead_147 ?_
        refine v_icmp_ne X 189 dL_ahead_148 (by decide) (fun q_424 => absurd rfl q_424) (fun _ => ?_)
        refine v_aload_n X 8 dL_ahead_151 rfl ?_
        refine v_iload X 6 dL_ahead_152 rfl ?_
        refine v_callL X rb.2.1 rb.2.2.1 hCl hCR (c_L_parity l hst0 k M_417 (actS (aS S S.2.2.1) (S.1 ++ [falseCl (sTr S) (lrnS S q)]) (S.2.1.take (bjLev (sTr S) (lrnS S q)))) (nI S.1.length) hA_421) mo_L_parity m_498 m_588 m_589 m_581 ⟨Nat.le_of_ble_eq_true rfl, Nat.le_of_ble_eq_true rfl⟩ rfl rfl (Nat.le_of_ble_eq_true rfl) ⟨Nat.le_of_ble_eq_true rfl, Nat.le_of_ble_eq_true rfl⟩ dL_ahead_154 (vI_in (fun r_427 M_425 h_426 => ?_))
        refine v_widen (z' := (104, 624)) (Nat.le_of_ble_eq_true rfl) (Nat.le_of_ble_eq_true rfl) ?_
        obtain ⟨hr_428, hA_429, hF_430⟩ := pa_eq (e_parityL (by omega)) h_426
        subst hr_428
        have hFr_431 := hFr_423.tr hF_430
        refine v_ineN X 189 (by omega) dL_ahead_157 (by decide) (fun q_432 => absurd rfl q_432) (fun _ => ?_)
        refine v_aload_n X 8 dL_ahead_160 rfl ?_
        refine v_callV X hCl hCR (c_X7_modelCount l k M_425 (actS (aS S S.2.2.1) (S.1 ++ [falseCl (sTr S) (lrnS S q)]) (S.2.1.take (bjLev (sTr S) (lrnS S q)))).1 (actS (aS S S.2.2.1) (S.1 ++ [falseCl (sTr S) (lrnS S q)]) (S.2.1.take (bjLev (sTr S) (lrnS S q)))).2.1 (actS (aS S S.2.2.1) (S.1 ++ [falseCl (sTr S) (lrnS S q)]) (S.2.1.take (bjLev (sTr S) (lrnS S q)))).2.2.1 (actS (aS S S.2.2.1) (S.1 ++ [falseCl (sTr S) (lrnS S q)]) (S.2.1.take (bjLev (sTr S) (lrnS S q)))).2.2.2.1 (actS (aS S S.2.2.1) (S.1 ++ [falseCl (sTr S) (lrnS S q)]) (S.2.1.take (bjLev (sTr S) (lrnS S q)))).2.2.2.2 hA_429) cls7 hA_429.obj (by omega) mo_X7_modelCount m_400 m_667 m_668 m_669 m_21 (by decide) rfl rfl (Nat.le_of_ble_eq_true rfl) ⟨rfl, rfl⟩ ⟨Nat.le_of_ble_eq_true rfl, Nat.le_of_ble_eq_true rfl⟩ dL_ahead_161 (vI_in (fun r_435 M_433 h_434 => ?_))
        obtain ⟨hr_436, hA_437, hF_438⟩ : r_435 = nI (cntP (isMod (actS (aS S S.2.2.1) (S.1 ++ [falseCl (sTr S) (lrnS S q)]) (S.2.1.take (bjLev (sTr S) (lrnS S q)))).1) 256) ∧ At k M_433 (actS (aS S S.2.2.1) (S.1 ++ [falseCl (sTr S) (lrnS S q)]) (S.2.1.take (bjLev (sTr S) (lrnS S q)))) ∧ Fr 0 93 M_425 M_433 := h_434
        subst hr_436
        have hFr_439 := hFr_431.tr hF_438
        rw [show cntP (isMod (actS (aS S S.2.2.1) (S.1 ++ [falseCl (sTr S) (lrnS S q)]) (S.2.1.take (bjLev (sTr S) (lrnS S q)))).1) 256 = cntP (isMod S.1) 256 from cnt_same (lrn_imp hv.1.1 hv.1.2.1 hq)]
        refine v_iload X 4 dL_ahead_164 rfl ?_
        refine v_icmp_ne X 189 dL_ahead_166 (by decide) (fun q_440 => absurd rfl q_440) (fun _ => ?_)
        refine v_aload_n X 8 dL_ahead_169 rfl ?_
        refine v_callL X rb.2.1 rb.2.2.1 hCl hCR (c_L_undo l hst0 k M_433 (actS (aS S S.2.2.1) (S.1 ++ [falseCl (sTr S) (lrnS S q)]) (S.2.1.take (bjLev (sTr S) (lrnS S q)))) hA_437) mo_L_undo m_542 m_579 m_580 m_581 ⟨Nat.le_of_ble_eq_true rfl, Nat.le_of_ble_eq_true rfl⟩ rfl rfl (Nat.le_of_ble_eq_true rfl) ⟨Nat.le_of_ble_eq_true rfl, Nat.le_of_ble_eq_true rfl⟩ dL_ahead_170 (vI_in (fun r_443 M_441 h_442 => ?_))
        refine v_widen (z' := (105, 630)) (Nat.le_of_ble_eq_true rfl) (Nat.le_of_ble_eq_true rfl) ?_
        obtain ⟨hr_444, hA_445, hF_446⟩ := pa_eq (e_undoS hvm _ _) h_442
        subst hr_444
        have hFr_447 := hFr_439.tr hF_446
        refine v_iltN X (by omega) dL_ahead_173 ?_
        refine v_aload_n X 8 dL_ahead_176 rfl ?_
        refine v_callB X rb.2 hCl hCR (c_L_now l hst0 k M_441 (aS S (uM S.2.2.1)) hA_445) mo_L_now m_b3 m_662 m_663 m_581 ⟨Nat.le_of_ble_eq_true rfl, Nat.le_of_ble_eq_true rfl⟩ rfl rfl (Nat.le_of_ble_eq_true rfl) ⟨Nat.le_of_ble_eq_true rfl, Nat.le_of_ble_eq_true rfl⟩ dL_ahead_177 (vJ_in (fun r_450 M_448 h_449 => ?_))
        refine v_widen (z' := (201, 1206)) (Nat.le_of_ble_eq_true rfl) (Nat.le_of_ble_eq_true rfl) ?_
        obtain ⟨hr_451, hA_452, hF_453⟩ := h_449
        subst hr_451
        have hFr_454 := hFr_447.tr hF_453
        refine v_lload_n X 7 dL_ahead_180 rfl ?_
        refine v_lcmp X dL_ahead_181 ?_
        refine v_if_ne X 189 dL_ahead_182 (by decide) (fun q_455 => absurd ((lg_cmp_eq _ _).mpr now_aS) q_455) (fun _ => ?_)
        refine v_iconst X (v := nI 1) (by decide) dL_ahead_185 ?_
        refine v_goto X 190 dL_ahead_186 (by decide) ?_
        refine v_istore X [(7, .int (nI 1)), (10, .int (nI (bjLev (sTr S) (lrnS S q)))), (9, .int (nI 1)), (8, .int (nI (falseCl (sTr S) (lrnS S q)))), (6, .int (nI (cntP (isMod S.1) 256))), (5, .int (nI S.2.1.length)), (4, .int (nI S.1.length)), (2, .long (nowF S)), (0, .ref (ad k 0)), (1, .int (nI x))] dL_ahead_190 (by decide) rfl ?_
        refine v_widen (z' := (210, 1260)) (Nat.le_of_ble_eq_true rfl) (Nat.le_of_ble_eq_true rfl) ?_
        refine v_lv [0, 4, 5, 6, 7, 9, 8] rfl ?_
        exact B192 (uM S.2.2.1) M_448  hA_452 hFr_454
