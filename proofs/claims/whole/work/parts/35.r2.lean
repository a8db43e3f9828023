set_option maxHeartbeats 4000000 in
set_option maxRecDepth 100000 in
theorem c_X8_assign (l : Launch) (k : KX) (M : Mem) (rf ac nx lp ln sz sp lc : Nat) (so : Bool) (tr : List Ent) (cf : Option Nat) (lv v : Nat) (b : Bool) (r : Option Nat) (hN : 107 ≤ kN k) (F0 : M 93 = RO k rf ac nx (tA tr) (tT tr) tr.length lv cf lp ln sz sp lc so) (hT : RtAt k M tr) (hv : v < 8) (hf : (tA tr).testBit v = false) (hr : ∀ n, r = some n → n < 24) (hL : lv = tL ((v, b, r) :: tr)) : CM l yX8_assign cX8_assign 4 none { frames := 0, cells := 0, slots := 0, locals := 0 } k [.ref (ad k 93), .int (nI v), .int (bI b), .int (oI r)] M (pV (fun M' => M' 93 = RO k rf ac nx (tA ((v, b, r) :: tr)) (tT ((v, b, r) :: tr)) (((v, b, r) :: tr).length) lv cf lp ln sz sp lc so ∧ RtAt k M' ((v, b, r) :: tr) ∧ FrT M M')) := by
  refine CM.of (by decide) (Nat.le_of_ble_eq_true rfl) (fun C X hCl hCR rq => ?_)
  show V C k 4 (0, 0) M 0 [(0, .ref (ad k 93)), (1, .int (nI v)), (2, .int (bI b)), (3, .int (oI r))] []
  have htl := hT.2.1.lt hv hf
  obtain ⟨hN_1, hk_2, t_3, l_4, p_5, r_6, F0_7, F1_8, F2_9, F3_10, h1_11, h2_12, h3_13⟩ := id hT
  refine v_aload_n X 0 dX8_assign_0 rfl ?_
  refine v_dup X rfl dX8_assign_1 ?_
  refine v_get X cls8 F0 (by omega) 8 (by decide) m_473 rfl rfl dX8_assign_2 ?_
  refine v_iconst X (v := nI 1) (by decide) dX8_assign_5 ?_
  refine v_iload_n X 1 dX8_assign_6 rfl ?_
  refine v_shlN X (by omega) dX8_assign_7 ?_
  refine v_orN X dX8_assign_8 ?_
  refine v_put X cls8 F0 (by omega) 8 (by decide) m_473 rfl rfl rfl rfl (Nat.le_of_ble_eq_true rfl) dX8_assign_9 (fun M_14 hM_15 => ?_)
  have F_16 : M_14 93 = RO k rf ac nx ((tA tr) ||| (1 <<< v)) (tT tr) tr.length lv cf lp ln sz sp lc so := by rw [hM_15]; exact mup_s
  have F_17 : M_14 99 = IR k 8 t_3 := by rw [hM_15, mup_n (by omega)]; exact F0_7
  have F_18 : M_14 100 = IR k 8 l_4 := by rw [hM_15, mup_n (by omega)]; exact F1_8
  have F_19 : M_14 101 = .inl (kI k, 8, .inl (fun zq => oI (r_6 zq))) := by rw [hM_15, mup_n (by omega)]; exact F2_9
  have F_20 : M_14 102 = IR k 8 p_5 := by rw [hM_15, mup_n (by omega)]; exact F3_10
  refine v_aload_n X 0 dX8_assign_12 rfl ?_
  refine v_dup X rfl dX8_assign_13 ?_
  refine v_get X cls8 F_16 (by omega) 9 (by decide) m_474 rfl rfl dX8_assign_14 ?_
  refine v_iload_n X 2 dX8_assign_17 rfl ?_
  refine v_ieqB X 27 dX8_assign_18 (by decide) (fun c_21 => ?_) (fun c_21 => ?_)
  · have hbb : b = false := c_21
    refine v_iconst X (v := nI 0) (by decide) dX8_assign_27 ?_
    refine v_orN X dX8_assign_28 ?_
    refine v_put X cls8 F_16 (by omega) 9 (by decide) m_474 rfl rfl rfl rfl (Nat.le_of_ble_eq_true rfl) dX8_assign_29 (fun M_22 hM_23 => ?_)
    have F_24 : M_22 93 = RO k rf ac nx ((tA tr) ||| (1 <<< v)) ((tT tr) ||| 0) tr.length lv cf lp ln sz sp lc so := by rw [hM_23]; exact mup_s
    have F_25 : M_22 99 = IR k 8 t_3 := by rw [hM_23, mup_n (by omega)]; exact F_17
    have F_26 : M_22 100 = IR k 8 l_4 := by rw [hM_23, mup_n (by omega)]; exact F_18
    have F_27 : M_22 101 = .inl (kI k, 8, .inl (fun zq => oI (r_6 zq))) := by rw [hM_23, mup_n (by omega)]; exact F_19
    have F_28 : M_22 102 = IR k 8 p_5 := by rw [hM_23, mup_n (by omega)]; exact F_20
    refine v_aload_n X 0 dX8_assign_32 rfl ?_
    refine v_get X cls8 F_24 (by omega) 15 (by decide) m_451 rfl rfl dX8_assign_33 ?_
    refine v_iload_n X 1 dX8_assign_36 rfl ?_
    refine v_aload_n X 0 dX8_assign_37 rfl ?_
    refine v_get X cls8 F_24 (by omega) 11 (by decide) m_475 rfl rfl dX8_assign_38 ?_
    refine v_iast X nI tr.length F_28 (by omega) (by omega) (by decide) dX8_assign_41 (fun M_29 hM_30 => ?_)
    have F_32 : M_29 93 = RO k rf ac nx ((tA tr) ||| (1 <<< v)) ((tT tr) ||| 0) tr.length lv cf lp ln sz sp lc so := by rw [hM_30, mup_n (by omega)]; exact F_24
    have F_33 : M_29 99 = IR k 8 t_3 := by rw [hM_30, mup_n (by omega)]; exact F_25
    have F_34 : M_29 100 = IR k 8 l_4 := by rw [hM_30, mup_n (by omega)]; exact F_26
    have F_35 : M_29 101 = .inl (kI k, 8, .inl (fun zq => oI (r_6 zq))) := by rw [hM_30, mup_n (by omega)]; exact F_27
    have F_36 : M_29 102 = IR k 8 (va_up p_5 v tr.length) := by rw [hM_30]; exact mup_s
    refine v_aload_n X 0 dX8_assign_42 rfl ?_
    refine v_get X cls8 F_32 (by omega) 10 (by decide) m_448 rfl rfl dX8_assign_43 ?_
    refine v_aload_n X 0 dX8_assign_46 rfl ?_
    refine v_get X cls8 F_32 (by omega) 11 (by decide) m_475 rfl rfl dX8_assign_47 ?_
    refine v_iconst X (v := nI 2) (by decide) dX8_assign_50 ?_
    refine v_iload_n X 1 dX8_assign_51 rfl ?_
    refine v_mulN X dX8_assign_52 ?_
    refine v_iload_n X 2 dX8_assign_53 rfl ?_
    refine v_ieqB X 61 dX8_assign_54 (by decide) (fun c_37 => ?_) (fun c_37 => ?_)
    · refine v_iconst X (v := nI 1) (by decide) dX8_assign_61 ?_
      refine v_addN X dX8_assign_62 ?_
      refine v_iast X nI ((2 * v) + 1) F_33 (by omega) (by omega) (by decide) dX8_assign_63 (fun M_38 hM_39 => ?_)
      have F_41 : M_38 93 = RO k rf ac nx ((tA tr) ||| (1 <<< v)) ((tT tr) ||| 0) tr.length lv cf lp ln sz sp lc so := by rw [hM_39, mup_n (by omega)]; exact F_32
      have F_42 : M_38 99 = IR k 8 (va_up t_3 tr.length ((2 * v) + 1)) := by rw [hM_39]; exact mup_s
      have F_43 : M_38 100 = IR k 8 l_4 := by rw [hM_39, mup_n (by omega)]; exact F_34
      have F_44 : M_38 101 = .inl (kI k, 8, .inl (fun zq => oI (r_6 zq))) := by rw [hM_39, mup_n (by omega)]; exact F_35
      have F_45 : M_38 102 = IR k 8 (va_up p_5 v tr.length) := by rw [hM_39, mup_n (by omega)]; exact F_36
      refine v_aload_n X 0 dX8_assign_64 rfl ?_
      refine v_dup X rfl dX8_assign_65 ?_
      refine v_get X cls8 F_41 (by omega) 11 (by decide) m_475 rfl rfl dX8_assign_66 ?_
      refine v_iconst X (v := nI 1) (by decide) dX8_assign_69 ?_
      refine v_addN X dX8_assign_70 ?_
      refine v_put X cls8 F_41 (by omega) 11 (by decide) m_475 rfl rfl rfl rfl (Nat.le_of_ble_eq_true rfl) dX8_assign_71 (fun M_46 hM_47 => ?_)
      have F_48 : M_46 93 = RO k rf ac nx ((tA tr) ||| (1 <<< v)) ((tT tr) ||| 0) (tr.length + 1) lv cf lp ln sz sp lc so := by rw [hM_47]; exact mup_s
      have F_49 : M_46 99 = IR k 8 (va_up t_3 tr.length ((2 * v) + 1)) := by rw [hM_47, mup_n (by omega)]; exact F_42
      have F_50 : M_46 100 = IR k 8 l_4 := by rw [hM_47, mup_n (by omega)]; exact F_43
      have F_51 : M_46 101 = .inl (kI k, 8, .inl (fun zq => oI (r_6 zq))) := by rw [hM_47, mup_n (by omega)]; exact F_44
      have F_52 : M_46 102 = IR k 8 (va_up p_5 v tr.length) := by rw [hM_47, mup_n (by omega)]; exact F_45
      refine v_aload_n X 0 dX8_assign_74 rfl ?_
      refine v_get X cls8 F_48 (by omega) 13 (by decide) m_449 rfl rfl dX8_assign_75 ?_
      refine v_iload_n X 1 dX8_assign_78 rfl ?_
      refine v_aload_n X 0 dX8_assign_79 rfl ?_
      refine v_get X cls8 F_48 (by omega) 12 (by decide) m_476 rfl rfl dX8_assign_80 ?_
      refine v_iast X nI lv F_50 (by omega) (by omega) (by decide) dX8_assign_83 (fun M_53 hM_54 => ?_)
      have F_56 : M_53 93 = RO k rf ac nx ((tA tr) ||| (1 <<< v)) ((tT tr) ||| 0) (tr.length + 1) lv cf lp ln sz sp lc so := by rw [hM_54, mup_n (by omega)]; exact F_48
      have F_57 : M_53 99 = IR k 8 (va_up t_3 tr.length ((2 * v) + 1)) := by rw [hM_54, mup_n (by omega)]; exact F_49
      have F_58 : M_53 100 = IR k 8 (va_up l_4 v lv) := by rw [hM_54]; exact mup_s
      have F_59 : M_53 101 = .inl (kI k, 8, .inl (fun zq => oI (r_6 zq))) := by rw [hM_54, mup_n (by omega)]; exact F_51
      have F_60 : M_53 102 = IR k 8 (va_up p_5 v tr.length) := by rw [hM_54, mup_n (by omega)]; exact F_52
      refine v_aload_n X 0 dX8_assign_84 rfl ?_
      refine v_get X cls8 F_56 (by omega) 14 (by decide) m_450 rfl rfl dX8_assign_85 ?_
      refine v_iload_n X 1 dX8_assign_88 rfl ?_
      refine v_iload_n X 3 dX8_assign_89 rfl ?_
      refine v_iast X oI r F_59 (by omega) (by omega) (by decide) dX8_assign_90 (fun M_61 hM_62 => ?_)
      have F_64 : M_61 93 = RO k rf ac nx ((tA tr) ||| (1 <<< v)) ((tT tr) ||| 0) (tr.length + 1) lv cf lp ln sz sp lc so := by rw [hM_62, mup_n (by omega)]; exact F_56
      have F_65 : M_61 99 = IR k 8 (va_up t_3 tr.length ((2 * v) + 1)) := by rw [hM_62, mup_n (by omega)]; exact F_57
      have F_66 : M_61 100 = IR k 8 (va_up l_4 v lv) := by rw [hM_62, mup_n (by omega)]; exact F_58
      have F_67 : M_61 101 = .inl (kI k, 8, .inl (fun zq => oI (va_up r_6 v r zq))) := by rw [hM_62]; exact mup_s
      have F_68 : M_61 102 = IR k 8 (va_up p_5 v tr.length) := by rw [hM_62, mup_n (by omega)]; exact F_60
      exact v_vret X rq ⟨by decide, by decide⟩ dX8_assign_91 ⟨rfl, F_64.trans (by rw [hbb]; show RO k _ _ _ _ (tT tr ||| 0) _ _ _ _ _ _ _ _ _ = _; rw [Nat.or_zero]; rfl), RtAt.push hN hk_2 h1_11 h2_12 h3_13 hv hf hr hL (by rw [hbb]; rfl) F_65 F_66 F_67 F_68, (fun i hi1 hi2 => by rw [hM_62, mup_n (by omega), hM_54, mup_n (by omega), hM_47, mup_n (by omega), hM_39, mup_n (by omega), hM_30, mup_n (by omega), hM_23, mup_n (by omega), hM_15, mup_n (by omega)])⟩
    · rw [hbb] at c_37; cases c_37
  · have hbb : b = true := c_21
    refine v_iconst X (v := nI 1) (by decide) dX8_assign_21 ?_
    refine v_iload_n X 1 dX8_assign_22 rfl ?_
    refine v_shlN X (by omega) dX8_assign_23 ?_
    refine v_goto X 28 dX8_assign_24 (by decide) ?_
    refine v_orN X dX8_assign_28 ?_
    refine v_put X cls8 F_16 (by omega) 9 (by decide) m_474 rfl rfl rfl rfl (Nat.le_of_ble_eq_true rfl) dX8_assign_29 (fun M_69 hM_70 => ?_)
    have F_71 : M_69 93 = RO k rf ac nx ((tA tr) ||| (1 <<< v)) ((tT tr) ||| (1 <<< v)) tr.length lv cf lp ln sz sp lc so := by rw [hM_70]; exact mup_s
    have F_72 : M_69 99 = IR k 8 t_3 := by rw [hM_70, mup_n (by omega)]; exact F_17
    have F_73 : M_69 100 = IR k 8 l_4 := by rw [hM_70, mup_n (by omega)]; exact F_18
    have F_74 : M_69 101 = .inl (kI k, 8, .inl (fun zq => oI (r_6 zq))) := by rw [hM_70, mup_n (by omega)]; exact F_19
    have F_75 : M_69 102 = IR k 8 p_5 := by rw [hM_70, mup_n (by omega)]; exact F_20
    refine v_aload_n X 0 dX8_assign_32 rfl ?_
    refine v_get X cls8 F_71 (by omega) 15 (by decide) m_451 rfl rfl dX8_assign_33 ?_
    refine v_iload_n X 1 dX8_assign_36 rfl ?_
    refine v_aload_n X 0 dX8_assign_37 rfl ?_
    refine v_get X cls8 F_71 (by omega) 11 (by decide) m_475 rfl rfl dX8_assign_38 ?_
    refine v_iast X nI tr.length F_75 (by omega) (by omega) (by decide) dX8_assign_41 (fun M_76 hM_77 => ?_)
    have F_79 : M_76 93 = RO k rf ac nx ((tA tr) ||| (1 <<< v)) ((tT tr) ||| (1 <<< v)) tr.length lv cf lp ln sz sp lc so := by rw [hM_77, mup_n (by omega)]; exact F_71
    have F_80 : M_76 99 = IR k 8 t_3 := by rw [hM_77, mup_n (by omega)]; exact F_72
    have F_81 : M_76 100 = IR k 8 l_4 := by rw [hM_77, mup_n (by omega)]; exact F_73
    have F_82 : M_76 101 = .inl (kI k, 8, .inl (fun zq => oI (r_6 zq))) := by rw [hM_77, mup_n (by omega)]; exact F_74
    have F_83 : M_76 102 = IR k 8 (va_up p_5 v tr.length) := by rw [hM_77]; exact mup_s
    refine v_aload_n X 0 dX8_assign_42 rfl ?_
    refine v_get X cls8 F_79 (by omega) 10 (by decide) m_448 rfl rfl dX8_assign_43 ?_
    refine v_aload_n X 0 dX8_assign_46 rfl ?_
    refine v_get X cls8 F_79 (by omega) 11 (by decide) m_475 rfl rfl dX8_assign_47 ?_
    refine v_iconst X (v := nI 2) (by decide) dX8_assign_50 ?_
    refine v_iload_n X 1 dX8_assign_51 rfl ?_
    refine v_mulN X dX8_assign_52 ?_
    refine v_iload_n X 2 dX8_assign_53 rfl ?_
    refine v_ieqB X 61 dX8_assign_54 (by decide) (fun c_84 => ?_) (fun c_84 => ?_)
    · rw [hbb] at c_84; cases c_84
    · refine v_iconst X (v := nI 0) (by decide) dX8_assign_57 ?_
      refine v_goto X 62 dX8_assign_58 (by decide) ?_
      refine v_addN X dX8_assign_62 ?_
      refine v_iast X nI ((2 * v) + 0) F_80 (by omega) (by omega) (by decide) dX8_assign_63 (fun M_85 hM_86 => ?_)
      have F_88 : M_85 93 = RO k rf ac nx ((tA tr) ||| (1 <<< v)) ((tT tr) ||| (1 <<< v)) tr.length lv cf lp ln sz sp lc so := by rw [hM_86, mup_n (by omega)]; exact F_79
      have F_89 : M_85 99 = IR k 8 (va_up t_3 tr.length ((2 * v) + 0)) := by rw [hM_86]; exact mup_s
      have F_90 : M_85 100 = IR k 8 l_4 := by rw [hM_86, mup_n (by omega)]; exact F_81
      have F_91 : M_85 101 = .inl (kI k, 8, .inl (fun zq => oI (r_6 zq))) := by rw [hM_86, mup_n (by omega)]; exact F_82
      have F_92 : M_85 102 = IR k 8 (va_up p_5 v tr.length) := by rw [hM_86, mup_n (by omega)]; exact F_83
      refine v_aload_n X 0 dX8_assign_64 rfl ?_
      refine v_dup X rfl dX8_assign_65 ?_
      refine v_get X cls8 F_88 (by omega) 11 (by decide) m_475 rfl rfl dX8_assign_66 ?_
      refine v_iconst X (v := nI 1) (by decide) dX8_assign_69 ?_
      refine v_addN X dX8_assign_70 ?_
      refine v_put X cls8 F_88 (by omega) 11 (by decide) m_475 rfl rfl rfl rfl (Nat.le_of_ble_eq_true rfl) dX8_assign_71 (fun M_93 hM_94 => ?_)
      have F_95 : M_93 93 = RO k rf ac nx ((tA tr) ||| (1 <<< v)) ((tT tr) ||| (1 <<< v)) (tr.length + 1) lv cf lp ln sz sp lc so := by rw [hM_94]; exact mup_s
      have F_96 : M_93 99 = IR k 8 (va_up t_3 tr.length ((2 * v) + 0)) := by rw [hM_94, mup_n (by omega)]; exact F_89
      have F_97 : M_93 100 = IR k 8 l_4 := by rw [hM_94, mup_n (by omega)]; exact F_90
      have F_98 : M_93 101 = .inl (kI k, 8, .inl (fun zq => oI (r_6 zq))) := by rw [hM_94, mup_n (by omega)]; exact F_91
      have F_99 : M_93 102 = IR k 8 (va_up p_5 v tr.length) := by rw [hM_94, mup_n (by omega)]; exact F_92
      refine v_aload_n X 0 dX8_assign_74 rfl ?_
      refine v_get X cls8 F_95 (by omega) 13 (by decide) m_449 rfl rfl dX8_assign_75 ?_
      refine v_iload_n X 1 dX8_assign_78 rfl ?_
      refine v_aload_n X 0 dX8_assign_79 rfl ?_
      refine v_get X cls8 F_95 (by omega) 12 (by decide) m_476 rfl rfl dX8_assign_80 ?_
      refine v_iast X nI lv F_97 (by omega) (by omega) (by decide) dX8_assign_83 (fun M_100 hM_101 => ?_)
      have F_103 : M_100 93 = RO k rf ac nx ((tA tr) ||| (1 <<< v)) ((tT tr) ||| (1 <<< v)) (tr.length + 1) lv cf lp ln sz sp lc so := by rw [hM_101, mup_n (by omega)]; exact F_95
      have F_104 : M_100 99 = IR k 8 (va_up t_3 tr.length ((2 * v) + 0)) := by rw [hM_101, mup_n (by omega)]; exact F_96
      have F_105 : M_100 100 = IR k 8 (va_up l_4 v lv) := by rw [hM_101]; exact mup_s
      have F_106 : M_100 101 = .inl (kI k, 8, .inl (fun zq => oI (r_6 zq))) := by rw [hM_101, mup_n (by omega)]; exact F_98
      have F_107 : M_100 102 = IR k 8 (va_up p_5 v tr.length) := by rw [hM_101, mup_n (by omega)]; exact F_99
      refine v_aload_n X 0 dX8_assign_84 rfl ?_
      refine v_get X cls8 F_103 (by omega) 14 (by decide) m_450 rfl rfl dX8_assign_85 ?_
      refine v_iload_n X 1 dX8_assign_88 rfl ?_
      refine v_iload_n X 3 dX8_assign_89 rfl ?_
      refine v_iast X oI r F_106 (by omega) (by omega) (by decide) dX8_assign_90 (fun M_108 hM_109 => ?_)
      have F_111 : M_108 93 = RO k rf ac nx ((tA tr) ||| (1 <<< v)) ((tT tr) ||| (1 <<< v)) (tr.length + 1) lv cf lp ln sz sp lc so := by rw [hM_109, mup_n (by omega)]; exact F_103
      have F_112 : M_108 99 = IR k 8 (va_up t_3 tr.length ((2 * v) + 0)) := by rw [hM_109, mup_n (by omega)]; exact F_104
      have F_113 : M_108 100 = IR k 8 (va_up l_4 v lv) := by rw [hM_109, mup_n (by omega)]; exact F_105
      have F_114 : M_108 101 = .inl (kI k, 8, .inl (fun zq => oI (va_up r_6 v r zq))) := by rw [hM_109]; exact mup_s
      have F_115 : M_108 102 = IR k 8 (va_up p_5 v tr.length) := by rw [hM_109, mup_n (by omega)]; exact F_107
      exact v_vret X rq ⟨by decide, by decide⟩ dX8_assign_91 ⟨rfl, F_111.trans (by rw [hbb]; rfl), RtAt.push hN hk_2 h1_11 h2_12 h3_13 hv hf hr hL (by rw [hbb]; rfl) F_112 F_113 F_114 F_115, (fun i hi1 hi2 => by rw [hM_109, mup_n (by omega), hM_101, mup_n (by omega), hM_94, mup_n (by omega), hM_86, mup_n (by omega), hM_77, mup_n (by omega), hM_70, mup_n (by omega), hM_15, mup_n (by omega)])⟩
set_option maxHeartbeats 4000000 in
set_option maxRecDepth 100000 in
theorem c_X8_stateOf (l : Launch) (k : KX) (M : Mem) (rf ac nx A T tz lv : Nat) (cf : Option Nat) (lp ln sz sp lc : Nat) (so : Bool) (b : Nat) (f : Nat → Nat) (i x : Nat) (hN : 107 ≤ kN k) (F0 : M 93 = RO k rf ac nx A T tz lv cf lp ln sz sp lc so) (hA : A < 256) (hT : T < 256) (hb : b < kN k) (F : M b = IR k 82 f) (hi : i < 24) (hx : rAt f i x) : CM l yX8_stateOf cX8_stateOf 5 ((some .int)) { frames := 2, cells := 0, slots := 0, locals := 44 } k [.ref (ad k 93), .ref (ad k b), .int (nI i)] M (pP (.int (nI (rSt x A T))) M) := by
  refine CM.of (by decide) (Nat.le_of_ble_eq_true rfl) (fun C X hCl hCR rq => ?_)
  show V C k 5 (0, 0) M 0 [(0, .ref (ad k 93)), (1, .ref (ad k b)), (2, .int (nI i))] []
  have hx1 := hx.lt
  obtain ⟨-, x2, x3, x4⟩ := id hx
  have xf := xFirst_lt x
  have xs := xSecond_lt x
  refine v_aload_n X 1 dX8_stateOf_0 rfl ?_
  refine v_iload_n X 2 dX8_stateOf_1 rfl ?_
  refine v_callS X hCl hCR (c_X8_variablesOf l k M b f i x (by omega) F hi hx) mo_X8_variablesOf m_467 m_478 m_479 m_465 (by decide) rfl rfl (Nat.le_of_ble_eq_true rfl) ⟨rfl, rfl⟩ ⟨by decide, by decide⟩ dX8_stateOf_2 (vP_in ?_)
  refine v_aload_n X 0 dX8_stateOf_5 rfl ?_
  refine v_get X cls8 F0 (by omega) 8 (by decide) m_473 rfl rfl dX8_stateOf_6 ?_
  refine v_iconst X (v := nI 4294967295) (by decide) dX8_stateOf_9 ?_
  refine v_xorN X dX8_stateOf_10 ?_
  refine v_andN X dX8_stateOf_11 ?_
  refine v_top (show (Value.int (nI ((xVars x) &&& (A ^^^ 4294967295))) : Value) = .int (nI (mdiff (xVars x) A)) from congrArg _ (rfl)) ?_
  refine v_callS X hCl hCR (c_X8_bits l k M (mdiff (xVars x) A) (mdiff_lt (xVars_lt x))) mo_X8_bits m_461 m_469 m_470 m_465 (by decide) rfl rfl (Nat.le_of_ble_eq_true rfl) ⟨rfl, rfl⟩ ⟨by decide, by decide⟩ dX8_stateOf_12 (vP_in ?_)
  have hpc := pc8_le (mdiff (xVars x) A)
  refine v_istore_n X [(3, .int (nI (pcN 8 (mdiff (xVars x) A)))), (0, .ref (ad k 93)), (1, .ref (ad k b)), (2, .int (nI i))] dX8_stateOf_15 (by decide) rfl ?_
  refine v_aload_n X 2 dX8_stateOf_16 rfl ?_
  refine v_iconst X (v := nI 1) (by decide) dX8_stateOf_17 ?_
  refine v_iload_n X 3 dX8_stateOf_18 rfl ?_
  refine v_addN X dX8_stateOf_19 ?_
  refine v_iald X nI F (by omega) (by omega) (by decide) dX8_stateOf_20 ?_
  refine v_iconst X (v := nI 1) (by decide) dX8_stateOf_21 ?_
  refine v_cneN X 56 (by omega) (by omega) dX8_stateOf_22 (by decide) (fun c_1 => ?_) (fun c_1 => ?_)
  · have hp := (rAt.p0 hx).mp c_1
    refine v_aload_n X 2 dX8_stateOf_56 rfl ?_
    refine v_bipush X (v := nI 25) (by decide) dX8_stateOf_57 ?_
    refine v_iload_n X 3 dX8_stateOf_59 rfl ?_
    refine v_addN X dX8_stateOf_60 ?_
    refine v_iald X nI F (by omega) (by omega) (by decide) dX8_stateOf_61 ?_
    refine v_aload_n X 1 dX8_stateOf_62 rfl ?_
    refine v_get X cls8 F0 (by omega) 8 (by decide) m_473 rfl rfl dX8_stateOf_63 ?_
    refine v_andN X dX8_stateOf_66 ?_
    refine v_aload_n X 1 dX8_stateOf_67 rfl ?_
    refine v_get X cls8 F0 (by omega) 9 (by decide) m_474 rfl rfl dX8_stateOf_68 ?_
    refine v_andN X dX8_stateOf_71 ?_
    refine v_ineN X 96 (and_ltl (and_ltl (by omega))) dX8_stateOf_72 (by decide) (fun c_2 => ?_) (fun c_2 => ?_)
    · have h72 := c_2
      rw [x2] at h72
      refine v_iconst X (v := bI true) (by decide) dX8_stateOf_96 ?_
      refine v_goto X 101 dX8_stateOf_97 (by decide) ?_
      refine v_istore X [(4, .int (bI true)), (3, .int (nI (pcN 8 (mdiff (xVars x) A)))), (0, .ref (ad k 93)), (1, .ref (ad k b)), (2, .int (nI i))] dX8_stateOf_101 (by decide) rfl ?_
      refine v_iload X 0 dX8_stateOf_103 rfl ?_
      refine v_ineB X 113 dX8_stateOf_105 (by decide) (fun _ => ?_) (fun h => absurd h (by decide))
      refine v_iconst X (v := nI 0) (by decide) dX8_stateOf_113 ?_
      refine v_goto X 127 dX8_stateOf_114 (by decide) ?_
      exact v_iret X rq ⟨by decide, by decide⟩ rfl dX8_stateOf_127 (pP_i (by congr 1; unfold rSt; rw [hp]; simp_all; try omega))
    · have h72 := c_2
      rw [x2] at h72
      refine v_aload_n X 2 dX8_stateOf_75 rfl ?_
      refine v_bipush X (v := nI 49) (by decide) dX8_stateOf_76 ?_
      refine v_iload_n X 3 dX8_stateOf_78 rfl ?_
      refine v_addN X dX8_stateOf_79 ?_
      refine v_iald X nI F (by omega) (by omega) (by decide) dX8_stateOf_80 ?_
      refine v_aload_n X 1 dX8_stateOf_81 rfl ?_
      refine v_get X cls8 F0 (by omega) 8 (by decide) m_473 rfl rfl dX8_stateOf_82 ?_
      refine v_andN X dX8_stateOf_85 ?_
      refine v_aload_n X 1 dX8_stateOf_86 rfl ?_
      refine v_get X cls8 F0 (by omega) 9 (by decide) m_474 rfl rfl dX8_stateOf_87 ?_
      refine v_iconst X (v := nI 4294967295) (by decide) dX8_stateOf_90 ?_
      refine v_xorN X dX8_stateOf_91 ?_
      refine v_andN X dX8_stateOf_92 ?_
      refine v_ieqN X 100 (and_ltl (and_ltl (by omega))) dX8_stateOf_93 (by decide) (fun c_3 => ?_) (fun c_3 => ?_)
      · have h93 : mdiff (xSecond x &&& A) T = 0 := by rw [x3] at c_3; exact c_3
        refine v_iconst X (v := bI false) (by decide) dX8_stateOf_100 ?_
        refine v_istore X [(4, .int (bI false)), (3, .int (nI (pcN 8 (mdiff (xVars x) A)))), (0, .ref (ad k 93)), (1, .ref (ad k b)), (2, .int (nI i))] dX8_stateOf_101 (by decide) rfl ?_
        refine v_iload X 0 dX8_stateOf_103 rfl ?_
        refine v_ineB X 113 dX8_stateOf_105 (by decide) (fun h => absurd h (by decide)) (fun _ => ?_)
        refine v_iload_n X 1 dX8_stateOf_108 rfl ?_
        refine v_iconst X (v := nI 1) (by decide) dX8_stateOf_109 ?_
        refine v_cleN X 117 (by omega) (by omega) dX8_stateOf_110 (by decide) (fun c_4 => ?_) (fun c_4 => ?_)
        · have h110 := c_4
          refine v_iload_n X 1 dX8_stateOf_117 rfl ?_
          refine v_iconst X (v := nI 1) (by decide) dX8_stateOf_118 ?_
          refine v_cneN X 126 (by omega) (by omega) dX8_stateOf_119 (by decide) (fun c_5 => ?_) (fun c_5 => ?_)
          · have h119 := c_5
            refine v_iconst X (v := nI 2) (by decide) dX8_stateOf_126 ?_
            exact v_iret X rq ⟨by decide, by decide⟩ rfl dX8_stateOf_127 (pP_i (by congr 1; unfold rSt; rw [hp]; simp_all; try omega))
          · have h119 := c_5
            refine v_iconst X (v := nI 1) (by decide) dX8_stateOf_122 ?_
            refine v_goto X 127 dX8_stateOf_123 (by decide) ?_
            exact v_iret X rq ⟨by decide, by decide⟩ rfl dX8_stateOf_127 (pP_i (by congr 1; unfold rSt; rw [hp]; simp_all; try omega))
        · have h110 := c_4
          refine v_iconst X (v := nI 0) (by decide) dX8_stateOf_113 ?_
          refine v_goto X 127 dX8_stateOf_114 (by decide) ?_
          exact v_iret X rq ⟨by decide, by decide⟩ rfl dX8_stateOf_127 (pP_i (by congr 1; unfold rSt; rw [hp]; simp_all; try omega))
      · have h93 : mdiff (xSecond x &&& A) T ≠ 0 := by rw [x3] at c_3; exact c_3
        refine v_iconst X (v := bI true) (by decide) dX8_stateOf_96 ?_
        refine v_goto X 101 dX8_stateOf_97 (by decide) ?_
        refine v_istore X [(4, .int (bI true)), (3, .int (nI (pcN 8 (mdiff (xVars x) A)))), (0, .ref (ad k 93)), (1, .ref (ad k b)), (2, .int (nI i))] dX8_stateOf_101 (by decide) rfl ?_
        refine v_iload X 0 dX8_stateOf_103 rfl ?_
        refine v_ineB X 113 dX8_stateOf_105 (by decide) (fun _ => ?_) (fun h => absurd h (by decide))
        refine v_iconst X (v := nI 0) (by decide) dX8_stateOf_113 ?_
        refine v_goto X 127 dX8_stateOf_114 (by decide) ?_
        exact v_iret X rq ⟨by decide, by decide⟩ rfl dX8_stateOf_127 (pP_i (by congr 1; unfold rSt; rw [hp]; simp_all; try omega))
  · have hp := (rAt.p1 hx).mp c_1
    refine v_iload_n X 0 dX8_stateOf_25 rfl ?_
    refine v_iconst X (v := nI 1) (by decide) dX8_stateOf_26 ?_
    refine v_cneN X 34 (by omega) (by omega) dX8_stateOf_27 (by decide) (fun c_6 => ?_) (fun c_6 => ?_)
    · have h27 := c_6
      refine v_iload_n X 0 dX8_stateOf_34 rfl ?_
      refine v_ineN X 54 (by omega) dX8_stateOf_35 (by decide) (fun c_7 => ?_) (fun c_7 => ?_)
      · have h35 := c_7
        refine v_iconst X (v := nI 0) (by decide) dX8_stateOf_54 ?_
        exact v_iret X rq ⟨by decide, by decide⟩ rfl dX8_stateOf_55 (pP_i (by congr 1; unfold rSt; rw [hp]; simp_all; try omega))
      · have h35 := c_7
        refine v_aload_n X 2 dX8_stateOf_38 rfl ?_
        refine v_iload_n X 3 dX8_stateOf_39 rfl ?_
        refine v_aload_n X 1 dX8_stateOf_40 rfl ?_
        refine v_get X cls8 F0 (by omega) 9 (by decide) m_474 rfl rfl dX8_stateOf_41 ?_
        refine v_callS X hCl hCR (c_X8_isSatisfied l k M b f i x T (by omega) F hi hx) mo_X8_isSatisfied m_468 m_480 m_481 m_465 (by decide) rfl rfl (Nat.le_of_ble_eq_true rfl) ⟨rfl, rfl⟩ ⟨by decide, by decide⟩ dX8_stateOf_44 (vP_in ?_)
        refine v_ineB X 54 dX8_stateOf_47 (by decide) (fun c_8 => ?_) (fun c_8 => ?_)
        · have h47 := c_8
          refine v_iconst X (v := nI 0) (by decide) dX8_stateOf_54 ?_
          exact v_iret X rq ⟨by decide, by decide⟩ rfl dX8_stateOf_55 (pP_i (by congr 1; unfold rSt; rw [hp]; simp_all; try omega))
        · have h47 := c_8
          refine v_iconst X (v := nI 2) (by decide) dX8_stateOf_50 ?_
          refine v_goto X 55 dX8_stateOf_51 (by decide) ?_
          exact v_iret X rq ⟨by decide, by decide⟩ rfl dX8_stateOf_55 (pP_i (by congr 1; unfold rSt; rw [hp]; simp_all; try omega))
    · have h27 := c_6
      refine v_iconst X (v := nI 1) (by decide) dX8_stateOf_30 ?_
      refine v_goto X 55 dX8_stateOf_31 (by decide) ?_
      exact v_iret X rq ⟨by decide, by decide⟩ rfl dX8_stateOf_55 (pP_i (by congr 1; unfold rSt; rw [hp]; simp_all; try omega))
