/-! the law's own methods: built -/
theorem hvt_pf {x a : Nat} (hp : xPar x = true) (h : pcN 8 (xFirst x &&& a) % 2 ≠ xSecond x) : (!xViol x a) = false := by rw [(viol_par hp).mpr h]; rfl
theorem hvt_p {x a : Nat} (hp : xPar x = true) (h : pcN 8 (xFirst x &&& a) % 2 = xSecond x) : (!xViol x a) = true := by
  cases hv : xViol x a with
  | false => rfl
  | true => exact absurd h ((viol_par hp).mp hv)
theorem hvt_c0 {x a : Nat} (hp : xPar x = false) (h : xFirst x &&& a ||| xSecond x &&& (a ^^^ 4294967295) = 0) : (!xViol x a) = false := by
  rw [hv_clN hp, decide_eq_true (show xFirst x &&& a ||| mdiff (xSecond x) a = 0 from h)]; rfl
theorem hvt_c1 {x a : Nat} (hp : xPar x = false) (h : xFirst x &&& a ||| xSecond x &&& (a ^^^ 4294967295) ≠ 0) : (!xViol x a) = true := by
  rw [hv_clN hp, decide_eq_false (show ¬ (xFirst x &&& a ||| mdiff (xSecond x) a = 0) from h)]; rfl
set_option maxHeartbeats 8000000 in
set_option maxRecDepth 100000 in
theorem c_L_built (l : Launch) (hst0 : l.stackTraces = false) (k0 : KX) (M : Mem) (S : SS) (hN0 : kN k0 = 186) (hA : At k0 M S) : CB l yL_built cL_built 23 (some .boolean) { frames := 10, cells := 220, slots := 1400, locals := 178 } k0 [.ref (ad k0 0)] M (pI (fun r M' => r = bI true ∧ At k0 M' S ∧ Fr 0 93 M M')) := by
  refine CB.of (by decide) (Nat.le_of_ble_eq_true rfl) (fun C X hCl hCR rb => ?_)
  show V C k0 23 (0, 0) M 0 [(0, .ref (ad k0 0))] []
  obtain ⟨k, hk0⟩ : ∃ k : KX, k = k0 := ⟨k0, rfl⟩
  have X0 := X
  have E : kext k0 k := by rw [hk0]; exact kext.rf
  have hN : kN k = 186 := by rw [hk0]; exact hN0
  rw [← hk0] at X hA ⊢
  have hl := hA.len
  have hv := hA.vok
  have hcs : csOK S.1 := hv.1.1
  have ht8 := hA.tlen
  have hcf := hA.cf
  have hrk := el_8 hcs
  obtain ⟨hok, hgood, hconf⟩ := build_good hv.1.1 hv.1.2.1
  have hTl : tT (sTr S) < 256 := hok.T
  have hAl : tA (sTr S) < 256 := hok.A
  have hcoL : ∀ n, coreO S.1 = some n → n < 2 ^ 31 := fun n hn => Nat.lt_trans (core_lt hl hn) (by decide)
  refine v_aload_n X 0 dL_built_0 rfl ?_
  refine v_callV X hCl hCR (c_X7_constraintCount l k M S.1 S.2.1 S.2.2.1 S.2.2.2.1 S.2.2.2.2 hA) cls7 hA.obj (by omega) mo_X7_constraintCount m_302 m_583 m_584 m_585 m_21 (by decide) rfl rfl (Nat.le_of_ble_eq_true rfl) ⟨rfl, rfl⟩ ⟨Nat.le_of_ble_eq_true rfl, Nat.le_of_ble_eq_true rfl⟩ dL_built_1 (vI_in (fun r_3 M_1 h_2 => ?_))
  obtain ⟨hr_4, hA_5, hF_6⟩ : r_3 = nI S.1.length ∧ At k M_1 S ∧ Fr 0 93 M M_1 := h_2
  subst hr_4
  have hFr_7 := FB.rf.tr hF_6
  refine v_istore_n X [(1, .int (nI S.1.length)), (0, .ref (ad k 0))] dL_built_4 (by decide) rfl ?_
  refine v_aload_n X 1 dL_built_5 rfl ?_
  refine v_callV X hCl hCR (c_X7_core l k M_1 S.1 S.2.1 S.2.2.1 S.2.2.2.1 S.2.2.2.2 hA_5) cls7 hA_5.obj (by omega) mo_X7_core m_413 m_670 m_671 m_672 m_21 (by decide) rfl rfl (Nat.le_of_ble_eq_true rfl) ⟨rfl, rfl⟩ ⟨Nat.le_of_ble_eq_true rfl, Nat.le_of_ble_eq_true rfl⟩ dL_built_6 (vI_in (fun r_10 M_8 h_9 => ?_))
  obtain ⟨hr_11, hA_12, hF_13⟩ : r_10 = oI (coreO S.1) ∧ At k M_8 S ∧ Fr 0 93 M_1 M_8 := h_9
  subst hr_11
  have hFr_14 := hFr_7.tr hF_13
  refine v_istore_n X [(2, .int (oI (coreO S.1))), (1, .int (nI S.1.length)), (0, .ref (ad k 0))] dL_built_9 (by decide) rfl ?_
  refine v_aload_n X 2 dL_built_10 rfl ?_
  refine v_callV X hCl hCR (c_X7_rank l k M_8 S.1 S.2.1 S.2.2.1 S.2.2.2.1 S.2.2.2.2 hA_12) cls7 hA_12.obj (by omega) mo_X7_rank m_417 m_673 m_674 m_675 m_21 (by decide) rfl rfl (Nat.le_of_ble_eq_true rfl) ⟨rfl, rfl⟩ ⟨Nat.le_of_ble_eq_true rfl, Nat.le_of_ble_eq_true rfl⟩ dL_built_11 (vI_in (fun r_17 M_15 h_16 => ?_))
  obtain ⟨hr_18, hA_19, hF_20⟩ : r_17 = nI (elRun S.1).2.1 ∧ At k M_15 S ∧ Fr 0 93 M_8 M_15 := h_16
  subst hr_18
  have hFr_21 := hFr_14.tr hF_20
  refine v_istore_n X [(3, .int (nI ((elRun S.1).2.1))), (2, .int (oI (coreO S.1))), (1, .int (nI S.1.length)), (0, .ref (ad k 0))] dL_built_14 (by decide) rfl ?_
  refine v_aload_n X 3 dL_built_15 rfl ?_
  refine v_callV X hCl hCR (c_X7_isConsistent l k M_15 S.1 S.2.1 S.2.2.1 S.2.2.2.1 S.2.2.2.2 hA_19) cls7 hA_19.obj (by omega) mo_X7_isConsistent m_418 m_635 m_636 m_637 m_21 (by decide) rfl rfl (Nat.le_of_ble_eq_true rfl) ⟨rfl, rfl⟩ ⟨Nat.le_of_ble_eq_true rfl, Nat.le_of_ble_eq_true rfl⟩ dL_built_16 (vI_in (fun r_24 M_22 h_23 => ?_))
  obtain ⟨hr_25, hA_26, hF_27⟩ : r_24 = bI (elRun S.1).2.2 ∧ At k M_22 S ∧ Fr 0 93 M_15 M_22 := h_23
  subst hr_25
  have hFr_28 := hFr_21.tr hF_27
  refine v_istore X [(4, .int (bI ((elRun S.1).2.2))), (3, .int (nI ((elRun S.1).2.1))), (2, .int (oI (coreO S.1))), (1, .int (nI S.1.length)), (0, .ref (ad k 0))] dL_built_19 (by decide) rfl ?_
  refine v_iconst X (v := nI 0) (by decide) dL_built_21 ?_
  refine v_istore X [(5, .int (nI 0)), (4, .int (bI ((elRun S.1).2.2))), (3, .int (nI ((elRun S.1).2.1))), (2, .int (oI (coreO S.1))), (1, .int (nI S.1.length)), (0, .ref (ad k 0))] dL_built_22 (by decide) rfl ?_
  refine v_iconst X (v := nI 0) (by decide) dL_built_24 ?_
  refine v_istore X [(6, .int (nI 0)), (5, .int (nI 0)), (4, .int (bI ((elRun S.1).2.2))), (3, .int (nI ((elRun S.1).2.1))), (2, .int (oI (coreO S.1))), (1, .int (nI S.1.length)), (0, .ref (ad k 0))] dL_built_25 (by decide) rfl ?_
  refine v_iconst X (v := nI 0) (by decide) dL_built_27 ?_
  refine v_istore X [(7, .int (nI 0)), (6, .int (nI 0)), (5, .int (nI 0)), (4, .int (bI ((elRun S.1).2.2))), (3, .int (nI ((elRun S.1).2.1))), (2, .int (oI (coreO S.1))), (1, .int (nI S.1.length)), (0, .ref (ad k 0))] dL_built_28 (by decide) rfl ?_
  refine v_iconst X (v := nI 1) (by decide) dL_built_30 ?_
  refine v_istore X [(8, .int (nI 1)), (7, .int (nI 0)), (6, .int (nI 0)), (5, .int (nI 0)), (4, .int (bI ((elRun S.1).2.2))), (3, .int (nI ((elRun S.1).2.1))), (2, .int (oI (coreO S.1))), (1, .int (nI S.1.length)), (0, .ref (ad k 0))] dL_built_31 (by decide) rfl ?_
  refine v_bipush X (v := nI 24) (by decide) dL_built_33 ?_
  refine v_newI X hCR (by decide) (by decide) m_4 ⟨Nat.le_of_ble_eq_true rfl, Nat.le_of_ble_eq_true rfl⟩ dL_built_35 (fun k M_29 E1 hN1 hM_30 X => ?_)
  rw [hN] at hN1 hM_30
  rw [hN]
  have hN : kN k = 187 := by omega
  have hA_31 : At k M_29 S := hA_26.ext E1 (fun i hi => by rw [hM_30, mup_n (by omega)])
  have hFr_32 : FB M M_29 := hFr_28.st hM_30 (by decide)
  have G_33 : M_29 186 = .inl (kI k, 24, .inl (fun zq => nI ((fun _ => 0) zq))) := by rw [hM_30, mup_s, E1.I]
  refine v_widen (z' := (1, 24)) (Nat.le_of_ble_eq_true rfl) (Nat.le_of_ble_eq_true rfl) ?_
  refine v_cast (lv' := [(8, .int (nI 1)), (7, .int (nI 0)), (6, .int (nI 0)), (5, .int (nI 0)), (4, .int (bI ((elRun S.1).2.2))), (3, .int (nI ((elRun S.1).2.1))), (2, .int (oI (coreO S.1))), (1, .int (nI S.1.length)), (0, .ref (ad k 0))]) (st' := [.ref (ad k 186)]) (by rw [E1.at (i := 0) (by omega)]) rfl ?_
  have E := E.tr E1
  refine v_astore X [(9, .ref (ad k 186)), (8, .int (nI 1)), (7, .int (nI 0)), (6, .int (nI 0)), (5, .int (nI 0)), (4, .int (bI ((elRun S.1).2.2))), (3, .int (nI ((elRun S.1).2.1))), (2, .int (oI (coreO S.1))), (1, .int (nI S.1.length)), (0, .ref (ad k 0))] dL_built_37 (by decide) rfl ?_
  refine v_bipush X (v := nI 24) (by decide) dL_built_39 ?_
  refine v_newI X hCR (by decide) (by decide) m_4 ⟨Nat.le_of_ble_eq_true rfl, Nat.le_of_ble_eq_true rfl⟩ dL_built_41 (fun k M_34 E1 hN1 hM_35 X => ?_)
  rw [hN] at hN1 hM_35
  rw [hN]
  have hN : kN k = 188 := by omega
  have hA_36 : At k M_34 S := hA_31.ext E1 (fun i hi => by rw [hM_35, mup_n (by omega)])
  have hFr_37 : FB M M_34 := hFr_32.st hM_35 (by decide)
  have G_38 : M_34 186 = .inl (kI k, 24, .inl (fun zq => nI ((fun _ => 0) zq))) := by rw [hM_35, mup_n (by decide), E1.I]; exact G_33
  have G_39 : M_34 187 = .inl (kI k, 24, .inl (fun zq => nI ((fun _ => 0) zq))) := by rw [hM_35, mup_s, E1.I]
  refine v_widen (z' := (2, 48)) (Nat.le_of_ble_eq_true rfl) (Nat.le_of_ble_eq_true rfl) ?_
  refine v_cast (lv' := [(9, .ref (ad k 186)), (8, .int (nI 1)), (7, .int (nI 0)), (6, .int (nI 0)), (5, .int (nI 0)), (4, .int (bI ((elRun S.1).2.2))), (3, .int (nI ((elRun S.1).2.1))), (2, .int (oI (coreO S.1))), (1, .int (nI S.1.length)), (0, .ref (ad k 0))]) (st' := [.ref (ad k 187)]) (by rw [E1.at (i := 186) (by omega), E1.at (i := 0) (by omega)]) rfl ?_
  have E := E.tr E1
  refine v_astore X [(10, .ref (ad k 187)), (9, .ref (ad k 186)), (8, .int (nI 1)), (7, .int (nI 0)), (6, .int (nI 0)), (5, .int (nI 0)), (4, .int (bI ((elRun S.1).2.2))), (3, .int (nI ((elRun S.1).2.1))), (2, .int (oI (coreO S.1))), (1, .int (nI S.1.length)), (0, .ref (ad k 0))] dL_built_43 (by decide) rfl ?_
  refine v_bipush X (v := nI 24) (by decide) dL_built_45 ?_
  refine v_newI X hCR (by decide) (by decide) m_4 ⟨Nat.le_of_ble_eq_true rfl, Nat.le_of_ble_eq_true rfl⟩ dL_built_47 (fun k M_40 E1 hN1 hM_41 X => ?_)
  rw [hN] at hN1 hM_41
  rw [hN]
  have hN : kN k = 189 := by omega
  have hA_42 : At k M_40 S := hA_36.ext E1 (fun i hi => by rw [hM_41, mup_n (by omega)])
  have hFr_43 : FB M M_40 := hFr_37.st hM_41 (by decide)
  have G_44 : M_40 186 = .inl (kI k, 24, .inl (fun zq => nI ((fun _ => 0) zq))) := by rw [hM_41, mup_n (by decide), E1.I]; exact G_38
  have G_45 : M_40 187 = .inl (kI k, 24, .inl (fun zq => nI ((fun _ => 0) zq))) := by rw [hM_41, mup_n (by decide), E1.I]; exact G_39
  have G_46 : M_40 188 = .inl (kI k, 24, .inl (fun zq => nI ((fun _ => 0) zq))) := by rw [hM_41, mup_s, E1.I]
  refine v_widen (z' := (3, 72)) (Nat.le_of_ble_eq_true rfl) (Nat.le_of_ble_eq_true rfl) ?_
  refine v_cast (lv' := [(10, .ref (ad k 187)), (9, .ref (ad k 186)), (8, .int (nI 1)), (7, .int (nI 0)), (6, .int (nI 0)), (5, .int (nI 0)), (4, .int (bI ((elRun S.1).2.2))), (3, .int (nI ((elRun S.1).2.1))), (2, .int (oI (coreO S.1))), (1, .int (nI S.1.length)), (0, .ref (ad k 0))]) (st' := [.ref (ad k 188)]) (by rw [E1.at (i := 187) (by omega), E1.at (i := 186) (by omega), E1.at (i := 0) (by omega)]) rfl ?_
  have E := E.tr E1
  refine v_astore X [(11, .ref (ad k 188)), (10, .ref (ad k 187)), (9, .ref (ad k 186)), (8, .int (nI 1)), (7, .int (nI 0)), (6, .int (nI 0)), (5, .int (nI 0)), (4, .int (bI ((elRun S.1).2.2))), (3, .int (nI ((elRun S.1).2.1))), (2, .int (oI (coreO S.1))), (1, .int (nI S.1.length)), (0, .ref (ad k 0))] dL_built_49 (by decide) rfl ?_
  refine v_bipush X (v := nI 8) (by decide) dL_built_51 ?_
  refine v_newI X hCR (by decide) (by decide) m_4 ⟨Nat.le_of_ble_eq_true rfl, Nat.le_of_ble_eq_true rfl⟩ dL_built_53 (fun k M_47 E1 hN1 hM_48 X => ?_)
  rw [hN] at hN1 hM_48
  rw [hN]
  have hN : kN k = 190 := by omega
  have hA_49 : At k M_47 S := hA_42.ext E1 (fun i hi => by rw [hM_48, mup_n (by omega)])
  have hFr_50 : FB M M_47 := hFr_43.st hM_48 (by decide)
  have G_51 : M_47 186 = .inl (kI k, 24, .inl (fun zq => nI ((fun _ => 0) zq))) := by rw [hM_48, mup_n (by decide), E1.I]; exact G_44
  have G_52 : M_47 187 = .inl (kI k, 24, .inl (fun zq => nI ((fun _ => 0) zq))) := by rw [hM_48, mup_n (by decide), E1.I]; exact G_45
  have G_53 : M_47 188 = .inl (kI k, 24, .inl (fun zq => nI ((fun _ => 0) zq))) := by rw [hM_48, mup_n (by decide), E1.I]; exact G_46
  have G_54 : M_47 189 = .inl (kI k, 8, .inl (fun zq => nI ((fun _ => 0) zq))) := by rw [hM_48, mup_s, E1.I]
  refine v_widen (z' := (4, 80)) (Nat.le_of_ble_eq_true rfl) (Nat.le_of_ble_eq_true rfl) ?_
  refine v_cast (lv' := [(11, .ref (ad k 188)), (10, .ref (ad k 187)), (9, .ref (ad k 186)), (8, .int (nI 1)), (7, .int (nI 0)), (6, .int (nI 0)), (5, .int (nI 0)), (4, .int (bI ((elRun S.1).2.2))), (3, .int (nI ((elRun S.1).2.1))), (2, .int (oI (coreO S.1))), (1, .int (nI S.1.length)), (0, .ref (ad k 0))]) (st' := [.ref (ad k 189)]) (by rw [E1.at (i := 188) (by omega), E1.at (i := 187) (by omega), E1.at (i := 186) (by omega), E1.at (i := 0) (by omega)]) rfl ?_
  have E := E.tr E1
  refine v_astore X [(12, .ref (ad k 189)), (11, .ref (ad k 188)), (10, .ref (ad k 187)), (9, .ref (ad k 186)), (8, .int (nI 1)), (7, .int (nI 0)), (6, .int (nI 0)), (5, .int (nI 0)), (4, .int (bI ((elRun S.1).2.2))), (3, .int (nI ((elRun S.1).2.1))), (2, .int (oI (coreO S.1))), (1, .int (nI S.1.length)), (0, .ref (ad k 0))] dL_built_55 (by decide) rfl ?_
  have L868 : ∀ (fu : Nat) (v : Nat) (Mq : Mem), 8 - v < fu → (v ≤ 8) → At k Mq S → FB M Mq → V C k 23 (180 + 3 * v, 1136 + 18 * v) Mq 868 [(17, .int (nI v)), (15, .int (nI (tT (sTr S)))), (14, .int (nI (tA (sTr S)))), (8, .int (nI 1)), (0, .ref (ad k 0))] [] := by
    intro fu
    induction fu with
    | zero => intro v Mq hfu; exact absurd hfu (Nat.not_lt_zero _)
    | succ fu ih_L868 =>
      intro v Mq hfu hv8 hAq hFq
      refine v_iload X 0 dL_built_868 rfl ?_
      refine v_bipush X (v := nI 8) (by decide) dL_built_870 ?_
      refine v_cgeN X 947 (by omega) (by omega) dL_built_872 (by decide) (fun c_13 => ?_) (fun c_14 => ?_)
      · have hv_ : v = 8 := by omega
        subst hv_
        refine v_aload_n X 4 dL_built_947 rfl ?_
        refine v_callV X hCl hCR (c_X7_conflict l k Mq S.1 S.2.1 S.2.2.1 S.2.2.2.1 S.2.2.2.2 hAq) cls7 hAq.obj (by omega) mo_X7_conflict m_392 m_628 m_629 m_630 m_21 (by decide) rfl rfl (Nat.le_of_ble_eq_true rfl) ⟨rfl, rfl⟩ ⟨(show 180 + 3 * 8 ≤ 220 by omega), (show 1136 + 18 * 8 ≤ 1400 by omega)⟩ dL_built_948 (vI_in (fun r_57 M_55 h_56 => ?_))
        obtain ⟨hr_58, hA_59, hF_60⟩ : r_57 = oI (sCf S) ∧ At k M_55 S ∧ Fr 0 93 Mq M_55 := h_56
        subst hr_58
        have hFr_61 := hFq.tr hF_60
        refine v_istore X [(17, .int (oI (sCf S))), (15, .int (nI (tT (sTr S)))), (14, .int (nI (tA (sTr S)))), (8, .int (nI 1)), (0, .ref (ad k 0))] dL_built_951 (by decide) rfl ?_
        refine v_iload X 0 dL_built_953 rfl ?_
        refine v_bipush X (v := (-9)) (by decide) dL_built_955 ?_
        refine v_icmp_eq X 1027 dL_built_957 (by decide) (fun hq1 => ?_) (fun hq0 => ?_)
        · refine v_iload X 3 dL_built_1027 rfl ?_
          obtain ⟨hZ1, hZ2⟩ := built_end E hN0 hA_59 hFr_61
          exact v_iretH X X0 E rb.1 (M2 := rM M M_55) (fun i hi => if_pos (by omega)) ⟨(show 180 + 3 * 8 ≤ 220 by omega), (show 1136 + 18 * 8 ≤ 1400 by omega)⟩ (by decide +kernel) dL_built_1029 ⟨_, rfl, rfl, hZ1, hZ2⟩
        · refine v_iload X 3 dL_built_960 rfl ?_
          refine v_ieqN X 1027 (by omega) dL_built_962 (by decide) (fun q_62 => absurd q_62 (by decide)) (fun _ => ?_)
          obtain ⟨q, hq⟩ : ∃ q, sCf S = some q := by
            cases hz : sCf S with
            | none => exact absurd (by rw [hz]; rfl) hq0
            | some q => exact ⟨q, rfl⟩
          obtain ⟨k1, k2, k3⟩ := hconf q hq
          have hq24 : q < 24 := by have : q < S.1.length := k1; omega
          refine v_cast (lv' := [(17, .int (nI q)), (15, .int (nI (tT (sTr S)))), (14, .int (nI (tA (sTr S)))), (8, .int (nI 1)), (0, .ref (ad k 0))]) (st' := []) (by rw [hq]; rfl) rfl ?_
          by_cases hpw : xPar (cAt S.1 q) = true
          · refine v_aload_n X 4 dL_built_965 rfl ?_
            refine v_iload X 0 dL_built_966 rfl ?_
            refine v_callL X rb.2.1 rb.2.2.1 hCl hCR (c_L_parity l hst0 k M_55 S (nI q) hA_59) mo_L_parity m_498 m_588 m_589 m_581 ⟨Nat.le_of_ble_eq_true rfl, Nat.le_of_ble_eq_true rfl⟩ rfl rfl (Nat.le_of_ble_eq_true rfl) ⟨(show 180 + 3 * 8 + 1 ≤ 220 by omega), (show 1136 + 18 * 8 + 6 ≤ 1400 by omega)⟩ dL_built_968 (vI_in (fun r_65 M_63 h_64 => ?_))
            refine v_widen (z' := (180 + 3 * 8 + 1, 1136 + 18 * 8 + 6)) (show 180 + 3 * 8 + 1 ≤ 180 + 3 * 8 + 1 by omega) (show 1136 + 18 * 8 + 6 ≤ 1136 + 18 * 8 + 6 by omega) ?_
            obtain ⟨hr_66, hA_67, hF_68⟩ := pa_eq (e_parity1 hl k1 hpw) h_64
            subst hr_66
            have hFr_69 := hFr_61.tr hF_68
            refine v_iconst X (v := nI 1) (by decide) dL_built_971 ?_
            refine v_cneN X 984 (by omega) (by omega) dL_built_972 (by decide) (fun q_70 => absurd rfl q_70) (fun _ => ?_)
            refine v_aload_n X 4 dL_built_975 rfl ?_
            refine v_iload X 0 dL_built_976 rfl ?_
            refine v_callL X rb.2.1 rb.2.2.1 hCl hCR (c_L_first l hst0 k M_63 S (nI q) hA_67) mo_L_first m_502 m_590 m_591 m_581 ⟨Nat.le_of_ble_eq_true rfl, Nat.le_of_ble_eq_true rfl⟩ rfl rfl (Nat.le_of_ble_eq_true rfl) ⟨(show 180 + 3 * 8 + 1 + 1 ≤ 220 by omega), (show 1136 + 18 * 8 + 6 + 6 ≤ 1400 by omega)⟩ dL_built_978 (vI_in (fun r_73 M_71 h_72 => ?_))
            refine v_widen (z' := (180 + 3 * 8 + 2, 1136 + 18 * 8 + 12)) (show 180 + 3 * 8 + 1 + 1 ≤ 180 + 3 * 8 + 2 by omega) (show 1136 + 18 * 8 + 6 + 6 ≤ 1136 + 18 * 8 + 12 by omega) ?_
            obtain ⟨hr_74, hA_75, hF_76⟩ := pa_eq (e_first hl k1) h_72
            subst hr_74
            have hFr_77 := hFr_69.tr hF_76
            refine v_goto X 997 dL_built_981 (by decide) ?_
            refine v_top (show (Value.int (nI (xFirst (cAt S.1 q))) : Value) = .int (nI (xVars (cAt S.1 q))) from congrArg _ (congrArg nI (xVars_par hpw).symm)) ?_
            refine v_istore X [(18, .int (nI (xVars (cAt S.1 q)))), (17, .int (nI q)), (15, .int (nI (tT (sTr S)))), (14, .int (nI (tA (sTr S)))), (8, .int (nI 1)), (0, .ref (ad k 0))] dL_built_997 (by decide) rfl ?_
            refine v_iload X 0 dL_built_999 rfl ?_
            refine v_iload X 3 dL_built_1001 rfl ?_
            refine v_iconst X (v := nI 4294967295) (by decide) dL_built_1003 ?_
            refine v_xorN X dL_built_1004 ?_
            refine v_andN X dL_built_1005 ?_
            refine v_ineN X 1024 (Nat.lt_of_lt_of_le (and_ltl (xVars_lt _)) (by decide)) dL_built_1006 (by decide) (fun q_78 => absurd k2 q_78) (fun _ => ?_)
            refine v_aload_n X 5 dL_built_1009 rfl ?_
            refine v_iload X 1 dL_built_1010 rfl ?_
            refine v_iload X 2 dL_built_1012 rfl ?_
            refine v_callB X rb.2 hCl hCR (c_L_holds l hst0 k M_71 S q (tT (sTr S)) ⟨k1, hTl⟩ hA_75) mo_L_holds m_b6 m_681 m_682 m_581 ⟨Nat.le_of_ble_eq_true rfl, Nat.le_of_ble_eq_true rfl⟩ rfl rfl (Nat.le_of_ble_eq_true rfl) ⟨(show 180 + 3 * 8 + 2 + 3 ≤ 220 by omega), (show 1136 + 18 * 8 + 12 + 18 ≤ 1400 by omega)⟩ dL_built_1014 (vI_in (fun r_81 M_79 h_80 => ?_))
            refine v_widen (z' := (180 + 3 * 8 + 5, 1136 + 18 * 8 + 30)) (show 180 + 3 * 8 + 2 + 3 ≤ 180 + 3 * 8 + 5 by omega) (show 1136 + 18 * 8 + 12 + 18 ≤ 1136 + 18 * 8 + 30 by omega) ?_
            obtain ⟨hr_82, hA_83, hF_84⟩ := h_80
            subst hr_82
            have hFr_85 := hFr_77.tr hF_84
            refine v_ineB X 1024 dL_built_1017 (by decide) (fun q_86 => absurd q_86 (by rw [k3]; simp)) (fun _ => ?_)
            refine v_iconst X (v := nI 1) (by decide) dL_built_1020 ?_
            refine v_goto X 1025 dL_built_1021 (by decide) ?_
            refine v_istore X [(8, .int (nI 1)), (18, .int (nI (xVars (cAt S.1 q)))), (17, .int (nI q)), (15, .int (nI (tT (sTr S)))), (14, .int (nI (tA (sTr S)))), (0, .ref (ad k 0))] dL_built_1025 (by decide) rfl ?_
            refine v_iload X 0 dL_built_1027 rfl ?_
            obtain ⟨hZ1, hZ2⟩ := built_end E hN0 hA_83 hFr_85
            exact v_iretH X X0 E rb.1 (M2 := rM M M_79) (fun i hi => if_pos (by omega)) ⟨(show 180 + 3 * 8 + 5 ≤ 220 by omega), (show 1136 + 18 * 8 + 30 ≤ 1400 by omega)⟩ (by decide +kernel) dL_built_1029 ⟨_, rfl, rfl, hZ1, hZ2⟩
          · have hpw : xPar (cAt S.1 q) = false := by simpa using hpw
            refine v_aload_n X 4 dL_built_965 rfl ?_
            refine v_iload X 0 dL_built_966 rfl ?_
            refine v_callL X rb.2.1 rb.2.2.1 hCl hCR (c_L_parity l hst0 k M_55 S (nI q) hA_59) mo_L_parity m_498 m_588 m_589 m_581 ⟨Nat.le_of_ble_eq_true rfl, Nat.le_of_ble_eq_true rfl⟩ rfl rfl (Nat.le_of_ble_eq_true rfl) ⟨(show 180 + 3 * 8 + 1 ≤ 220 by omega), (show 1136 + 18 * 8 + 6 ≤ 1400 by omega)⟩ dL_built_968 (vI_in (fun r_89 M_87 h_88 => ?_))
            refine v_widen (z' := (180 + 3 * 8 + 1, 1136 + 18 * 8 + 6)) (show 180 + 3 * 8 + 1 ≤ 180 + 3 * 8 + 1 by omega) (show 1136 + 18 * 8 + 6 ≤ 1136 + 18 * 8 + 6 by omega) ?_
            obtain ⟨hr_90, hA_91, hF_92⟩ := pa_eq (e_parity0 hl k1 hpw) h_88
            subst hr_90
            have hFr_93 := hFr_61.tr hF_92
            refine v_iconst X (v := nI 1) (by decide) dL_built_971 ?_
            refine v_cneN X 984 (by omega) (by omega) dL_built_972 (by decide) (fun _ => ?_) (fun q_94 => absurd q_94 (by decide))
            refine v_aload_n X 4 dL_built_984 rfl ?_
            refine v_iload X 0 dL_built_985 rfl ?_
            refine v_callL X rb.2.1 rb.2.2.1 hCl hCR (c_L_first l hst0 k M_87 S (nI q) hA_91) mo_L_first m_502 m_590 m_591 m_581 ⟨Nat.le_of_ble_eq_true rfl, Nat.le_of_ble_eq_true rfl⟩ rfl rfl (Nat.le_of_ble_eq_true rfl) ⟨(show 180 + 3 * 8 + 1 + 1 ≤ 220 by omega), (show 1136 + 18 * 8 + 6 + 6 ≤ 1400 by omega)⟩ dL_built_987 (vI_in (fun r_97 M_95 h_96 => ?_))
            refine v_widen (z' := (180 + 3 * 8 + 2, 1136 + 18 * 8 + 12)) (show 180 + 3 * 8 + 1 + 1 ≤ 180 + 3 * 8 + 2 by omega) (show 1136 + 18 * 8 + 6 + 6 ≤ 1136 + 18 * 8 + 12 by omega) ?_
            obtain ⟨hr_98, hA_99, hF_100⟩ := pa_eq (e_first hl k1) h_96
            subst hr_98
            have hFr_101 := hFr_93.tr hF_100
            refine v_aload_n X 4 dL_built_990 rfl ?_
            refine v_iload X 0 dL_built_991 rfl ?_
            refine v_callL X rb.2.1 rb.2.2.1 hCl hCR (c_L_second l hst0 k M_95 S (nI q) hA_99) mo_L_second m_506 m_592 m_593 m_581 ⟨Nat.le_of_ble_eq_true rfl, Nat.le_of_ble_eq_true rfl⟩ rfl rfl (Nat.le_of_ble_eq_true rfl) ⟨(show 180 + 3 * 8 + 2 + 1 ≤ 220 by omega), (show 1136 + 18 * 8 + 12 + 6 ≤ 1400 by omega)⟩ dL_built_993 (vI_in (fun r_104 M_102 h_103 => ?_))
            refine v_widen (z' := (180 + 3 * 8 + 3, 1136 + 18 * 8 + 18)) (show 180 + 3 * 8 + 2 + 1 ≤ 180 + 3 * 8 + 3 by omega) (show 1136 + 18 * 8 + 12 + 6 ≤ 1136 + 18 * 8 + 18 by omega) ?_
            obtain ⟨hr_105, hA_106, hF_107⟩ := pa_eq (e_second hl k1) h_103
            subst hr_105
            have hFr_108 := hFr_101.tr hF_107
            refine v_orN X dL_built_996 ?_
            refine v_top (show (Value.int (nI ((xFirst (cAt S.1 q)) ||| (xSecond (cAt S.1 q)))) : Value) = .int (nI (xVars (cAt S.1 q))) from congrArg _ (congrArg nI (xVars_cl hpw).symm)) ?_
            refine v_istore X [(18, .int (nI (xVars (cAt S.1 q)))), (17, .int (nI q)), (15, .int (nI (tT (sTr S)))), (14, .int (nI (tA (sTr S)))), (8, .int (nI 1)), (0, .ref (ad k 0))] dL_built_997 (by decide) rfl ?_
            refine v_iload X 0 dL_built_999 rfl ?_
            refine v_iload X 3 dL_built_1001 rfl ?_
            refine v_iconst X (v := nI 4294967295) (by decide) dL_built_1003 ?_
            refine v_xorN X dL_built_1004 ?_
            refine v_andN X dL_built_1005 ?_
            refine v_ineN X 1024 (Nat.lt_of_lt_of_le (and_ltl (xVars_lt _)) (by decide)) dL_built_1006 (by decide) (fun q_109 => absurd k2 q_109) (fun _ => ?_)
            refine v_aload_n X 5 dL_built_1009 rfl ?_
            refine v_iload X 1 dL_built_1010 rfl ?_
            refine v_iload X 2 dL_built_1012 rfl ?_
            refine v_callB X rb.2 hCl hCR (c_L_holds l hst0 k M_102 S q (tT (sTr S)) ⟨k1, hTl⟩ hA_106) mo_L_holds m_b6 m_681 m_682 m_581 ⟨Nat.le_of_ble_eq_true rfl, Nat.le_of_ble_eq_true rfl⟩ rfl rfl (Nat.le_of_ble_eq_true rfl) ⟨(show 180 + 3 * 8 + 3 + 3 ≤ 220 by omega), (show 1136 + 18 * 8 + 18 + 18 ≤ 1400 by omega)⟩ dL_built_1014 (vI_in (fun r_112 M_110 h_111 => ?_))
            refine v_widen (z' := (180 + 3 * 8 + 6, 1136 + 18 * 8 + 36)) (show 180 + 3 * 8 + 3 + 3 ≤ 180 + 3 * 8 + 6 by omega) (show 1136 + 18 * 8 + 18 + 18 ≤ 1136 + 18 * 8 + 36 by omega) ?_
            obtain ⟨hr_113, hA_114, hF_115⟩ := h_111
            subst hr_113
            have hFr_116 := hFr_108.tr hF_115
            refine v_ineB X 1024 dL_built_1017 (by decide) (fun q_117 => absurd q_117 (by rw [k3]; simp)) (fun _ => ?_)
            refine v_iconst X (v := nI 1) (by decide) dL_built_1020 ?_
            refine v_goto X 1025 dL_built_1021 (by decide) ?_
            refine v_istore X [(8, .int (nI 1)), (18, .int (nI (xVars (cAt S.1 q)))), (17, .int (nI q)), (15, .int (nI (tT (sTr S)))), (14, .int (nI (tA (sTr S)))), (0, .ref (ad k 0))] dL_built_1025 (by decide) rfl ?_
            refine v_iload X 0 dL_built_1027 rfl ?_
            obtain ⟨hZ1, hZ2⟩ := built_end E hN0 hA_114 hFr_116
            exact v_iretH X X0 E rb.1 (M2 := rM M M_110) (fun i hi => if_pos (by omega)) ⟨(show 180 + 3 * 8 + 6 ≤ 220 by omega), (show 1136 + 18 * 8 + 36 ≤ 1400 by omega)⟩ (by decide +kernel) dL_built_1029 ⟨_, rfl, rfl, hZ1, hZ2⟩
      · refine v_iload X 3 dL_built_875 rfl ?_
        refine v_ieqN X 947 (by omega) dL_built_877 (by decide) (fun q_118 => absurd q_118 (by decide)) (fun _ => ?_)
        have hvl : v < 8 := by omega
        cases hA1 : (tA (sTr S)).testBit v with
        | false =>
          refine v_aload_n X 4 dL_built_880 rfl ?_
          refine v_iload X 0 dL_built_881 rfl ?_
          refine v_callL X rb.2.1 rb.2.2.1 hCl hCR (c_L_value l hst0 k Mq S (nI v) hAq) mo_L_value m_546 m_611 m_612 m_581 ⟨Nat.le_of_ble_eq_true rfl, Nat.le_of_ble_eq_true rfl⟩ rfl rfl (Nat.le_of_ble_eq_true rfl) ⟨(show 180 + 3 * v + 1 ≤ 220 by omega), (show 1136 + 18 * v + 6 ≤ 1400 by omega)⟩ dL_built_883 (vI_in (fun r_121 M_119 h_120 => ?_))
          refine v_widen (z' := (180 + 3 * v + 1, 1136 + 18 * v + 6)) (show 180 + 3 * v + 1 ≤ 180 + 3 * v + 1 by omega) (show 1136 + 18 * v + 6 ≤ 1136 + 18 * v + 6 by omega) ?_
          obtain ⟨hr_122, hA_123, hF_124⟩ := pa_eq (e_val2 hvl hA1) h_120
          subst hr_122
          have hFr_125 := hFq.tr hF_124
          refine v_iconst X (v := nI 2) (by decide) dL_built_886 ?_
          refine v_cneN X 894 (by omega) (by omega) dL_built_887 (by decide) (fun q_126 => absurd rfl q_126) (fun _ => ?_)
          refine v_iconst X (v := nI 1) (by decide) dL_built_890 ?_
          refine v_goto X 895 dL_built_891 (by decide) ?_
          refine v_iload X 2 dL_built_895 rfl ?_
          refine v_iload X 0 dL_built_897 rfl ?_
          refine v_shrN X (by omega) (by omega) dL_built_899 ?_
          refine v_iconst X (v := nI 1) (by decide) dL_built_900 ?_
          refine v_andN X dL_built_901 ?_
          refine v_ineN X 909 (Nat.lt_of_le_of_lt Nat.and_le_right (by decide)) dL_built_902 (by decide) (fun q_127 => absurd (by rw [tb_and1, hA1]; rfl) q_127) (fun _ => ?_)
          refine v_iconst X (v := nI 1) (by decide) dL_built_905 ?_
          refine v_goto X 910 dL_built_906 (by decide) ?_
          refine v_cneN X 938 (by omega) (by omega) dL_built_910 (by decide) (fun q_128 => absurd rfl q_128) (fun _ => ?_)
          refine v_aload_n X 4 dL_built_913 rfl ?_
          refine v_iload X 0 dL_built_914 rfl ?_
          refine v_callL X rb.2.1 rb.2.2.1 hCl hCR (c_L_value l hst0 k M_119 S (nI v) hA_123) mo_L_value m_546 m_611 m_612 m_581 ⟨Nat.le_of_ble_eq_true rfl, Nat.le_of_ble_eq_true rfl⟩ rfl rfl (Nat.le_of_ble_eq_true rfl) ⟨(show 180 + 3 * v + 1 + 1 ≤ 220 by omega), (show 1136 + 18 * v + 6 + 6 ≤ 1400 by omega)⟩ dL_built_916 (vI_in (fun r_131 M_129 h_130 => ?_))
          refine v_widen (z' := (180 + 3 * v + 2, 1136 + 18 * v + 12)) (show 180 + 3 * v + 1 + 1 ≤ 180 + 3 * v + 2 by omega) (show 1136 + 18 * v + 6 + 6 ≤ 1136 + 18 * v + 12 by omega) ?_
          obtain ⟨hr_132, hA_133, hF_134⟩ := pa_eq (e_val2 hvl hA1) h_130
          subst hr_132
          have hFr_135 := hFr_125.tr hF_134
          refine v_iconst X (v := nI 2) (by decide) dL_built_919 ?_
          refine v_cltN X 934 (by omega) (by omega) dL_built_920 (by decide) (fun q_136 => absurd q_136 (by omega)) (fun _ => ?_)
          refine v_aload_n X 4 dL_built_923 rfl ?_
          refine v_iload X 0 dL_built_924 rfl ?_
          refine v_callL X rb.2.1 rb.2.2.1 hCl hCR (c_L_reason l hst0 k M_129 S (nI v) hA_133) mo_L_reason m_554 m_615 m_616 m_581 ⟨Nat.le_of_ble_eq_true rfl, Nat.le_of_ble_eq_true rfl⟩ rfl rfl (Nat.le_of_ble_eq_true rfl) ⟨(show 180 + 3 * v + 2 + 1 ≤ 220 by omega), (show 1136 + 18 * v + 12 + 6 ≤ 1400 by omega)⟩ dL_built_926 (vI_in (fun r_139 M_137 h_138 => ?_))
          refine v_widen (z' := (180 + 3 * v + 3, 1136 + 18 * v + 18)) (show 180 + 3 * v + 2 + 1 ≤ 180 + 3 * v + 3 by omega) (show 1136 + 18 * v + 12 + 6 ≤ 1136 + 18 * v + 18 by omega) ?_
          obtain ⟨hr_140, hA_141, hF_142⟩ := pa_eq (e_rsnO hvl (tRsn_not hA1)) h_138
          subst hr_140
          have hFr_143 := hFr_135.tr hF_142
          refine v_bipush X (v := (-9)) (by decide) dL_built_929 ?_
          refine v_icmp_ne X 938 dL_built_931 (by decide) (fun q_144 => absurd rfl q_144) (fun _ => ?_)
          refine v_iconst X (v := nI 1) (by decide) dL_built_934 ?_
          refine v_goto X 939 dL_built_935 (by decide) ?_
          refine v_istore X [(8, .int (nI 1)), (17, .int (nI v)), (15, .int (nI (tT (sTr S)))), (14, .int (nI (tA (sTr S)))), (0, .ref (ad k 0))] dL_built_939 (by decide) rfl ?_
          refine v_iinc X (v := nI (v + 1)) 1 [(17, .int (nI (v + 1))), (8, .int (nI 1)), (15, .int (nI (tT (sTr S)))), (14, .int (nI (tA (sTr S)))), (0, .ref (ad k 0))] dL_built_941 rfl (nI_1 _) (by decide) rfl ?_
          refine v_goto X 868 dL_built_944 (by decide) ?_
          refine v_widen (z' := (180 + 3 * (v + 1), 1136 + 18 * (v + 1))) (show 180 + 3 * v + 3 ≤ 180 + 3 * (v + 1) by omega) (show 1136 + 18 * v + 18 ≤ 1136 + 18 * (v + 1) by omega) ?_
          refine v_lv [0, 2, 3, 1, 4] rfl ?_
          exact ih_L868 (v + 1) M_137 (by omega) (by omega) hA_141 hFr_143
        | true =>
          cases hT1 : (tT (sTr S)).testBit v with
          | false =>
            refine v_aload_n X 4 dL_built_880 rfl ?_
            refine v_iload X 0 dL_built_881 rfl ?_
            refine v_callL X rb.2.1 rb.2.2.1 hCl hCR (c_L_value l hst0 k Mq S (nI v) hAq) mo_L_value m_546 m_611 m_612 m_581 ⟨Nat.le_of_ble_eq_true rfl, Nat.le_of_ble_eq_true rfl⟩ rfl rfl (Nat.le_of_ble_eq_true rfl) ⟨(show 180 + 3 * v + 1 ≤ 220 by omega), (show 1136 + 18 * v + 6 ≤ 1400 by omega)⟩ dL_built_883 (vI_in (fun r_147 M_145 h_146 => ?_))
            refine v_widen (z' := (180 + 3 * v + 1, 1136 + 18 * v + 6)) (show 180 + 3 * v + 1 ≤ 180 + 3 * v + 1 by omega) (show 1136 + 18 * v + 6 ≤ 1136 + 18 * v + 6 by omega) ?_
            obtain ⟨hr_148, hA_149, hF_150⟩ := pa_eq (e_val0 hvl hA1 hT1) h_146
            subst hr_148
            have hFr_151 := hFq.tr hF_150
            refine v_iconst X (v := nI 2) (by decide) dL_built_886 ?_
            refine v_cneN X 894 (by omega) (by omega) dL_built_887 (by decide) (fun _ => ?_) (fun q_152 => absurd q_152 (by decide))
            refine v_iconst X (v := nI 0) (by decide) dL_built_894 ?_
            refine v_iload X 2 dL_built_895 rfl ?_
            refine v_iload X 0 dL_built_897 rfl ?_
            refine v_shrN X (by omega) (by omega) dL_built_899 ?_
            refine v_iconst X (v := nI 1) (by decide) dL_built_900 ?_
            refine v_andN X dL_built_901 ?_
            refine v_ineN X 909 (Nat.lt_of_le_of_lt Nat.and_le_right (by decide)) dL_built_902 (by decide) (fun _ => ?_) (fun q_153 => absurd q_153 (by rw [tb_and1, hA1]; decide))
            refine v_iconst X (v := nI 0) (by decide) dL_built_909 ?_
            refine v_cneN X 938 (by omega) (by omega) dL_built_910 (by decide) (fun q_154 => absurd rfl q_154) (fun _ => ?_)
            refine v_aload_n X 4 dL_built_913 rfl ?_
            refine v_iload X 0 dL_built_914 rfl ?_
            refine v_callL X rb.2.1 rb.2.2.1 hCl hCR (c_L_value l hst0 k M_145 S (nI v) hA_149) mo_L_value m_546 m_611 m_612 m_581 ⟨Nat.le_of_ble_eq_true rfl, Nat.le_of_ble_eq_true rfl⟩ rfl rfl (Nat.le_of_ble_eq_true rfl) ⟨(show 180 + 3 * v + 1 + 1 ≤ 220 by omega), (show 1136 + 18 * v + 6 + 6 ≤ 1400 by omega)⟩ dL_built_916 (vI_in (fun r_157 M_155 h_156 => ?_))
            refine v_widen (z' := (180 + 3 * v + 2, 1136 + 18 * v + 12)) (show 180 + 3 * v + 1 + 1 ≤ 180 + 3 * v + 2 by omega) (show 1136 + 18 * v + 6 + 6 ≤ 1136 + 18 * v + 12 by omega) ?_
            obtain ⟨hr_158, hA_159, hF_160⟩ := pa_eq (e_val0 hvl hA1 hT1) h_156
            subst hr_158
            have hFr_161 := hFr_151.tr hF_160
            refine v_iconst X (v := nI 2) (by decide) dL_built_919 ?_
            refine v_cltN X 934 (by omega) (by omega) dL_built_920 (by decide) (fun _ => ?_) (fun q_162 => absurd q_162 (by omega))
            refine v_iconst X (v := nI 1) (by decide) dL_built_934 ?_
            refine v_goto X 939 dL_built_935 (by decide) ?_
            refine v_istore X [(8, .int (nI 1)), (17, .int (nI v)), (15, .int (nI (tT (sTr S)))), (14, .int (nI (tA (sTr S)))), (0, .ref (ad k 0))] dL_built_939 (by decide) rfl ?_
            refine v_iinc X (v := nI (v + 1)) 1 [(17, .int (nI (v + 1))), (8, .int (nI 1)), (15, .int (nI (tT (sTr S)))), (14, .int (nI (tA (sTr S)))), (0, .ref (ad k 0))] dL_built_941 rfl (nI_1 _) (by decide) rfl ?_
            refine v_goto X 868 dL_built_944 (by decide) ?_
            refine v_widen (z' := (180 + 3 * (v + 1), 1136 + 18 * (v + 1))) (show 180 + 3 * v + 2 ≤ 180 + 3 * (v + 1) by omega) (show 1136 + 18 * v + 12 ≤ 1136 + 18 * (v + 1) by omega) ?_
            refine v_lv [0, 2, 3, 1, 4] rfl ?_
            exact ih_L868 (v + 1) M_155 (by omega) (by omega) hA_159 hFr_161
          | true =>
            refine v_aload_n X 4 dL_built_880 rfl ?_
            refine v_iload X 0 dL_built_881 rfl ?_
            refine v_callL X rb.2.1 rb.2.2.1 hCl hCR (c_L_value l hst0 k Mq S (nI v) hAq) mo_L_value m_546 m_611 m_612 m_581 ⟨Nat.le_of_ble_eq_true rfl, Nat.le_of_ble_eq_true rfl⟩ rfl rfl (Nat.le_of_ble_eq_true rfl) ⟨(show 180 + 3 * v + 1 ≤ 220 by omega), (show 1136 + 18 * v + 6 ≤ 1400 by omega)⟩ dL_built_883 (vI_in (fun r_165 M_163 h_164 => ?_))
            refine v_widen (z' := (180 + 3 * v + 1, 1136 + 18 * v + 6)) (show 180 + 3 * v + 1 ≤ 180 + 3 * v + 1 by omega) (show 1136 + 18 * v + 6 ≤ 1136 + 18 * v + 6 by omega) ?_
            obtain ⟨hr_166, hA_167, hF_168⟩ := pa_eq (e_val1 hvl hA1 hT1) h_164
            subst hr_166
            have hFr_169 := hFq.tr hF_168
            refine v_iconst X (v := nI 2) (by decide) dL_built_886 ?_
            refine v_cneN X 894 (by omega) (by omega) dL_built_887 (by decide) (fun _ => ?_) (fun q_170 => absurd q_170 (by decide))
            refine v_iconst X (v := nI 0) (by decide) dL_built_894 ?_
            refine v_iload X 2 dL_built_895 rfl ?_
            refine v_iload X 0 dL_built_897 rfl ?_
            refine v_shrN X (by omega) (by omega) dL_built_899 ?_
            refine v_iconst X (v := nI 1) (by decide) dL_built_900 ?_
            refine v_andN X dL_built_901 ?_
            refine v_ineN X 909 (Nat.lt_of_le_of_lt Nat.and_le_right (by decide)) dL_built_902 (by decide) (fun _ => ?_) (fun q_171 => absurd q_171 (by rw [tb_and1, hA1]; decide))
            refine v_iconst X (v := nI 0) (by decide) dL_built_909 ?_
            refine v_cneN X 938 (by omega) (by omega) dL_built_910 (by decide) (fun q_172 => absurd rfl q_172) (fun _ => ?_)
            refine v_aload_n X 4 dL_built_913 rfl ?_
            refine v_iload X 0 dL_built_914 rfl ?_
            refine v_callL X rb.2.1 rb.2.2.1 hCl hCR (c_L_value l hst0 k M_163 S (nI v) hA_167) mo_L_value m_546 m_611 m_612 m_581 ⟨Nat.le_of_ble_eq_true rfl, Nat.le_of_ble_eq_true rfl⟩ rfl rfl (Nat.le_of_ble_eq_true rfl) ⟨(show 180 + 3 * v + 1 + 1 ≤ 220 by omega), (show 1136 + 18 * v + 6 + 6 ≤ 1400 by omega)⟩ dL_built_916 (vI_in (fun r_175 M_173 h_174 => ?_))
            refine v_widen (z' := (180 + 3 * v + 2, 1136 + 18 * v + 12)) (show 180 + 3 * v + 1 + 1 ≤ 180 + 3 * v + 2 by omega) (show 1136 + 18 * v + 6 + 6 ≤ 1136 + 18 * v + 12 by omega) ?_
            obtain ⟨hr_176, hA_177, hF_178⟩ := pa_eq (e_val1 hvl hA1 hT1) h_174
            subst hr_176
            have hFr_179 := hFr_169.tr hF_178
            refine v_iconst X (v := nI 2) (by decide) dL_built_919 ?_
            refine v_cltN X 934 (by omega) (by omega) dL_built_920 (by decide) (fun _ => ?_) (fun q_180 => absurd q_180 (by omega))
            refine v_iconst X (v := nI 1) (by decide) dL_built_934 ?_
            refine v_goto X 939 dL_built_935 (by decide) ?_
            refine v_istore X [(8, .int (nI 1)), (17, .int (nI v)), (15, .int (nI (tT (sTr S)))), (14, .int (nI (tA (sTr S)))), (0, .ref (ad k 0))] dL_built_939 (by decide) rfl ?_
            refine v_iinc X (v := nI (v + 1)) 1 [(17, .int (nI (v + 1))), (8, .int (nI 1)), (15, .int (nI (tT (sTr S)))), (14, .int (nI (tA (sTr S)))), (0, .ref (ad k 0))] dL_built_941 rfl (nI_1 _) (by decide) rfl ?_
            refine v_goto X 868 dL_built_944 (by decide) ?_
            refine v_widen (z' := (180 + 3 * (v + 1), 1136 + 18 * (v + 1))) (show 180 + 3 * v + 2 ≤ 180 + 3 * (v + 1) by omega) (show 1136 + 18 * v + 12 ≤ 1136 + 18 * (v + 1) by omega) ?_
            refine v_lv [0, 2, 3, 1, 4] rfl ?_
            exact ih_L868 (v + 1) M_173 (by omega) (by omega) hA_177 hFr_179
  have L631 : ∀ (fu : Nat) (i : Nat) (Mq : Mem), 8 - i < fu → (i ≤ 8) → At k Mq S → FB M Mq → V C k 23 (84 + 12 * i, 560 + 72 * i) Mq 631 [(17, .int (nI i)), (16, .int (nI ((pre (sTr S) i).length))), (15, .int (nI (tT (pre (sTr S) i)))), (14, .int (nI (tA (pre (sTr S) i)))), (8, .int (nI 1)), (0, .ref (ad k 0))] [] := by
    intro fu
    induction fu with
    | zero => intro i Mq hfu; exact absurd hfu (Nat.not_lt_zero _)
    | succ fu ih_L631 =>
      intro i Mq hfu hi hAq hFq
      refine v_iload X 0 dL_built_631 rfl ?_
      refine v_bipush X (v := nI 8) (by decide) dL_built_633 ?_
      refine v_cgeN X 865 (by omega) (by omega) dL_built_635 (by decide) (fun c_11 => ?_) (fun c_12 => ?_)
      · have hi_ : i = 8 := by omega
        subst hi_
        refine v_lv [2, 3, 4, 5] rfl ?_
        refine v_cast (lv' := [(15, .int (nI (tT (sTr S)))), (14, .int (nI (tA (sTr S)))), (8, .int (nI 1)), (0, .ref (ad k 0))]) (st' := []) (by rw [pre_ge ht8]; rfl) rfl ?_
        refine v_iconst X (v := nI 0) (by decide) dL_built_865 ?_
        refine v_istore X [(17, .int (nI 0)), (15, .int (nI (tT (sTr S)))), (14, .int (nI (tA (sTr S)))), (8, .int (nI 1)), (0, .ref (ad k 0))] dL_built_866 (by decide) rfl ?_
        refine v_widen (z' := (180 + 3 * 0, 1136 + 18 * 0)) (show 84 + 12 * 8 ≤ 180 + 3 * 0 by omega) (show 560 + 72 * 8 ≤ 1136 + 18 * 0 by omega) ?_
        exact L868 9 0 Mq (by omega) (Nat.zero_le _) hAq hFq
      · refine v_iload X 4 dL_built_638 rfl ?_
        refine v_ieqN X 865 (by omega) dL_built_640 (by decide) (fun q_181 => absurd q_181 (by decide)) (fun _ => ?_)
        by_cases hit : i < (sTr S).length
        · obtain ⟨e, p, hp1, hp2, hO, he8, hAv, hTv, hRv, hnA⟩ := tr_at hok hit
          have hlen : (pre (sTr S) i).length = i := pre_len (by omega)
          have hpA : tA (pre (sTr S) i) < 256 := (pre_ok hok i).A
          have hpT : tT (pre (sTr S) i) < 256 := (pre_ok hok i).T
          have hpT1 : tT (pre (sTr S) (i + 1)) < 256 := (pre_ok hok (i + 1)).T
          have hge : tGood S.1 (e :: pre (sTr S) i) := (hp2 ▸ hgood : tGood S.1 (p ++ e :: pre (sTr S) i)).app
          cases hb : e.2.1 with
          | true =>
            cases he : e.2.2 with
            | none =>
              refine v_aload_n X 5 dL_built_643 rfl ?_
              refine v_iload X 0 dL_built_644 rfl ?_
              refine v_callL X rb.2.1 rb.2.2.1 hCl hCR (c_L_trail l hst0 k Mq S (nI i) hAq) mo_L_trail m_550 m_613 m_614 m_581 ⟨Nat.le_of_ble_eq_true rfl, Nat.le_of_ble_eq_true rfl⟩ rfl rfl (Nat.le_of_ble_eq_true rfl) ⟨(show 84 + 12 * i + 1 ≤ 220 by omega), (show 560 + 72 * i + 6 ≤ 1400 by omega)⟩ dL_built_646 (vI_in (fun r_184 M_182 h_183 => ?_))
              refine v_widen (z' := (84 + 12 * i + 1, 560 + 72 * i + 6)) (show 84 + 12 * i + 1 ≤ 84 + 12 * i + 1 by omega) (show 560 + 72 * i + 6 ≤ 560 + 72 * i + 6 by omega) ?_
              obtain ⟨hr_185, hA_186, hF_187⟩ := pa_eq (e_trail1 ht8 hit hO (hTv.trans hb)) h_183
              subst hr_185
              have hFr_188 := hFq.tr hF_187
              refine v_istore X [(18, .int (nI (2 * e.1))), (17, .int (nI i)), (16, .int (nI ((pre (sTr S) i).length))), (15, .int (nI (tT (pre (sTr S) i)))), (14, .int (nI (tA (pre (sTr S) i)))), (8, .int (nI 1)), (0, .ref (ad k 0))] dL_built_649 (by decide) rfl ?_
              refine v_iload X 0 dL_built_651 rfl ?_
              refine v_bipush X (v := (-101)) (by decide) dL_built_653 ?_
              refine v_icmp_ne X 661 dL_built_655 (by decide) (fun _ => ?_) (fun q_189 => absurd q_189 (nI_ne (by omega) (by decide)))
              refine v_iload X 0 dL_built_661 rfl ?_
              refine v_iconst X (v := nI 2) (by decide) dL_built_663 ?_
              refine v_divN X (by omega) (by omega) (by omega) dL_built_664 ?_
              refine v_top (show (Value.int (nI ((2 * e.1) / 2)) : Value) = .int (nI e.1) from congrArg _ (congrArg nI (by omega))) ?_
              refine v_istore X [(19, .int (nI e.1)), (18, .int (nI (2 * e.1))), (17, .int (nI i)), (16, .int (nI ((pre (sTr S) i).length))), (15, .int (nI (tT (pre (sTr S) i)))), (14, .int (nI (tA (pre (sTr S) i)))), (8, .int (nI 1)), (0, .ref (ad k 0))] dL_built_665 (by decide) rfl ?_
              refine v_aload_n X 7 dL_built_667 rfl ?_
              refine v_iload X 0 dL_built_668 rfl ?_
              refine v_callL X rb.2.1 rb.2.2.1 hCl hCR (c_L_reason l hst0 k M_182 S (nI e.1) hA_186) mo_L_reason m_554 m_615 m_616 m_581 ⟨Nat.le_of_ble_eq_true rfl, Nat.le_of_ble_eq_true rfl⟩ rfl rfl (Nat.le_of_ble_eq_true rfl) ⟨(show 84 + 12 * i + 1 + 1 ≤ 220 by omega), (show 560 + 72 * i + 6 + 6 ≤ 1400 by omega)⟩ dL_built_670 (vI_in (fun r_192 M_190 h_191 => ?_))
              refine v_widen (z' := (84 + 12 * i + 2, 560 + 72 * i + 12)) (show 84 + 12 * i + 1 + 1 ≤ 84 + 12 * i + 2 by omega) (show 560 + 72 * i + 6 + 6 ≤ 560 + 72 * i + 12 by omega) ?_
              obtain ⟨hr_193, hA_194, hF_195⟩ := pa_eq (e_rsnO he8 (hRv.trans he)) h_191
              subst hr_193
              have hFr_196 := hFr_188.tr hF_195
              refine v_istore X [(20, .int ((-9))), (19, .int (nI e.1)), (18, .int (nI (2 * e.1))), (17, .int (nI i)), (16, .int (nI ((pre (sTr S) i).length))), (15, .int (nI (tT (pre (sTr S) i)))), (14, .int (nI (tA (pre (sTr S) i)))), (8, .int (nI 1)), (0, .ref (ad k 0))] dL_built_673 (by decide) rfl ?_
              refine v_iload X 3 dL_built_675 rfl ?_
              refine v_iload X 4 dL_built_677 rfl ?_
              refine v_cneN X 711 (by omega) (by omega) dL_built_679 (by decide) (fun q_197 => absurd (by omega) q_197) (fun _ => ?_)
              refine v_iload X 6 dL_built_682 rfl ?_
              refine v_iload X 1 dL_built_684 rfl ?_
              refine v_shrN X (by omega) (by omega) dL_built_686 ?_
              refine v_iconst X (v := nI 1) (by decide) dL_built_687 ?_
              refine v_andN X dL_built_688 ?_
              refine v_ineN X 711 (Nat.lt_of_le_of_lt Nat.and_le_right (by decide)) dL_built_689 (by decide) (fun q_198 => absurd (by rw [tb_and1, hnA]; rfl) q_198) (fun _ => ?_)
              refine v_aload_n X 8 dL_built_692 rfl ?_
              refine v_iload X 1 dL_built_693 rfl ?_
              refine v_callL X rb.2.1 rb.2.2.1 hCl hCR (c_L_value l hst0 k M_190 S (nI e.1) hA_194) mo_L_value m_546 m_611 m_612 m_581 ⟨Nat.le_of_ble_eq_true rfl, Nat.le_of_ble_eq_true rfl⟩ rfl rfl (Nat.le_of_ble_eq_true rfl) ⟨(show 84 + 12 * i + 2 + 1 ≤ 220 by omega), (show 560 + 72 * i + 12 + 6 ≤ 1400 by omega)⟩ dL_built_695 (vI_in (fun r_201 M_199 h_200 => ?_))
              refine v_widen (z' := (84 + 12 * i + 3, 560 + 72 * i + 18)) (show 84 + 12 * i + 2 + 1 ≤ 84 + 12 * i + 3 by omega) (show 560 + 72 * i + 12 + 6 ≤ 560 + 72 * i + 18 by omega) ?_
              obtain ⟨hr_202, hA_203, hF_204⟩ := pa_eq (e_val1 he8 hAv (hTv.trans hb)) h_200
              subst hr_202
              have hFr_205 := hFr_196.tr hF_204
              refine v_iconst X (v := nI 1) (by decide) dL_built_698 ?_
              refine v_iload X 2 dL_built_699 rfl ?_
              refine v_iconst X (v := nI 2) (by decide) dL_built_701 ?_
              refine v_remN X (by omega) (by omega) (by omega) dL_built_702 ?_
              refine v_subN X (by omega) dL_built_703 ?_
              refine v_cneN X 711 (by omega) (by omega) dL_built_704 (by decide) (fun q_206 => absurd (by omega) q_206) (fun _ => ?_)
              refine v_iconst X (v := nI 1) (by decide) dL_built_707 ?_
              refine v_goto X 712 dL_built_708 (by decide) ?_
              refine v_istore X [(8, .int (nI 1)), (20, .int ((-9))), (19, .int (nI e.1)), (18, .int (nI (2 * e.1))), (17, .int (nI i)), (16, .int (nI ((pre (sTr S) i).length))), (15, .int (nI (tT (pre (sTr S) i)))), (14, .int (nI (tA (pre (sTr S) i)))), (0, .ref (ad k 0))] dL_built_712 (by decide) rfl ?_
              refine v_iload X 1 dL_built_714 rfl ?_
              refine v_if_lt X 827 dL_built_716 (by decide) (fun _ => ?_) (fun q_207 => absurd (by decide) q_207)
              refine v_iload X 7 dL_built_827 rfl ?_
              refine v_iconst X (v := nI 1) (by decide) dL_built_829 ?_
              refine v_iload X 2 dL_built_830 rfl ?_
              refine v_shlN X (by omega) dL_built_832 ?_
              refine v_orN X dL_built_833 ?_
              refine v_top (show (Value.int (nI ((tA (pre (sTr S) i)) ||| (1 <<< e.1))) : Value) = .int (nI (tA (pre (sTr S) (i + 1)))) from congrArg _ (congrArg nI (by rw [hp1]; rfl))) ?_
              refine v_istore X [(14, .int (nI (tA (pre (sTr S) (i + 1))))), (8, .int (nI 1)), (20, .int ((-9))), (19, .int (nI e.1)), (18, .int (nI (2 * e.1))), (17, .int (nI i)), (16, .int (nI ((pre (sTr S) i).length))), (15, .int (nI (tT (pre (sTr S) i)))), (0, .ref (ad k 0))] dL_built_834 (by decide) rfl ?_
              refine v_iload X 7 dL_built_836 rfl ?_
              refine v_iload X 4 dL_built_838 rfl ?_
              refine v_iconst X (v := nI 2) (by decide) dL_built_840 ?_
              refine v_remN X (by omega) (by omega) (by omega) dL_built_841 ?_
              refine v_ineN X 852 (by omega) dL_built_842 (by decide) (fun q_208 => absurd (by omega) q_208) (fun _ => ?_)
              refine v_iconst X (v := nI 1) (by decide) dL_built_845 ?_
              refine v_iload X 3 dL_built_846 rfl ?_
              refine v_shlN X (by omega) dL_built_848 ?_
              refine v_goto X 853 dL_built_849 (by decide) ?_
              refine v_orN X dL_built_853 ?_
              refine v_top (show (Value.int (nI ((tT (pre (sTr S) i)) ||| (1 <<< e.1))) : Value) = .int (nI (tT (pre (sTr S) (i + 1)))) from congrArg _ (congrArg nI (by rw [hp1]; exact tT_cons1 hb))) ?_
              refine v_istore X [(15, .int (nI (tT (pre (sTr S) (i + 1))))), (14, .int (nI (tA (pre (sTr S) (i + 1))))), (8, .int (nI 1)), (20, .int ((-9))), (19, .int (nI e.1)), (18, .int (nI (2 * e.1))), (17, .int (nI i)), (16, .int (nI ((pre (sTr S) i).length))), (0, .ref (ad k 0))] dL_built_854 (by decide) rfl ?_
              refine v_iinc X (v := nI (((pre (sTr S) i).length) + 1)) 7 [(16, .int (nI (((pre (sTr S) i).length) + 1))), (15, .int (nI (tT (pre (sTr S) (i + 1))))), (14, .int (nI (tA (pre (sTr S) (i + 1))))), (8, .int (nI 1)), (20, .int ((-9))), (19, .int (nI e.1)), (18, .int (nI (2 * e.1))), (17, .int (nI i)), (0, .ref (ad k 0))] dL_built_856 rfl (nI_1 _) (by decide) rfl ?_
              refine v_iinc X (v := nI (i + 1)) 7 [(17, .int (nI (i + 1))), (16, .int (nI (((pre (sTr S) i).length) + 1))), (15, .int (nI (tT (pre (sTr S) (i + 1))))), (14, .int (nI (tA (pre (sTr S) (i + 1))))), (8, .int (nI 1)), (20, .int ((-9))), (19, .int (nI e.1)), (18, .int (nI (2 * e.1))), (0, .ref (ad k 0))] dL_built_859 rfl (nI_1 _) (by decide) rfl ?_
              refine v_goto X 631 dL_built_862 (by decide) ?_
              refine v_lv [0, 1, 2, 3, 4, 8] rfl ?_
              refine v_cast (lv' := [(17, .int (nI ((i + 1)))), (16, .int (nI ((pre (sTr S) (i + 1)).length))), (15, .int (nI (tT (pre (sTr S) (i + 1))))), (14, .int (nI (tA (pre (sTr S) (i + 1))))), (8, .int (nI 1)), (0, .ref (ad k 0))]) (st' := []) (by rw [hp1]; rfl) rfl ?_
              refine v_widen (z' := (84 + 12 * (i + 1), 560 + 72 * (i + 1))) (show 84 + 12 * i + 3 ≤ 84 + 12 * (i + 1) by omega) (show 560 + 72 * i + 18 ≤ 560 + 72 * (i + 1) by omega) ?_
              exact ih_L631 (i + 1) M_199 (by omega) (by omega) hA_203 hFr_205
            | some w =>
              obtain ⟨g1, g2, g3, g4⟩ := hge.1 w he
              rw [← hp1] at g3 g4
              have hw24 : w < 24 := by omega
              refine v_aload_n X 5 dL_built_643 rfl ?_
              refine v_iload X 0 dL_built_644 rfl ?_
              refine v_callL X rb.2.1 rb.2.2.1 hCl hCR (c_L_trail l hst0 k Mq S (nI i) hAq) mo_L_trail m_550 m_613 m_614 m_581 ⟨Nat.le_of_ble_eq_true rfl, Nat.le_of_ble_eq_true rfl⟩ rfl rfl (Nat.le_of_ble_eq_true rfl) ⟨(show 84 + 12 * i + 1 ≤ 220 by omega), (show 560 + 72 * i + 6 ≤ 1400 by omega)⟩ dL_built_646 (vI_in (fun r_211 M_209 h_210 => ?_))
              refine v_widen (z' := (84 + 12 * i + 1, 560 + 72 * i + 6)) (show 84 + 12 * i + 1 ≤ 84 + 12 * i + 1 by omega) (show 560 + 72 * i + 6 ≤ 560 + 72 * i + 6 by omega) ?_
              obtain ⟨hr_212, hA_213, hF_214⟩ := pa_eq (e_trail1 ht8 hit hO (hTv.trans hb)) h_210
              subst hr_212
              have hFr_215 := hFq.tr hF_214
              refine v_istore X [(18, .int (nI (2 * e.1))), (17, .int (nI i)), (16, .int (nI ((pre (sTr S) i).length))), (15, .int (nI (tT (pre (sTr S) i)))), (14, .int (nI (tA (pre (sTr S) i)))), (8, .int (nI 1)), (0, .ref (ad k 0))] dL_built_649 (by decide) rfl ?_
              refine v_iload X 0 dL_built_651 rfl ?_
              refine v_bipush X (v := (-101)) (by decide) dL_built_653 ?_
              refine v_icmp_ne X 661 dL_built_655 (by decide) (fun _ => ?_) (fun q_216 => absurd q_216 (nI_ne (by omega) (by decide)))
              refine v_iload X 0 dL_built_661 rfl ?_
              refine v_iconst X (v := nI 2) (by decide) dL_built_663 ?_
              refine v_divN X (by omega) (by omega) (by omega) dL_built_664 ?_
              refine v_top (show (Value.int (nI ((2 * e.1) / 2)) : Value) = .int (nI e.1) from congrArg _ (congrArg nI (by omega))) ?_
              refine v_istore X [(19, .int (nI e.1)), (18, .int (nI (2 * e.1))), (17, .int (nI i)), (16, .int (nI ((pre (sTr S) i).length))), (15, .int (nI (tT (pre (sTr S) i)))), (14, .int (nI (tA (pre (sTr S) i)))), (8, .int (nI 1)), (0, .ref (ad k 0))] dL_built_665 (by decide) rfl ?_
              refine v_aload_n X 7 dL_built_667 rfl ?_
              refine v_iload X 0 dL_built_668 rfl ?_
              refine v_callL X rb.2.1 rb.2.2.1 hCl hCR (c_L_reason l hst0 k M_209 S (nI e.1) hA_213) mo_L_reason m_554 m_615 m_616 m_581 ⟨Nat.le_of_ble_eq_true rfl, Nat.le_of_ble_eq_true rfl⟩ rfl rfl (Nat.le_of_ble_eq_true rfl) ⟨(show 84 + 12 * i + 1 + 1 ≤ 220 by omega), (show 560 + 72 * i + 6 + 6 ≤ 1400 by omega)⟩ dL_built_670 (vI_in (fun r_219 M_217 h_218 => ?_))
              refine v_widen (z' := (84 + 12 * i + 2, 560 + 72 * i + 12)) (show 84 + 12 * i + 1 + 1 ≤ 84 + 12 * i + 2 by omega) (show 560 + 72 * i + 6 + 6 ≤ 560 + 72 * i + 12 by omega) ?_
              obtain ⟨hr_220, hA_221, hF_222⟩ := pa_eq (e_rsnS he8 (hRv.trans he)) h_218
              subst hr_220
              have hFr_223 := hFr_215.tr hF_222
              refine v_istore X [(20, .int (nI w)), (19, .int (nI e.1)), (18, .int (nI (2 * e.1))), (17, .int (nI i)), (16, .int (nI ((pre (sTr S) i).length))), (15, .int (nI (tT (pre (sTr S) i)))), (14, .int (nI (tA (pre (sTr S) i)))), (8, .int (nI 1)), (0, .ref (ad k 0))] dL_built_673 (by decide) rfl ?_
              refine v_iload X 3 dL_built_675 rfl ?_
              refine v_iload X 4 dL_built_677 rfl ?_
              refine v_cneN X 711 (by omega) (by omega) dL_built_679 (by decide) (fun q_224 => absurd (by omega) q_224) (fun _ => ?_)
              refine v_iload X 6 dL_built_682 rfl ?_
              refine v_iload X 1 dL_built_684 rfl ?_
              refine v_shrN X (by omega) (by omega) dL_built_686 ?_
              refine v_iconst X (v := nI 1) (by decide) dL_built_687 ?_
              refine v_andN X dL_built_688 ?_
              refine v_ineN X 711 (Nat.lt_of_le_of_lt Nat.and_le_right (by decide)) dL_built_689 (by decide) (fun q_225 => absurd (by rw [tb_and1, hnA]; rfl) q_225) (fun _ => ?_)
              refine v_aload_n X 8 dL_built_692 rfl ?_
              refine v_iload X 1 dL_built_693 rfl ?_
              refine v_callL X rb.2.1 rb.2.2.1 hCl hCR (c_L_value l hst0 k M_217 S (nI e.1) hA_221) mo_L_value m_546 m_611 m_612 m_581 ⟨Nat.le_of_ble_eq_true rfl, Nat.le_of_ble_eq_true rfl⟩ rfl rfl (Nat.le_of_ble_eq_true rfl) ⟨(show 84 + 12 * i + 2 + 1 ≤ 220 by omega), (show 560 + 72 * i + 12 + 6 ≤ 1400 by omega)⟩ dL_built_695 (vI_in (fun r_228 M_226 h_227 => ?_))
              refine v_widen (z' := (84 + 12 * i + 3, 560 + 72 * i + 18)) (show 84 + 12 * i + 2 + 1 ≤ 84 + 12 * i + 3 by omega) (show 560 + 72 * i + 12 + 6 ≤ 560 + 72 * i + 18 by omega) ?_
              obtain ⟨hr_229, hA_230, hF_231⟩ := pa_eq (e_val1 he8 hAv (hTv.trans hb)) h_227
              subst hr_229
              have hFr_232 := hFr_223.tr hF_231
              refine v_iconst X (v := nI 1) (by decide) dL_built_698 ?_
              refine v_iload X 2 dL_built_699 rfl ?_
              refine v_iconst X (v := nI 2) (by decide) dL_built_701 ?_
              refine v_remN X (by omega) (by omega) (by omega) dL_built_702 ?_
              refine v_subN X (by omega) dL_built_703 ?_
              refine v_cneN X 711 (by omega) (by omega) dL_built_704 (by decide) (fun q_233 => absurd (by omega) q_233) (fun _ => ?_)
              refine v_iconst X (v := nI 1) (by decide) dL_built_707 ?_
              refine v_goto X 712 dL_built_708 (by decide) ?_
              refine v_istore X [(8, .int (nI 1)), (20, .int (nI w)), (19, .int (nI e.1)), (18, .int (nI (2 * e.1))), (17, .int (nI i)), (16, .int (nI ((pre (sTr S) i).length))), (15, .int (nI (tT (pre (sTr S) i)))), (14, .int (nI (tA (pre (sTr S) i)))), (0, .ref (ad k 0))] dL_built_712 (by decide) rfl ?_
              refine v_iload X 1 dL_built_714 rfl ?_
              refine v_iltN X (by omega) dL_built_716 ?_
              by_cases hpw : xPar (cAt S.1 w) = true
              · refine v_aload_n X 8 dL_built_719 rfl ?_
                refine v_iload X 1 dL_built_720 rfl ?_
                refine v_callL X rb.2.1 rb.2.2.1 hCl hCR (c_L_parity l hst0 k M_226 S (nI w) hA_230) mo_L_parity m_498 m_588 m_589 m_581 ⟨Nat.le_of_ble_eq_true rfl, Nat.le_of_ble_eq_true rfl⟩ rfl rfl (Nat.le_of_ble_eq_true rfl) ⟨(show 84 + 12 * i + 3 + 1 ≤ 220 by omega), (show 560 + 72 * i + 18 + 6 ≤ 1400 by omega)⟩ dL_built_722 (vI_in (fun r_236 M_234 h_235 => ?_))
                refine v_widen (z' := (84 + 12 * i + 4, 560 + 72 * i + 24)) (show 84 + 12 * i + 3 + 1 ≤ 84 + 12 * i + 4 by omega) (show 560 + 72 * i + 18 + 6 ≤ 560 + 72 * i + 24 by omega) ?_
                obtain ⟨hr_237, hA_238, hF_239⟩ := pa_eq (e_parity1 hl g1 hpw) h_235
                subst hr_237
                have hFr_240 := hFr_232.tr hF_239
                refine v_iconst X (v := nI 1) (by decide) dL_built_725 ?_
                refine v_cneN X 738 (by omega) (by omega) dL_built_726 (by decide) (fun q_241 => absurd rfl q_241) (fun _ => ?_)
                refine v_aload_n X 8 dL_built_729 rfl ?_
                refine v_iload X 1 dL_built_730 rfl ?_
                refine v_callL X rb.2.1 rb.2.2.1 hCl hCR (c_L_first l hst0 k M_234 S (nI w) hA_238) mo_L_first m_502 m_590 m_591 m_581 ⟨Nat.le_of_ble_eq_true rfl, Nat.le_of_ble_eq_true rfl⟩ rfl rfl (Nat.le_of_ble_eq_true rfl) ⟨(show 84 + 12 * i + 4 + 1 ≤ 220 by omega), (show 560 + 72 * i + 24 + 6 ≤ 1400 by omega)⟩ dL_built_732 (vI_in (fun r_244 M_242 h_243 => ?_))
                refine v_widen (z' := (84 + 12 * i + 5, 560 + 72 * i + 30)) (show 84 + 12 * i + 4 + 1 ≤ 84 + 12 * i + 5 by omega) (show 560 + 72 * i + 24 + 6 ≤ 560 + 72 * i + 30 by omega) ?_
                obtain ⟨hr_245, hA_246, hF_247⟩ := pa_eq (e_first hl g1) h_243
                subst hr_245
                have hFr_248 := hFr_240.tr hF_247
                refine v_goto X 751 dL_built_735 (by decide) ?_
                refine v_top (show (Value.int (nI (xFirst (cAt S.1 w))) : Value) = .int (nI (xVars (cAt S.1 w))) from congrArg _ (congrArg nI (xVars_par hpw).symm)) ?_
                refine v_istore X [(21, .int (nI (xVars (cAt S.1 w)))), (8, .int (nI 1)), (20, .int (nI w)), (19, .int (nI e.1)), (18, .int (nI (2 * e.1))), (17, .int (nI i)), (16, .int (nI ((pre (sTr S) i).length))), (15, .int (nI (tT (pre (sTr S) i)))), (14, .int (nI (tA (pre (sTr S) i)))), (0, .ref (ad k 0))] dL_built_751 (by decide) rfl ?_
                refine v_iload X 4 dL_built_753 rfl ?_
                refine v_iconst X (v := nI 2) (by decide) dL_built_755 ?_
                refine v_remN X (by omega) (by omega) (by omega) dL_built_756 ?_
                refine v_ineN X 770 (by omega) dL_built_757 (by decide) (fun q_249 => absurd (by omega) q_249) (fun _ => ?_)
                refine v_iload X 7 dL_built_760 rfl ?_
                refine v_iconst X (v := nI 1) (by decide) dL_built_762 ?_
                refine v_iload X 3 dL_built_763 rfl ?_
                refine v_shlN X (by omega) dL_built_765 ?_
                refine v_orN X dL_built_766 ?_
                refine v_goto X 772 dL_built_767 (by decide) ?_
                refine v_top (show (Value.int (nI ((tT (pre (sTr S) i)) ||| (1 <<< e.1))) : Value) = .int (nI (tT (pre (sTr S) (i + 1)))) from congrArg _ (congrArg nI (by rw [hp1]; exact tT_cons1 hb))) ?_
                refine v_istore X [(22, .int (nI (tT (pre (sTr S) (i + 1))))), (21, .int (nI (xVars (cAt S.1 w)))), (8, .int (nI 1)), (20, .int (nI w)), (19, .int (nI e.1)), (18, .int (nI (2 * e.1))), (17, .int (nI i)), (16, .int (nI ((pre (sTr S) i).length))), (15, .int (nI (tT (pre (sTr S) i)))), (14, .int (nI (tA (pre (sTr S) i)))), (0, .ref (ad k 0))] dL_built_772 (by decide) rfl ?_
                refine v_iload X 2 dL_built_774 rfl ?_
                refine v_ieqN X 824 (by omega) dL_built_776 (by decide) (fun q_250 => absurd q_250 (by decide)) (fun _ => ?_)
                refine v_iload X 1 dL_built_779 rfl ?_
                refine v_iload X 9 dL_built_781 rfl ?_
                refine v_iconst X (v := nI 4294967295) (by decide) dL_built_783 ?_
                refine v_xorN X dL_built_784 ?_
                refine v_andN X dL_built_785 ?_
                refine v_iconst X (v := nI 1) (by decide) dL_built_786 ?_
                refine v_iload X 4 dL_built_787 rfl ?_
                refine v_shlN X (by omega) dL_built_789 ?_
                refine v_icmp_ne X 824 dL_built_790 (by decide) (fun q_251 => absurd (congrArg nI g2) q_251) (fun _ => ?_)
                refine v_aload_n X 10 dL_built_793 rfl ?_
                refine v_iload X 3 dL_built_794 rfl ?_
                refine v_iload X 0 dL_built_796 rfl ?_
                refine v_callB X rb.2 hCl hCR (c_L_holds l hst0 k M_242 S w (tT (pre (sTr S) (i + 1))) ⟨g1, hpT1⟩ hA_246) mo_L_holds m_b6 m_681 m_682 m_581 ⟨Nat.le_of_ble_eq_true rfl, Nat.le_of_ble_eq_true rfl⟩ rfl rfl (Nat.le_of_ble_eq_true rfl) ⟨(show 84 + 12 * i + 5 + 3 ≤ 220 by omega), (show 560 + 72 * i + 30 + 18 ≤ 1400 by omega)⟩ dL_built_798 (vI_in (fun r_254 M_252 h_253 => ?_))
                refine v_widen (z' := (84 + 12 * i + 8, 560 + 72 * i + 48)) (show 84 + 12 * i + 5 + 3 ≤ 84 + 12 * i + 8 by omega) (show 560 + 72 * i + 30 + 18 ≤ 560 + 72 * i + 48 by omega) ?_
                obtain ⟨hr_255, hA_256, hF_257⟩ := h_253
                subst hr_255
                have hFr_258 := hFr_248.tr hF_257
                refine v_ieqB X 824 dL_built_801 (by decide) (fun q_259 => absurd q_259 (by rw [g3]; simp)) (fun _ => ?_)
                refine v_aload_n X 10 dL_built_804 rfl ?_
                refine v_iload X 3 dL_built_805 rfl ?_
                refine v_iload X 0 dL_built_807 rfl ?_
                refine v_iconst X (v := nI 1) (by decide) dL_built_809 ?_
                refine v_iload X 4 dL_built_810 rfl ?_
                refine v_shlN X (by omega) dL_built_812 ?_
                refine v_xorN X dL_built_813 ?_
                refine v_callB X rb.2 hCl hCR (c_L_holds l hst0 k M_252 S w ((tT (pre (sTr S) (i + 1))) ^^^ (1 <<< e.1)) ⟨g1, xor_256 hpT1 he8⟩ hA_256) mo_L_holds m_b6 m_681 m_682 m_581 ⟨Nat.le_of_ble_eq_true rfl, Nat.le_of_ble_eq_true rfl⟩ rfl rfl (Nat.le_of_ble_eq_true rfl) ⟨(show 84 + 12 * i + 8 + 3 ≤ 220 by omega), (show 560 + 72 * i + 48 + 18 ≤ 1400 by omega)⟩ dL_built_814 (vI_in (fun r_262 M_260 h_261 => ?_))
                refine v_widen (z' := (84 + 12 * i + 11, 560 + 72 * i + 66)) (show 84 + 12 * i + 8 + 3 ≤ 84 + 12 * i + 11 by omega) (show 560 + 72 * i + 48 + 18 ≤ 560 + 72 * i + 66 by omega) ?_
                obtain ⟨hr_263, hA_264, hF_265⟩ := h_261
                subst hr_263
                have hFr_266 := hFr_258.tr hF_265
                refine v_ineB X 824 dL_built_817 (by decide) (fun q_267 => absurd q_267 (by rw [g4]; simp)) (fun _ => ?_)
                refine v_iconst X (v := nI 1) (by decide) dL_built_820 ?_
                refine v_goto X 825 dL_built_821 (by decide) ?_
                refine v_istore X [(8, .int (nI 1)), (22, .int (nI (tT (pre (sTr S) (i + 1))))), (21, .int (nI (xVars (cAt S.1 w)))), (20, .int (nI w)), (19, .int (nI e.1)), (18, .int (nI (2 * e.1))), (17, .int (nI i)), (16, .int (nI ((pre (sTr S) i).length))), (15, .int (nI (tT (pre (sTr S) i)))), (14, .int (nI (tA (pre (sTr S) i)))), (0, .ref (ad k 0))] dL_built_825 (by decide) rfl ?_
                refine v_iload X 9 dL_built_827 rfl ?_
                refine v_iconst X (v := nI 1) (by decide) dL_built_829 ?_
                refine v_iload X 4 dL_built_830 rfl ?_
                refine v_shlN X (by omega) dL_built_832 ?_
                refine v_orN X dL_built_833 ?_
                refine v_top (show (Value.int (nI ((tA (pre (sTr S) i)) ||| (1 <<< e.1))) : Value) = .int (nI (tA (pre (sTr S) (i + 1)))) from congrArg _ (congrArg nI (by rw [hp1]; rfl))) ?_
                refine v_istore X [(14, .int (nI (tA (pre (sTr S) (i + 1))))), (8, .int (nI 1)), (22, .int (nI (tT (pre (sTr S) (i + 1))))), (21, .int (nI (xVars (cAt S.1 w)))), (20, .int (nI w)), (19, .int (nI e.1)), (18, .int (nI (2 * e.1))), (17, .int (nI i)), (16, .int (nI ((pre (sTr S) i).length))), (15, .int (nI (tT (pre (sTr S) i)))), (0, .ref (ad k 0))] dL_built_834 (by decide) rfl ?_
                refine v_iload X 9 dL_built_836 rfl ?_
                refine v_iload X 6 dL_built_838 rfl ?_
                refine v_iconst X (v := nI 2) (by decide) dL_built_840 ?_
                refine v_remN X (by omega) (by omega) (by omega) dL_built_841 ?_
                refine v_ineN X 852 (by omega) dL_built_842 (by decide) (fun q_268 => absurd (by omega) q_268) (fun _ => ?_)
                refine v_iconst X (v := nI 1) (by decide) dL_built_845 ?_
                refine v_iload X 5 dL_built_846 rfl ?_
                refine v_shlN X (by omega) dL_built_848 ?_
                refine v_goto X 853 dL_built_849 (by decide) ?_
                refine v_orN X dL_built_853 ?_
                refine v_top (show (Value.int (nI ((tT (pre (sTr S) i)) ||| (1 <<< e.1))) : Value) = .int (nI (tT (pre (sTr S) (i + 1)))) from congrArg _ (congrArg nI (by rw [hp1]; exact tT_cons1 hb))) ?_
                refine v_istore X [(15, .int (nI (tT (pre (sTr S) (i + 1))))), (14, .int (nI (tA (pre (sTr S) (i + 1))))), (8, .int (nI 1)), (22, .int (nI (tT (pre (sTr S) (i + 1))))), (21, .int (nI (xVars (cAt S.1 w)))), (20, .int (nI w)), (19, .int (nI e.1)), (18, .int (nI (2 * e.1))), (17, .int (nI i)), (16, .int (nI ((pre (sTr S) i).length))), (0, .ref (ad k 0))] dL_built_854 (by decide) rfl ?_
                refine v_iinc X (v := nI (((pre (sTr S) i).length) + 1)) 9 [(16, .int (nI (((pre (sTr S) i).length) + 1))), (15, .int (nI (tT (pre (sTr S) (i + 1))))), (14, .int (nI (tA (pre (sTr S) (i + 1))))), (8, .int (nI 1)), (22, .int (nI (tT (pre (sTr S) (i + 1))))), (21, .int (nI (xVars (cAt S.1 w)))), (20, .int (nI w)), (19, .int (nI e.1)), (18, .int (nI (2 * e.1))), (17, .int (nI i)), (0, .ref (ad k 0))] dL_built_856 rfl (nI_1 _) (by decide) rfl ?_
                refine v_iinc X (v := nI (i + 1)) 9 [(17, .int (nI (i + 1))), (16, .int (nI (((pre (sTr S) i).length) + 1))), (15, .int (nI (tT (pre (sTr S) (i + 1))))), (14, .int (nI (tA (pre (sTr S) (i + 1))))), (8, .int (nI 1)), (22, .int (nI (tT (pre (sTr S) (i + 1))))), (21, .int (nI (xVars (cAt S.1 w)))), (20, .int (nI w)), (19, .int (nI e.1)), (18, .int (nI (2 * e.1))), (0, .ref (ad k 0))] dL_built_859 rfl (nI_1 _) (by decide) rfl ?_
                refine v_goto X 631 dL_built_862 (by decide) ?_
                refine v_lv [0, 1, 2, 3, 4, 10] rfl ?_
                refine v_cast (lv' := [(17, .int (nI ((i + 1)))), (16, .int (nI ((pre (sTr S) (i + 1)).length))), (15, .int (nI (tT (pre (sTr S) (i + 1))))), (14, .int (nI (tA (pre (sTr S) (i + 1))))), (8, .int (nI 1)), (0, .ref (ad k 0))]) (st' := []) (by rw [hp1]; rfl) rfl ?_
                refine v_widen (z' := (84 + 12 * (i + 1), 560 + 72 * (i + 1))) (show 84 + 12 * i + 11 ≤ 84 + 12 * (i + 1) by omega) (show 560 + 72 * i + 66 ≤ 560 + 72 * (i + 1) by omega) ?_
                exact ih_L631 (i + 1) M_260 (by omega) (by omega) hA_264 hFr_266
              · have hpw : xPar (cAt S.1 w) = false := by simpa using hpw
                refine v_aload_n X 8 dL_built_719 rfl ?_
                refine v_iload X 1 dL_built_720 rfl ?_
                refine v_callL X rb.2.1 rb.2.2.1 hCl hCR (c_L_parity l hst0 k M_226 S (nI w) hA_230) mo_L_parity m_498 m_588 m_589 m_581 ⟨Nat.le_of_ble_eq_true rfl, Nat.le_of_ble_eq_true rfl⟩ rfl rfl (Nat.le_of_ble_eq_true rfl) ⟨(show 84 + 12 * i + 3 + 1 ≤ 220 by omega), (show 560 + 72 * i + 18 + 6 ≤ 1400 by omega)⟩ dL_built_722 (vI_in (fun r_271 M_269 h_270 => ?_))
                refine v_widen (z' := (84 + 12 * i + 4, 560 + 72 * i + 24)) (show 84 + 12 * i + 3 + 1 ≤ 84 + 12 * i + 4 by omega) (show 560 + 72 * i + 18 + 6 ≤ 560 + 72 * i + 24 by omega) ?_
                obtain ⟨hr_272, hA_273, hF_274⟩ := pa_eq (e_parity0 hl g1 hpw) h_270
                subst hr_272
                have hFr_275 := hFr_232.tr hF_274
                refine v_iconst X (v := nI 1) (by decide) dL_built_725 ?_
                refine v_cneN X 738 (by omega) (by omega) dL_built_726 (by decide) (fun _ => ?_) (fun q_276 => absurd q_276 (by decide))
                refine v_aload_n X 8 dL_built_738 rfl ?_
                refine v_iload X 1 dL_built_739 rfl ?_
                refine v_callL X rb.2.1 rb.2.2.1 hCl hCR (c_L_first l hst0 k M_269 S (nI w) hA_273) mo_L_first m_502 m_590 m_591 m_581 ⟨Nat.le_of_ble_eq_true rfl, Nat.le_of_ble_eq_true rfl⟩ rfl rfl (Nat.le_of_ble_eq_true rfl) ⟨(show 84 + 12 * i + 4 + 1 ≤ 220 by omega), (show 560 + 72 * i + 24 + 6 ≤ 1400 by omega)⟩ dL_built_741 (vI_in (fun r_279 M_277 h_278 => ?_))
                refine v_widen (z' := (84 + 12 * i + 5, 560 + 72 * i + 30)) (show 84 + 12 * i + 4 + 1 ≤ 84 + 12 * i + 5 by omega) (show 560 + 72 * i + 24 + 6 ≤ 560 + 72 * i + 30 by omega) ?_
                obtain ⟨hr_280, hA_281, hF_282⟩ := pa_eq (e_first hl g1) h_278
                subst hr_280
                have hFr_283 := hFr_275.tr hF_282
                refine v_aload_n X 8 dL_built_744 rfl ?_
                refine v_iload X 1 dL_built_745 rfl ?_
                refine v_callL X rb.2.1 rb.2.2.1 hCl hCR (c_L_second l hst0 k M_277 S (nI w) hA_281) mo_L_second m_506 m_592 m_593 m_581 ⟨Nat.le_of_ble_eq_true rfl, Nat.le_of_ble_eq_true rfl⟩ rfl rfl (Nat.le_of_ble_eq_true rfl) ⟨(show 84 + 12 * i + 5 + 1 ≤ 220 by omega), (show 560 + 72 * i + 30 + 6 ≤ 1400 by omega)⟩ dL_built_747 (vI_in (fun r_286 M_284 h_285 => ?_))
                refine v_widen (z' := (84 + 12 * i + 6, 560 + 72 * i + 36)) (show 84 + 12 * i + 5 + 1 ≤ 84 + 12 * i + 6 by omega) (show 560 + 72 * i + 30 + 6 ≤ 560 + 72 * i + 36 by omega) ?_
                obtain ⟨hr_287, hA_288, hF_289⟩ := pa_eq (e_second hl g1) h_285
                subst hr_287
                have hFr_290 := hFr_283.tr hF_289
                refine v_orN X dL_built_750 ?_
                refine v_top (show (Value.int (nI ((xFirst (cAt S.1 w)) ||| (xSecond (cAt S.1 w)))) : Value) = .int (nI (xVars (cAt S.1 w))) from congrArg _ (congrArg nI (xVars_cl hpw).symm)) ?_
                refine v_istore X [(21, .int (nI (xVars (cAt S.1 w)))), (8, .int (nI 1)), (20, .int (nI w)), (19, .int (nI e.1)), (18, .int (nI (2 * e.1))), (17, .int (nI i)), (16, .int (nI ((pre (sTr S) i).length))), (15, .int (nI (tT (pre (sTr S) i)))), (14, .int (nI (tA (pre (sTr S) i)))), (0, .ref (ad k 0))] dL_built_751 (by decide) rfl ?_
                refine v_iload X 4 dL_built_753 rfl ?_
                refine v_iconst X (v := nI 2) (by decide) dL_built_755 ?_
                refine v_remN X (by omega) (by omega) (by omega) dL_built_756 ?_
                refine v_ineN X 770 (by omega) dL_built_757 (by decide) (fun q_291 => absurd (by omega) q_291) (fun _ => ?_)
                refine v_iload X 7 dL_built_760 rfl ?_
                refine v_iconst X (v := nI 1) (by decide) dL_built_762 ?_
                refine v_iload X 3 dL_built_763 rfl ?_
                refine v_shlN X (by omega) dL_built_765 ?_
                refine v_orN X dL_built_766 ?_
                refine v_goto X 772 dL_built_767 (by decide) ?_
                refine v_top (show (Value.int (nI ((tT (pre (sTr S) i)) ||| (1 <<< e.1))) : Value) = .int (nI (tT (pre (sTr S) (i + 1)))) from congrArg _ (congrArg nI (by rw [hp1]; exact tT_cons1 hb))) ?_
                refine v_istore X [(22, .int (nI (tT (pre (sTr S) (i + 1))))), (21, .int (nI (xVars (cAt S.1 w)))), (8, .int (nI 1)), (20, .int (nI w)), (19, .int (nI e.1)), (18, .int (nI (2 * e.1))), (17, .int (nI i)), (16, .int (nI ((pre (sTr S) i).length))), (15, .int (nI (tT (pre (sTr S) i)))), (14, .int (nI (tA (pre (sTr S) i)))), (0, .ref (ad k 0))] dL_built_772 (by decide) rfl ?_
                refine v_iload X 2 dL_built_774 rfl ?_
                refine v_ieqN X 824 (by omega) dL_built_776 (by decide) (fun q_292 => absurd q_292 (by decide)) (fun _ => ?_)
                refine v_iload X 1 dL_built_779 rfl ?_
                refine v_iload X 9 dL_built_781 rfl ?_
                refine v_iconst X (v := nI 4294967295) (by decide) dL_built_783 ?_
                refine v_xorN X dL_built_784 ?_
                refine v_andN X dL_built_785 ?_
                refine v_iconst X (v := nI 1) (by decide) dL_built_786 ?_
                refine v_iload X 4 dL_built_787 rfl ?_
                refine v_shlN X (by omega) dL_built_789 ?_
                refine v_icmp_ne X 824 dL_built_790 (by decide) (fun q_293 => absurd (congrArg nI g2) q_293) (fun _ => ?_)
                refine v_aload_n X 10 dL_built_793 rfl ?_
                refine v_iload X 3 dL_built_794 rfl ?_
                refine v_iload X 0 dL_built_796 rfl ?_
                refine v_callB X rb.2 hCl hCR (c_L_holds l hst0 k M_284 S w (tT (pre (sTr S) (i + 1))) ⟨g1, hpT1⟩ hA_288) mo_L_holds m_b6 m_681 m_682 m_581 ⟨Nat.le_of_ble_eq_true rfl, Nat.le_of_ble_eq_true rfl⟩ rfl rfl (Nat.le_of_ble_eq_true rfl) ⟨(show 84 + 12 * i + 6 + 3 ≤ 220 by omega), (show 560 + 72 * i + 36 + 18 ≤ 1400 by omega)⟩ dL_built_798 (vI_in (fun r_296 M_294 h_295 => ?_))
                refine v_widen (z' := (84 + 12 * i + 9, 560 + 72 * i + 54)) (show 84 + 12 * i + 6 + 3 ≤ 84 + 12 * i + 9 by omega) (show 560 + 72 * i + 36 + 18 ≤ 560 + 72 * i + 54 by omega) ?_
                obtain ⟨hr_297, hA_298, hF_299⟩ := h_295
                subst hr_297
                have hFr_300 := hFr_290.tr hF_299
                refine v_ieqB X 824 dL_built_801 (by decide) (fun q_301 => absurd q_301 (by rw [g3]; simp)) (fun _ => ?_)
                refine v_aload_n X 10 dL_built_804 rfl ?_
                refine v_iload X 3 dL_built_805 rfl ?_
                refine v_iload X 0 dL_built_807 rfl ?_
                refine v_iconst X (v := nI 1) (by decide) dL_built_809 ?_
                refine v_iload X 4 dL_built_810 rfl ?_
                refine v_shlN X (by omega) dL_built_812 ?_
                refine v_xorN X dL_built_813 ?_
                refine v_callB X rb.2 hCl hCR (c_L_holds l hst0 k M_294 S w ((tT (pre (sTr S) (i + 1))) ^^^ (1 <<< e.1)) ⟨g1, xor_256 hpT1 he8⟩ hA_298) mo_L_holds m_b6 m_681 m_682 m_581 ⟨Nat.le_of_ble_eq_true rfl, Nat.le_of_ble_eq_true rfl⟩ rfl rfl (Nat.le_of_ble_eq_true rfl) ⟨(show 84 + 12 * i + 9 + 3 ≤ 220 by omega), (show 560 + 72 * i + 54 + 18 ≤ 1400 by omega)⟩ dL_built_814 (vI_in (fun r_304 M_302 h_303 => ?_))
                refine v_widen (z' := (84 + 12 * i + 12, 560 + 72 * i + 72)) (show 84 + 12 * i + 9 + 3 ≤ 84 + 12 * i + 12 by omega) (show 560 + 72 * i + 54 + 18 ≤ 560 + 72 * i + 72 by omega) ?_
                obtain ⟨hr_305, hA_306, hF_307⟩ := h_303
                subst hr_305
                have hFr_308 := hFr_300.tr hF_307
                refine v_ineB X 824 dL_built_817 (by decide) (fun q_309 => absurd q_309 (by rw [g4]; simp)) (fun _ => ?_)
                refine v_iconst X (v := nI 1) (by decide) dL_built_820 ?_
                refine v_goto X 825 dL_built_821 (by decide) ?_
                refine v_istore X [(8, .int (nI 1)), (22, .int (nI (tT (pre (sTr S) (i + 1))))), (21, .int (nI (xVars (cAt S.1 w)))), (20, .int (nI w)), (19, .int (nI e.1)), (18, .int (nI (2 * e.1))), (17, .int (nI i)), (16, .int (nI ((pre (sTr S) i).length))), (15, .int (nI (tT (pre (sTr S) i)))), (14, .int (nI (tA (pre (sTr S) i)))), (0, .ref (ad k 0))] dL_built_825 (by decide) rfl ?_
                refine v_iload X 9 dL_built_827 rfl ?_
                refine v_iconst X (v := nI 1) (by decide) dL_built_829 ?_
                refine v_iload X 4 dL_built_830 rfl ?_
                refine v_shlN X (by omega) dL_built_832 ?_
                refine v_orN X dL_built_833 ?_
                refine v_top (show (Value.int (nI ((tA (pre (sTr S) i)) ||| (1 <<< e.1))) : Value) = .int (nI (tA (pre (sTr S) (i + 1)))) from congrArg _ (congrArg nI (by rw [hp1]; rfl))) ?_
                refine v_istore X [(14, .int (nI (tA (pre (sTr S) (i + 1))))), (8, .int (nI 1)), (22, .int (nI (tT (pre (sTr S) (i + 1))))), (21, .int (nI (xVars (cAt S.1 w)))), (20, .int (nI w)), (19, .int (nI e.1)), (18, .int (nI (2 * e.1))), (17, .int (nI i)), (16, .int (nI ((pre (sTr S) i).length))), (15, .int (nI (tT (pre (sTr S) i)))), (0, .ref (ad k 0))] dL_built_834 (by decide) rfl ?_
                refine v_iload X 9 dL_built_836 rfl ?_
                refine v_iload X 6 dL_built_838 rfl ?_
                refine v_iconst X (v := nI 2) (by decide) dL_built_840 ?_
                refine v_remN X (by omega) (by omega) (by omega) dL_built_841 ?_
                refine v_ineN X 852 (by omega) dL_built_842 (by decide) (fun q_310 => absurd (by omega) q_310) (fun _ => ?_)
                refine v_iconst X (v := nI 1) (by decide) dL_built_845 ?_
                refine v_iload X 5 dL_built_846 rfl ?_
                refine v_shlN X (by omega) dL_built_848 ?_
                refine v_goto X 853 dL_built_849 (by decide) ?_
                refine v_orN X dL_built_853 ?_
                refine v_top (show (Value.int (nI ((tT (pre (sTr S) i)) ||| (1 <<< e.1))) : Value) = .int (nI (tT (pre (sTr S) (i + 1)))) from congrArg _ (congrArg nI (by rw [hp1]; exact tT_cons1 hb))) ?_
                refine v_istore X [(15, .int (nI (tT (pre (sTr S) (i + 1))))), (14, .int (nI (tA (pre (sTr S) (i + 1))))), (8, .int (nI 1)), (22, .int (nI (tT (pre (sTr S) (i + 1))))), (21, .int (nI (xVars (cAt S.1 w)))), (20, .int (nI w)), (19, .int (nI e.1)), (18, .int (nI (2 * e.1))), (17, .int (nI i)), (16, .int (nI ((pre (sTr S) i).length))), (0, .ref (ad k 0))] dL_built_854 (by decide) rfl ?_
                refine v_iinc X (v := nI (((pre (sTr S) i).length) + 1)) 9 [(16, .int (nI (((pre (sTr S) i).length) + 1))), (15, .int (nI (tT (pre (sTr S) (i + 1))))), (14, .int (nI (tA (pre (sTr S) (i + 1))))), (8, .int (nI 1)), (22, .int (nI (tT (pre (sTr S) (i + 1))))), (21, .int (nI (xVars (cAt S.1 w)))), (20, .int (nI w)), (19, .int (nI e.1)), (18, .int (nI (2 * e.1))), (17, .int (nI i)), (0, .ref (ad k 0))] dL_built_856 rfl (nI_1 _) (by decide) rfl ?_
                refine v_iinc X (v := nI (i + 1)) 9 [(17, .int (nI (i + 1))), (16, .int (nI (((pre (sTr S) i).length) + 1))), (15, .int (nI (tT (pre (sTr S) (i + 1))))), (14, .int (nI (tA (pre (sTr S) (i + 1))))), (8, .int (nI 1)), (22, .int (nI (tT (pre (sTr S) (i + 1))))), (21, .int (nI (xVars (cAt S.1 w)))), (20, .int (nI w)), (19, .int (nI e.1)), (18, .int (nI (2 * e.1))), (0, .ref (ad k 0))] dL_built_859 rfl (nI_1 _) (by decide) rfl ?_
                refine v_goto X 631 dL_built_862 (by decide) ?_
                refine v_lv [0, 1, 2, 3, 4, 10] rfl ?_
                refine v_cast (lv' := [(17, .int (nI ((i + 1)))), (16, .int (nI ((pre (sTr S) (i + 1)).length))), (15, .int (nI (tT (pre (sTr S) (i + 1))))), (14, .int (nI (tA (pre (sTr S) (i + 1))))), (8, .int (nI 1)), (0, .ref (ad k 0))]) (st' := []) (by rw [hp1]; rfl) rfl ?_
                refine v_widen (z' := (84 + 12 * (i + 1), 560 + 72 * (i + 1))) (show 84 + 12 * i + 12 ≤ 84 + 12 * (i + 1) by omega) (show 560 + 72 * i + 72 ≤ 560 + 72 * (i + 1) by omega) ?_
                exact ih_L631 (i + 1) M_302 (by omega) (by omega) hA_306 hFr_308
          | false =>
            cases he : e.2.2 with
            | none =>
              refine v_aload_n X 5 dL_built_643 rfl ?_
              refine v_iload X 0 dL_built_644 rfl ?_
              refine v_callL X rb.2.1 rb.2.2.1 hCl hCR (c_L_trail l hst0 k Mq S (nI i) hAq) mo_L_trail m_550 m_613 m_614 m_581 ⟨Nat.le_of_ble_eq_true rfl, Nat.le_of_ble_eq_true rfl⟩ rfl rfl (Nat.le_of_ble_eq_true rfl) ⟨(show 84 + 12 * i + 1 ≤ 220 by omega), (show 560 + 72 * i + 6 ≤ 1400 by omega)⟩ dL_built_646 (vI_in (fun r_313 M_311 h_312 => ?_))
              refine v_widen (z' := (84 + 12 * i + 1, 560 + 72 * i + 6)) (show 84 + 12 * i + 1 ≤ 84 + 12 * i + 1 by omega) (show 560 + 72 * i + 6 ≤ 560 + 72 * i + 6 by omega) ?_
              obtain ⟨hr_314, hA_315, hF_316⟩ := pa_eq (e_trail0 ht8 hit hO (hTv.trans hb)) h_312
              subst hr_314
              have hFr_317 := hFq.tr hF_316
              refine v_istore X [(18, .int (nI (2 * e.1 + 1))), (17, .int (nI i)), (16, .int (nI ((pre (sTr S) i).length))), (15, .int (nI (tT (pre (sTr S) i)))), (14, .int (nI (tA (pre (sTr S) i)))), (8, .int (nI 1)), (0, .ref (ad k 0))] dL_built_649 (by decide) rfl ?_
              refine v_iload X 0 dL_built_651 rfl ?_
              refine v_bipush X (v := (-101)) (by decide) dL_built_653 ?_
              refine v_icmp_ne X 661 dL_built_655 (by decide) (fun _ => ?_) (fun q_318 => absurd q_318 (nI_ne (by omega) (by decide)))
              refine v_iload X 0 dL_built_661 rfl ?_
              refine v_iconst X (v := nI 2) (by decide) dL_built_663 ?_
              refine v_divN X (by omega) (by omega) (by omega) dL_built_664 ?_
              refine v_top (show (Value.int (nI ((2 * e.1 + 1) / 2)) : Value) = .int (nI e.1) from congrArg _ (congrArg nI (by omega))) ?_
              refine v_istore X [(19, .int (nI e.1)), (18, .int (nI (2 * e.1 + 1))), (17, .int (nI i)), (16, .int (nI ((pre (sTr S) i).length))), (15, .int (nI (tT (pre (sTr S) i)))), (14, .int (nI (tA (pre (sTr S) i)))), (8, .int (nI 1)), (0, .ref (ad k 0))] dL_built_665 (by decide) rfl ?_
              refine v_aload_n X 7 dL_built_667 rfl ?_
              refine v_iload X 0 dL_built_668 rfl ?_
              refine v_callL X rb.2.1 rb.2.2.1 hCl hCR (c_L_reason l hst0 k M_311 S (nI e.1) hA_315) mo_L_reason m_554 m_615 m_616 m_581 ⟨Nat.le_of_ble_eq_true rfl, Nat.le_of_ble_eq_true rfl⟩ rfl rfl (Nat.le_of_ble_eq_true rfl) ⟨(show 84 + 12 * i + 1 + 1 ≤ 220 by omega), (show 560 + 72 * i + 6 + 6 ≤ 1400 by omega)⟩ dL_built_670 (vI_in (fun r_321 M_319 h_320 => ?_))
              refine v_widen (z' := (84 + 12 * i + 2, 560 + 72 * i + 12)) (show 84 + 12 * i + 1 + 1 ≤ 84 + 12 * i + 2 by omega) (show 560 + 72 * i + 6 + 6 ≤ 560 + 72 * i + 12 by omega) ?_
              obtain ⟨hr_322, hA_323, hF_324⟩ := pa_eq (e_rsnO he8 (hRv.trans he)) h_320
              subst hr_322
              have hFr_325 := hFr_317.tr hF_324
              refine v_istore X [(20, .int ((-9))), (19, .int (nI e.1)), (18, .int (nI (2 * e.1 + 1))), (17, .int (nI i)), (16, .int (nI ((pre (sTr S) i).length))), (15, .int (nI (tT (pre (sTr S) i)))), (14, .int (nI (tA (pre (sTr S) i)))), (8, .int (nI 1)), (0, .ref (ad k 0))] dL_built_673 (by decide) rfl ?_
              refine v_iload X 3 dL_built_675 rfl ?_
              refine v_iload X 4 dL_built_677 rfl ?_
              refine v_cneN X 711 (by omega) (by omega) dL_built_679 (by decide) (fun q_326 => absurd (by omega) q_326) (fun _ => ?_)
              refine v_iload X 6 dL_built_682 rfl ?_
              refine v_iload X 1 dL_built_684 rfl ?_
              refine v_shrN X (by omega) (by omega) dL_built_686 ?_
              refine v_iconst X (v := nI 1) (by decide) dL_built_687 ?_
              refine v_andN X dL_built_688 ?_
              refine v_ineN X 711 (Nat.lt_of_le_of_lt Nat.and_le_right (by decide)) dL_built_689 (by decide) (fun q_327 => absurd (by rw [tb_and1, hnA]; rfl) q_327) (fun _ => ?_)
              refine v_aload_n X 8 dL_built_692 rfl ?_
              refine v_iload X 1 dL_built_693 rfl ?_
              refine v_callL X rb.2.1 rb.2.2.1 hCl hCR (c_L_value l hst0 k M_319 S (nI e.1) hA_323) mo_L_value m_546 m_611 m_612 m_581 ⟨Nat.le_of_ble_eq_true rfl, Nat.le_of_ble_eq_true rfl⟩ rfl rfl (Nat.le_of_ble_eq_true rfl) ⟨(show 84 + 12 * i + 2 + 1 ≤ 220 by omega), (show 560 + 72 * i + 12 + 6 ≤ 1400 by omega)⟩ dL_built_695 (vI_in (fun r_330 M_328 h_329 => ?_))
              refine v_widen (z' := (84 + 12 * i + 3, 560 + 72 * i + 18)) (show 84 + 12 * i + 2 + 1 ≤ 84 + 12 * i + 3 by omega) (show 560 + 72 * i + 12 + 6 ≤ 560 + 72 * i + 18 by omega) ?_
              obtain ⟨hr_331, hA_332, hF_333⟩ := pa_eq (e_val0 he8 hAv (hTv.trans hb)) h_329
              subst hr_331
              have hFr_334 := hFr_325.tr hF_333
              refine v_iconst X (v := nI 1) (by decide) dL_built_698 ?_
              refine v_iload X 2 dL_built_699 rfl ?_
              refine v_iconst X (v := nI 2) (by decide) dL_built_701 ?_
              refine v_remN X (by omega) (by omega) (by omega) dL_built_702 ?_
              refine v_subN X (by omega) dL_built_703 ?_
              refine v_cneN X 711 (by omega) (by omega) dL_built_704 (by decide) (fun q_335 => absurd (by omega) q_335) (fun _ => ?_)
              refine v_iconst X (v := nI 1) (by decide) dL_built_707 ?_
              refine v_goto X 712 dL_built_708 (by decide) ?_
              refine v_istore X [(8, .int (nI 1)), (20, .int ((-9))), (19, .int (nI e.1)), (18, .int (nI (2 * e.1 + 1))), (17, .int (nI i)), (16, .int (nI ((pre (sTr S) i).length))), (15, .int (nI (tT (pre (sTr S) i)))), (14, .int (nI (tA (pre (sTr S) i)))), (0, .ref (ad k 0))] dL_built_712 (by decide) rfl ?_
              refine v_iload X 1 dL_built_714 rfl ?_
              refine v_if_lt X 827 dL_built_716 (by decide) (fun _ => ?_) (fun q_336 => absurd (by decide) q_336)
              refine v_iload X 7 dL_built_827 rfl ?_
              refine v_iconst X (v := nI 1) (by decide) dL_built_829 ?_
              refine v_iload X 2 dL_built_830 rfl ?_
              refine v_shlN X (by omega) dL_built_832 ?_
              refine v_orN X dL_built_833 ?_
              refine v_top (show (Value.int (nI ((tA (pre (sTr S) i)) ||| (1 <<< e.1))) : Value) = .int (nI (tA (pre (sTr S) (i + 1)))) from congrArg _ (congrArg nI (by rw [hp1]; rfl))) ?_
              refine v_istore X [(14, .int (nI (tA (pre (sTr S) (i + 1))))), (8, .int (nI 1)), (20, .int ((-9))), (19, .int (nI e.1)), (18, .int (nI (2 * e.1 + 1))), (17, .int (nI i)), (16, .int (nI ((pre (sTr S) i).length))), (15, .int (nI (tT (pre (sTr S) i)))), (0, .ref (ad k 0))] dL_built_834 (by decide) rfl ?_
              refine v_iload X 7 dL_built_836 rfl ?_
              refine v_iload X 4 dL_built_838 rfl ?_
              refine v_iconst X (v := nI 2) (by decide) dL_built_840 ?_
              refine v_remN X (by omega) (by omega) (by omega) dL_built_841 ?_
              refine v_ineN X 852 (by omega) dL_built_842 (by decide) (fun _ => ?_) (fun q_337 => absurd q_337 (by omega))
              refine v_iconst X (v := nI 0) (by decide) dL_built_852 ?_
              refine v_orN X dL_built_853 ?_
              refine v_top (show (Value.int (nI ((tT (pre (sTr S) i)) ||| 0)) : Value) = .int (nI (tT (pre (sTr S) (i + 1)))) from congrArg _ (congrArg nI (by rw [hp1]; exact (Nat.or_zero _).trans (tT_cons0 hb)))) ?_
              refine v_istore X [(15, .int (nI (tT (pre (sTr S) (i + 1))))), (14, .int (nI (tA (pre (sTr S) (i + 1))))), (8, .int (nI 1)), (20, .int ((-9))), (19, .int (nI e.1)), (18, .int (nI (2 * e.1 + 1))), (17, .int (nI i)), (16, .int (nI ((pre (sTr S) i).length))), (0, .ref (ad k 0))] dL_built_854 (by decide) rfl ?_
              refine v_iinc X (v := nI (((pre (sTr S) i).length) + 1)) 7 [(16, .int (nI (((pre (sTr S) i).length) + 1))), (15, .int (nI (tT (pre (sTr S) (i + 1))))), (14, .int (nI (tA (pre (sTr S) (i + 1))))), (8, .int (nI 1)), (20, .int ((-9))), (19, .int (nI e.1)), (18, .int (nI (2 * e.1 + 1))), (17, .int (nI i)), (0, .ref (ad k 0))] dL_built_856 rfl (nI_1 _) (by decide) rfl ?_
              refine v_iinc X (v := nI (i + 1)) 7 [(17, .int (nI (i + 1))), (16, .int (nI (((pre (sTr S) i).length) + 1))), (15, .int (nI (tT (pre (sTr S) (i + 1))))), (14, .int (nI (tA (pre (sTr S) (i + 1))))), (8, .int (nI 1)), (20, .int ((-9))), (19, .int (nI e.1)), (18, .int (nI (2 * e.1 + 1))), (0, .ref (ad k 0))] dL_built_859 rfl (nI_1 _) (by decide) rfl ?_
              refine v_goto X 631 dL_built_862 (by decide) ?_
              refine v_lv [0, 1, 2, 3, 4, 8] rfl ?_
              refine v_cast (lv' := [(17, .int (nI ((i + 1)))), (16, .int (nI ((pre (sTr S) (i + 1)).length))), (15, .int (nI (tT (pre (sTr S) (i + 1))))), (14, .int (nI (tA (pre (sTr S) (i + 1))))), (8, .int (nI 1)), (0, .ref (ad k 0))]) (st' := []) (by rw [hp1]; rfl) rfl ?_
              refine v_widen (z' := (84 + 12 * (i + 1), 560 + 72 * (i + 1))) (show 84 + 12 * i + 3 ≤ 84 + 12 * (i + 1) by omega) (show 560 + 72 * i + 18 ≤ 560 + 72 * (i + 1) by omega) ?_
              exact ih_L631 (i + 1) M_328 (by omega) (by omega) hA_332 hFr_334
            | some w =>
              obtain ⟨g1, g2, g3, g4⟩ := hge.1 w he
              rw [← hp1] at g3 g4
              have hw24 : w < 24 := by omega
              refine v_aload_n X 5 dL_built_643 rfl ?_
              refine v_iload X 0 dL_built_644 rfl ?_
              refine v_callL X rb.2.1 rb.2.2.1 hCl hCR (c_L_trail l hst0 k Mq S (nI i) hAq) mo_L_trail m_550 m_613 m_614 m_581 ⟨Nat.le_of_ble_eq_true rfl, Nat.le_of_ble_eq_true rfl⟩ rfl rfl (Nat.le_of_ble_eq_true rfl) ⟨(show 84 + 12 * i + 1 ≤ 220 by omega), (show 560 + 72 * i + 6 ≤ 1400 by omega)⟩ dL_built_646 (vI_in (fun r_340 M_338 h_339 => ?_))
              refine v_widen (z' := (84 + 12 * i + 1, 560 + 72 * i + 6)) (show 84 + 12 * i + 1 ≤ 84 + 12 * i + 1 by omega) (show 560 + 72 * i + 6 ≤ 560 + 72 * i + 6 by omega) ?_
              obtain ⟨hr_341, hA_342, hF_343⟩ := pa_eq (e_trail0 ht8 hit hO (hTv.trans hb)) h_339
              subst hr_341
              have hFr_344 := hFq.tr hF_343
              refine v_istore X [(18, .int (nI (2 * e.1 + 1))), (17, .int (nI i)), (16, .int (nI ((pre (sTr S) i).length))), (15, .int (nI (tT (pre (sTr S) i)))), (14, .int (nI (tA (pre (sTr S) i)))), (8, .int (nI 1)), (0, .ref (ad k 0))] dL_built_649 (by decide) rfl ?_
              refine v_iload X 0 dL_built_651 rfl ?_
              refine v_bipush X (v := (-101)) (by decide) dL_built_653 ?_
              refine v_icmp_ne X 661 dL_built_655 (by decide) (fun _ => ?_) (fun q_345 => absurd q_345 (nI_ne (by omega) (by decide)))
              refine v_iload X 0 dL_built_661 rfl ?_
              refine v_iconst X (v := nI 2) (by decide) dL_built_663 ?_
              refine v_divN X (by omega) (by omega) (by omega) dL_built_664 ?_
              refine v_top (show (Value.int (nI ((2 * e.1 + 1) / 2)) : Value) = .int (nI e.1) from congrArg _ (congrArg nI (by omega))) ?_
              refine v_istore X [(19, .int (nI e.1)), (18, .int (nI (2 * e.1 + 1))), (17, .int (nI i)), (16, .int (nI ((pre (sTr S) i).length))), (15, .int (nI (tT (pre (sTr S) i)))), (14, .int (nI (tA (pre (sTr S) i)))), (8, .int (nI 1)), (0, .ref (ad k 0))] dL_built_665 (by decide) rfl ?_
              refine v_aload_n X 7 dL_built_667 rfl ?_
              refine v_iload X 0 dL_built_668 rfl ?_
              refine v_callL X rb.2.1 rb.2.2.1 hCl hCR (c_L_reason l hst0 k M_338 S (nI e.1) hA_342) mo_L_reason m_554 m_615 m_616 m_581 ⟨Nat.le_of_ble_eq_true rfl, Nat.le_of_ble_eq_true rfl⟩ rfl rfl (Nat.le_of_ble_eq_true rfl) ⟨(show 84 + 12 * i + 1 + 1 ≤ 220 by omega), (show 560 + 72 * i + 6 + 6 ≤ 1400 by omega)⟩ dL_built_670 (vI_in (fun r_348 M_346 h_347 => ?_))
              refine v_widen (z' := (84 + 12 * i + 2, 560 + 72 * i + 12)) (show 84 + 12 * i + 1 + 1 ≤ 84 + 12 * i + 2 by omega) (show 560 + 72 * i + 6 + 6 ≤ 560 + 72 * i + 12 by omega) ?_
              obtain ⟨hr_349, hA_350, hF_351⟩ := pa_eq (e_rsnS he8 (hRv.trans he)) h_347
              subst hr_349
              have hFr_352 := hFr_344.tr hF_351
              refine v_istore X [(20, .int (nI w)), (19, .int (nI e.1)), (18, .int (nI (2 * e.1 + 1))), (17, .int (nI i)), (16, .int (nI ((pre (sTr S) i).length))), (15, .int (nI (tT (pre (sTr S) i)))), (14, .int (nI (tA (pre (sTr S) i)))), (8, .int (nI 1)), (0, .ref (ad k 0))] dL_built_673 (by decide) rfl ?_
              refine v_iload X 3 dL_built_675 rfl ?_
              refine v_iload X 4 dL_built_677 rfl ?_
              refine v_cneN X 711 (by omega) (by omega) dL_built_679 (by decide) (fun q_353 => absurd (by omega) q_353) (fun _ => ?_)
              refine v_iload X 6 dL_built_682 rfl ?_
              refine v_iload X 1 dL_built_684 rfl ?_
              refine v_shrN X (by omega) (by omega) dL_built_686 ?_
              refine v_iconst X (v := nI 1) (by decide) dL_built_687 ?_
              refine v_andN X dL_built_688 ?_
              refine v_ineN X 711 (Nat.lt_of_le_of_lt Nat.and_le_right (by decide)) dL_built_689 (by decide) (fun q_354 => absurd (by rw [tb_and1, hnA]; rfl) q_354) (fun _ => ?_)
              refine v_aload_n X 8 dL_built_692 rfl ?_
              refine v_iload X 1 dL_built_693 rfl ?_
              refine v_callL X rb.2.1 rb.2.2.1 hCl hCR (c_L_value l hst0 k M_346 S (nI e.1) hA_350) mo_L_value m_546 m_611 m_612 m_581 ⟨Nat.le_of_ble_eq_true rfl, Nat.le_of_ble_eq_true rfl⟩ rfl rfl (Nat.le_of_ble_eq_true rfl) ⟨(show 84 + 12 * i + 2 + 1 ≤ 220 by omega), (show 560 + 72 * i + 12 + 6 ≤ 1400 by omega)⟩ dL_built_695 (vI_in (fun r_357 M_355 h_356 => ?_))
              refine v_widen (z' := (84 + 12 * i + 3, 560 + 72 * i + 18)) (show 84 + 12 * i + 2 + 1 ≤ 84 + 12 * i + 3 by omega) (show 560 + 72 * i + 12 + 6 ≤ 560 + 72 * i + 18 by omega) ?_
              obtain ⟨hr_358, hA_359, hF_360⟩ := pa_eq (e_val0 he8 hAv (hTv.trans hb)) h_356
              subst hr_358
              have hFr_361 := hFr_352.tr hF_360
              refine v_iconst X (v := nI 1) (by decide) dL_built_698 ?_
              refine v_iload X 2 dL_built_699 rfl ?_
              refine v_iconst X (v := nI 2) (by decide) dL_built_701 ?_
              refine v_remN X (by omega) (by omega) (by omega) dL_built_702 ?_
              refine v_subN X (by omega) dL_built_703 ?_
              refine v_cneN X 711 (by omega) (by omega) dL_built_704 (by decide) (fun q_362 => absurd (by omega) q_362) (fun _ => ?_)
              refine v_iconst X (v := nI 1) (by decide) dL_built_707 ?_
              refine v_goto X 712 dL_built_708 (by decide) ?_
              refine v_istore X [(8, .int (nI 1)), (20, .int (nI w)), (19, .int (nI e.1)), (18, .int (nI (2 * e.1 + 1))), (17, .int (nI i)), (16, .int (nI ((pre (sTr S) i).length))), (15, .int (nI (tT (pre (sTr S) i)))), (14, .int (nI (tA (pre (sTr S) i)))), (0, .ref (ad k 0))] dL_built_712 (by decide) rfl ?_
              refine v_iload X 1 dL_built_714 rfl ?_
              refine v_iltN X (by omega) dL_built_716 ?_
              by_cases hpw : xPar (cAt S.1 w) = true
              · refine v_aload_n X 8 dL_built_719 rfl ?_
                refine v_iload X 1 dL_built_720 rfl ?_
                refine v_callL X rb.2.1 rb.2.2.1 hCl hCR (c_L_parity l hst0 k M_355 S (nI w) hA_359) mo_L_parity m_498 m_588 m_589 m_581 ⟨Nat.le_of_ble_eq_true rfl, Nat.le_of_ble_eq_true rfl⟩ rfl rfl (Nat.le_of_ble_eq_true rfl) ⟨(show 84 + 12 * i + 3 + 1 ≤ 220 by omega), (show 560 + 72 * i + 18 + 6 ≤ 1400 by omega)⟩ dL_built_722 (vI_in (fun r_365 M_363 h_364 => ?_))
                refine v_widen (z' := (84 + 12 * i + 4, 560 + 72 * i + 24)) (show 84 + 12 * i + 3 + 1 ≤ 84 + 12 * i + 4 by omega) (show 560 + 72 * i + 18 + 6 ≤ 560 + 72 * i + 24 by omega) ?_
                obtain ⟨hr_366, hA_367, hF_368⟩ := pa_eq (e_parity1 hl g1 hpw) h_364
                subst hr_366
                have hFr_369 := hFr_361.tr hF_368
                refine v_iconst X (v := nI 1) (by decide) dL_built_725 ?_
                refine v_cneN X 738 (by omega) (by omega) dL_built_726 (by decide) (fun q_370 => absurd rfl q_370) (fun _ => ?_)
                refine v_aload_n X 8 dL_built_729 rfl ?_
                refine v_iload X 1 dL_built_730 rfl ?_
                refine v_callL X rb.2.1 rb.2.2.1 hCl hCR (c_L_first l hst0 k M_363 S (nI w) hA_367) mo_L_first m_502 m_590 m_591 m_581 ⟨Nat.le_of_ble_eq_true rfl, Nat.le_of_ble_eq_true rfl⟩ rfl rfl (Nat.le_of_ble_eq_true rfl) ⟨(show 84 + 12 * i + 4 + 1 ≤ 220 by omega), (show 560 + 72 * i + 24 + 6 ≤ 1400 by omega)⟩ dL_built_732 (vI_in (fun r_373 M_371 h_372 => ?_))
                refine v_widen (z' := (84 + 12 * i + 5, 560 + 72 * i + 30)) (show 84 + 12 * i + 4 + 1 ≤ 84 + 12 * i + 5 by omega) (show 560 + 72 * i + 24 + 6 ≤ 560 + 72 * i + 30 by omega) ?_
                obtain ⟨hr_374, hA_375, hF_376⟩ := pa_eq (e_first hl g1) h_372
                subst hr_374
                have hFr_377 := hFr_369.tr hF_376
                refine v_goto X 751 dL_built_735 (by decide) ?_
                refine v_top (show (Value.int (nI (xFirst (cAt S.1 w))) : Value) = .int (nI (xVars (cAt S.1 w))) from congrArg _ (congrArg nI (xVars_par hpw).symm)) ?_
                refine v_istore X [(21, .int (nI (xVars (cAt S.1 w)))), (8, .int (nI 1)), (20, .int (nI w)), (19, .int (nI e.1)), (18, .int (nI (2 * e.1 + 1))), (17, .int (nI i)), (16, .int (nI ((pre (sTr S) i).length))), (15, .int (nI (tT (pre (sTr S) i)))), (14, .int (nI (tA (pre (sTr S) i)))), (0, .ref (ad k 0))] dL_built_751 (by decide) rfl ?_
                refine v_iload X 4 dL_built_753 rfl ?_
                refine v_iconst X (v := nI 2) (by decide) dL_built_755 ?_
                refine v_remN X (by omega) (by omega) (by omega) dL_built_756 ?_
                refine v_ineN X 770 (by omega) dL_built_757 (by decide) (fun _ => ?_) (fun q_378 => absurd q_378 (by omega))
                refine v_iload X 7 dL_built_770 rfl ?_
                refine v_top (show (Value.int (nI (tT (pre (sTr S) i))) : Value) = .int (nI (tT (pre (sTr S) (i + 1)))) from congrArg _ (congrArg nI (by rw [hp1]; exact tT_cons0 hb))) ?_
                refine v_istore X [(22, .int (nI (tT (pre (sTr S) (i + 1))))), (21, .int (nI (xVars (cAt S.1 w)))), (8, .int (nI 1)), (20, .int (nI w)), (19, .int (nI e.1)), (18, .int (nI (2 * e.1 + 1))), (17, .int (nI i)), (16, .int (nI ((pre (sTr S) i).length))), (15, .int (nI (tT (pre (sTr S) i)))), (14, .int (nI (tA (pre (sTr S) i)))), (0, .ref (ad k 0))] dL_built_772 (by decide) rfl ?_
                refine v_iload X 2 dL_built_774 rfl ?_
                refine v_ieqN X 824 (by omega) dL_built_776 (by decide) (fun q_379 => absurd q_379 (by decide)) (fun _ => ?_)
                refine v_iload X 1 dL_built_779 rfl ?_
                refine v_iload X 9 dL_built_781 rfl ?_
                refine v_iconst X (v := nI 4294967295) (by decide) dL_built_783 ?_
                refine v_xorN X dL_built_784 ?_
                refine v_andN X dL_built_785 ?_
                refine v_iconst X (v := nI 1) (by decide) dL_built_786 ?_
                refine v_iload X 4 dL_built_787 rfl ?_
                refine v_shlN X (by omega) dL_built_789 ?_
                refine v_icmp_ne X 824 dL_built_790 (by decide) (fun q_380 => absurd (congrArg nI g2) q_380) (fun _ => ?_)
                refine v_aload_n X 10 dL_built_793 rfl ?_
                refine v_iload X 3 dL_built_794 rfl ?_
                refine v_iload X 0 dL_built_796 rfl ?_
                refine v_callB X rb.2 hCl hCR (c_L_holds l hst0 k M_371 S w (tT (pre (sTr S) (i + 1))) ⟨g1, hpT1⟩ hA_375) mo_L_holds m_b6 m_681 m_682 m_581 ⟨Nat.le_of_ble_eq_true rfl, Nat.le_of_ble_eq_true rfl⟩ rfl rfl (Nat.le_of_ble_eq_true rfl) ⟨(show 84 + 12 * i + 5 + 3 ≤ 220 by omega), (show 560 + 72 * i + 30 + 18 ≤ 1400 by omega)⟩ dL_built_798 (vI_in (fun r_383 M_381 h_382 => ?_))
                refine v_widen (z' := (84 + 12 * i + 8, 560 + 72 * i + 48)) (show 84 + 12 * i + 5 + 3 ≤ 84 + 12 * i + 8 by omega) (show 560 + 72 * i + 30 + 18 ≤ 560 + 72 * i + 48 by omega) ?_
                obtain ⟨hr_384, hA_385, hF_386⟩ := h_382
                subst hr_384
                have hFr_387 := hFr_377.tr hF_386
                refine v_ieqB X 824 dL_built_801 (by decide) (fun q_388 => absurd q_388 (by rw [g3]; simp)) (fun _ => ?_)
                refine v_aload_n X 10 dL_built_804 rfl ?_
                refine v_iload X 3 dL_built_805 rfl ?_
                refine v_iload X 0 dL_built_807 rfl ?_
                refine v_iconst X (v := nI 1) (by decide) dL_built_809 ?_
                refine v_iload X 4 dL_built_810 rfl ?_
                refine v_shlN X (by omega) dL_built_812 ?_
                refine v_xorN X dL_built_813 ?_
                refine v_callB X rb.2 hCl hCR (c_L_holds l hst0 k M_381 S w ((tT (pre (sTr S) (i + 1))) ^^^ (1 <<< e.1)) ⟨g1, xor_256 hpT1 he8⟩ hA_385) mo_L_holds m_b6 m_681 m_682 m_581 ⟨Nat.le_of_ble_eq_true rfl, Nat.le_of_ble_eq_true rfl⟩ rfl rfl (Nat.le_of_ble_eq_true rfl) ⟨(show 84 + 12 * i + 8 + 3 ≤ 220 by omega), (show 560 + 72 * i + 48 + 18 ≤ 1400 by omega)⟩ dL_built_814 (vI_in (fun r_391 M_389 h_390 => ?_))
                refine v_widen (z' := (84 + 12 * i + 11, 560 + 72 * i + 66)) (show 84 + 12 * i + 8 + 3 ≤ 84 + 12 * i + 11 by omega) (show 560 + 72 * i + 48 + 18 ≤ 560 + 72 * i + 66 by omega) ?_
                obtain ⟨hr_392, hA_393, hF_394⟩ := h_390
                subst hr_392
                have hFr_395 := hFr_387.tr hF_394
                refine v_ineB X 824 dL_built_817 (by decide) (fun q_396 => absurd q_396 (by rw [g4]; simp)) (fun _ => ?_)
                refine v_iconst X (v := nI 1) (by decide) dL_built_820 ?_
                refine v_goto X 825 dL_built_821 (by decide) ?_
                refine v_istore X [(8, .int (nI 1)), (22, .int (nI (tT (pre (sTr S) (i + 1))))), (21, .int (nI (xVars (cAt S.1 w)))), (20, .int (nI w)), (19, .int (nI e.1)), (18, .int (nI (2 * e.1 + 1))), (17, .int (nI i)), (16, .int (nI ((pre (sTr S) i).length))), (15, .int (nI (tT (pre (sTr S) i)))), (14, .int (nI (tA (pre (sTr S) i)))), (0, .ref (ad k 0))] dL_built_825 (by decide) rfl ?_
                refine v_iload X 9 dL_built_827 rfl ?_
                refine v_iconst X (v := nI 1) (by decide) dL_built_829 ?_
                refine v_iload X 4 dL_built_830 rfl ?_
                refine v_shlN X (by omega) dL_built_832 ?_
                refine v_orN X dL_built_833 ?_
                refine v_top (show (Value.int (nI ((tA (pre (sTr S) i)) ||| (1 <<< e.1))) : Value) = .int (nI (tA (pre (sTr S) (i + 1)))) from congrArg _ (congrArg nI (by rw [hp1]; rfl))) ?_
                refine v_istore X [(14, .int (nI (tA (pre (sTr S) (i + 1))))), (8, .int (nI 1)), (22, .int (nI (tT (pre (sTr S) (i + 1))))), (21, .int (nI (xVars (cAt S.1 w)))), (20, .int (nI w)), (19, .int (nI e.1)), (18, .int (nI (2 * e.1 + 1))), (17, .int (nI i)), (16, .int (nI ((pre (sTr S) i).length))), (15, .int (nI (tT (pre (sTr S) i)))), (0, .ref (ad k 0))] dL_built_834 (by decide) rfl ?_
                refine v_iload X 9 dL_built_836 rfl ?_
                refine v_iload X 6 dL_built_838 rfl ?_
                refine v_iconst X (v := nI 2) (by decide) dL_built_840 ?_
                refine v_remN X (by omega) (by omega) (by omega) dL_built_841 ?_
                refine v_ineN X 852 (by omega) dL_built_842 (by decide) (fun _ => ?_) (fun q_397 => absurd q_397 (by omega))
                refine v_iconst X (v := nI 0) (by decide) dL_built_852 ?_
                refine v_orN X dL_built_853 ?_
                refine v_top (show (Value.int (nI ((tT (pre (sTr S) i)) ||| 0)) : Value) = .int (nI (tT (pre (sTr S) (i + 1)))) from congrArg _ (congrArg nI (by rw [hp1]; exact (Nat.or_zero _).trans (tT_cons0 hb)))) ?_
                refine v_istore X [(15, .int (nI (tT (pre (sTr S) (i + 1))))), (14, .int (nI (tA (pre (sTr S) (i + 1))))), (8, .int (nI 1)), (22, .int (nI (tT (pre (sTr S) (i + 1))))), (21, .int (nI (xVars (cAt S.1 w)))), (20, .int (nI w)), (19, .int (nI e.1)), (18, .int (nI (2 * e.1 + 1))), (17, .int (nI i)), (16, .int (nI ((pre (sTr S) i).length))), (0, .ref (ad k 0))] dL_built_854 (by decide) rfl ?_
                refine v_iinc X (v := nI (((pre (sTr S) i).length) + 1)) 9 [(16, .int (nI (((pre (sTr S) i).length) + 1))), (15, .int (nI (tT (pre (sTr S) (i + 1))))), (14, .int (nI (tA (pre (sTr S) (i + 1))))), (8, .int (nI 1)), (22, .int (nI (tT (pre (sTr S) (i + 1))))), (21, .int (nI (xVars (cAt S.1 w)))), (20, .int (nI w)), (19, .int (nI e.1)), (18, .int (nI (2 * e.1 + 1))), (17, .int (nI i)), (0, .ref (ad k 0))] dL_built_856 rfl (nI_1 _) (by decide) rfl ?_
                refine v_iinc X (v := nI (i + 1)) 9 [(17, .int (nI (i + 1))), (16, .int (nI (((pre (sTr S) i).length) + 1))), (15, .int (nI (tT (pre (sTr S) (i + 1))))), (14, .int (nI (tA (pre (sTr S) (i + 1))))), (8, .int (nI 1)), (22, .int (nI (tT (pre (sTr S) (i + 1))))), (21, .int (nI (xVars (cAt S.1 w)))), (20, .int (nI w)), (19, .int (nI e.1)), (18, .int (nI (2 * e.1 + 1))), (0, .ref (ad k 0))] dL_built_859 rfl (nI_1 _) (by decide) rfl ?_
                refine v_goto X 631 dL_built_862 (by decide) ?_
                refine v_lv [0, 1, 2, 3, 4, 10] rfl ?_
                refine v_cast (lv' := [(17, .int (nI ((i + 1)))), (16, .int (nI ((pre (sTr S) (i + 1)).length))), (15, .int (nI (tT (pre (sTr S) (i + 1))))), (14, .int (nI (tA (pre (sTr S) (i + 1))))), (8, .int (nI 1)), (0, .ref (ad k 0))]) (st' := []) (by rw [hp1]; rfl) rfl ?_
                refine v_widen (z' := (84 + 12 * (i + 1), 560 + 72 * (i + 1))) (show 84 + 12 * i + 11 ≤ 84 + 12 * (i + 1) by omega) (show 560 + 72 * i + 66 ≤ 560 + 72 * (i + 1) by omega) ?_
                exact ih_L631 (i + 1) M_389 (by omega) (by omega) hA_393 hFr_395
              · have hpw : xPar (cAt S.1 w) = false := by simpa using hpw
                refine v_aload_n X 8 dL_built_719 rfl ?_
                refine v_iload X 1 dL_built_720 rfl ?_
                refine v_callL X rb.2.1 rb.2.2.1 hCl hCR (c_L_parity l hst0 k M_355 S (nI w) hA_359) mo_L_parity m_498 m_588 m_589 m_581 ⟨Nat.le_of_ble_eq_true rfl, Nat.le_of_ble_eq_true rfl⟩ rfl rfl (Nat.le_of_ble_eq_true rfl) ⟨(show 84 + 12 * i + 3 + 1 ≤ 220 by omega), (show 560 + 72 * i + 18 + 6 ≤ 1400 by omega)⟩ dL_built_722 (vI_in (fun r_400 M_398 h_399 => ?_))
                refine v_widen (z' := (84 + 12 * i + 4, 560 + 72 * i + 24)) (show 84 + 12 * i + 3 + 1 ≤ 84 + 12 * i + 4 by omega) (show 560 + 72 * i + 18 + 6 ≤ 560 + 72 * i + 24 by omega) ?_
                obtain ⟨hr_401, hA_402, hF_403⟩ := pa_eq (e_parity0 hl g1 hpw) h_399
                subst hr_401
                have hFr_404 := hFr_361.tr hF_403
                refine v_iconst X (v := nI 1) (by decide) dL_built_725 ?_
                refine v_cneN X 738 (by omega) (by omega) dL_built_726 (by decide) (fun _ => ?_) (fun q_405 => absurd q_405 (by decide))
                refine v_aload_n X 8 dL_built_738 rfl ?_
                refine v_iload X 1 dL_built_739 rfl ?_
                refine v_callL X rb.2.1 rb.2.2.1 hCl hCR (c_L_first l hst0 k M_398 S (nI w) hA_402) mo_L_first m_502 m_590 m_591 m_581 ⟨Nat.le_of_ble_eq_true rfl, Nat.le_of_ble_eq_true rfl⟩ rfl rfl (Nat.le_of_ble_eq_true rfl) ⟨(show 84 + 12 * i + 4 + 1 ≤ 220 by omega), (show 560 + 72 * i + 24 + 6 ≤ 1400 by omega)⟩ dL_built_741 (vI_in (fun r_408 M_406 h_407 => ?_))
                refine v_widen (z' := (84 + 12 * i + 5, 560 + 72 * i + 30)) (show 84 + 12 * i + 4 + 1 ≤ 84 + 12 * i + 5 by omega) (show 560 + 72 * i + 24 + 6 ≤ 560 + 72 * i + 30 by omega) ?_
                obtain ⟨hr_409, hA_410, hF_411⟩ := pa_eq (e_first hl g1) h_407
                subst hr_409
                have hFr_412 := hFr_404.tr hF_411
                refine v_aload_n X 8 dL_built_744 rfl ?_
                refine v_iload X 1 dL_built_745 rfl ?_
                refine v_callL X rb.2.1 rb.2.2.1 hCl hCR (c_L_second l hst0 k M_406 S (nI w) hA_410) mo_L_second m_506 m_592 m_593 m_581 ⟨Nat.le_of_ble_eq_true rfl, Nat.le_of_ble_eq_true rfl⟩ rfl rfl (Nat.le_of_ble_eq_true rfl) ⟨(show 84 + 12 * i + 5 + 1 ≤ 220 by omega), (show 560 + 72 * i + 30 + 6 ≤ 1400 by omega)⟩ dL_built_747 (vI_in (fun r_415 M_413 h_414 => ?_))
                refine v_widen (z' := (84 + 12 * i + 6, 560 + 72 * i + 36)) (show 84 + 12 * i + 5 + 1 ≤ 84 + 12 * i + 6 by omega) (show 560 + 72 * i + 30 + 6 ≤ 560 + 72 * i + 36 by omega) ?_
                obtain ⟨hr_416, hA_417, hF_418⟩ := pa_eq (e_second hl g1) h_414
                subst hr_416
                have hFr_419 := hFr_412.tr hF_418
                refine v_orN X dL_built_750 ?_
                refine v_top (show (Value.int (nI ((xFirst (cAt S.1 w)) ||| (xSecond (cAt S.1 w)))) : Value) = .int (nI (xVars (cAt S.1 w))) from congrArg _ (congrArg nI (xVars_cl hpw).symm)) ?_
                refine v_istore X [(21, .int (nI (xVars (cAt S.1 w)))), (8, .int (nI 1)), (20, .int (nI w)), (19, .int (nI e.1)), (18, .int (nI (2 * e.1 + 1))), (17, .int (nI i)), (16, .int (nI ((pre (sTr S) i).length))), (15, .int (nI (tT (pre (sTr S) i)))), (14, .int (nI (tA (pre (sTr S) i)))), (0, .ref (ad k 0))] dL_built_751 (by decide) rfl ?_
                refine v_iload X 4 dL_built_753 rfl ?_
                refine v_iconst X (v := nI 2) (by decide) dL_built_755 ?_
                refine v_remN X (by omega) (by omega) (by omega) dL_built_756 ?_
                refine v_ineN X 770 (by omega) dL_built_757 (by decide) (fun _ => ?_) (fun q_420 => absurd q_420 (by omega))
                refine v_iload X 7 dL_built_770 rfl ?_
                refine v_top (show (Value.int (nI (tT (pre (sTr S) i))) : Value) = .int (nI (tT (pre (sTr S) (i + 1)))) from congrArg _ (congrArg nI (by rw [hp1]; exact tT_cons0 hb))) ?_
                refine v_istore X [(22, .int (nI (tT (pre (sTr S) (i + 1))))), (21, .int (nI (xVars (cAt S.1 w)))), (8, .int (nI 1)), (20, .int (nI w)), (19, .int (nI e.1)), (18, .int (nI (2 * e.1 + 1))), (17, .int (nI i)), (16, .int (nI ((pre (sTr S) i).length))), (15, .int (nI (tT (pre (sTr S) i)))), (14, .int (nI (tA (pre (sTr S) i)))), (0, .ref (ad k 0))] dL_built_772 (by decide) rfl ?_
                refine v_iload X 2 dL_built_774 rfl ?_
                refine v_ieqN X 824 (by omega) dL_built_776 (by decide) (fun q_421 => absurd q_421 (by decide)) (fun _ => ?_)
                refine v_iload X 1 dL_built_779 rfl ?_
                refine v_iload X 9 dL_built_781 rfl ?_
                refine v_iconst X (v := nI 4294967295) (by decide) dL_built_783 ?_
                refine v_xorN X dL_built_784 ?_
                refine v_andN X dL_built_785 ?_
                refine v_iconst X (v := nI 1) (by decide) dL_built_786 ?_
                refine v_iload X 4 dL_built_787 rfl ?_
                refine v_shlN X (by omega) dL_built_789 ?_
                refine v_icmp_ne X 824 dL_built_790 (by decide) (fun q_422 => absurd (congrArg nI g2) q_422) (fun _ => ?_)
                refine v_aload_n X 10 dL_built_793 rfl ?_
                refine v_iload X 3 dL_built_794 rfl ?_
                refine v_iload X 0 dL_built_796 rfl ?_
                refine v_callB X rb.2 hCl hCR (c_L_holds l hst0 k M_413 S w (tT (pre (sTr S) (i + 1))) ⟨g1, hpT1⟩ hA_417) mo_L_holds m_b6 m_681 m_682 m_581 ⟨Nat.le_of_ble_eq_true rfl, Nat.le_of_ble_eq_true rfl⟩ rfl rfl (Nat.le_of_ble_eq_true rfl) ⟨(show 84 + 12 * i + 6 + 3 ≤ 220 by omega), (show 560 + 72 * i + 36 + 18 ≤ 1400 by omega)⟩ dL_built_798 (vI_in (fun r_425 M_423 h_424 => ?_))
                refine v_widen (z' := (84 + 12 * i + 9, 560 + 72 * i + 54)) (show 84 + 12 * i + 6 + 3 ≤ 84 + 12 * i + 9 by omega) (show 560 + 72 * i + 36 + 18 ≤ 560 + 72 * i + 54 by omega) ?_
                obtain ⟨hr_426, hA_427, hF_428⟩ := h_424
                subst hr_426
                have hFr_429 := hFr_419.tr hF_428
                refine v_ieqB X 824 dL_built_801 (by decide) (fun q_430 => absurd q_430 (by rw [g3]; simp)) (fun _ => ?_)
                refine v_aload_n X 10 dL_built_804 rfl ?_
                refine v_iload X 3 dL_built_805 rfl ?_
                refine v_iload X 0 dL_built_807 rfl ?_
                refine v_iconst X (v := nI 1) (by decide) dL_built_809 ?_
                refine v_iload X 4 dL_built_810 rfl ?_
                refine v_shlN X (by omega) dL_built_812 ?_
                refine v_xorN X dL_built_813 ?_
                refine v_callB X rb.2 hCl hCR (c_L_holds l hst0 k M_423 S w ((tT (pre (sTr S) (i + 1))) ^^^ (1 <<< e.1)) ⟨g1, xor_256 hpT1 he8⟩ hA_427) mo_L_holds m_b6 m_681 m_682 m_581 ⟨Nat.le_of_ble_eq_true rfl, Nat.le_of_ble_eq_true rfl⟩ rfl rfl (Nat.le_of_ble_eq_true rfl) ⟨(show 84 + 12 * i + 9 + 3 ≤ 220 by omega), (show 560 + 72 * i + 54 + 18 ≤ 1400 by omega)⟩ dL_built_814 (vI_in (fun r_433 M_431 h_432 => ?_))
                refine v_widen (z' := (84 + 12 * i + 12, 560 + 72 * i + 72)) (show 84 + 12 * i + 9 + 3 ≤ 84 + 12 * i + 12 by omega) (show 560 + 72 * i + 54 + 18 ≤ 560 + 72 * i + 72 by omega) ?_
                obtain ⟨hr_434, hA_435, hF_436⟩ := h_432
                subst hr_434
                have hFr_437 := hFr_429.tr hF_436
                refine v_ineB X 824 dL_built_817 (by decide) (fun q_438 => absurd q_438 (by rw [g4]; simp)) (fun _ => ?_)
                refine v_iconst X (v := nI 1) (by decide) dL_built_820 ?_
                refine v_goto X 825 dL_built_821 (by decide) ?_
                refine v_istore X [(8, .int (nI 1)), (22, .int (nI (tT (pre (sTr S) (i + 1))))), (21, .int (nI (xVars (cAt S.1 w)))), (20, .int (nI w)), (19, .int (nI e.1)), (18, .int (nI (2 * e.1 + 1))), (17, .int (nI i)), (16, .int (nI ((pre (sTr S) i).length))), (15, .int (nI (tT (pre (sTr S) i)))), (14, .int (nI (tA (pre (sTr S) i)))), (0, .ref (ad k 0))] dL_built_825 (by decide) rfl ?_
                refine v_iload X 9 dL_built_827 rfl ?_
                refine v_iconst X (v := nI 1) (by decide) dL_built_829 ?_
                refine v_iload X 4 dL_built_830 rfl ?_
                refine v_shlN X (by omega) dL_built_832 ?_
                refine v_orN X dL_built_833 ?_
                refine v_top (show (Value.int (nI ((tA (pre (sTr S) i)) ||| (1 <<< e.1))) : Value) = .int (nI (tA (pre (sTr S) (i + 1)))) from congrArg _ (congrArg nI (by rw [hp1]; rfl))) ?_
                refine v_istore X [(14, .int (nI (tA (pre (sTr S) (i + 1))))), (8, .int (nI 1)), (22, .int (nI (tT (pre (sTr S) (i + 1))))), (21, .int (nI (xVars (cAt S.1 w)))), (20, .int (nI w)), (19, .int (nI e.1)), (18, .int (nI (2 * e.1 + 1))), (17, .int (nI i)), (16, .int (nI ((pre (sTr S) i).length))), (15, .int (nI (tT (pre (sTr S) i)))), (0, .ref (ad k 0))] dL_built_834 (by decide) rfl ?_
                refine v_iload X 9 dL_built_836 rfl ?_
                refine v_iload X 6 dL_built_838 rfl ?_
                refine v_iconst X (v := nI 2) (by decide) dL_built_840 ?_
                refine v_remN X (by omega) (by omega) (by omega) dL_built_841 ?_
                refine v_ineN X 852 (by omega) dL_built_842 (by decide) (fun _ => ?_) (fun q_439 => absurd q_439 (by omega))
                refine v_iconst X (v := nI 0) (by decide) dL_built_852 ?_
                refine v_orN X dL_built_853 ?_
                refine v_top (show (Value.int (nI ((tT (pre (sTr S) i)) ||| 0)) : Value) = .int (nI (tT (pre (sTr S) (i + 1)))) from congrArg _ (congrArg nI (by rw [hp1]; exact (Nat.or_zero _).trans (tT_cons0 hb)))) ?_
                refine v_istore X [(15, .int (nI (tT (pre (sTr S) (i + 1))))), (14, .int (nI (tA (pre (sTr S) (i + 1))))), (8, .int (nI 1)), (22, .int (nI (tT (pre (sTr S) (i + 1))))), (21, .int (nI (xVars (cAt S.1 w)))), (20, .int (nI w)), (19, .int (nI e.1)), (18, .int (nI (2 * e.1 + 1))), (17, .int (nI i)), (16, .int (nI ((pre (sTr S) i).length))), (0, .ref (ad k 0))] dL_built_854 (by decide) rfl ?_
                refine v_iinc X (v := nI (((pre (sTr S) i).length) + 1)) 9 [(16, .int (nI (((pre (sTr S) i).length) + 1))), (15, .int (nI (tT (pre (sTr S) (i + 1))))), (14, .int (nI (tA (pre (sTr S) (i + 1))))), (8, .int (nI 1)), (22, .int (nI (tT (pre (sTr S) (i + 1))))), (21, .int (nI (xVars (cAt S.1 w)))), (20, .int (nI w)), (19, .int (nI e.1)), (18, .int (nI (2 * e.1 + 1))), (17, .int (nI i)), (0, .ref (ad k 0))] dL_built_856 rfl (nI_1 _) (by decide) rfl ?_
                refine v_iinc X (v := nI (i + 1)) 9 [(17, .int (nI (i + 1))), (16, .int (nI (((pre (sTr S) i).length) + 1))), (15, .int (nI (tT (pre (sTr S) (i + 1))))), (14, .int (nI (tA (pre (sTr S) (i + 1))))), (8, .int (nI 1)), (22, .int (nI (tT (pre (sTr S) (i + 1))))), (21, .int (nI (xVars (cAt S.1 w)))), (20, .int (nI w)), (19, .int (nI e.1)), (18, .int (nI (2 * e.1 + 1))), (0, .ref (ad k 0))] dL_built_859 rfl (nI_1 _) (by decide) rfl ?_
                refine v_goto X 631 dL_built_862 (by decide) ?_
                refine v_lv [0, 1, 2, 3, 4, 10] rfl ?_
                refine v_cast (lv' := [(17, .int (nI ((i + 1)))), (16, .int (nI ((pre (sTr S) (i + 1)).length))), (15, .int (nI (tT (pre (sTr S) (i + 1))))), (14, .int (nI (tA (pre (sTr S) (i + 1))))), (8, .int (nI 1)), (0, .ref (ad k 0))]) (st' := []) (by rw [hp1]; rfl) rfl ?_
                refine v_widen (z' := (84 + 12 * (i + 1), 560 + 72 * (i + 1))) (show 84 + 12 * i + 12 ≤ 84 + 12 * (i + 1) by omega) (show 560 + 72 * i + 72 ≤ 560 + 72 * (i + 1) by omega) ?_
                exact ih_L631 (i + 1) M_431 (by omega) (by omega) hA_435 hFr_437
        · refine v_aload_n X 5 dL_built_643 rfl ?_
          refine v_iload X 0 dL_built_644 rfl ?_
          refine v_callL X rb.2.1 rb.2.2.1 hCl hCR (c_L_trail l hst0 k Mq S (nI i) hAq) mo_L_trail m_550 m_613 m_614 m_581 ⟨Nat.le_of_ble_eq_true rfl, Nat.le_of_ble_eq_true rfl⟩ rfl rfl (Nat.le_of_ble_eq_true rfl) ⟨(show 84 + 12 * i + 1 ≤ 220 by omega), (show 560 + 72 * i + 6 ≤ 1400 by omega)⟩ dL_built_646 (vI_in (fun r_442 M_440 h_441 => ?_))
          refine v_widen (z' := (84 + 12 * i + 1, 560 + 72 * i + 6)) (show 84 + 12 * i + 1 ≤ 84 + 12 * i + 1 by omega) (show 560 + 72 * i + 6 ≤ 560 + 72 * i + 6 by omega) ?_
          obtain ⟨hr_443, hA_444, hF_445⟩ := pa_eq (e_trailN ht8 hit (by omega)) h_441
          subst hr_443
          have hFr_446 := hFq.tr hF_445
          refine v_istore X [(18, .int ((-101))), (17, .int (nI i)), (16, .int (nI ((pre (sTr S) i).length))), (15, .int (nI (tT (pre (sTr S) i)))), (14, .int (nI (tA (pre (sTr S) i)))), (8, .int (nI 1)), (0, .ref (ad k 0))] dL_built_649 (by decide) rfl ?_
          refine v_iload X 0 dL_built_651 rfl ?_
          refine v_bipush X (v := (-101)) (by decide) dL_built_653 ?_
          refine v_icmp_ne X 661 dL_built_655 (by decide) (fun q_447 => absurd rfl q_447) (fun _ => ?_)
          refine v_goto X 859 dL_built_658 (by decide) ?_
          refine v_iinc X (v := nI (i + 1)) 1 [(17, .int (nI (i + 1))), (18, .int ((-101))), (16, .int (nI ((pre (sTr S) i).length))), (15, .int (nI (tT (pre (sTr S) i)))), (14, .int (nI (tA (pre (sTr S) i)))), (8, .int (nI 1)), (0, .ref (ad k 0))] dL_built_859 rfl (nI_1 _) (by decide) rfl ?_
          refine v_goto X 631 dL_built_862 (by decide) ?_
          refine v_lv [0, 2, 3, 4, 5, 6] rfl ?_
          refine v_cast (lv' := [(17, .int (nI ((i + 1)))), (16, .int (nI ((pre (sTr S) (i + 1)).length))), (15, .int (nI (tT (pre (sTr S) (i + 1))))), (14, .int (nI (tA (pre (sTr S) (i + 1))))), (8, .int (nI 1)), (0, .ref (ad k 0))]) (st' := []) (by rw [pre_ge (tr := sTr S) (k := i) (by omega), pre_ge (tr := sTr S) (k := i + 1) (by omega)]; rfl) rfl ?_
          refine v_widen (z' := (84 + 12 * (i + 1), 560 + 72 * (i + 1))) (show 84 + 12 * i + 1 ≤ 84 + 12 * (i + 1) by omega) (show 560 + 72 * i + 6 ≤ 560 + 72 * (i + 1) by omega) ?_
          exact ih_L631 (i + 1) M_440 (by omega) (by omega) hA_444 hFr_446
  have B619 : ∀  (Mq : Mem), At k Mq S → FB M Mq → V C k 23 (84, 560) Mq 619 [(8, .int (nI 1)), (0, .ref (ad k 0))] [] := by
    intro  Mq hAq hFq
    refine v_iconst X (v := nI 0) (by decide) dL_built_619 ?_
    refine v_istore X [(14, .int (nI 0)), (8, .int (nI 1)), (0, .ref (ad k 0))] dL_built_620 (by decide) rfl ?_
    refine v_iconst X (v := nI 0) (by decide) dL_built_622 ?_
    refine v_istore X [(15, .int (nI 0)), (14, .int (nI 0)), (8, .int (nI 1)), (0, .ref (ad k 0))] dL_built_623 (by decide) rfl ?_
    refine v_iconst X (v := nI 0) (by decide) dL_built_625 ?_
    refine v_istore X [(16, .int (nI 0)), (15, .int (nI 0)), (14, .int (nI 0)), (8, .int (nI 1)), (0, .ref (ad k 0))] dL_built_626 (by decide) rfl ?_
    refine v_iconst X (v := nI 0) (by decide) dL_built_628 ?_
    refine v_istore X [(17, .int (nI 0)), (16, .int (nI 0)), (15, .int (nI 0)), (14, .int (nI 0)), (8, .int (nI 1)), (0, .ref (ad k 0))] dL_built_629 (by decide) rfl ?_
    refine v_cast (lv' := [(17, .int (nI 0)), (16, .int (nI ((pre (sTr S) 0).length))), (15, .int (nI (tT (pre (sTr S) 0)))), (14, .int (nI (tA (pre (sTr S) 0)))), (8, .int (nI 1)), (0, .ref (ad k 0))]) (st' := []) (by rw [pre_0]; rfl) rfl ?_
    refine v_widen (z' := (84 + 12 * 0, 560 + 72 * 0)) (show 84 ≤ 84 + 12 * 0 by omega) (show 560 ≤ 560 + 72 * 0 by omega) ?_
    exact L631 9 0 Mq (by omega) (Nat.zero_le _) hAq hFq
  have B571 : ∀  (Mq : Mem), At k Mq S → FB M Mq → V C k 23 (84, 560) Mq 571 [(8, .int (nI 1)), (5, .int (nI (cntP (isMod S.1) 256))), (0, .ref (ad k 0))] [] := by
    intro  Mq hAq hFq
    refine v_aload_n X 2 dL_built_571 rfl ?_
    refine v_callV X hCl hCR (c_X7_solve l k Mq S.1 S.2.1 S.2.2.1 S.2.2.2.1 S.2.2.2.2 hAq) cls7 hAq.obj (by omega) mo_X7_solve m_428 m_676 m_677 m_678 m_21 (by decide) rfl rfl (Nat.le_of_ble_eq_true rfl) ⟨rfl, rfl⟩ ⟨Nat.le_of_ble_eq_true rfl, Nat.le_of_ble_eq_true rfl⟩ dL_built_572 (vI_in (fun r_450 M_448 h_449 => ?_))
    obtain ⟨hr_451, hA_452, hF_453⟩ : r_450 = solveF 25 0 S.1 (sNew S.1 []) ∧ At k M_448 S ∧ Fr 0 93 Mq M_448 := h_449
    subst hr_451
    have hFr_454 := hFq.tr hF_453
    refine v_istore X [(13, .int (solveF 25 0 S.1 (sNew S.1 []))), (8, .int (nI 1)), (5, .int (nI (cntP (isMod S.1) 256))), (0, .ref (ad k 0))] dL_built_575 (by decide) rfl ?_
    refine v_iload X 1 dL_built_577 rfl ?_
    refine v_ieqN X 616 (by omega) dL_built_579 (by decide) (fun q_455 => absurd q_455 (by decide)) (fun _ => ?_)
    refine v_iload X 0 dL_built_582 rfl ?_
    refine v_bipush X (v := (-90)) (by decide) dL_built_584 ?_
    refine v_icmp_eq X 612 dL_built_586 (by decide) (fun hy1 => ?_) (fun hy0 => ?_)
    · refine v_iconst X (v := nI 1) (by decide) dL_built_612 ?_
      refine v_goto X 617 dL_built_613 (by decide) ?_
      refine v_istore X [(8, .int (nI 1)), (13, .int (solveF 25 0 S.1 (sNew S.1 []))), (5, .int (nI (cntP (isMod S.1) 256))), (0, .ref (ad k 0))] dL_built_617 (by decide) rfl ?_
      refine v_lv [0, 3] rfl ?_
      exact B619  M_448  hA_452 hFr_454
    · refine v_iload X 0 dL_built_589 rfl ?_
      refine v_if_lt X 598 dL_built_591 (by decide) (fun hl1 => ?_) (fun hl0 => ?_)
      · have hm0 : cntP (isMod S.1) 256 = 0 := by
          rcases Nat.eq_zero_or_pos (cntP (isMod S.1) 256) with h | h
          · exact h
          · exact absurd hl1 (((solve_sol hcs).law hy0).mpr h)
        refine v_iconst X (v := nI 0) (by decide) dL_built_598 ?_
        refine v_iload X 2 dL_built_599 rfl ?_
        refine v_ileN X 608 (by have := cntP_le (isMod S.1) 256; omega) dL_built_601 (by decide) (fun _ => ?_) (fun q_456 => absurd q_456 (by omega))
        refine v_iconst X (v := nI 0) (by decide) dL_built_608 ?_
        refine v_cneN X 616 (by omega) (by omega) dL_built_609 (by decide) (fun q_457 => absurd rfl q_457) (fun _ => ?_)
        refine v_iconst X (v := nI 1) (by decide) dL_built_612 ?_
        refine v_goto X 617 dL_built_613 (by decide) ?_
        refine v_istore X [(8, .int (nI 1)), (13, .int (solveF 25 0 S.1 (sNew S.1 []))), (5, .int (nI (cntP (isMod S.1) 256))), (0, .ref (ad k 0))] dL_built_617 (by decide) rfl ?_
        refine v_lv [0, 3] rfl ?_
        exact B619  M_448  hA_452 hFr_454
      · have hm1 : 0 < cntP (isMod S.1) 256 := ((solve_sol hcs).law hy0).mp hl0
        refine v_iconst X (v := nI 1) (by decide) dL_built_594 ?_
        refine v_goto X 599 dL_built_595 (by decide) ?_
        refine v_iload X 2 dL_built_599 rfl ?_
        refine v_ileN X 608 (by have := cntP_le (isMod S.1) 256; omega) dL_built_601 (by decide) (fun q_458 => absurd q_458 (by omega)) (fun _ => ?_)
        refine v_iconst X (v := nI 1) (by decide) dL_built_604 ?_
        refine v_goto X 609 dL_built_605 (by decide) ?_
        refine v_cneN X 616 (by omega) (by omega) dL_built_609 (by decide) (fun q_459 => absurd rfl q_459) (fun _ => ?_)
        refine v_iconst X (v := nI 1) (by decide) dL_built_612 ?_
        refine v_goto X 617 dL_built_613 (by decide) ?_
        refine v_istore X [(8, .int (nI 1)), (13, .int (solveF 25 0 S.1 (sNew S.1 []))), (5, .int (nI (cntP (isMod S.1) 256))), (0, .ref (ad k 0))] dL_built_617 (by decide) rfl ?_
        refine v_lv [0, 3] rfl ?_
        exact B619  M_448  hA_452 hFr_454
  have B529 : ∀  (Mq : Mem), At k Mq S → FB M Mq → V C k 23 (84, 560) Mq 529 [(8, .int (nI 1)), (7, .int (nI (cntP (fun b => cF S.1 (coreO S.1) b S.1.length) 256))), (5, .int (nI (cntP (isMod S.1) 256))), (2, .int (oI (coreO S.1))), (0, .ref (ad k 0))] [] := by
    intro  Mq hAq hFq
    refine v_iload_n X 3 dL_built_529 rfl ?_
    refine v_bipush X (v := (-9)) (by decide) dL_built_530 ?_
    refine v_icmp_ne X 539 dL_built_532 (by decide) (fun hx1 => ?_) (fun hx0 => ?_)
    · obtain ⟨cc, hcc⟩ : ∃ cc, coreO S.1 = some cc := by
        cases hz : coreO S.1 with
        | none => exact absurd (by rw [hz]; rfl) hx1
        | some c => exact ⟨c, rfl⟩
      have hm0 : cntP (isMod S.1) 256 = 0 := by
        rcases Nat.eq_zero_or_pos (cntP (isMod S.1) 256) with h | h
        · exact h
        · rw [core_none.mpr h] at hcc; cases hcc
      have hin0 := core_cnt hcc
      refine v_iconst X (v := nI 0) (by decide) dL_built_539 ?_
      refine v_iload X 2 dL_built_540 rfl ?_
      refine v_ileN X 549 (by have := cntP_le (isMod S.1) 256; omega) dL_built_542 (by decide) (fun _ => ?_) (fun q_460 => absurd q_460 (by omega))
      refine v_iconst X (v := nI 0) (by decide) dL_built_549 ?_
      refine v_cneN X 568 (by omega) (by omega) dL_built_550 (by decide) (fun q_461 => absurd rfl q_461) (fun _ => ?_)
      refine v_iload_n X 3 dL_built_553 rfl ?_
      refine v_bipush X (v := (-9)) (by decide) dL_built_554 ?_
      refine v_icmp_eq X 564 dL_built_556 (by decide) (fun q_462 => absurd q_462 hx1) (fun _ => ?_)
      refine v_iload X 1 dL_built_559 rfl ?_
      refine v_ineN X 568 (by rw [hin0]; decide) dL_built_561 (by decide) (fun q_463 => absurd hin0 q_463) (fun _ => ?_)
      refine v_iconst X (v := nI 1) (by decide) dL_built_564 ?_
      refine v_goto X 569 dL_built_565 (by decide) ?_
      refine v_istore X [(8, .int (nI 1)), (7, .int (nI (cntP (fun b => cF S.1 (coreO S.1) b S.1.length) 256))), (5, .int (nI (cntP (isMod S.1) 256))), (2, .int (oI (coreO S.1))), (0, .ref (ad k 0))] dL_built_569 (by decide) rfl ?_
      refine v_lv [0, 2, 4] rfl ?_
      exact B571  Mq  hAq hFq
    · have hm1 : 0 < cntP (isMod S.1) 256 := core_none.mp ((oI_eq hcoL).mp hx0)
      refine v_iconst X (v := nI 1) (by decide) dL_built_535 ?_
      refine v_goto X 540 dL_built_536 (by decide) ?_
      refine v_iload X 2 dL_built_540 rfl ?_
      refine v_ileN X 549 (by have := cntP_le (isMod S.1) 256; omega) dL_built_542 (by decide) (fun q_464 => absurd q_464 (by omega)) (fun _ => ?_)
      refine v_iconst X (v := nI 1) (by decide) dL_built_545 ?_
      refine v_goto X 550 dL_built_546 (by decide) ?_
      refine v_cneN X 568 (by omega) (by omega) dL_built_550 (by decide) (fun q_465 => absurd rfl q_465) (fun _ => ?_)
      refine v_iload_n X 3 dL_built_553 rfl ?_
      refine v_bipush X (v := (-9)) (by decide) dL_built_554 ?_
      refine v_icmp_eq X 564 dL_built_556 (by decide) (fun _ => ?_) (fun q_466 => absurd hx0 q_466)
      refine v_iconst X (v := nI 1) (by decide) dL_built_564 ?_
      refine v_goto X 569 dL_built_565 (by decide) ?_
      refine v_istore X [(8, .int (nI 1)), (7, .int (nI (cntP (fun b => cF S.1 (coreO S.1) b S.1.length) 256))), (5, .int (nI (cntP (isMod S.1) 256))), (2, .int (oI (coreO S.1))), (0, .ref (ad k 0))] dL_built_569 (by decide) rfl ?_
      refine v_lv [0, 2, 4] rfl ?_
      exact B571  Mq  hAq hFq
  have L60 : ∀ (fu : Nat) (i : Nat) (f1 f2 f3 g4 : Nat → Nat) (Mq : Mem), S.1.length - i < fu → (i ≤ S.1.length) → (∀ j, j < i → f1 j = xKind (cAt S.1 j)) → (∀ j, j < i → f2 j = xFirst (cAt S.1 j)) → (∀ j, j < i → f3 j = xSecond (cAt S.1 j)) → At k Mq S → FB M Mq → Mq 186 = .inl (kI k, 24, .inl (fun zq => nI (f1 zq))) → Mq 187 = .inl (kI k, 24, .inl (fun zq => nI (f2 zq))) → Mq 188 = .inl (kI k, 24, .inl (fun zq => nI (f3 zq))) → Mq 189 = .inl (kI k, 8, .inl (fun zq => nI (g4 zq))) → V C k 23 (4 + 3 * i, 80 + 18 * i) Mq 60 [(13, .int (nI i)), (12, .ref (ad k 189)), (11, .ref (ad k 188)), (10, .ref (ad k 187)), (9, .ref (ad k 186)), (8, .int (nI 1)), (7, .int (nI 0)), (6, .int (nI 0)), (5, .int (nI 0)), (4, .int (bI ((elRun S.1).2.2))), (3, .int (nI ((elRun S.1).2.1))), (2, .int (oI (coreO S.1))), (1, .int (nI S.1.length)), (0, .ref (ad k 0))] [] := by
    intro fu
    induction fu with
    | zero => intro i f1 f2 f3 g4 Mq hfu; exact absurd hfu (Nat.not_lt_zero _)
    | succ fu ih_L60 =>
      intro i f1 f2 f3 g4 Mq hfu hi h1 h2 h3 hAq hFq G1 G2 G3 G4
      refine v_iload X 0 dL_built_60 rfl ?_
      refine v_iload_n X 12 dL_built_62 rfl ?_
      refine v_cgeN X 105 (by omega) (by omega) dL_built_63 (by decide) (fun c_1 => ?_) (fun c_2 => ?_)
      · have hi_ : i = S.1.length := by omega
        subst hi_
        refine v_lv [1, 2, 3, 4, 5, 6, 7, 8, 9, 10, 11, 12, 13] rfl ?_
        have B136 : ∀ (g4 : Nat → Nat) (Mq : Mem), ((elRun S.1).2.2 = true → ∀ j, j < (elRun S.1).2.1 → g4 j = elLine S.1 j) → At k Mq S → FB M Mq → Mq 186 = .inl (kI k, 24, .inl (fun zq => nI (f1 zq))) → Mq 187 = .inl (kI k, 24, .inl (fun zq => nI (f2 zq))) → Mq 188 = .inl (kI k, 24, .inl (fun zq => nI (f3 zq))) → Mq 189 = .inl (kI k, 8, .inl (fun zq => nI (g4 zq))) → V C k 23 (84, 560) Mq 136 [(12, .ref (ad k 189)), (11, .ref (ad k 188)), (10, .ref (ad k 187)), (9, .ref (ad k 186)), (8, .int (nI 1)), (7, .int (nI 0)), (6, .int (nI 0)), (5, .int (nI 0)), (4, .int (bI ((elRun S.1).2.2))), (3, .int (nI ((elRun S.1).2.1))), (2, .int (oI (coreO S.1))), (1, .int (nI S.1.length)), (0, .ref (ad k 0))] [] := by
          intro g4 Mq h5 hAq hFq G1 G2 G3 G4
          have L139 : ∀ (fu : Nat) (a : Nat) (Mq : Mem), 256 - a < fu → (a ≤ 256) → At k Mq S → FB M Mq → Mq 186 = .inl (kI k, 24, .inl (fun zq => nI (f1 zq))) → Mq 187 = .inl (kI k, 24, .inl (fun zq => nI (f2 zq))) → Mq 188 = .inl (kI k, 24, .inl (fun zq => nI (f3 zq))) → Mq 189 = .inl (kI k, 8, .inl (fun zq => nI (g4 zq))) → V C k 23 (84, 560) Mq 139 [(13, .int (nI a)), (8, .int (nI 1)), (7, .int (nI (cntP (fun b => cF S.1 (coreO S.1) b S.1.length) a))), (6, .int (nI (cntP (fun b => pF S.1 b S.1.length) a))), (5, .int (nI (cntP (isMod S.1) a))), (12, .ref (ad k 189)), (11, .ref (ad k 188)), (10, .ref (ad k 187)), (9, .ref (ad k 186)), (4, .int (bI ((elRun S.1).2.2))), (3, .int (nI ((elRun S.1).2.1))), (2, .int (oI (coreO S.1))), (1, .int (nI S.1.length)), (0, .ref (ad k 0))] [] := by
            intro fu
            induction fu with
            | zero => intro a Mq hfu; exact absurd hfu (Nat.not_lt_zero _)
            | succ fu ih_L139 =>
              intro a Mq hfu ha hAq hFq G1 G2 G3 G4
              refine v_iload X 0 dL_built_139 rfl ?_
              refine v_sipush X (v := nI 256) (by decide) dL_built_141 ?_
              refine v_cgeN X 474 (by omega) (by omega) dL_built_144 (by decide) (fun c_7 => ?_) (fun c_8 => ?_)
              · have ha_ : a = 256 := by omega
                subst ha_
                refine v_iload X 1 dL_built_474 rfl ?_
                refine v_ieqN X 568 (by omega) dL_built_476 (by decide) (fun q_467 => absurd q_467 (by decide)) (fun _ => ?_)
                refine v_aload_n X 13 dL_built_479 rfl ?_
                refine v_callV X hCl hCR (c_X7_modelCount l k Mq S.1 S.2.1 S.2.2.1 S.2.2.2.1 S.2.2.2.2 hAq) cls7 hAq.obj (by omega) mo_X7_modelCount m_400 m_667 m_668 m_669 m_21 (by decide) rfl rfl (Nat.le_of_ble_eq_true rfl) ⟨rfl, rfl⟩ ⟨Nat.le_of_ble_eq_true rfl, Nat.le_of_ble_eq_true rfl⟩ dL_built_480 (vI_in (fun r_470 M_468 h_469 => ?_))
                obtain ⟨hr_471, hA_472, hF_473⟩ : r_470 = nI (cntP (isMod S.1) 256) ∧ At k M_468 S ∧ Fr 0 93 Mq M_468 := h_469
                subst hr_471
                have hFr_474 := hFq.tr hF_473
                have G_475 : M_468 186 = .inl (kI k, 24, .inl (fun zq => nI (f1 zq))) := by rw [hF_473 186 (Or.inr (by decide))]; exact G1
                have G_476 : M_468 187 = .inl (kI k, 24, .inl (fun zq => nI (f2 zq))) := by rw [hF_473 187 (Or.inr (by decide))]; exact G2
                have G_477 : M_468 188 = .inl (kI k, 24, .inl (fun zq => nI (f3 zq))) := by rw [hF_473 188 (Or.inr (by decide))]; exact G3
                have G_478 : M_468 189 = .inl (kI k, 8, .inl (fun zq => nI (g4 zq))) := by rw [hF_473 189 (Or.inr (by decide))]; exact G4
                refine v_iload X 4 dL_built_483 rfl ?_
                refine v_icmp_ne X 568 dL_built_485 (by decide) (fun q_479 => absurd rfl q_479) (fun _ => ?_)
                refine v_aload_n X 13 dL_built_488 rfl ?_
                refine v_iload X 4 dL_built_489 rfl ?_
                refine v_callV X hCl hCR (c_X7_model l k M_468 S.1 S.2.1 S.2.2.1 S.2.2.2.1 S.2.2.2.2 (nI (cntP (isMod S.1) 256)) hA_472) cls7 hA_472.obj (by omega) mo_X7_model m_404 m_625 m_626 m_627 m_21 (by decide) rfl rfl (Nat.le_of_ble_eq_true rfl) ⟨rfl, rfl⟩ ⟨Nat.le_of_ble_eq_true rfl, Nat.le_of_ble_eq_true rfl⟩ dL_built_491 (vI_in (fun r_482 M_480 h_481 => ?_))
                obtain ⟨hr_483, hA_484, hF_485⟩ : r_482 = oI (nthF (isMod S.1) (nI (cntP (isMod S.1) 256)) 256 0 0) ∧ At k M_480 S ∧ Fr 0 93 M_468 M_480 := h_481
                subst hr_483
                have hFr_486 := hFr_474.tr hF_485
                have G_487 : M_480 186 = .inl (kI k, 24, .inl (fun zq => nI (f1 zq))) := by rw [hF_485 186 (Or.inr (by decide))]; exact G_475
                have G_488 : M_480 187 = .inl (kI k, 24, .inl (fun zq => nI (f2 zq))) := by rw [hF_485 187 (Or.inr (by decide))]; exact G_476
                have G_489 : M_480 188 = .inl (kI k, 24, .inl (fun zq => nI (f3 zq))) := by rw [hF_485 188 (Or.inr (by decide))]; exact G_477
                have G_490 : M_480 189 = .inl (kI k, 8, .inl (fun zq => nI (g4 zq))) := by rw [hF_485 189 (Or.inr (by decide))]; exact G_478
                rw [mod_end, oI_none]
                refine v_bipush X (v := (-9)) (by decide) dL_built_494 ?_
                refine v_icmp_ne X 568 dL_built_496 (by decide) (fun q_491 => absurd rfl q_491) (fun _ => ?_)
                refine v_iload X 9 dL_built_499 rfl ?_
                refine v_iload X 3 dL_built_501 rfl ?_
                refine v_ileN X 510 (by have := cntP_le (fun b => pF S.1 b S.1.length) 256; omega) dL_built_503 (by decide) (fun hz0 => ?_) (fun hz1 => ?_)
                · have hcon : (elRun S.1).2.2 = false := by
                    cases hz : (elRun S.1).2.2 with
                    | false => rfl
                    | true => have h6 := (el_cons hcs).mp hz; omega
                  refine v_iconst X (v := nI 0) (by decide) dL_built_510 ?_
                  refine v_icmp_ne X 568 dL_built_511 (by decide) (fun q_492 => absurd (by rw [hcon]; rfl) q_492) (fun _ => ?_)
                  refine v_iload X 9 dL_built_514 rfl ?_
                  refine v_ieqB X 529 dL_built_516 (by decide) (fun _ => ?_) (fun q_493 => absurd q_493 (by rw [hcon]; simp))
                  refine v_lv [1, 2, 4, 11, 13] rfl ?_
                  exact B529  M_480  hA_484 hFr_486
                · have hcon : (elRun S.1).2.2 = true := (el_cons hcs).mpr (by omega)
                  refine v_iconst X (v := nI 1) (by decide) dL_built_506 ?_
                  refine v_goto X 511 dL_built_507 (by decide) ?_
                  refine v_icmp_ne X 568 dL_built_511 (by decide) (fun q_494 => absurd (by rw [hcon]; rfl) q_494) (fun _ => ?_)
                  refine v_iload X 9 dL_built_514 rfl ?_
                  refine v_ieqB X 529 dL_built_516 (by decide) (fun q_495 => absurd q_495 (by rw [hcon]; simp)) (fun _ => ?_)
                  refine v_iload X 3 dL_built_519 rfl ?_
                  refine v_sipush X (v := nI 256) (by decide) dL_built_521 ?_
                  refine v_iload_n X 10 dL_built_524 rfl ?_
                  refine v_shrN X (by omega) (by omega) dL_built_525 ?_
                  refine v_icmp_ne X 568 dL_built_526 (by decide) (fun q_496 => absurd (congrArg nI (el_cnt hcs hcon)) q_496) (fun _ => ?_)
                  refine v_lv [1, 2, 4, 11, 13] rfl ?_
                  exact B529  M_480  hA_484 hFr_486
              · refine v_iload X 1 dL_built_147 rfl ?_
                refine v_ieqN X 474 (by omega) dL_built_149 (by decide) (fun q_497 => absurd q_497 (by decide)) (fun _ => ?_)
                have B383 : ∀  (Mq : Mem), At k Mq S → FB M Mq → Mq 186 = .inl (kI k, 24, .inl (fun zq => nI (f1 zq))) → Mq 187 = .inl (kI k, 24, .inl (fun zq => nI (f2 zq))) → Mq 188 = .inl (kI k, 24, .inl (fun zq => nI (f3 zq))) → Mq 189 = .inl (kI k, 8, .inl (fun zq => nI (g4 zq))) → V C k 23 (84, 560) Mq 383 [(16, .int (bI (cF S.1 (coreO S.1) a S.1.length))), (15, .int (bI (pF S.1 a S.1.length))), (14, .int (bI (aF S.1 a S.1.length))), (13, .int (nI a)), (8, .int (nI 1)), (7, .int (nI (cntP (fun b => cF S.1 (coreO S.1) b S.1.length) (a + 1)))), (6, .int (nI (cntP (fun b => pF S.1 b S.1.length) (a + 1)))), (5, .int (nI (cntP (isMod S.1) (a + 1)))), (12, .ref (ad k 189)), (11, .ref (ad k 188)), (10, .ref (ad k 187)), (9, .ref (ad k 186)), (4, .int (bI ((elRun S.1).2.2))), (3, .int (nI ((elRun S.1).2.1))), (2, .int (oI (coreO S.1))), (1, .int (nI S.1.length)), (0, .ref (ad k 0))] [] := by
                  intro  Mq hAq hFq G1 G2 G3 G4
                  have L389 : ∀ (fu : Nat) (j : Nat) (Mq : Mem), (elRun S.1).2.1 - j < fu → (j ≤ (elRun S.1).2.1) → At k Mq S → FB M Mq → Mq 186 = .inl (kI k, 24, .inl (fun zq => nI (f1 zq))) → Mq 187 = .inl (kI k, 24, .inl (fun zq => nI (f2 zq))) → Mq 188 = .inl (kI k, 24, .inl (fun zq => nI (f3 zq))) → Mq 189 = .inl (kI k, 8, .inl (fun zq => nI (g4 zq))) → V C k 23 (84, 560) Mq 389 [(18, .int (nI j)), (17, .int (bI (rF S.1 a j))), (16, .int (bI (cF S.1 (coreO S.1) a S.1.length))), (15, .int (bI (pF S.1 a S.1.length))), (14, .int (bI (aF S.1 a S.1.length))), (13, .int (nI a)), (8, .int (nI 1)), (7, .int (nI (cntP (fun b => cF S.1 (coreO S.1) b S.1.length) (a + 1)))), (6, .int (nI (cntP (fun b => pF S.1 b S.1.length) (a + 1)))), (5, .int (nI (cntP (isMod S.1) (a + 1)))), (12, .ref (ad k 189)), (11, .ref (ad k 188)), (10, .ref (ad k 187)), (9, .ref (ad k 186)), (4, .int (bI ((elRun S.1).2.2))), (3, .int (nI ((elRun S.1).2.1))), (2, .int (oI (coreO S.1))), (1, .int (nI S.1.length)), (0, .ref (ad k 0))] [] := by
                    intro fu
                    induction fu with
                    | zero => intro j Mq hfu; exact absurd hfu (Nat.not_lt_zero _)
                    | succ fu ih_L389 =>
                      intro j Mq hfu hj hAq hFq G1 G2 G3 G4
                      refine v_iload X 0 dL_built_389 rfl ?_
                      refine v_iload_n X 15 dL_built_391 rfl ?_
                      refine v_cgeN X 444 (by omega) (by omega) dL_built_392 (by decide) (fun hj1 => ?_) (fun hj2 => ?_)
                      · have hj_ : j = (elRun S.1).2.1 := by omega
                        subst hj_
                        refine v_iload X 6 dL_built_444 rfl ?_
                        refine v_ieqN X 465 (by omega) dL_built_446 (by decide) (fun q_498 => absurd q_498 (by decide)) (fun _ => ?_)
                        refine v_iload X 14 dL_built_449 rfl ?_
                        refine v_ieqB X 461 dL_built_451 (by decide) (fun hc7 => ?_) (fun hc8 => ?_)
                        · refine v_iconst X (v := nI 1) (by decide) dL_built_461 ?_
                          refine v_goto X 466 dL_built_462 (by decide) ?_
                          refine v_istore X [(8, .int (nI 1)), (18, .int (nI ((elRun S.1).2.1))), (17, .int (bI (rF S.1 a (elRun S.1).2.1))), (16, .int (bI (cF S.1 (coreO S.1) a S.1.length))), (15, .int (bI (pF S.1 a S.1.length))), (14, .int (bI (aF S.1 a S.1.length))), (13, .int (nI a)), (7, .int (nI (cntP (fun b => cF S.1 (coreO S.1) b S.1.length) (a + 1)))), (6, .int (nI (cntP (fun b => pF S.1 b S.1.length) (a + 1)))), (5, .int (nI (cntP (isMod S.1) (a + 1)))), (12, .ref (ad k 189)), (11, .ref (ad k 188)), (10, .ref (ad k 187)), (9, .ref (ad k 186)), (4, .int (bI ((elRun S.1).2.2))), (3, .int (nI ((elRun S.1).2.1))), (2, .int (oI (coreO S.1))), (1, .int (nI S.1.length)), (0, .ref (ad k 0))] dL_built_466 (by decide) rfl ?_
                          refine v_iinc X (v := nI (a + 1)) 6 [(13, .int (nI (a + 1))), (8, .int (nI 1)), (18, .int (nI ((elRun S.1).2.1))), (17, .int (bI (rF S.1 a (elRun S.1).2.1))), (16, .int (bI (cF S.1 (coreO S.1) a S.1.length))), (15, .int (bI (pF S.1 a S.1.length))), (14, .int (bI (aF S.1 a S.1.length))), (7, .int (nI (cntP (fun b => cF S.1 (coreO S.1) b S.1.length) (a + 1)))), (6, .int (nI (cntP (fun b => pF S.1 b S.1.length) (a + 1)))), (5, .int (nI (cntP (isMod S.1) (a + 1)))), (12, .ref (ad k 189)), (11, .ref (ad k 188)), (10, .ref (ad k 187)), (9, .ref (ad k 186)), (4, .int (bI ((elRun S.1).2.2))), (3, .int (nI ((elRun S.1).2.1))), (2, .int (oI (coreO S.1))), (1, .int (nI S.1.length)), (0, .ref (ad k 0))] dL_built_468 rfl (nI_1 _) (by decide) rfl ?_
                          refine v_goto X 139 dL_built_471 (by decide) ?_
                          refine v_lv [0, 1, 7, 8, 9, 10, 11, 12, 13, 14, 15, 16, 17, 18] rfl ?_
                          exact ih_L139 (a + 1) Mq (by omega) (by omega) hAq hFq G1 G2 G3 G4
                        · refine v_iload X 1 dL_built_454 rfl ?_
                          refine v_iload X 3 dL_built_456 rfl ?_
                          refine v_cneB X 465 dL_built_458 (by decide) (fun q_499 => absurd q_499 (fun q => q (el_rows hcs hc8))) (fun _ => ?_)
                          refine v_iconst X (v := nI 1) (by decide) dL_built_461 ?_
                          refine v_goto X 466 dL_built_462 (by decide) ?_
                          refine v_istore X [(8, .int (nI 1)), (18, .int (nI ((elRun S.1).2.1))), (17, .int (bI (rF S.1 a (elRun S.1).2.1))), (16, .int (bI (cF S.1 (coreO S.1) a S.1.length))), (15, .int (bI (pF S.1 a S.1.length))), (14, .int (bI (aF S.1 a S.1.length))), (13, .int (nI a)), (7, .int (nI (cntP (fun b => cF S.1 (coreO S.1) b S.1.length) (a + 1)))), (6, .int (nI (cntP (fun b => pF S.1 b S.1.length) (a + 1)))), (5, .int (nI (cntP (isMod S.1) (a + 1)))), (12, .ref (ad k 189)), (11, .ref (ad k 188)), (10, .ref (ad k 187)), (9, .ref (ad k 186)), (4, .int (bI ((elRun S.1).2.2))), (3, .int (nI ((elRun S.1).2.1))), (2, .int (oI (coreO S.1))), (1, .int (nI S.1.length)), (0, .ref (ad k 0))] dL_built_466 (by decide) rfl ?_
                          refine v_iinc X (v := nI (a + 1)) 6 [(13, .int (nI (a + 1))), (8, .int (nI 1)), (18, .int (nI ((elRun S.1).2.1))), (17, .int (bI (rF S.1 a (elRun S.1).2.1))), (16, .int (bI (cF S.1 (coreO S.1) a S.1.length))), (15, .int (bI (pF S.1 a S.1.length))), (14, .int (bI (aF S.1 a S.1.length))), (7, .int (nI (cntP (fun b => cF S.1 (coreO S.1) b S.1.length) (a + 1)))), (6, .int (nI (cntP (fun b => pF S.1 b S.1.length) (a + 1)))), (5, .int (nI (cntP (isMod S.1) (a + 1)))), (12, .ref (ad k 189)), (11, .ref (ad k 188)), (10, .ref (ad k 187)), (9, .ref (ad k 186)), (4, .int (bI ((elRun S.1).2.2))), (3, .int (nI ((elRun S.1).2.1))), (2, .int (oI (coreO S.1))), (1, .int (nI S.1.length)), (0, .ref (ad k 0))] dL_built_468 rfl (nI_1 _) (by decide) rfl ?_
                          refine v_goto X 139 dL_built_471 (by decide) ?_
                          refine v_lv [0, 1, 7, 8, 9, 10, 11, 12, 13, 14, 15, 16, 17, 18] rfl ?_
                          exact ih_L139 (a + 1) Mq (by omega) (by omega) hAq hFq G1 G2 G3 G4
                      · refine v_iload X 14 dL_built_395 rfl ?_
                        refine v_ieqB X 444 dL_built_397 (by decide) (fun hc5 => ?_) (fun hc6 => ?_)
                        · refine v_iload X 6 dL_built_444 rfl ?_
                          refine v_ieqN X 465 (by omega) dL_built_446 (by decide) (fun q_500 => absurd q_500 (by decide)) (fun _ => ?_)
                          refine v_iload X 14 dL_built_449 rfl ?_
                          refine v_ieqB X 461 dL_built_451 (by decide) (fun _ => ?_) (fun q_501 => absurd q_501 (by rw [hc5]; simp))
                          refine v_iconst X (v := nI 1) (by decide) dL_built_461 ?_
                          refine v_goto X 466 dL_built_462 (by decide) ?_
                          refine v_istore X [(8, .int (nI 1)), (18, .int (nI j)), (17, .int (bI (rF S.1 a j))), (16, .int (bI (cF S.1 (coreO S.1) a S.1.length))), (15, .int (bI (pF S.1 a S.1.length))), (14, .int (bI (aF S.1 a S.1.length))), (13, .int (nI a)), (7, .int (nI (cntP (fun b => cF S.1 (coreO S.1) b S.1.length) (a + 1)))), (6, .int (nI (cntP (fun b => pF S.1 b S.1.length) (a + 1)))), (5, .int (nI (cntP (isMod S.1) (a + 1)))), (12, .ref (ad k 189)), (11, .ref (ad k 188)), (10, .ref (ad k 187)), (9, .ref (ad k 186)), (4, .int (bI ((elRun S.1).2.2))), (3, .int (nI ((elRun S.1).2.1))), (2, .int (oI (coreO S.1))), (1, .int (nI S.1.length)), (0, .ref (ad k 0))] dL_built_466 (by decide) rfl ?_
                          refine v_iinc X (v := nI (a + 1)) 6 [(13, .int (nI (a + 1))), (8, .int (nI 1)), (18, .int (nI j)), (17, .int (bI (rF S.1 a j))), (16, .int (bI (cF S.1 (coreO S.1) a S.1.length))), (15, .int (bI (pF S.1 a S.1.length))), (14, .int (bI (aF S.1 a S.1.length))), (7, .int (nI (cntP (fun b => cF S.1 (coreO S.1) b S.1.length) (a + 1)))), (6, .int (nI (cntP (fun b => pF S.1 b S.1.length) (a + 1)))), (5, .int (nI (cntP (isMod S.1) (a + 1)))), (12, .ref (ad k 189)), (11, .ref (ad k 188)), (10, .ref (ad k 187)), (9, .ref (ad k 186)), (4, .int (bI ((elRun S.1).2.2))), (3, .int (nI ((elRun S.1).2.1))), (2, .int (oI (coreO S.1))), (1, .int (nI S.1.length)), (0, .ref (ad k 0))] dL_built_468 rfl (nI_1 _) (by decide) rfl ?_
                          refine v_goto X 139 dL_built_471 (by decide) ?_
                          refine v_lv [0, 1, 7, 8, 9, 10, 11, 12, 13, 14, 15, 16, 17, 18] rfl ?_
                          exact ih_L139 (a + 1) Mq (by omega) (by omega) hAq hFq G1 G2 G3 G4
                        · obtain ⟨_, _, _, _, _, hel⟩ := el_row hcs (k := j) (by omega)
                          have q4 := h5 hc6 j (by omega)
                          have B436 : ∀  (Mq : Mem), At k Mq S → FB M Mq → Mq 186 = .inl (kI k, 24, .inl (fun zq => nI (f1 zq))) → Mq 187 = .inl (kI k, 24, .inl (fun zq => nI (f2 zq))) → Mq 188 = .inl (kI k, 24, .inl (fun zq => nI (f3 zq))) → Mq 189 = .inl (kI k, 8, .inl (fun zq => nI (g4 zq))) → V C k 23 (84, 560) Mq 436 [(18, .int (nI j)), (17, .int (bI (rF S.1 a j))), (16, .int (bI (cF S.1 (coreO S.1) a S.1.length))), (15, .int (bI (pF S.1 a S.1.length))), (14, .int (bI (aF S.1 a S.1.length))), (13, .int (nI a)), (8, .int (nI 1)), (7, .int (nI (cntP (fun b => cF S.1 (coreO S.1) b S.1.length) (a + 1)))), (6, .int (nI (cntP (fun b => pF S.1 b S.1.length) (a + 1)))), (5, .int (nI (cntP (isMod S.1) (a + 1)))), (12, .ref (ad k 189)), (11, .ref (ad k 188)), (10, .ref (ad k 187)), (9, .ref (ad k 186)), (4, .int (bI ((elRun S.1).2.2))), (3, .int (nI ((elRun S.1).2.1))), (2, .int (oI (coreO S.1))), (1, .int (nI S.1.length)), (0, .ref (ad k 0))] [.int (bI (rF S.1 a (j + 1)))] := by
                            intro  Mq hAq hFq G1 G2 G3 G4
                            refine v_istore X [(17, .int (bI (rF S.1 a (j + 1)))), (18, .int (nI j)), (16, .int (bI (cF S.1 (coreO S.1) a S.1.length))), (15, .int (bI (pF S.1 a S.1.length))), (14, .int (bI (aF S.1 a S.1.length))), (13, .int (nI a)), (8, .int (nI 1)), (7, .int (nI (cntP (fun b => cF S.1 (coreO S.1) b S.1.length) (a + 1)))), (6, .int (nI (cntP (fun b => pF S.1 b S.1.length) (a + 1)))), (5, .int (nI (cntP (isMod S.1) (a + 1)))), (12, .ref (ad k 189)), (11, .ref (ad k 188)), (10, .ref (ad k 187)), (9, .ref (ad k 186)), (4, .int (bI ((elRun S.1).2.2))), (3, .int (nI ((elRun S.1).2.1))), (2, .int (oI (coreO S.1))), (1, .int (nI S.1.length)), (0, .ref (ad k 0))] dL_built_436 (by decide) rfl ?_
                            refine v_iinc X (v := nI (j + 1)) 1 [(18, .int (nI (j + 1))), (17, .int (bI (rF S.1 a (j + 1)))), (16, .int (bI (cF S.1 (coreO S.1) a S.1.length))), (15, .int (bI (pF S.1 a S.1.length))), (14, .int (bI (aF S.1 a S.1.length))), (13, .int (nI a)), (8, .int (nI 1)), (7, .int (nI (cntP (fun b => cF S.1 (coreO S.1) b S.1.length) (a + 1)))), (6, .int (nI (cntP (fun b => pF S.1 b S.1.length) (a + 1)))), (5, .int (nI (cntP (isMod S.1) (a + 1)))), (12, .ref (ad k 189)), (11, .ref (ad k 188)), (10, .ref (ad k 187)), (9, .ref (ad k 186)), (4, .int (bI ((elRun S.1).2.2))), (3, .int (nI ((elRun S.1).2.1))), (2, .int (oI (coreO S.1))), (1, .int (nI S.1.length)), (0, .ref (ad k 0))] dL_built_438 rfl (nI_1 _) (by decide) rfl ?_
                            refine v_goto X 389 dL_built_441 (by decide) ?_
                            exact ih_L389 (j + 1) Mq (by omega) (by omega) hAq hFq G1 G2 G3 G4
                          refine v_iload X 1 dL_built_400 rfl ?_
                          refine v_ieqB X 435 dL_built_402 (by decide) (fun hrf => ?_) (fun hrt => ?_)
                          · refine v_iconst X (v := bI false) (by decide) dL_built_435 ?_
                            refine v_top (show (Value.int (bI false) : Value) = .int (bI (rF S.1 a (j + 1))) from congrArg _ (congrArg bI ((rF_f hrf)).symm)) ?_
                            exact B436  Mq  hAq hFq G1 G2 G3 G4
                          · refine v_aload X 10 dL_built_405 rfl ?_
                            refine v_iload X 0 dL_built_407 rfl ?_
                            refine v_iald X nI G4 (by omega) (by omega) (by decide) dL_built_409 ?_
                            refine v_top (show (Value.int (nI (g4 j)) : Value) = .int (nI (elLine S.1 j)) from congrArg _ (congrArg nI q4)) ?_
                            refine v_sipush X (v := nI 255) (by decide) dL_built_410 ?_
                            refine v_andN X dL_built_413 ?_
                            refine v_iload X 5 dL_built_414 rfl ?_
                            refine v_andN X dL_built_416 ?_
                            refine v_callS X hCl hCR (c_L_odd l k Mq (((elLine S.1 j) &&& 255) &&& a) (and_ltl (and_lt (by decide)))) mo_L_odd m_b5 m_679 m_680 m_581 (by decide) rfl rfl (Nat.le_of_ble_eq_true rfl) ⟨rfl, rfl⟩ ⟨Nat.le_of_ble_eq_true rfl, Nat.le_of_ble_eq_true rfl⟩ dL_built_417 (vP_in ?_)
                            refine v_aload X 10 dL_built_420 rfl ?_
                            refine v_iload X 0 dL_built_422 rfl ?_
                            refine v_iald X nI G4 (by omega) (by omega) (by decide) dL_built_424 ?_
                            refine v_top (show (Value.int (nI (g4 j)) : Value) = .int (nI (elLine S.1 j)) from congrArg _ (congrArg nI q4)) ?_
                            refine v_bipush X (v := nI 8) (by decide) dL_built_425 ?_
                            refine v_shrN X (by omega) (by omega) dL_built_427 ?_
                            refine v_cneN X 435 (by have := pc2_lt (n := elLine S.1 j &&& 255 &&& a) (v := 8); omega) (by have := Nat.shiftRight_le (elLine S.1 j) 8; omega) dL_built_428 (by decide) (fun hw1 => ?_) (fun hw0 => ?_)
                            · refine v_iconst X (v := bI false) (by decide) dL_built_435 ?_
                              refine v_top (show (Value.int (bI false) : Value) = .int (bI (rF S.1 a (j + 1))) from congrArg _ (congrArg bI ((rF_n hrt hw1)).symm)) ?_
                              exact B436  Mq  hAq hFq G1 G2 G3 G4
                            · refine v_iconst X (v := bI true) (by decide) dL_built_431 ?_
                              refine v_goto X 436 dL_built_432 (by decide) ?_
                              refine v_top (show (Value.int (bI true) : Value) = .int (bI (rF S.1 a (j + 1))) from congrArg _ (congrArg bI ((rF_t hrt hw0)).symm)) ?_
                              exact B436  Mq  hAq hFq G1 G2 G3 G4
                  refine v_iconst X (v := bI true) (by decide) dL_built_383 ?_
                  refine v_istore X [(17, .int (bI true)), (16, .int (bI (cF S.1 (coreO S.1) a S.1.length))), (15, .int (bI (pF S.1 a S.1.length))), (14, .int (bI (aF S.1 a S.1.length))), (13, .int (nI a)), (8, .int (nI 1)), (7, .int (nI (cntP (fun b => cF S.1 (coreO S.1) b S.1.length) (a + 1)))), (6, .int (nI (cntP (fun b => pF S.1 b S.1.length) (a + 1)))), (5, .int (nI (cntP (isMod S.1) (a + 1)))), (12, .ref (ad k 189)), (11, .ref (ad k 188)), (10, .ref (ad k 187)), (9, .ref (ad k 186)), (4, .int (bI ((elRun S.1).2.2))), (3, .int (nI ((elRun S.1).2.1))), (2, .int (oI (coreO S.1))), (1, .int (nI S.1.length)), (0, .ref (ad k 0))] dL_built_384 (by decide) rfl ?_
                  refine v_iconst X (v := nI 0) (by decide) dL_built_386 ?_
                  refine v_istore X [(18, .int (nI 0)), (17, .int (bI true)), (16, .int (bI (cF S.1 (coreO S.1) a S.1.length))), (15, .int (bI (pF S.1 a S.1.length))), (14, .int (bI (aF S.1 a S.1.length))), (13, .int (nI a)), (8, .int (nI 1)), (7, .int (nI (cntP (fun b => cF S.1 (coreO S.1) b S.1.length) (a + 1)))), (6, .int (nI (cntP (fun b => pF S.1 b S.1.length) (a + 1)))), (5, .int (nI (cntP (isMod S.1) (a + 1)))), (12, .ref (ad k 189)), (11, .ref (ad k 188)), (10, .ref (ad k 187)), (9, .ref (ad k 186)), (4, .int (bI ((elRun S.1).2.2))), (3, .int (nI ((elRun S.1).2.1))), (2, .int (oI (coreO S.1))), (1, .int (nI S.1.length)), (0, .ref (ad k 0))] dL_built_387 (by decide) rfl ?_
                  exact L389 ((elRun S.1).2.1 + 1) 0 Mq (by omega) (Nat.zero_le _) hAq hFq G1 G2 G3 G4
                have B368 : ∀  (Mq : Mem), At k Mq S → FB M Mq → Mq 186 = .inl (kI k, 24, .inl (fun zq => nI (f1 zq))) → Mq 187 = .inl (kI k, 24, .inl (fun zq => nI (f2 zq))) → Mq 188 = .inl (kI k, 24, .inl (fun zq => nI (f3 zq))) → Mq 189 = .inl (kI k, 8, .inl (fun zq => nI (g4 zq))) → V C k 23 (84, 560) Mq 368 [(16, .int (bI (cF S.1 (coreO S.1) a S.1.length))), (15, .int (bI (pF S.1 a S.1.length))), (14, .int (bI (aF S.1 a S.1.length))), (13, .int (nI a)), (8, .int (nI 1)), (7, .int (nI (cntP (fun b => cF S.1 (coreO S.1) b S.1.length) a))), (6, .int (nI (cntP (fun b => pF S.1 b S.1.length) (a + 1)))), (5, .int (nI (cntP (isMod S.1) (a + 1)))), (12, .ref (ad k 189)), (11, .ref (ad k 188)), (10, .ref (ad k 187)), (9, .ref (ad k 186)), (4, .int (bI ((elRun S.1).2.2))), (3, .int (nI ((elRun S.1).2.1))), (2, .int (oI (coreO S.1))), (1, .int (nI S.1.length)), (0, .ref (ad k 0))] [] := by
                  intro  Mq hAq hFq G1 G2 G3 G4
                  refine v_iload X 5 dL_built_368 rfl ?_
                  refine v_iload X 0 dL_built_370 rfl ?_
                  refine v_ieqB X 379 dL_built_372 (by decide) (fun hr0 => ?_) (fun hr1 => ?_)
                  · refine v_iconst X (v := nI 0) (by decide) dL_built_379 ?_
                    refine v_addN X dL_built_380 ?_
                    refine v_top (show (Value.int (nI ((cntP (fun b => cF S.1 (coreO S.1) b S.1.length) a) + 0)) : Value) = .int (nI (cntP (fun b => cF S.1 (coreO S.1) b S.1.length) (a + 1))) from congrArg _ ((congrArg nI (show _ = cntP (fun b => cF S.1 (coreO S.1) b S.1.length) (a + 1) from (cnt_f (p := fun b => cF S.1 (coreO S.1) b S.1.length) hr0).symm)))) ?_
                    refine v_istore X [(7, .int (nI (cntP (fun b => cF S.1 (coreO S.1) b S.1.length) (a + 1)))), (16, .int (bI (cF S.1 (coreO S.1) a S.1.length))), (15, .int (bI (pF S.1 a S.1.length))), (14, .int (bI (aF S.1 a S.1.length))), (13, .int (nI a)), (8, .int (nI 1)), (6, .int (nI (cntP (fun b => pF S.1 b S.1.length) (a + 1)))), (5, .int (nI (cntP (isMod S.1) (a + 1)))), (12, .ref (ad k 189)), (11, .ref (ad k 188)), (10, .ref (ad k 187)), (9, .ref (ad k 186)), (4, .int (bI ((elRun S.1).2.2))), (3, .int (nI ((elRun S.1).2.1))), (2, .int (oI (coreO S.1))), (1, .int (nI S.1.length)), (0, .ref (ad k 0))] dL_built_381 (by decide) rfl ?_
                    refine v_lv [1, 2, 3, 4, 5, 0, 6, 7, 8, 9, 10, 11, 12, 13, 14, 15, 16] rfl ?_
                    exact B383  Mq  hAq hFq G1 G2 G3 G4
                  · refine v_iconst X (v := nI 1) (by decide) dL_built_375 ?_
                    refine v_goto X 380 dL_built_376 (by decide) ?_
                    refine v_addN X dL_built_380 ?_
                    refine v_top (show (Value.int (nI ((cntP (fun b => cF S.1 (coreO S.1) b S.1.length) a) + 1)) : Value) = .int (nI (cntP (fun b => cF S.1 (coreO S.1) b S.1.length) (a + 1))) from congrArg _ ((congrArg nI (show _ = cntP (fun b => cF S.1 (coreO S.1) b S.1.length) (a + 1) from (cnt_t (p := fun b => cF S.1 (coreO S.1) b S.1.length) hr1).symm)))) ?_
                    refine v_istore X [(7, .int (nI (cntP (fun b => cF S.1 (coreO S.1) b S.1.length) (a + 1)))), (16, .int (bI (cF S.1 (coreO S.1) a S.1.length))), (15, .int (bI (pF S.1 a S.1.length))), (14, .int (bI (aF S.1 a S.1.length))), (13, .int (nI a)), (8, .int (nI 1)), (6, .int (nI (cntP (fun b => pF S.1 b S.1.length) (a + 1)))), (5, .int (nI (cntP (isMod S.1) (a + 1)))), (12, .ref (ad k 189)), (11, .ref (ad k 188)), (10, .ref (ad k 187)), (9, .ref (ad k 186)), (4, .int (bI ((elRun S.1).2.2))), (3, .int (nI ((elRun S.1).2.1))), (2, .int (oI (coreO S.1))), (1, .int (nI S.1.length)), (0, .ref (ad k 0))] dL_built_381 (by decide) rfl ?_
                    refine v_lv [1, 2, 3, 4, 5, 0, 6, 7, 8, 9, 10, 11, 12, 13, 14, 15, 16] rfl ?_
                    exact B383  Mq  hAq hFq G1 G2 G3 G4
                have B353 : ∀  (Mq : Mem), At k Mq S → FB M Mq → Mq 186 = .inl (kI k, 24, .inl (fun zq => nI (f1 zq))) → Mq 187 = .inl (kI k, 24, .inl (fun zq => nI (f2 zq))) → Mq 188 = .inl (kI k, 24, .inl (fun zq => nI (f3 zq))) → Mq 189 = .inl (kI k, 8, .inl (fun zq => nI (g4 zq))) → V C k 23 (84, 560) Mq 353 [(16, .int (bI (cF S.1 (coreO S.1) a S.1.length))), (15, .int (bI (pF S.1 a S.1.length))), (14, .int (bI (aF S.1 a S.1.length))), (13, .int (nI a)), (8, .int (nI 1)), (7, .int (nI (cntP (fun b => cF S.1 (coreO S.1) b S.1.length) a))), (6, .int (nI (cntP (fun b => pF S.1 b S.1.length) a))), (5, .int (nI (cntP (isMod S.1) (a + 1)))), (12, .ref (ad k 189)), (11, .ref (ad k 188)), (10, .ref (ad k 187)), (9, .ref (ad k 186)), (4, .int (bI ((elRun S.1).2.2))), (3, .int (nI ((elRun S.1).2.1))), (2, .int (oI (coreO S.1))), (1, .int (nI S.1.length)), (0, .ref (ad k 0))] [] := by
                  intro  Mq hAq hFq G1 G2 G3 G4
                  refine v_iload X 6 dL_built_353 rfl ?_
                  refine v_iload X 1 dL_built_355 rfl ?_
                  refine v_ieqB X 364 dL_built_357 (by decide) (fun hq0 => ?_) (fun hq1 => ?_)
                  · refine v_iconst X (v := nI 0) (by decide) dL_built_364 ?_
                    refine v_addN X dL_built_365 ?_
                    refine v_top (show (Value.int (nI ((cntP (fun b => pF S.1 b S.1.length) a) + 0)) : Value) = .int (nI (cntP (fun b => pF S.1 b S.1.length) (a + 1))) from congrArg _ ((congrArg nI (show _ = cntP (fun b => pF S.1 b S.1.length) (a + 1) from (cnt_f (p := fun b => pF S.1 b S.1.length) hq0).symm)))) ?_
                    refine v_istore X [(6, .int (nI (cntP (fun b => pF S.1 b S.1.length) (a + 1)))), (16, .int (bI (cF S.1 (coreO S.1) a S.1.length))), (15, .int (bI (pF S.1 a S.1.length))), (14, .int (bI (aF S.1 a S.1.length))), (13, .int (nI a)), (8, .int (nI 1)), (7, .int (nI (cntP (fun b => cF S.1 (coreO S.1) b S.1.length) a))), (5, .int (nI (cntP (isMod S.1) (a + 1)))), (12, .ref (ad k 189)), (11, .ref (ad k 188)), (10, .ref (ad k 187)), (9, .ref (ad k 186)), (4, .int (bI ((elRun S.1).2.2))), (3, .int (nI ((elRun S.1).2.1))), (2, .int (oI (coreO S.1))), (1, .int (nI S.1.length)), (0, .ref (ad k 0))] dL_built_366 (by decide) rfl ?_
                    refine v_lv [1, 2, 3, 4, 5, 6, 0, 7, 8, 9, 10, 11, 12, 13, 14, 15, 16] rfl ?_
                    exact B368  Mq  hAq hFq G1 G2 G3 G4
                  · refine v_iconst X (v := nI 1) (by decide) dL_built_360 ?_
                    refine v_goto X 365 dL_built_361 (by decide) ?_
                    refine v_addN X dL_built_365 ?_
                    refine v_top (show (Value.int (nI ((cntP (fun b => pF S.1 b S.1.length) a) + 1)) : Value) = .int (nI (cntP (fun b => pF S.1 b S.1.length) (a + 1))) from congrArg _ ((congrArg nI (show _ = cntP (fun b => pF S.1 b S.1.length) (a + 1) from (cnt_t (p := fun b => pF S.1 b S.1.length) hq1).symm)))) ?_
                    refine v_istore X [(6, .int (nI (cntP (fun b => pF S.1 b S.1.length) (a + 1)))), (16, .int (bI (cF S.1 (coreO S.1) a S.1.length))), (15, .int (bI (pF S.1 a S.1.length))), (14, .int (bI (aF S.1 a S.1.length))), (13, .int (nI a)), (8, .int (nI 1)), (7, .int (nI (cntP (fun b => cF S.1 (coreO S.1) b S.1.length) a))), (5, .int (nI (cntP (isMod S.1) (a + 1)))), (12, .ref (ad k 189)), (11, .ref (ad k 188)), (10, .ref (ad k 187)), (9, .ref (ad k 186)), (4, .int (bI ((elRun S.1).2.2))), (3, .int (nI ((elRun S.1).2.1))), (2, .int (oI (coreO S.1))), (1, .int (nI S.1.length)), (0, .ref (ad k 0))] dL_built_366 (by decide) rfl ?_
                    refine v_lv [1, 2, 3, 4, 5, 6, 0, 7, 8, 9, 10, 11, 12, 13, 14, 15, 16] rfl ?_
                    exact B368  Mq  hAq hFq G1 G2 G3 G4
                have B338 : ∀  (Mq : Mem), At k Mq S → FB M Mq → Mq 186 = .inl (kI k, 24, .inl (fun zq => nI (f1 zq))) → Mq 187 = .inl (kI k, 24, .inl (fun zq => nI (f2 zq))) → Mq 188 = .inl (kI k, 24, .inl (fun zq => nI (f3 zq))) → Mq 189 = .inl (kI k, 8, .inl (fun zq => nI (g4 zq))) → V C k 23 (84, 560) Mq 338 [(16, .int (bI (cF S.1 (coreO S.1) a S.1.length))), (15, .int (bI (pF S.1 a S.1.length))), (14, .int (bI (aF S.1 a S.1.length))), (13, .int (nI a)), (8, .int (nI 1)), (7, .int (nI (cntP (fun b => cF S.1 (coreO S.1) b S.1.length) a))), (6, .int (nI (cntP (fun b => pF S.1 b S.1.length) a))), (5, .int (nI (cntP (isMod S.1) a))), (12, .ref (ad k 189)), (11, .ref (ad k 188)), (10, .ref (ad k 187)), (9, .ref (ad k 186)), (4, .int (bI ((elRun S.1).2.2))), (3, .int (nI ((elRun S.1).2.1))), (2, .int (oI (coreO S.1))), (1, .int (nI S.1.length)), (0, .ref (ad k 0))] [] := by
                  intro  Mq hAq hFq G1 G2 G3 G4
                  refine v_iload X 7 dL_built_338 rfl ?_
                  refine v_iload X 2 dL_built_340 rfl ?_
                  refine v_ieqB X 349 dL_built_342 (by decide) (fun hg2 => ?_) (fun hg3 => ?_)
                  · refine v_iconst X (v := nI 0) (by decide) dL_built_349 ?_
                    refine v_addN X dL_built_350 ?_
                    refine v_top (show (Value.int (nI ((cntP (isMod S.1) a) + 0)) : Value) = .int (nI (cntP (isMod S.1) (a + 1))) from congrArg _ ((congrArg nI (show _ = cntP (isMod S.1) (a + 1) from (cnt_f (p := isMod S.1) (by rw [← aF_mod]; exact hg2)).symm)))) ?_
                    refine v_istore X [(5, .int (nI (cntP (isMod S.1) (a + 1)))), (16, .int (bI (cF S.1 (coreO S.1) a S.1.length))), (15, .int (bI (pF S.1 a S.1.length))), (14, .int (bI (aF S.1 a S.1.length))), (13, .int (nI a)), (8, .int (nI 1)), (7, .int (nI (cntP (fun b => cF S.1 (coreO S.1) b S.1.length) a))), (6, .int (nI (cntP (fun b => pF S.1 b S.1.length) a))), (12, .ref (ad k 189)), (11, .ref (ad k 188)), (10, .ref (ad k 187)), (9, .ref (ad k 186)), (4, .int (bI ((elRun S.1).2.2))), (3, .int (nI ((elRun S.1).2.1))), (2, .int (oI (coreO S.1))), (1, .int (nI S.1.length)), (0, .ref (ad k 0))] dL_built_351 (by decide) rfl ?_
                    refine v_lv [1, 2, 3, 4, 5, 6, 7, 0, 8, 9, 10, 11, 12, 13, 14, 15, 16] rfl ?_
                    exact B353  Mq  hAq hFq G1 G2 G3 G4
                  · refine v_iconst X (v := nI 1) (by decide) dL_built_345 ?_
                    refine v_goto X 350 dL_built_346 (by decide) ?_
                    refine v_addN X dL_built_350 ?_
                    refine v_top (show (Value.int (nI ((cntP (isMod S.1) a) + 1)) : Value) = .int (nI (cntP (isMod S.1) (a + 1))) from congrArg _ ((congrArg nI (show _ = cntP (isMod S.1) (a + 1) from (cnt_t (p := isMod S.1) (by rw [← aF_mod]; exact hg3)).symm)))) ?_
                    refine v_istore X [(5, .int (nI (cntP (isMod S.1) (a + 1)))), (16, .int (bI (cF S.1 (coreO S.1) a S.1.length))), (15, .int (bI (pF S.1 a S.1.length))), (14, .int (bI (aF S.1 a S.1.length))), (13, .int (nI a)), (8, .int (nI 1)), (7, .int (nI (cntP (fun b => cF S.1 (coreO S.1) b S.1.length) a))), (6, .int (nI (cntP (fun b => pF S.1 b S.1.length) a))), (12, .ref (ad k 189)), (11, .ref (ad k 188)), (10, .ref (ad k 187)), (9, .ref (ad k 186)), (4, .int (bI ((elRun S.1).2.2))), (3, .int (nI ((elRun S.1).2.1))), (2, .int (oI (coreO S.1))), (1, .int (nI S.1.length)), (0, .ref (ad k 0))] dL_built_351 (by decide) rfl ?_
                    refine v_lv [1, 2, 3, 4, 5, 6, 7, 0, 8, 9, 10, 11, 12, 13, 14, 15, 16] rfl ?_
                    exact B353  Mq  hAq hFq G1 G2 G3 G4
                have L164 : ∀ (fu : Nat) (i : Nat) (Mq : Mem), S.1.length - i < fu → (i ≤ S.1.length) → At k Mq S → FB M Mq → Mq 186 = .inl (kI k, 24, .inl (fun zq => nI (f1 zq))) → Mq 187 = .inl (kI k, 24, .inl (fun zq => nI (f2 zq))) → Mq 188 = .inl (kI k, 24, .inl (fun zq => nI (f3 zq))) → Mq 189 = .inl (kI k, 8, .inl (fun zq => nI (g4 zq))) → V C k 23 (84, 560) Mq 164 [(17, .int (nI i)), (16, .int (bI (cF S.1 (coreO S.1) a i))), (15, .int (bI (pF S.1 a i))), (14, .int (bI (aF S.1 a i))), (13, .int (nI a)), (8, .int (nI 1)), (7, .int (nI (cntP (fun b => cF S.1 (coreO S.1) b S.1.length) a))), (6, .int (nI (cntP (fun b => pF S.1 b S.1.length) a))), (5, .int (nI (cntP (isMod S.1) a))), (12, .ref (ad k 189)), (11, .ref (ad k 188)), (10, .ref (ad k 187)), (9, .ref (ad k 186)), (4, .int (bI ((elRun S.1).2.2))), (3, .int (nI ((elRun S.1).2.1))), (2, .int (oI (coreO S.1))), (1, .int (nI S.1.length)), (0, .ref (ad k 0))] [] := by
                  intro fu
                  induction fu with
                  | zero => intro i Mq hfu; exact absurd hfu (Nat.not_lt_zero _)
                  | succ fu ih_L164 =>
                    intro i Mq hfu hi hAq hFq G1 G2 G3 G4
                    refine v_iload X 0 dL_built_164 rfl ?_
                    refine v_iload_n X 16 dL_built_166 rfl ?_
                    refine v_cgeN X 315 (by omega) (by omega) dL_built_167 (by decide) (fun c_9 => ?_) (fun c_10 => ?_)
                    · have hi_ : i = S.1.length := by omega
                      subst hi_
                      refine v_iload X 3 dL_built_315 rfl ?_
                      refine v_ieqB X 331 dL_built_317 (by decide) (fun hg0 => ?_) (fun hg1 => ?_)
                      · refine v_iconst X (v := nI 1) (by decide) dL_built_331 ?_
                        refine v_goto X 336 dL_built_332 (by decide) ?_
                        refine v_istore X [(8, .int (nI 1)), (17, .int (nI S.1.length)), (16, .int (bI (cF S.1 (coreO S.1) a S.1.length))), (15, .int (bI (pF S.1 a S.1.length))), (14, .int (bI (aF S.1 a S.1.length))), (13, .int (nI a)), (7, .int (nI (cntP (fun b => cF S.1 (coreO S.1) b S.1.length) a))), (6, .int (nI (cntP (fun b => pF S.1 b S.1.length) a))), (5, .int (nI (cntP (isMod S.1) a))), (12, .ref (ad k 189)), (11, .ref (ad k 188)), (10, .ref (ad k 187)), (9, .ref (ad k 186)), (4, .int (bI ((elRun S.1).2.2))), (3, .int (nI ((elRun S.1).2.1))), (2, .int (oI (coreO S.1))), (1, .int (nI S.1.length)), (0, .ref (ad k 0))] dL_built_336 (by decide) rfl ?_
                        refine v_lv [2, 3, 4, 5, 0, 6, 7, 8, 9, 10, 11, 12, 13, 14, 15, 16, 17] rfl ?_
                        exact B338  Mq  hAq hFq G1 G2 G3 G4
                      · have hmod : isMod S.1 a = true := by rw [← aF_mod]; exact hg1
                        refine v_aload_n X 17 dL_built_320 rfl ?_
                        refine v_iload X 8 dL_built_321 rfl ?_
                        refine v_callV X hCl hCR (c_X7_model l k Mq S.1 S.2.1 S.2.2.1 S.2.2.2.1 S.2.2.2.2 (nI (cntP (isMod S.1) a)) hAq) cls7 hAq.obj (by omega) mo_X7_model m_404 m_625 m_626 m_627 m_21 (by decide) rfl rfl (Nat.le_of_ble_eq_true rfl) ⟨rfl, rfl⟩ ⟨Nat.le_of_ble_eq_true rfl, Nat.le_of_ble_eq_true rfl⟩ dL_built_323 (vI_in (fun r_504 M_502 h_503 => ?_))
                        obtain ⟨hr_505, hA_506, hF_507⟩ : r_504 = oI (nthF (isMod S.1) (nI (cntP (isMod S.1) a)) 256 0 0) ∧ At k M_502 S ∧ Fr 0 93 Mq M_502 := h_503
                        subst hr_505
                        have hFr_508 := hFq.tr hF_507
                        have G_509 : M_502 186 = .inl (kI k, 24, .inl (fun zq => nI (f1 zq))) := by rw [hF_507 186 (Or.inr (by decide))]; exact G1
                        have G_510 : M_502 187 = .inl (kI k, 24, .inl (fun zq => nI (f2 zq))) := by rw [hF_507 187 (Or.inr (by decide))]; exact G2
                        have G_511 : M_502 188 = .inl (kI k, 24, .inl (fun zq => nI (f3 zq))) := by rw [hF_507 188 (Or.inr (by decide))]; exact G3
                        have G_512 : M_502 189 = .inl (kI k, 8, .inl (fun zq => nI (g4 zq))) := by rw [hF_507 189 (Or.inr (by decide))]; exact G4
                        rw [mod_at (by omega) hmod, oI_some]
                        refine v_iload X 4 dL_built_326 rfl ?_
                        refine v_icmp_ne X 335 dL_built_328 (by decide) (fun q_513 => absurd rfl q_513) (fun _ => ?_)
                        refine v_iconst X (v := nI 1) (by decide) dL_built_331 ?_
                        refine v_goto X 336 dL_built_332 (by decide) ?_
                        refine v_istore X [(8, .int (nI 1)), (17, .int (nI S.1.length)), (16, .int (bI (cF S.1 (coreO S.1) a S.1.length))), (15, .int (bI (pF S.1 a S.1.length))), (14, .int (bI (aF S.1 a S.1.length))), (13, .int (nI a)), (7, .int (nI (cntP (fun b => cF S.1 (coreO S.1) b S.1.length) a))), (6, .int (nI (cntP (fun b => pF S.1 b S.1.length) a))), (5, .int (nI (cntP (isMod S.1) a))), (12, .ref (ad k 189)), (11, .ref (ad k 188)), (10, .ref (ad k 187)), (9, .ref (ad k 186)), (4, .int (bI ((elRun S.1).2.2))), (3, .int (nI ((elRun S.1).2.1))), (2, .int (oI (coreO S.1))), (1, .int (nI S.1.length)), (0, .ref (ad k 0))] dL_built_336 (by decide) rfl ?_
                        refine v_lv [2, 3, 4, 5, 0, 6, 7, 8, 9, 10, 11, 12, 13, 14, 15, 16, 17] rfl ?_
                        exact B338  M_502  hA_506 hFr_508 G_509 G_510 G_511 G_512
                    · have hin : i < S.1.length := by omega
                      have q1 := h1 i hin
                      have q2 := h2 i hin
                      have q3 := h3 i hin
                      have hxs := xSecond_lt (cAt S.1 i)
                      have hxf := xFirst_lt (cAt S.1 i)
                      have B307 : ∀  (Mq : Mem), At k Mq S → FB M Mq → Mq 186 = .inl (kI k, 24, .inl (fun zq => nI (f1 zq))) → Mq 187 = .inl (kI k, 24, .inl (fun zq => nI (f2 zq))) → Mq 188 = .inl (kI k, 24, .inl (fun zq => nI (f3 zq))) → Mq 189 = .inl (kI k, 8, .inl (fun zq => nI (g4 zq))) → V C k 23 (84, 560) Mq 307 [(18, .int (bI (!xViol (cAt S.1 i) a))), (17, .int (nI i)), (16, .int (bI (cF S.1 (coreO S.1) a i))), (15, .int (bI (pF S.1 a (i + 1)))), (14, .int (bI (aF S.1 a (i + 1)))), (13, .int (nI a)), (8, .int (nI 1)), (7, .int (nI (cntP (fun b => cF S.1 (coreO S.1) b S.1.length) a))), (6, .int (nI (cntP (fun b => pF S.1 b S.1.length) a))), (5, .int (nI (cntP (isMod S.1) a))), (12, .ref (ad k 189)), (11, .ref (ad k 188)), (10, .ref (ad k 187)), (9, .ref (ad k 186)), (4, .int (bI ((elRun S.1).2.2))), (3, .int (nI ((elRun S.1).2.1))), (2, .int (oI (coreO S.1))), (1, .int (nI S.1.length)), (0, .ref (ad k 0))] [.int (bI (cF S.1 (coreO S.1) a (i + 1)))] := by
                        intro  Mq hAq hFq G1 G2 G3 G4
                        refine v_istore X [(16, .int (bI (cF S.1 (coreO S.1) a (i + 1)))), (18, .int (bI (!xViol (cAt S.1 i) a))), (17, .int (nI i)), (15, .int (bI (pF S.1 a (i + 1)))), (14, .int (bI (aF S.1 a (i + 1)))), (13, .int (nI a)), (8, .int (nI 1)), (7, .int (nI (cntP (fun b => cF S.1 (coreO S.1) b S.1.length) a))), (6, .int (nI (cntP (fun b => pF S.1 b S.1.length) a))), (5, .int (nI (cntP (isMod S.1) a))), (12, .ref (ad k 189)), (11, .ref (ad k 188)), (10, .ref (ad k 187)), (9, .ref (ad k 186)), (4, .int (bI ((elRun S.1).2.2))), (3, .int (nI ((elRun S.1).2.1))), (2, .int (oI (coreO S.1))), (1, .int (nI S.1.length)), (0, .ref (ad k 0))] dL_built_307 (by decide) rfl ?_
                        refine v_iinc X (v := nI (i + 1)) 2 [(17, .int (nI (i + 1))), (16, .int (bI (cF S.1 (coreO S.1) a (i + 1)))), (18, .int (bI (!xViol (cAt S.1 i) a))), (15, .int (bI (pF S.1 a (i + 1)))), (14, .int (bI (aF S.1 a (i + 1)))), (13, .int (nI a)), (8, .int (nI 1)), (7, .int (nI (cntP (fun b => cF S.1 (coreO S.1) b S.1.length) a))), (6, .int (nI (cntP (fun b => pF S.1 b S.1.length) a))), (5, .int (nI (cntP (isMod S.1) a))), (12, .ref (ad k 189)), (11, .ref (ad k 188)), (10, .ref (ad k 187)), (9, .ref (ad k 186)), (4, .int (bI ((elRun S.1).2.2))), (3, .int (nI ((elRun S.1).2.1))), (2, .int (oI (coreO S.1))), (1, .int (nI S.1.length)), (0, .ref (ad k 0))] dL_built_309 rfl (nI_1 _) (by decide) rfl ?_
                        refine v_goto X 164 dL_built_312 (by decide) ?_
                        refine v_lv [0, 1, 3, 4, 5, 6, 7, 8, 9, 10, 11, 12, 13, 14, 15, 16, 17, 18] rfl ?_
                        exact ih_L164 (i + 1) Mq (by omega) (by omega) hAq hFq G1 G2 G3 G4
                      have B275 : ∀  (Mq : Mem), At k Mq S → FB M Mq → Mq 186 = .inl (kI k, 24, .inl (fun zq => nI (f1 zq))) → Mq 187 = .inl (kI k, 24, .inl (fun zq => nI (f2 zq))) → Mq 188 = .inl (kI k, 24, .inl (fun zq => nI (f3 zq))) → Mq 189 = .inl (kI k, 8, .inl (fun zq => nI (g4 zq))) → V C k 23 (84, 560) Mq 275 [(18, .int (bI (!xViol (cAt S.1 i) a))), (17, .int (nI i)), (16, .int (bI (cF S.1 (coreO S.1) a i))), (15, .int (bI (pF S.1 a i))), (14, .int (bI (aF S.1 a (i + 1)))), (13, .int (nI a)), (8, .int (nI 1)), (7, .int (nI (cntP (fun b => cF S.1 (coreO S.1) b S.1.length) a))), (6, .int (nI (cntP (fun b => pF S.1 b S.1.length) a))), (5, .int (nI (cntP (isMod S.1) a))), (12, .ref (ad k 189)), (11, .ref (ad k 188)), (10, .ref (ad k 187)), (9, .ref (ad k 186)), (4, .int (bI ((elRun S.1).2.2))), (3, .int (nI ((elRun S.1).2.1))), (2, .int (oI (coreO S.1))), (1, .int (nI S.1.length)), (0, .ref (ad k 0))] [.int (bI (pF S.1 a (i + 1)))] := by
                        intro  Mq hAq hFq G1 G2 G3 G4
                        refine v_istore X [(15, .int (bI (pF S.1 a (i + 1)))), (18, .int (bI (!xViol (cAt S.1 i) a))), (17, .int (nI i)), (16, .int (bI (cF S.1 (coreO S.1) a i))), (14, .int (bI (aF S.1 a (i + 1)))), (13, .int (nI a)), (8, .int (nI 1)), (7, .int (nI (cntP (fun b => cF S.1 (coreO S.1) b S.1.length) a))), (6, .int (nI (cntP (fun b => pF S.1 b S.1.length) a))), (5, .int (nI (cntP (isMod S.1) a))), (12, .ref (ad k 189)), (11, .ref (ad k 188)), (10, .ref (ad k 187)), (9, .ref (ad k 186)), (4, .int (bI ((elRun S.1).2.2))), (3, .int (nI ((elRun S.1).2.1))), (2, .int (oI (coreO S.1))), (1, .int (nI S.1.length)), (0, .ref (ad k 0))] dL_built_275 (by decide) rfl ?_
                        refine v_iload X 3 dL_built_277 rfl ?_
                        refine v_ieqB X 306 dL_built_279 (by decide) (fun hs0 => ?_) (fun hs1 => ?_)
                        · refine v_iconst X (v := bI false) (by decide) dL_built_306 ?_
                          refine v_top (show (Value.int (bI false) : Value) = .int (bI (cF S.1 (coreO S.1) a (i + 1))) from congrArg _ (congrArg bI ((cF_f hs0)).symm)) ?_
                          refine v_lv [1, 2, 3, 0, 4, 5, 6, 7, 8, 9, 10, 11, 12, 13, 14, 15, 16, 17, 18] rfl ?_
                          exact B307  Mq  hAq hFq G1 G2 G3 G4
                        · refine v_iload X 1 dL_built_282 rfl ?_
                          refine v_ineB X 302 dL_built_284 (by decide) (fun he1 => ?_) (fun he0 => ?_)
                          · refine v_iconst X (v := bI true) (by decide) dL_built_302 ?_
                            refine v_goto X 307 dL_built_303 (by decide) ?_
                            refine v_top (show (Value.int (bI true) : Value) = .int (bI (cF S.1 (coreO S.1) a (i + 1))) from congrArg _ (congrArg bI ((cF_v hs1 he1)).symm)) ?_
                            refine v_lv [1, 2, 3, 0, 4, 5, 6, 7, 8, 9, 10, 11, 12, 13, 14, 15, 16, 17, 18] rfl ?_
                            exact B307  Mq  hAq hFq G1 G2 G3 G4
                          · refine v_iload_n X 16 dL_built_287 rfl ?_
                            refine v_bipush X (v := (-9)) (by decide) dL_built_288 ?_
                            refine v_icmp_eq X 302 dL_built_290 (by decide) (fun hn1 => ?_) (fun hn0 => ?_)
                            · refine v_iconst X (v := bI true) (by decide) dL_built_302 ?_
                              refine v_goto X 307 dL_built_303 (by decide) ?_
                              refine v_top (show (Value.int (bI true) : Value) = .int (bI (cF S.1 (coreO S.1) a (i + 1))) from congrArg _ (congrArg bI ((cF_n hs1 ((oI_eq hcoL).mp hn1))).symm)) ?_
                              refine v_lv [1, 2, 3, 0, 4, 5, 6, 7, 8, 9, 10, 11, 12, 13, 14, 15, 16, 17, 18] rfl ?_
                              exact B307  Mq  hAq hFq G1 G2 G3 G4
                            · obtain ⟨cc, hcc⟩ : ∃ cc, coreO S.1 = some cc := by
                                cases hz : coreO S.1 with
                                | none => exact absurd (by rw [hz]; rfl) hn0
                                | some c => exact ⟨c, rfl⟩
                              have hcL := hcoL cc hcc
                              refine v_iload_n X 16 dL_built_293 rfl ?_
                              refine v_top (show (Value.int (oI (coreO S.1)) : Value) = .int (nI cc) from congrArg _ ((by rw [hcc]; rfl))) ?_
                              refine v_iload X 2 dL_built_294 rfl ?_
                              refine v_shrN X (by omega) (by omega) dL_built_296 ?_
                              refine v_iconst X (v := nI 1) (by decide) dL_built_297 ?_
                              refine v_andN X dL_built_298 ?_
                              refine v_ineN X 306 (Nat.lt_of_le_of_lt Nat.and_le_right (by decide)) dL_built_299 (by decide) (fun hm1 => ?_) (fun hm0 => ?_)
                              · refine v_iconst X (v := bI false) (by decide) dL_built_306 ?_
                                refine v_top (show (Value.int (bI false) : Value) = .int (bI (cF S.1 (coreO S.1) a (i + 1))) from congrArg _ (congrArg bI ((cF_1 hs1 he0 hcc hm1)).symm)) ?_
                                refine v_lv [1, 2, 3, 0, 4, 5, 6, 7, 8, 9, 10, 11, 12, 13, 14, 15, 16, 17, 18] rfl ?_
                                exact B307  Mq  hAq hFq G1 G2 G3 G4
                              · refine v_iconst X (v := bI true) (by decide) dL_built_302 ?_
                                refine v_goto X 307 dL_built_303 (by decide) ?_
                                refine v_top (show (Value.int (bI true) : Value) = .int (bI (cF S.1 (coreO S.1) a (i + 1))) from congrArg _ (congrArg bI ((cF_0 hs1 hcc hm0)).symm)) ?_
                                refine v_lv [1, 2, 3, 0, 4, 5, 6, 7, 8, 9, 10, 11, 12, 13, 14, 15, 16, 17, 18] rfl ?_
                                exact B307  Mq  hAq hFq G1 G2 G3 G4
                      have B250 : ∀  (Mq : Mem), At k Mq S → FB M Mq → Mq 186 = .inl (kI k, 24, .inl (fun zq => nI (f1 zq))) → Mq 187 = .inl (kI k, 24, .inl (fun zq => nI (f2 zq))) → Mq 188 = .inl (kI k, 24, .inl (fun zq => nI (f3 zq))) → Mq 189 = .inl (kI k, 8, .inl (fun zq => nI (g4 zq))) → V C k 23 (84, 560) Mq 250 [(18, .int (bI (!xViol (cAt S.1 i) a))), (17, .int (nI i)), (16, .int (bI (cF S.1 (coreO S.1) a i))), (15, .int (bI (pF S.1 a i))), (14, .int (bI (aF S.1 a i))), (13, .int (nI a)), (8, .int (nI 1)), (7, .int (nI (cntP (fun b => cF S.1 (coreO S.1) b S.1.length) a))), (6, .int (nI (cntP (fun b => pF S.1 b S.1.length) a))), (5, .int (nI (cntP (isMod S.1) a))), (12, .ref (ad k 189)), (11, .ref (ad k 188)), (10, .ref (ad k 187)), (9, .ref (ad k 186)), (4, .int (bI ((elRun S.1).2.2))), (3, .int (nI ((elRun S.1).2.1))), (2, .int (oI (coreO S.1))), (1, .int (nI S.1.length)), (0, .ref (ad k 0))] [.int (bI (aF S.1 a (i + 1)))] := by
                        intro  Mq hAq hFq G1 G2 G3 G4
                        refine v_istore X [(14, .int (bI (aF S.1 a (i + 1)))), (18, .int (bI (!xViol (cAt S.1 i) a))), (17, .int (nI i)), (16, .int (bI (cF S.1 (coreO S.1) a i))), (15, .int (bI (pF S.1 a i))), (13, .int (nI a)), (8, .int (nI 1)), (7, .int (nI (cntP (fun b => cF S.1 (coreO S.1) b S.1.length) a))), (6, .int (nI (cntP (fun b => pF S.1 b S.1.length) a))), (5, .int (nI (cntP (isMod S.1) a))), (12, .ref (ad k 189)), (11, .ref (ad k 188)), (10, .ref (ad k 187)), (9, .ref (ad k 186)), (4, .int (bI ((elRun S.1).2.2))), (3, .int (nI ((elRun S.1).2.1))), (2, .int (oI (coreO S.1))), (1, .int (nI S.1.length)), (0, .ref (ad k 0))] dL_built_250 (by decide) rfl ?_
                        refine v_iload X 4 dL_built_252 rfl ?_
                        refine v_ieqB X 274 dL_built_254 (by decide) (fun hp0 => ?_) (fun hp1 => ?_)
                        · refine v_iconst X (v := bI false) (by decide) dL_built_274 ?_
                          refine v_top (show (Value.int (bI false) : Value) = .int (bI (pF S.1 a (i + 1))) from congrArg _ (congrArg bI ((pF_f hp0)).symm)) ?_
                          refine v_lv [1, 2, 3, 4, 0, 5, 6, 7, 8, 9, 10, 11, 12, 13, 14, 15, 16, 17, 18] rfl ?_
                          exact B275  Mq  hAq hFq G1 G2 G3 G4
                        · refine v_iload X 1 dL_built_257 rfl ?_
                          refine v_ineB X 270 dL_built_259 (by decide) (fun hd1 => ?_) (fun hd0 => ?_)
                          · refine v_iconst X (v := bI true) (by decide) dL_built_270 ?_
                            refine v_goto X 275 dL_built_271 (by decide) ?_
                            refine v_top (show (Value.int (bI true) : Value) = .int (bI (pF S.1 a (i + 1))) from congrArg _ (congrArg bI ((pF_v hp1 hd1)).symm)) ?_
                            refine v_lv [1, 2, 3, 4, 0, 5, 6, 7, 8, 9, 10, 11, 12, 13, 14, 15, 16, 17, 18] rfl ?_
                            exact B275  Mq  hAq hFq G1 G2 G3 G4
                          · refine v_aload X 13 dL_built_262 rfl ?_
                            refine v_iload X 2 dL_built_264 rfl ?_
                            refine v_iald X nI G1 (by omega) (by omega) (by decide) dL_built_266 ?_
                            refine v_top (show (Value.int (nI (f1 i)) : Value) = .int (nI (xKind (cAt S.1 i))) from congrArg _ (congrArg nI q1)) ?_
                            refine v_ineN X 274 (by have := kind_lt (x := cAt S.1 i); omega) dL_built_267 (by decide) (fun hk1 => ?_) (fun hk0 => ?_)
                            · refine v_iconst X (v := bI false) (by decide) dL_built_274 ?_
                              refine v_top (show (Value.int (bI false) : Value) = .int (bI (pF S.1 a (i + 1))) from congrArg _ (congrArg bI ((pF_k1 hp1 hd0 hk1)).symm)) ?_
                              refine v_lv [1, 2, 3, 4, 0, 5, 6, 7, 8, 9, 10, 11, 12, 13, 14, 15, 16, 17, 18] rfl ?_
                              exact B275  Mq  hAq hFq G1 G2 G3 G4
                            · refine v_iconst X (v := bI true) (by decide) dL_built_270 ?_
                              refine v_goto X 275 dL_built_271 (by decide) ?_
                              refine v_top (show (Value.int (bI true) : Value) = .int (bI (pF S.1 a (i + 1))) from congrArg _ (congrArg bI ((pF_k0 hp1 hk0)).symm)) ?_
                              refine v_lv [1, 2, 3, 4, 0, 5, 6, 7, 8, 9, 10, 11, 12, 13, 14, 15, 16, 17, 18] rfl ?_
                              exact B275  Mq  hAq hFq G1 G2 G3 G4
                      have B233 : ∀  (Mq : Mem), At k Mq S → FB M Mq → Mq 186 = .inl (kI k, 24, .inl (fun zq => nI (f1 zq))) → Mq 187 = .inl (kI k, 24, .inl (fun zq => nI (f2 zq))) → Mq 188 = .inl (kI k, 24, .inl (fun zq => nI (f3 zq))) → Mq 189 = .inl (kI k, 8, .inl (fun zq => nI (g4 zq))) → V C k 23 (84, 560) Mq 233 [(17, .int (nI i)), (16, .int (bI (cF S.1 (coreO S.1) a i))), (15, .int (bI (pF S.1 a i))), (14, .int (bI (aF S.1 a i))), (13, .int (nI a)), (8, .int (nI 1)), (7, .int (nI (cntP (fun b => cF S.1 (coreO S.1) b S.1.length) a))), (6, .int (nI (cntP (fun b => pF S.1 b S.1.length) a))), (5, .int (nI (cntP (isMod S.1) a))), (12, .ref (ad k 189)), (11, .ref (ad k 188)), (10, .ref (ad k 187)), (9, .ref (ad k 186)), (4, .int (bI ((elRun S.1).2.2))), (3, .int (nI ((elRun S.1).2.1))), (2, .int (oI (coreO S.1))), (1, .int (nI S.1.length)), (0, .ref (ad k 0))] [.int (bI (!xViol (cAt S.1 i) a))] := by
                        intro  Mq hAq hFq G1 G2 G3 G4
                        refine v_istore X [(18, .int (bI (!xViol (cAt S.1 i) a))), (17, .int (nI i)), (16, .int (bI (cF S.1 (coreO S.1) a i))), (15, .int (bI (pF S.1 a i))), (14, .int (bI (aF S.1 a i))), (13, .int (nI a)), (8, .int (nI 1)), (7, .int (nI (cntP (fun b => cF S.1 (coreO S.1) b S.1.length) a))), (6, .int (nI (cntP (fun b => pF S.1 b S.1.length) a))), (5, .int (nI (cntP (isMod S.1) a))), (12, .ref (ad k 189)), (11, .ref (ad k 188)), (10, .ref (ad k 187)), (9, .ref (ad k 186)), (4, .int (bI ((elRun S.1).2.2))), (3, .int (nI ((elRun S.1).2.1))), (2, .int (oI (coreO S.1))), (1, .int (nI S.1.length)), (0, .ref (ad k 0))] dL_built_233 (by decide) rfl ?_
                        refine v_iload X 4 dL_built_235 rfl ?_
                        refine v_ieqB X 249 dL_built_237 (by decide) (fun ha0 => ?_) (fun ha1 => ?_)
                        · refine v_iconst X (v := bI false) (by decide) dL_built_249 ?_
                          refine v_top (show (Value.int (bI false) : Value) = .int (bI (aF S.1 a (i + 1))) from congrArg _ (congrArg bI ((aF_f ha0)).symm)) ?_
                          exact B250  Mq  hAq hFq G1 G2 G3 G4
                        · refine v_iload X 0 dL_built_240 rfl ?_
                          refine v_ieqB X 249 dL_built_242 (by decide) (fun hb0 => ?_) (fun hb1 => ?_)
                          · refine v_iconst X (v := bI false) (by decide) dL_built_249 ?_
                            refine v_top (show (Value.int (bI false) : Value) = .int (bI (aF S.1 a (i + 1))) from congrArg _ (congrArg bI ((aF_n ha1 hb0)).symm)) ?_
                            exact B250  Mq  hAq hFq G1 G2 G3 G4
                          · refine v_iconst X (v := bI true) (by decide) dL_built_245 ?_
                            refine v_goto X 250 dL_built_246 (by decide) ?_
                            refine v_top (show (Value.int (bI true) : Value) = .int (bI (aF S.1 a (i + 1))) from congrArg _ (congrArg bI ((aF_t ha1 hb1)).symm)) ?_
                            exact B250  Mq  hAq hFq G1 G2 G3 G4
                      by_cases hp : xPar (cAt S.1 i) = true
                      · refine v_aload X 12 dL_built_170 rfl ?_
                        refine v_iload X 0 dL_built_172 rfl ?_
                        refine v_iald X nI G1 (by omega) (by omega) (by decide) dL_built_174 ?_
                        refine v_top (show (Value.int (nI (f1 i)) : Value) = .int (nI 1) from congrArg _ (congrArg nI (q1.trans (kind_t hp)))) ?_
                        refine v_iconst X (v := nI 1) (by decide) dL_built_175 ?_
                        refine v_cneN X 206 (by omega) (by omega) dL_built_176 (by decide) (fun q_514 => absurd rfl q_514) (fun _ => ?_)
                        refine v_aload X 11 dL_built_179 rfl ?_
                        refine v_iload X 0 dL_built_181 rfl ?_
                        refine v_iald X nI G2 (by omega) (by omega) (by decide) dL_built_183 ?_
                        refine v_top (show (Value.int (nI (f2 i)) : Value) = .int (nI (xFirst (cAt S.1 i))) from congrArg _ (congrArg nI q2)) ?_
                        refine v_iload X 4 dL_built_184 rfl ?_
                        refine v_andN X dL_built_186 ?_
                        refine v_callS X hCl hCR (c_L_odd l k Mq ((xFirst (cAt S.1 i)) &&& a) (and_ltl hxf)) mo_L_odd m_b5 m_679 m_680 m_581 (by decide) rfl rfl (Nat.le_of_ble_eq_true rfl) ⟨rfl, rfl⟩ ⟨Nat.le_of_ble_eq_true rfl, Nat.le_of_ble_eq_true rfl⟩ dL_built_187 (vP_in ?_)
                        refine v_aload X 10 dL_built_190 rfl ?_
                        refine v_iload X 0 dL_built_192 rfl ?_
                        refine v_iald X nI G3 (by omega) (by omega) (by decide) dL_built_194 ?_
                        refine v_top (show (Value.int (nI (f3 i)) : Value) = .int (nI (xSecond (cAt S.1 i))) from congrArg _ (congrArg nI q3)) ?_
                        refine v_cneN X 202 (by have := pc2_lt (n := xFirst (cAt S.1 i) &&& a) (v := 8); omega) (by omega) dL_built_195 (by decide) (fun hv0 => ?_) (fun hv1 => ?_)
                        · refine v_iconst X (v := bI false) (by decide) dL_built_202 ?_
                          refine v_goto X 233 dL_built_203 (by decide) ?_
                          refine v_top (show (Value.int (bI false) : Value) = .int (bI (!xViol (cAt S.1 i) a)) from congrArg _ (congrArg bI ((hvt_pf hp hv0)).symm)) ?_
                          exact B233  Mq  hAq hFq G1 G2 G3 G4
                        · refine v_iconst X (v := bI true) (by decide) dL_built_198 ?_
                          refine v_goto X 233 dL_built_199 (by decide) ?_
                          refine v_top (show (Value.int (bI true) : Value) = .int (bI (!xViol (cAt S.1 i) a)) from congrArg _ (congrArg bI ((hvt_p hp hv1)).symm)) ?_
                          exact B233  Mq  hAq hFq G1 G2 G3 G4
                      · have hp : xPar (cAt S.1 i) = false := by simpa using hp
                        refine v_aload X 12 dL_built_170 rfl ?_
                        refine v_iload X 0 dL_built_172 rfl ?_
                        refine v_iald X nI G1 (by omega) (by omega) (by decide) dL_built_174 ?_
                        refine v_top (show (Value.int (nI (f1 i)) : Value) = .int (nI 0) from congrArg _ (congrArg nI (q1.trans (kind_f hp)))) ?_
                        refine v_iconst X (v := nI 1) (by decide) dL_built_175 ?_
                        refine v_cneN X 206 (by omega) (by omega) dL_built_176 (by decide) (fun _ => ?_) (fun q_515 => absurd q_515 (by decide))
                        refine v_aload X 11 dL_built_206 rfl ?_
                        refine v_iload X 0 dL_built_208 rfl ?_
                        refine v_iald X nI G2 (by omega) (by omega) (by decide) dL_built_210 ?_
                        refine v_top (show (Value.int (nI (f2 i)) : Value) = .int (nI (xFirst (cAt S.1 i))) from congrArg _ (congrArg nI q2)) ?_
                        refine v_iload X 4 dL_built_211 rfl ?_
                        refine v_andN X dL_built_213 ?_
                        refine v_aload X 10 dL_built_214 rfl ?_
                        refine v_iload X 0 dL_built_216 rfl ?_
                        refine v_iald X nI G3 (by omega) (by omega) (by decide) dL_built_218 ?_
                        refine v_top (show (Value.int (nI (f3 i)) : Value) = .int (nI (xSecond (cAt S.1 i))) from congrArg _ (congrArg nI q3)) ?_
                        refine v_iload X 4 dL_built_219 rfl ?_
                        refine v_iconst X (v := nI 4294967295) (by decide) dL_built_221 ?_
                        refine v_xorN X dL_built_222 ?_
                        refine v_andN X dL_built_223 ?_
                        refine v_orN X dL_built_224 ?_
                        refine v_ieqN X 232 (Nat.lt_of_lt_of_le (or_lt256 (and_ltl hxf) (mdiff_lt hxs)) (by decide)) dL_built_225 (by decide) (fun hv2 => ?_) (fun hv3 => ?_)
                        · refine v_iconst X (v := bI false) (by decide) dL_built_232 ?_
                          refine v_top (show (Value.int (bI false) : Value) = .int (bI (!xViol (cAt S.1 i) a)) from congrArg _ (congrArg bI ((hvt_c0 hp hv2)).symm)) ?_
                          exact B233  Mq  hAq hFq G1 G2 G3 G4
                        · refine v_iconst X (v := bI true) (by decide) dL_built_228 ?_
                          refine v_goto X 233 dL_built_229 (by decide) ?_
                          refine v_top (show (Value.int (bI true) : Value) = .int (bI (!xViol (cAt S.1 i) a)) from congrArg _ (congrArg bI ((hvt_c1 hp hv3)).symm)) ?_
                          exact B233  Mq  hAq hFq G1 G2 G3 G4
                refine v_iconst X (v := bI true) (by decide) dL_built_152 ?_
                refine v_istore X [(14, .int (bI true)), (13, .int (nI a)), (8, .int (nI 1)), (7, .int (nI (cntP (fun b => cF S.1 (coreO S.1) b S.1.length) a))), (6, .int (nI (cntP (fun b => pF S.1 b S.1.length) a))), (5, .int (nI (cntP (isMod S.1) a))), (12, .ref (ad k 189)), (11, .ref (ad k 188)), (10, .ref (ad k 187)), (9, .ref (ad k 186)), (4, .int (bI ((elRun S.1).2.2))), (3, .int (nI ((elRun S.1).2.1))), (2, .int (oI (coreO S.1))), (1, .int (nI S.1.length)), (0, .ref (ad k 0))] dL_built_153 (by decide) rfl ?_
                refine v_iconst X (v := bI true) (by decide) dL_built_155 ?_
                refine v_istore X [(15, .int (bI true)), (14, .int (bI true)), (13, .int (nI a)), (8, .int (nI 1)), (7, .int (nI (cntP (fun b => cF S.1 (coreO S.1) b S.1.length) a))), (6, .int (nI (cntP (fun b => pF S.1 b S.1.length) a))), (5, .int (nI (cntP (isMod S.1) a))), (12, .ref (ad k 189)), (11, .ref (ad k 188)), (10, .ref (ad k 187)), (9, .ref (ad k 186)), (4, .int (bI ((elRun S.1).2.2))), (3, .int (nI ((elRun S.1).2.1))), (2, .int (oI (coreO S.1))), (1, .int (nI S.1.length)), (0, .ref (ad k 0))] dL_built_156 (by decide) rfl ?_
                refine v_iconst X (v := bI true) (by decide) dL_built_158 ?_
                refine v_istore X [(16, .int (bI true)), (15, .int (bI true)), (14, .int (bI true)), (13, .int (nI a)), (8, .int (nI 1)), (7, .int (nI (cntP (fun b => cF S.1 (coreO S.1) b S.1.length) a))), (6, .int (nI (cntP (fun b => pF S.1 b S.1.length) a))), (5, .int (nI (cntP (isMod S.1) a))), (12, .ref (ad k 189)), (11, .ref (ad k 188)), (10, .ref (ad k 187)), (9, .ref (ad k 186)), (4, .int (bI ((elRun S.1).2.2))), (3, .int (nI ((elRun S.1).2.1))), (2, .int (oI (coreO S.1))), (1, .int (nI S.1.length)), (0, .ref (ad k 0))] dL_built_159 (by decide) rfl ?_
                refine v_iconst X (v := nI 0) (by decide) dL_built_161 ?_
                refine v_istore X [(17, .int (nI 0)), (16, .int (bI true)), (15, .int (bI true)), (14, .int (bI true)), (13, .int (nI a)), (8, .int (nI 1)), (7, .int (nI (cntP (fun b => cF S.1 (coreO S.1) b S.1.length) a))), (6, .int (nI (cntP (fun b => pF S.1 b S.1.length) a))), (5, .int (nI (cntP (isMod S.1) a))), (12, .ref (ad k 189)), (11, .ref (ad k 188)), (10, .ref (ad k 187)), (9, .ref (ad k 186)), (4, .int (bI ((elRun S.1).2.2))), (3, .int (nI ((elRun S.1).2.1))), (2, .int (oI (coreO S.1))), (1, .int (nI S.1.length)), (0, .ref (ad k 0))] dL_built_162 (by decide) rfl ?_
                exact L164 (S.1.length + 1) 0 Mq (by omega) (Nat.zero_le _) hAq hFq G1 G2 G3 G4
          refine v_iconst X (v := nI 0) (by decide) dL_built_136 ?_
          refine v_istore X [(13, .int (nI 0)), (12, .ref (ad k 189)), (11, .ref (ad k 188)), (10, .ref (ad k 187)), (9, .ref (ad k 186)), (8, .int (nI 1)), (7, .int (nI 0)), (6, .int (nI 0)), (5, .int (nI 0)), (4, .int (bI ((elRun S.1).2.2))), (3, .int (nI ((elRun S.1).2.1))), (2, .int (oI (coreO S.1))), (1, .int (nI S.1.length)), (0, .ref (ad k 0))] dL_built_137 (by decide) rfl ?_
          refine v_lv [0, 5, 6, 7, 8, 1, 2, 3, 4, 9, 10, 11, 12, 13] rfl ?_
          exact L139 257 0 Mq (by omega) (Nat.zero_le _) hAq hFq G1 G2 G3 G4
        have L108 : ∀ (fu : Nat) (i : Nat) (g4 : Nat → Nat) (Mq : Mem), (elRun S.1).2.1 - i < fu → (i ≤ (elRun S.1).2.1) → (∀ j, j < i → g4 j = elLine S.1 j) → At k Mq S → FB M Mq → Mq 186 = .inl (kI k, 24, .inl (fun zq => nI (f1 zq))) → Mq 187 = .inl (kI k, 24, .inl (fun zq => nI (f2 zq))) → Mq 188 = .inl (kI k, 24, .inl (fun zq => nI (f3 zq))) → Mq 189 = .inl (kI k, 8, .inl (fun zq => nI (g4 zq))) → V C k 23 (76 + i, 512 + 6 * i) Mq 108 [(13, .int (nI i)), (12, .ref (ad k 189)), (11, .ref (ad k 188)), (10, .ref (ad k 187)), (9, .ref (ad k 186)), (8, .int (nI 1)), (7, .int (nI 0)), (6, .int (nI 0)), (5, .int (nI 0)), (4, .int (bI ((elRun S.1).2.2))), (3, .int (nI ((elRun S.1).2.1))), (2, .int (oI (coreO S.1))), (1, .int (nI S.1.length)), (0, .ref (ad k 0))] [] := by
          intro fu
          induction fu with
          | zero => intro i g4 Mq hfu; exact absurd hfu (Nat.not_lt_zero _)
          | succ fu ih_L108 =>
            intro i g4 Mq hfu hi h4 hAq hFq G1 G2 G3 G4
            refine v_iload X 0 dL_built_108 rfl ?_
            refine v_iload_n X 10 dL_built_110 rfl ?_
            refine v_cgeN X 136 (by omega) (by omega) dL_built_111 (by decide) (fun c_3 => ?_) (fun c_4 => ?_)
            · have h5 : (elRun S.1).2.2 = true → ∀ j, j < (elRun S.1).2.1 → g4 j = elLine S.1 j := fun _ j hj => h4 j (by omega)
              refine v_widen (z' := (84, 560)) (show 76 + i ≤ 84 by omega) (show 512 + 6 * i ≤ 560 by omega) ?_
              refine v_lv [1, 2, 3, 4, 5, 6, 7, 8, 9, 10, 11, 12, 13] rfl ?_
              exact B136 g4 Mq h5 hAq hFq G1 G2 G3 G4
            · refine v_iload X 9 dL_built_114 rfl ?_
              refine v_ieqB X 136 dL_built_116 (by decide) (fun c_5 => ?_) (fun c_6 => ?_)
              · have h5 : (elRun S.1).2.2 = true → ∀ j, j < (elRun S.1).2.1 → g4 j = elLine S.1 j := fun q => by rw [c_5] at q; cases q
                refine v_widen (z' := (84, 560)) (show 76 + i ≤ 84 by omega) (show 512 + 6 * i ≤ 560 by omega) ?_
                refine v_lv [1, 2, 3, 4, 5, 6, 7, 8, 9, 10, 11, 12, 13] rfl ?_
                exact B136 g4 Mq h5 hAq hFq G1 G2 G3 G4
              · refine v_aload X 1 dL_built_119 rfl ?_
                refine v_iload X 0 dL_built_121 rfl ?_
                refine v_aload_n X 13 dL_built_123 rfl ?_
                refine v_iload X 0 dL_built_124 rfl ?_
                refine v_callL X rb.2.1 rb.2.2.1 hCl hCR (c_L_row l hst0 k Mq S (nI i) hAq) mo_L_row m_570 m_638 m_639 m_581 ⟨Nat.le_of_ble_eq_true rfl, Nat.le_of_ble_eq_true rfl⟩ rfl rfl (Nat.le_of_ble_eq_true rfl) ⟨(show 76 + i + 1 ≤ 220 by omega), (show 512 + 6 * i + 6 ≤ 1400 by omega)⟩ dL_built_126 (vI_in (fun r_518 M_516 h_517 => ?_))
                refine v_widen (z' := (76 + i + 1, 512 + 6 * i + 6)) (show 76 + i + 1 ≤ 76 + i + 1 by omega) (show 512 + 6 * i + 6 ≤ 512 + 6 * i + 6 by omega) ?_
                obtain ⟨hr_519, hA_520, hF_521⟩ := pa_eq (e_rowT hcs c_6 (by omega)) h_517
                subst hr_519
                have hFr_522 := hFq.tr hF_521
                have G_523 : M_516 186 = .inl (kI k, 24, .inl (fun zq => nI (f1 zq))) := by rw [hF_521 186 (Or.inr (by decide))]; exact G1
                have G_524 : M_516 187 = .inl (kI k, 24, .inl (fun zq => nI (f2 zq))) := by rw [hF_521 187 (Or.inr (by decide))]; exact G2
                have G_525 : M_516 188 = .inl (kI k, 24, .inl (fun zq => nI (f3 zq))) := by rw [hF_521 188 (Or.inr (by decide))]; exact G3
                have G_526 : M_516 189 = .inl (kI k, 8, .inl (fun zq => nI (g4 zq))) := by rw [hF_521 189 (Or.inr (by decide))]; exact G4
                refine v_iast X nI (elLine S.1 i) G_526 (by omega) (by omega) (by decide) dL_built_129 (fun M_527 hM_528 => ?_)
                have hA_530 : At k M_527 S := hA_520.fr (fun i hi => by rw [hM_528, mup_n (by omega)])
                have hFr_531 : FB M M_527 := hFr_522.st hM_528 (by decide)
                have G_532 : M_527 186 = .inl (kI k, 24, .inl (fun zq => nI (f1 zq))) := by rw [hM_528, mup_n (by decide)]; exact G_523
                have G_533 : M_527 187 = .inl (kI k, 24, .inl (fun zq => nI (f2 zq))) := by rw [hM_528, mup_n (by decide)]; exact G_524
                have G_534 : M_527 188 = .inl (kI k, 24, .inl (fun zq => nI (f3 zq))) := by rw [hM_528, mup_n (by decide)]; exact G_525
                have G_535 : M_527 189 = .inl (kI k, 8, .inl (fun zq => nI (va_up g4 i (elLine S.1 i) zq))) := by rw [hM_528]; exact mup_s
                refine v_iinc X (v := nI (i + 1)) 0 [(13, .int (nI (i + 1))), (12, .ref (ad k 189)), (11, .ref (ad k 188)), (10, .ref (ad k 187)), (9, .ref (ad k 186)), (8, .int (nI 1)), (7, .int (nI 0)), (6, .int (nI 0)), (5, .int (nI 0)), (4, .int (bI ((elRun S.1).2.2))), (3, .int (nI ((elRun S.1).2.1))), (2, .int (oI (coreO S.1))), (1, .int (nI S.1.length)), (0, .ref (ad k 0))] dL_built_130 rfl (nI_1 _) (by decide) rfl ?_
                refine v_goto X 108 dL_built_133 (by decide) ?_
                refine v_widen (z' := (76 + (i + 1), 512 + 6 * (i + 1))) (show 76 + i + 1 ≤ 76 + (i + 1) by omega) (show 512 + 6 * i + 6 ≤ 512 + 6 * (i + 1) by omega) ?_
                exact ih_L108 (i + 1) (va_up g4 i (elLine S.1 i)) M_527 (by omega) (by omega) (up_ext h4 rfl) hA_530 hFr_531 G_532 G_533 G_534 G_535
        refine v_iconst X (v := nI 0) (by decide) dL_built_105 ?_
        refine v_istore X [(13, .int (nI 0)), (12, .ref (ad k 189)), (11, .ref (ad k 188)), (10, .ref (ad k 187)), (9, .ref (ad k 186)), (8, .int (nI 1)), (7, .int (nI 0)), (6, .int (nI 0)), (5, .int (nI 0)), (4, .int (bI ((elRun S.1).2.2))), (3, .int (nI ((elRun S.1).2.1))), (2, .int (oI (coreO S.1))), (1, .int (nI S.1.length)), (0, .ref (ad k 0))] dL_built_106 (by decide) rfl ?_
        refine v_widen (z' := (76 + 0, 512 + 6 * 0)) (show 4 + 3 * S.1.length ≤ 76 + 0 by omega) (show 80 + 18 * S.1.length ≤ 512 + 6 * 0 by omega) ?_
        exact L108 ((elRun S.1).2.1 + 1) 0 g4 Mq (by omega) (Nat.zero_le _) (fun j hj => absurd hj (Nat.not_lt_zero _)) hAq hFq G1 G2 G3 G4
      · refine v_aload X 4 dL_built_66 rfl ?_
        refine v_iload X 0 dL_built_68 rfl ?_
        refine v_aload_n X 13 dL_built_70 rfl ?_
        refine v_iload X 0 dL_built_71 rfl ?_
        refine v_callL X rb.2.1 rb.2.2.1 hCl hCR (c_L_parity l hst0 k Mq S (nI i) hAq) mo_L_parity m_498 m_588 m_589 m_581 ⟨Nat.le_of_ble_eq_true rfl, Nat.le_of_ble_eq_true rfl⟩ rfl rfl (Nat.le_of_ble_eq_true rfl) ⟨(show 4 + 3 * i + 1 ≤ 220 by omega), (show 80 + 18 * i + 6 ≤ 1400 by omega)⟩ dL_built_73 (vI_in (fun r_538 M_536 h_537 => ?_))
        refine v_widen (z' := (4 + 3 * i + 1, 80 + 18 * i + 6)) (show 4 + 3 * i + 1 ≤ 4 + 3 * i + 1 by omega) (show 80 + 18 * i + 6 ≤ 80 + 18 * i + 6 by omega) ?_
        obtain ⟨hr_539, hA_540, hF_541⟩ := pa_eq (e_kind hl (by omega)) h_537
        subst hr_539
        have hFr_542 := hFq.tr hF_541
        have G_543 : M_536 186 = .inl (kI k, 24, .inl (fun zq => nI (f1 zq))) := by rw [hF_541 186 (Or.inr (by decide))]; exact G1
        have G_544 : M_536 187 = .inl (kI k, 24, .inl (fun zq => nI (f2 zq))) := by rw [hF_541 187 (Or.inr (by decide))]; exact G2
        have G_545 : M_536 188 = .inl (kI k, 24, .inl (fun zq => nI (f3 zq))) := by rw [hF_541 188 (Or.inr (by decide))]; exact G3
        have G_546 : M_536 189 = .inl (kI k, 8, .inl (fun zq => nI (g4 zq))) := by rw [hF_541 189 (Or.inr (by decide))]; exact G4
        refine v_iast X nI (xKind (cAt S.1 i)) G_543 (by omega) (by omega) (by decide) dL_built_76 (fun M_547 hM_548 => ?_)
        have hA_550 : At k M_547 S := hA_540.fr (fun i hi => by rw [hM_548, mup_n (by omega)])
        have hFr_551 : FB M M_547 := hFr_542.st hM_548 (by decide)
        have G_552 : M_547 186 = .inl (kI k, 24, .inl (fun zq => nI (va_up f1 i (xKind (cAt S.1 i)) zq))) := by rw [hM_548]; exact mup_s
        have G_553 : M_547 187 = .inl (kI k, 24, .inl (fun zq => nI (f2 zq))) := by rw [hM_548, mup_n (by decide)]; exact G_544
        have G_554 : M_547 188 = .inl (kI k, 24, .inl (fun zq => nI (f3 zq))) := by rw [hM_548, mup_n (by decide)]; exact G_545
        have G_555 : M_547 189 = .inl (kI k, 8, .inl (fun zq => nI (g4 zq))) := by rw [hM_548, mup_n (by decide)]; exact G_546
        refine v_aload X 3 dL_built_77 rfl ?_
        refine v_iload X 0 dL_built_79 rfl ?_
        refine v_aload_n X 13 dL_built_81 rfl ?_
        refine v_iload X 0 dL_built_82 rfl ?_
        refine v_callL X rb.2.1 rb.2.2.1 hCl hCR (c_L_first l hst0 k M_547 S (nI i) hA_550) mo_L_first m_502 m_590 m_591 m_581 ⟨Nat.le_of_ble_eq_true rfl, Nat.le_of_ble_eq_true rfl⟩ rfl rfl (Nat.le_of_ble_eq_true rfl) ⟨(show 4 + 3 * i + 1 + 1 ≤ 220 by omega), (show 80 + 18 * i + 6 + 6 ≤ 1400 by omega)⟩ dL_built_84 (vI_in (fun r_558 M_556 h_557 => ?_))
        refine v_widen (z' := (4 + 3 * i + 2, 80 + 18 * i + 12)) (show 4 + 3 * i + 1 + 1 ≤ 4 + 3 * i + 2 by omega) (show 80 + 18 * i + 6 + 6 ≤ 80 + 18 * i + 12 by omega) ?_
        obtain ⟨hr_559, hA_560, hF_561⟩ := pa_eq (e_first hl (by omega)) h_557
        subst hr_559
        have hFr_562 := hFr_551.tr hF_561
        have G_563 : M_556 186 = .inl (kI k, 24, .inl (fun zq => nI (va_up f1 i (xKind (cAt S.1 i)) zq))) := by rw [hF_561 186 (Or.inr (by decide))]; exact G_552
        have G_564 : M_556 187 = .inl (kI k, 24, .inl (fun zq => nI (f2 zq))) := by rw [hF_561 187 (Or.inr (by decide))]; exact G_553
        have G_565 : M_556 188 = .inl (kI k, 24, .inl (fun zq => nI (f3 zq))) := by rw [hF_561 188 (Or.inr (by decide))]; exact G_554
        have G_566 : M_556 189 = .inl (kI k, 8, .inl (fun zq => nI (g4 zq))) := by rw [hF_561 189 (Or.inr (by decide))]; exact G_555
        refine v_iast X nI (xFirst (cAt S.1 i)) G_564 (by omega) (by omega) (by decide) dL_built_87 (fun M_567 hM_568 => ?_)
        have hA_570 : At k M_567 S := hA_560.fr (fun i hi => by rw [hM_568, mup_n (by omega)])
        have hFr_571 : FB M M_567 := hFr_562.st hM_568 (by decide)
        have G_572 : M_567 186 = .inl (kI k, 24, .inl (fun zq => nI (va_up f1 i (xKind (cAt S.1 i)) zq))) := by rw [hM_568, mup_n (by decide)]; exact G_563
        have G_573 : M_567 187 = .inl (kI k, 24, .inl (fun zq => nI (va_up f2 i (xFirst (cAt S.1 i)) zq))) := by rw [hM_568]; exact mup_s
        have G_574 : M_567 188 = .inl (kI k, 24, .inl (fun zq => nI (f3 zq))) := by rw [hM_568, mup_n (by decide)]; exact G_565
        have G_575 : M_567 189 = .inl (kI k, 8, .inl (fun zq => nI (g4 zq))) := by rw [hM_568, mup_n (by decide)]; exact G_566
        refine v_aload X 2 dL_built_88 rfl ?_
        refine v_iload X 0 dL_built_90 rfl ?_
        refine v_aload_n X 13 dL_built_92 rfl ?_
        refine v_iload X 0 dL_built_93 rfl ?_
        refine v_callL X rb.2.1 rb.2.2.1 hCl hCR (c_L_second l hst0 k M_567 S (nI i) hA_570) mo_L_second m_506 m_592 m_593 m_581 ⟨Nat.le_of_ble_eq_true rfl, Nat.le_of_ble_eq_true rfl⟩ rfl rfl (Nat.le_of_ble_eq_true rfl) ⟨(show 4 + 3 * i + 2 + 1 ≤ 220 by omega), (show 80 + 18 * i + 12 + 6 ≤ 1400 by omega)⟩ dL_built_95 (vI_in (fun r_578 M_576 h_577 => ?_))
        refine v_widen (z' := (4 + 3 * i + 3, 80 + 18 * i + 18)) (show 4 + 3 * i + 2 + 1 ≤ 4 + 3 * i + 3 by omega) (show 80 + 18 * i + 12 + 6 ≤ 80 + 18 * i + 18 by omega) ?_
        obtain ⟨hr_579, hA_580, hF_581⟩ := pa_eq (e_second hl (by omega)) h_577
        subst hr_579
        have hFr_582 := hFr_571.tr hF_581
        have G_583 : M_576 186 = .inl (kI k, 24, .inl (fun zq => nI (va_up f1 i (xKind (cAt S.1 i)) zq))) := by rw [hF_581 186 (Or.inr (by decide))]; exact G_572
        have G_584 : M_576 187 = .inl (kI k, 24, .inl (fun zq => nI (va_up f2 i (xFirst (cAt S.1 i)) zq))) := by rw [hF_581 187 (Or.inr (by decide))]; exact G_573
        have G_585 : M_576 188 = .inl (kI k, 24, .inl (fun zq => nI (f3 zq))) := by rw [hF_581 188 (Or.inr (by decide))]; exact G_574
        have G_586 : M_576 189 = .inl (kI k, 8, .inl (fun zq => nI (g4 zq))) := by rw [hF_581 189 (Or.inr (by decide))]; exact G_575
        refine v_iast X nI (xSecond (cAt S.1 i)) G_585 (by omega) (by omega) (by decide) dL_built_98 (fun M_587 hM_588 => ?_)
        have hA_590 : At k M_587 S := hA_580.fr (fun i hi => by rw [hM_588, mup_n (by omega)])
        have hFr_591 : FB M M_587 := hFr_582.st hM_588 (by decide)
        have G_592 : M_587 186 = .inl (kI k, 24, .inl (fun zq => nI (va_up f1 i (xKind (cAt S.1 i)) zq))) := by rw [hM_588, mup_n (by decide)]; exact G_583
        have G_593 : M_587 187 = .inl (kI k, 24, .inl (fun zq => nI (va_up f2 i (xFirst (cAt S.1 i)) zq))) := by rw [hM_588, mup_n (by decide)]; exact G_584
        have G_594 : M_587 188 = .inl (kI k, 24, .inl (fun zq => nI (va_up f3 i (xSecond (cAt S.1 i)) zq))) := by rw [hM_588]; exact mup_s
        have G_595 : M_587 189 = .inl (kI k, 8, .inl (fun zq => nI (g4 zq))) := by rw [hM_588, mup_n (by decide)]; exact G_586
        refine v_iinc X (v := nI (i + 1)) 0 [(13, .int (nI (i + 1))), (12, .ref (ad k 189)), (11, .ref (ad k 188)), (10, .ref (ad k 187)), (9, .ref (ad k 186)), (8, .int (nI 1)), (7, .int (nI 0)), (6, .int (nI 0)), (5, .int (nI 0)), (4, .int (bI ((elRun S.1).2.2))), (3, .int (nI ((elRun S.1).2.1))), (2, .int (oI (coreO S.1))), (1, .int (nI S.1.length)), (0, .ref (ad k 0))] dL_built_99 rfl (nI_1 _) (by decide) rfl ?_
        refine v_goto X 60 dL_built_102 (by decide) ?_
        refine v_widen (z' := (4 + 3 * (i + 1), 80 + 18 * (i + 1))) (show 4 + 3 * i + 3 ≤ 4 + 3 * (i + 1) by omega) (show 80 + 18 * i + 18 ≤ 80 + 18 * (i + 1) by omega) ?_
        exact ih_L60 (i + 1) (va_up f1 i (xKind (cAt S.1 i))) (va_up f2 i (xFirst (cAt S.1 i))) (va_up f3 i (xSecond (cAt S.1 i))) g4 M_587 (by omega) (by omega) (up_ext h1 rfl) (up_ext h2 rfl) (up_ext h3 rfl) hA_590 hFr_591 G_592 G_593 G_594 G_595
  refine v_iconst X (v := nI 0) (by decide) dL_built_57 ?_
  refine v_istore X [(13, .int (nI 0)), (12, .ref (ad k 189)), (11, .ref (ad k 188)), (10, .ref (ad k 187)), (9, .ref (ad k 186)), (8, .int (nI 1)), (7, .int (nI 0)), (6, .int (nI 0)), (5, .int (nI 0)), (4, .int (bI ((elRun S.1).2.2))), (3, .int (nI ((elRun S.1).2.1))), (2, .int (oI (coreO S.1))), (1, .int (nI S.1.length)), (0, .ref (ad k 0))] dL_built_58 (by decide) rfl ?_
  refine v_widen (z' := (4 + 3 * 0, 80 + 18 * 0)) (show 4 ≤ 4 + 3 * 0 by omega) (show 80 ≤ 80 + 18 * 0 by omega) ?_
  exact L60 (S.1.length + 1) 0 (fun _ => 0) (fun _ => 0) (fun _ => 0) (fun _ => 0) M_47 (by omega) (Nat.zero_le _) (fun j hj => absurd hj (Nat.not_lt_zero _)) (fun j hj => absurd hj (Nat.not_lt_zero _)) (fun j hj => absurd hj (Nat.not_lt_zero _)) hA_49 hFr_50 G_51 G_52 G_53 G_54
