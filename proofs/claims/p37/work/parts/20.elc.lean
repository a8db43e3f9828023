set_option maxHeartbeats 4000000 in
set_option maxRecDepth 100000 in
theorem c_X0_reduced (l : Launch) (k : KX) (M : Mem) (r : Nat → Nat) (n : Nat) (c : Bool) (x : Nat) (hN : 21 ≤ kN k) (F0 : M 19 = .inr (0, [.ref (ad k 20), .int (nI n), .int (bI c)])) (F1 : M 20 = .inl (kI k, 8, .inl (fun zq => nI (r zq)))) (hr : ∀ v, v < 8 → r v < 65536) (hx : x < 65536) : CM l yX0_reduced cX0_reduced 4 ((some .int)) { frames := 1, cells := 0, slots := 0, locals := 21 } k [.ref (ad k 19), .int (nI x)] M (pP (.int (nI (redF r 8 x))) M) := by
  refine CM.of (by decide) (Nat.le_of_ble_eq_true rfl) (fun C X hCl hCR rq => ?_)
  show V C k 4 (0, 0) M 0 [(0, .ref (ad k 19)), (1, .int (nI x))] []
  have L : ∀ (fu : Nat) (i w : Nat), 8 - i < fu → (i ≤ 8) → (redF r i x = w) → V C k 4 (0, 0) M 4 [(0, .ref (ad k 19)), (1, .int (nI x)), (2, .int (nI w)), (3, .int (nI i))] [] := by
    intro fu
    induction fu with
    | zero => intro i w hfu; exact absurd hfu (Nat.not_lt_zero _)
    | succ fu ih =>
      intro i w hfu hi hw 
      refine v_iload_n X 3 dX0_reduced_4 rfl ?_
      refine v_bipush X (v := nI 8) (by decide) dX0_reduced_5 ?_
      refine v_cgeN X 33 (by omega) (by omega) dX0_reduced_7 (by decide) (fun c_1 => ?_) (fun c_1 => ?_)
      · refine v_iload_n X 2 dX0_reduced_33 rfl ?_
        exact v_iret X rq ⟨by decide, by decide⟩ rfl dX0_reduced_34 (pP_i (by rw [← hw, show i = 8 by omega]))
      · have hwl := redF_lt hr hx i (by omega)
        rw [hw] at hwl
        refine v_iload_n X 2 dX0_reduced_10 rfl ?_
        refine v_iload_n X 3 dX0_reduced_11 rfl ?_
        refine v_callSN X hCl hCR (c_X7_contains l k M w i (by omega) (by omega)) mo_X7_contains m_18 nw_36 m_20 m_21 (by decide) rfl rfl (Nat.le_of_ble_eq_true rfl) ⟨rfl, rfl⟩ ⟨by decide, by decide⟩ dX0_reduced_12 (vP_in ?_)
        refine v_ieqB X 27 dX0_reduced_15 (by decide) (fun c_2 => ?_) (fun c_2 => ?_)
        · have hb := c_2
          refine v_iinc X (v := nI (i + 1)) 3 [(3, .int (nI (i + 1))), (0, .ref (ad k 19)), (1, .int (nI x)), (2, .int (nI w))] dX0_reduced_27 rfl (nI_1 _) (by decide) rfl ?_
          refine v_goto X 4 dX0_reduced_30 (by decide) ?_
          refine v_lv [1, 2, 3, 0] rfl ?_
          exact ih (i + 1) (w) (by omega) (by omega) (by rw [red_f (by rw [hw]; exact hb), hw])
        · have hb := c_2
          refine v_iload_n X 2 dX0_reduced_18 rfl ?_
          refine v_aload_n X 0 dX0_reduced_19 rfl ?_
          refine v_get X cls0 F0 (by omega) 0 (by decide) m_5 rfl rfl dX0_reduced_20 ?_
          refine v_iload_n X 3 dX0_reduced_23 rfl ?_
          refine v_iald X nI F1 (by omega) (by omega) (by decide) dX0_reduced_24 ?_
          refine v_xorN X dX0_reduced_25 ?_
          refine v_istore_n X [(2, .int (nI (w ^^^ (r i)))), (0, .ref (ad k 19)), (1, .int (nI x)), (3, .int (nI i))] dX0_reduced_26 (by decide) rfl ?_
          refine v_iinc X (v := nI (i + 1)) 3 [(3, .int (nI (i + 1))), (2, .int (nI (w ^^^ (r i)))), (0, .ref (ad k 19)), (1, .int (nI x))] dX0_reduced_27 rfl (nI_1 _) (by decide) rfl ?_
          refine v_goto X 4 dX0_reduced_30 (by decide) ?_
          refine v_lv [2, 3, 1, 0] rfl ?_
          exact ih (i + 1) (w ^^^ (r i)) (by omega) (by omega) (by rw [red_t (by rw [hw]; exact hb), hw])
  refine v_iload_n X 1 dX0_reduced_0 rfl ?_
  refine v_istore_n X [(2, .int (nI x)), (0, .ref (ad k 19)), (1, .int (nI x))] dX0_reduced_1 (by decide) rfl ?_
  refine v_iconst X (v := nI 0) (by decide) dX0_reduced_2 ?_
  refine v_istore_n X [(3, .int (nI 0)), (2, .int (nI x)), (0, .ref (ad k 19)), (1, .int (nI x))] dX0_reduced_3 (by decide) rfl ?_
  refine v_lv [2, 3, 1, 0] rfl ?_
  exact L 9 0 x (by omega) (by omega) rfl
set_option maxHeartbeats 4000000 in
set_option maxRecDepth 100000 in
theorem c_X0_insert (l : Launch) (k : KX) (M : Mem) (r : Nat → Nat) (n : Nat) (c : Bool) (x : Nat) (hN : 21 ≤ kN k) (F0 : M 19 = .inr (0, [.ref (ad k 20), .int (nI n), .int (bI c)])) (F1 : M 20 = .inl (kI k, 8, .inl (fun zq => nI (r zq)))) (hr : ∀ v, v < 8 → r v < 65536) (hx : x < 65536) (hn : n ≤ 24) : CM l yX0_insert cX0_insert 4 none { frames := 2, cells := 0, slots := 0, locals := 42 } k [.ref (ad k 19), .int (nI x)] M (pV (fun M' => (M' 19 = .inr (0, [.ref (ad k 20), .int (nI (insF (r, n, c) x).2.1), .int (bI (insF (r, n, c) x).2.2)]) ∧ ∃ r' : Nat → Nat, M' 20 = .inl (kI k, 8, .inl (fun q => nI (r' q))) ∧ ∀ v, v < 8 → r' v = (insF (r, n, c) x).1 v) ∧ Fr 19 2 M M')) := by
  refine CM.of (by decide) (Nat.le_of_ble_eq_true rfl) (fun C X hCl hCR rq => ?_)
  show V C k 4 (0, 0) M 0 [(0, .ref (ad k 19)), (1, .int (nI x))] []
  have hxf := xFirst_lt x
  have L : ∀ (fu : Nat) (pv i : Nat) (h : Nat → Nat) (M1 : Mem), 8 - i < fu → (pv < 8) → (lowO (xFirst x) = some pv) → (i ≤ 8) → (∀ v, v < 8 → h v = if v < i then subF r pv x v else r v) → (Fr 19 2 M M1) → M1 19 = .inr (0, [.ref (ad k 20), .int (nI n), .int (bI c)]) → M1 20 = .inl (kI k, 8, .inl (fun zq => nI (h zq))) → V C k 4 (0, 0) M1 38 [(0, .ref (ad k 19)), (1, .int (nI x)), (2, .int (nI pv)), (3, .int (nI i))] [] := by
    intro fu
    induction fu with
    | zero => intro pv i h M1 hfu; exact absurd hfu (Nat.not_lt_zero _)
    | succ fu ih =>
      intro pv i h M1 hfu hpv hlo hi hh hfr G0 G1
      refine v_iload_n X 3 dX0_insert_38 rfl ?_
      refine v_bipush X (v := nI 8) (by decide) dX0_insert_39 ?_
      refine v_cgeN X 73 (by omega) (by omega) dX0_insert_41 (by decide) (fun c_1 => ?_) (fun c_1 => ?_)
      · refine v_aload_n X 0 dX0_insert_73 rfl ?_
        refine v_get X cls0 G0 (by omega) 0 (by decide) m_5 rfl rfl dX0_insert_74 ?_
        refine v_iload_n X 2 dX0_insert_77 rfl ?_
        refine v_iload_n X 1 dX0_insert_78 rfl ?_
        refine v_iast X nI x G1 (by omega) (by omega) (by decide) dX0_insert_79 (fun M_2 hM_3 => ?_)
        have F_5 : M_2 19 = .inr (0, [.ref (ad k 20), .int (nI n), .int (bI c)]) := by rw [hM_3, mup_n (by omega)]; exact G0
        have F_6 : M_2 20 = .inl (kI k, 8, .inl (fun zq => nI (va_up h pv x zq))) := by rw [hM_3]; exact mup_s
        refine v_aload_n X 0 dX0_insert_80 rfl ?_
        refine v_dup X rfl dX0_insert_81 ?_
        refine v_get X cls0 F_5 (by omega) 1 (by decide) m_6 rfl rfl dX0_insert_82 ?_
        refine v_iconst X (v := nI 1) (by decide) dX0_insert_85 ?_
        refine v_addN X dX0_insert_86 ?_
        refine v_put X cls0 F_5 (by omega) 1 (by decide) m_6 rfl rfl rfl rfl (Nat.le_of_ble_eq_true rfl) dX0_insert_87 (fun M_7 hM_8 => ?_)
        have F_9 : M_7 19 = .inr (0, [.ref (ad k 20), .int (nI (n + 1)), .int (bI c)]) := by rw [hM_8]; exact mup_s
        have F_10 : M_7 20 = .inl (kI k, 8, .inl (fun zq => nI (va_up h pv x zq))) := by rw [hM_8, mup_n (by omega)]; exact F_6
        exact v_vret X rq ⟨by decide, by decide⟩ dX0_insert_90 ⟨rfl, ⟨by rw [insF_some hlo]; exact F_9, _, F_10, fun v hv => by rw [insF_some hlo]; exact sub_end (by omega) hh v hv⟩, (fun i hi => by rw [hM_8, mup_n (by omega), hM_3, mup_n (by omega)]; exact hfr i hi)⟩
      · have hhi : h i = r i := by rw [hh i (by omega), if_neg (by omega)]
        have hri := hr i (by omega)
        refine v_aload_n X 0 dX0_insert_44 rfl ?_
        refine v_get X cls0 G0 (by omega) 0 (by decide) m_5 rfl rfl dX0_insert_45 ?_
        refine v_iload_n X 3 dX0_insert_48 rfl ?_
        refine v_iald X nI G1 (by omega) (by omega) (by decide) dX0_insert_49 ?_
        refine v_iload_n X 2 dX0_insert_50 rfl ?_
        refine v_callSN X hCl hCR (c_X7_contains l k M1 (h i) pv (by rw [hhi]; omega) (by omega)) mo_X7_contains m_18 nw_36 m_20 m_21 (by decide) rfl rfl (Nat.le_of_ble_eq_true rfl) ⟨rfl, rfl⟩ ⟨by decide, by decide⟩ dX0_insert_51 (vP_in ?_)
        refine v_ieqB X 67 dX0_insert_54 (by decide) (fun c_11 => ?_) (fun c_11 => ?_)
        · have hb := c_11
          have hb2 := hb
          rw [hhi] at hb2
          refine v_iinc X (v := nI (i + 1)) 3 [(3, .int (nI (i + 1))), (0, .ref (ad k 19)), (1, .int (nI x)), (2, .int (nI pv))] dX0_insert_67 rfl (nI_1 _) (by decide) rfl ?_
          refine v_goto X 38 dX0_insert_70 (by decide) ?_
          refine v_lv [1, 2, 3, 0] rfl ?_
          exact ih pv (i + 1) (h) M1 (by omega) hpv hlo (by omega) (sub_skip hh (by omega) hb2) hfr G0 G1
        · have hb := c_11
          have hb2 := hb
          rw [hhi] at hb2
          have hxi : h i ^^^ x = subF r pv x i := by unfold subF; rw [if_pos hb2, hhi]
          refine v_aload_n X 0 dX0_insert_57 rfl ?_
          refine v_get X cls0 G0 (by omega) 0 (by decide) m_5 rfl rfl dX0_insert_58 ?_
          refine v_iload_n X 3 dX0_insert_61 rfl ?_
          refine v_dup2 X rfl rfl dX0_insert_62 ?_
          refine v_iald X nI G1 (by omega) (by omega) (by decide) dX0_insert_63 ?_
          refine v_iload_n X 1 dX0_insert_64 rfl ?_
          refine v_xorN X dX0_insert_65 ?_
          refine v_iast X nI ((h i) ^^^ x) G1 (by omega) (by omega) (by decide) dX0_insert_66 (fun M_12 hM_13 => ?_)
          have F_15 : M_12 19 = .inr (0, [.ref (ad k 20), .int (nI n), .int (bI c)]) := by rw [hM_13, mup_n (by omega)]; exact G0
          have F_16 : M_12 20 = .inl (kI k, 8, .inl (fun zq => nI (va_up h i ((h i) ^^^ x) zq))) := by rw [hM_13]; exact mup_s
          refine v_iinc X (v := nI (i + 1)) 3 [(3, .int (nI (i + 1))), (0, .ref (ad k 19)), (1, .int (nI x)), (2, .int (nI pv))] dX0_insert_67 rfl (nI_1 _) (by decide) rfl ?_
          refine v_goto X 38 dX0_insert_70 (by decide) ?_
          refine v_lv [1, 2, 3, 0] rfl ?_
          exact ih pv (i + 1) (va_up h i ((h i) ^^^ x)) M_12 (by omega) hpv hlo (by omega) (sub_step hh hxi) (fun i hi => by rw [hM_13, mup_n (by omega)]; exact hfr i hi) F_15 F_16
  refine v_iload_n X 1 dX0_insert_0 rfl ?_
  refine v_callSN X hCl hCR (c_X7_firstPart l k M x) mo_X7_firstPart m_22 nw_37 m_27 m_21 (by decide) rfl rfl (Nat.le_of_ble_eq_true rfl) ⟨rfl, rfl⟩ ⟨by decide, by decide⟩ dX0_insert_1 (vP_in ?_)
  refine v_callSN X hCl hCR (c_X7_smallestVariable l k M (xFirst x) (by omega)) mo_X7_smallestVariable m_23 nw_38 m_28 m_21 (by decide) rfl rfl (Nat.le_of_ble_eq_true rfl) ⟨rfl, rfl⟩ ⟨by decide, by decide⟩ dX0_insert_4 (vP_in ?_)
  refine v_istore_n X [(2, .int (oI (lowO (xFirst x)))), (0, .ref (ad k 19)), (1, .int (nI x))] dX0_insert_7 (by decide) rfl ?_
  refine v_iload_n X 0 dX0_insert_8 rfl ?_
  refine v_callSN X hCl hCR (c_X7_isVariable l k M (oI (lowO (xFirst x)))) mo_X7_isVariable m_25 nw_39 m_29 m_21 (by decide) rfl rfl (Nat.le_of_ble_eq_true rfl) ⟨rfl, rfl⟩ ⟨by decide, by decide⟩ dX0_insert_9 (vP_in ?_)
  refine v_ineB X 36 dX0_insert_12 (by decide) (fun c_17 => ?_) (fun c_17 => ?_)
  · obtain ⟨pv, hpv, hlo⟩ := inL_lowO_t c_17
    rw [hlo]
    refine v_iconst X (v := nI 0) (by decide) dX0_insert_36 ?_
    refine v_istore_n X [(3, .int (nI 0)), (2, .int (nI pv)), (0, .ref (ad k 19)), (1, .int (nI x))] dX0_insert_37 (by decide) rfl ?_
    refine v_lv [2, 3, 1, 0] rfl ?_
    exact L 9 pv 0 r M (by omega) hpv hlo (by omega) (fun v hv => by rw [if_neg (by omega)]) Fr.rf F0 F1
  · have hlo := inL_lowO_f c_17
    refine v_aload_n X 1 dX0_insert_15 rfl ?_
    refine v_aload_n X 1 dX0_insert_16 rfl ?_
    refine v_get X cls0 F0 (by omega) 2 (by decide) m_7 rfl rfl dX0_insert_17 ?_
    refine v_ieqB X 31 dX0_insert_20 (by decide) (fun c_18 => ?_) (fun c_18 => ?_)
    · refine v_iconst X (v := bI false) (by decide) dX0_insert_31 ?_
      refine v_put X cls0 F0 (by omega) 2 (by decide) m_7 rfl rfl (narZ _) (fitZ _) (Nat.le_of_ble_eq_true rfl) dX0_insert_32 (fun M_19 hM_20 => ?_)
      have F_21 : M_19 19 = .inr (0, [.ref (ad k 20), .int (nI n), .int (bI false)]) := by rw [hM_20]; exact mup_s
      have F_22 : M_19 20 = .inl (kI k, 8, .inl (fun zq => nI (r zq))) := by rw [hM_20, mup_n (by omega)]; exact F1
      exact v_vret X rq ⟨by decide, by decide⟩ dX0_insert_35 ⟨rfl, ⟨by rw [insF_none hlo, show (c && decide (x = 0)) = false by simp_all]; exact F_21, r, F_22, fun v hv => by rw [insF_none hlo]⟩, (fun i hi => by rw [hM_20, mup_n (by omega)])⟩
    · refine v_iload_n X 2 dX0_insert_23 rfl ?_
      refine v_ineN X 31 (by omega) dX0_insert_24 (by decide) (fun c_23 => ?_) (fun c_23 => ?_)
      · refine v_iconst X (v := bI false) (by decide) dX0_insert_31 ?_
        refine v_put X cls0 F0 (by omega) 2 (by decide) m_7 rfl rfl (narZ _) (fitZ _) (Nat.le_of_ble_eq_true rfl) dX0_insert_32 (fun M_24 hM_25 => ?_)
        have F_26 : M_24 19 = .inr (0, [.ref (ad k 20), .int (nI n), .int (bI false)]) := by rw [hM_25]; exact mup_s
        have F_27 : M_24 20 = .inl (kI k, 8, .inl (fun zq => nI (r zq))) := by rw [hM_25, mup_n (by omega)]; exact F1
        exact v_vret X rq ⟨by decide, by decide⟩ dX0_insert_35 ⟨rfl, ⟨by rw [insF_none hlo, show (c && decide (x = 0)) = false by simp_all]; exact F_26, r, F_27, fun v hv => by rw [insF_none hlo]⟩, (fun i hi => by rw [hM_25, mup_n (by omega)])⟩
      · refine v_iconst X (v := bI true) (by decide) dX0_insert_27 ?_
        refine v_goto X 32 dX0_insert_28 (by decide) ?_
        refine v_put X cls0 F0 (by omega) 2 (by decide) m_7 rfl rfl (narZ _) (fitZ _) (Nat.le_of_ble_eq_true rfl) dX0_insert_32 (fun M_28 hM_29 => ?_)
        have F_30 : M_28 19 = .inr (0, [.ref (ad k 20), .int (nI n), .int (bI true)]) := by rw [hM_29]; exact mup_s
        have F_31 : M_28 20 = .inl (kI k, 8, .inl (fun zq => nI (r zq))) := by rw [hM_29, mup_n (by omega)]; exact F1
        exact v_vret X rq ⟨by decide, by decide⟩ dX0_insert_35 ⟨rfl, ⟨by rw [insF_none hlo, show (c && decide (x = 0)) = true by simp_all]; exact F_30, r, F_31, fun v hv => by rw [insF_none hlo]⟩, (fun i hi => by rw [hM_29, mup_n (by omega)])⟩
theorem z_step {f : Nat → Nat} {i : Nat} (hh : ∀ j, j < i → f j = 0) : ∀ j, j < i + 1 → va_up f i 0 j = 0 := by
  intro j hj
  by_cases e : j = i
  · subst e; rw [up_s]
  · rw [up_n _ _ e]; exact hh j (by omega)
set_option maxHeartbeats 4000000 in
set_option maxRecDepth 100000 in
theorem c_X0_run (l : Launch) (k : KX) (M : Mem) (b : Nat) (cs : List Nat) (hE : ElAt k M) (hF : FmAt k M b cs) (ho2 : csOK cs) (hap : b + 2 ≤ 19 ∨ 21 ≤ b) : CM l yX0_run cX0_run 4 none { frames := 3, cells := 0, slots := 0, locals := 65 } k [.ref (ad k 19), .ref (ad k b)] M (pV (fun M' => ElOK k M' (elRun cs) ∧ Fr 19 2 M M')) := by
  refine CM.of (by decide) (Nat.le_of_ble_eq_true rfl) (fun C X hCl hCR rq => ?_)
  show V C k 4 (0, 0) M 0 [(0, .ref (ad k 19)), (1, .ref (ad k b))] []
  obtain ⟨hN, r0, n0, c0, F0, F1⟩ := id hE
  have hok := cAt_ok ho2
  have hlc := hF.2.1
  have hN2 := hF.1
  have L2 : ∀ (fu : Nat) (i : Nat) (r : Nat → Nat) (M1 : Mem), cs.length - i < fu → (i ≤ cs.length) → (∀ v, v < 8 → r v = (elF cs i).1 v) → (Fr 19 2 M M1) → M1 19 = .inr (0, [.ref (ad k 20), .int (nI ((elF cs i).2.1)), .int (bI ((elF cs i).2.2))]) → M1 20 = .inl (kI k, 8, .inl (fun zq => nI (r zq))) → FmAt k M1 b cs → V C k 4 (0, 0) M1 33 [(0, .ref (ad k 19)), (1, .ref (ad k b)), (2, .int (nI i))] [] := by
    intro fu
    induction fu with
    | zero => intro i r M1 hfu; exact absurd hfu (Nat.not_lt_zero _)
    | succ fu ih =>
      intro i r M1 hfu hi hr hfr G0 G1 hF1
      refine v_iload_n X 2 dX0_run_33 rfl ?_
      obtain ⟨hN3, hl3, f3, G3, G4, hf3⟩ := id hF1
      refine v_aload_n X 1 dX0_run_34 rfl ?_
      refine v_getN X cls1 G3 (by omega) 1 (by decide) nw_2 rfl rfl dX0_run_35 ?_
      refine v_cgeN X 72 (by omega) (by omega) dX0_run_38 (by decide) (fun c_1 => ?_) (fun c_1 => ?_)
      · exact v_vret X rq ⟨by decide, by decide⟩ dX0_run_72 ⟨rfl, ⟨hN, r, (by unfold elRun; rw [show cs.length = i from (by omega)]; exact G0), G1, fun v hv => by unfold elRun; rw [show cs.length = i from (by omega)]; exact hr v hv⟩, hfr⟩
      · obtain ⟨hB1, hB2⟩ := elF_B hok i
        have hxl := hok i
        have hrb : ∀ v, v < 8 → r v < 65536 := fun v hv => by rw [hr v hv]; exact hB1 v hv
        have hxr := xRow_lt (hok i)
        refine v_aload_n X 1 dX0_run_41 rfl ?_
        refine v_iload_n X 2 dX0_run_42 rfl ?_
        refine v_callV X hCl hCR (c_X1_codeAtN l k M1 b cs i hF1 (by omega)) cls1 hF1.obj (by omega) mo_X1_codeAt m_10 m_31 m_32 m_33 m_15 (by decide) rfl rfl (Nat.le_of_ble_eq_true rfl) ⟨rfl, rfl⟩ ⟨by decide, by decide⟩ dX0_run_43 (vP_in ?_)
        refine v_istore_n X [(3, .int (nI (cAt cs i))), (0, .ref (ad k 19)), (1, .ref (ad k b)), (2, .int (nI i))] dX0_run_46 (by decide) rfl ?_
        refine v_iload_n X 0 dX0_run_47 rfl ?_
        refine v_callSN X hCl hCR (c_X7_isParityCode l k M1 (cAt cs i) (by omega)) mo_X7_isParityCode m_16 nw_35 m_34 m_21 (by decide) rfl rfl (Nat.le_of_ble_eq_true rfl) ⟨rfl, rfl⟩ ⟨by decide, by decide⟩ dX0_run_48 (vP_in ?_)
        refine v_ieqB X 66 dX0_run_51 (by decide) (fun c_2 => ?_) (fun c_2 => ?_)
        · have hp := c_2
          rw [← elF_f hp] at G0
          refine v_iinc X (v := nI (i + 1)) 3 [(2, .int (nI (i + 1))), (3, .int (nI (cAt cs i))), (0, .ref (ad k 19)), (1, .ref (ad k b))] dX0_run_66 rfl (nI_1 _) (by decide) rfl ?_
          refine v_goto X 33 dX0_run_69 (by decide) ?_
          refine v_lv [2, 3, 0] rfl ?_
          exact ih (i + 1) r M1 (by omega) (by omega) (by rw [elF_f hp]; exact hr) hfr G0 G1 hF1
        · have hp := c_2
          refine v_aload_n X 1 dX0_run_54 rfl ?_
          refine v_aload_n X 1 dX0_run_55 rfl ?_
          refine v_iload_n X 0 dX0_run_56 rfl ?_
          refine v_ldc X (v := (-65537)) m_30 dX0_run_57 ?_
          refine v_top (show (Value.int ((-65537)) : Value) = .int (nI 4294901759) from congrArg _ (by decide)) ?_
          refine v_andN X dX0_run_59 ?_
          refine v_top (show (Value.int (nI ((cAt cs i) &&& 4294901759)) : Value) = .int (nI (xRow (cAt cs i))) from congrArg _ (rfl)) ?_
          refine v_callV X hCl hCR (c_X0_reduced l k M1 r ((elF cs i).2.1) ((elF cs i).2.2) (xRow (cAt cs i)) (by omega) G0 G1 hrb hxr) cls0 ⟨_, G0⟩ (by omega) mo_X0_reduced m_19 m_35 m_36 m_37 m_38 (by decide) rfl rfl (Nat.le_of_ble_eq_true rfl) ⟨rfl, rfl⟩ ⟨by decide, by decide⟩ dX0_run_60 (vP_in ?_)
          refine v_callV X hCl hCR (c_X0_insert l k M1 r ((elF cs i).2.1) ((elF cs i).2.2) (redF r 8 (xRow (cAt cs i))) (by omega) G0 G1 hrb (redF_lt hrb hxr 8 (by decide)) (by omega)) cls0 ⟨_, G0⟩ (by omega) mo_X0_insert m_26 m_39 m_40 m_41 m_38 (by decide) rfl rfl (Nat.le_of_ble_eq_true rfl) ⟨rfl, rfl⟩ ⟨by decide, by decide⟩ dX0_run_63 (vV_in (fun M_3 hp_4 => ?_))
          obtain ⟨⟨F_6, r_8, F_7, hq_9⟩, hfr_5⟩ := hp_4
          have hcg := insF_congr (e := elF cs i) (row := redF r 8 (xRow (cAt cs i))) hr
          rw [hcg.1] at F_6
          have hq : ∀ v, v < 8 → r_8 v = (insF (elF cs i) (redF (elF cs i).1 8 (xRow (cAt cs i)))).1 v := fun v hv => by rw [hq_9 v hv, hcg.2 v hv, redF_congr 8 (fun w hw => hr w hw)]
          rw [redF_congr 8 (fun w hw => hr w hw), ← elF_t hp] at F_6
          have P_10 : FmAt k M_3 b cs := hF1.fr (fun i h1 h2 => hfr_5 i (by omega))
          refine v_iinc X (v := nI (i + 1)) 3 [(2, .int (nI (i + 1))), (3, .int (nI (cAt cs i))), (0, .ref (ad k 19)), (1, .ref (ad k b))] dX0_run_66 rfl (nI_1 _) (by decide) rfl ?_
          refine v_goto X 33 dX0_run_69 (by decide) ?_
          refine v_lv [2, 3, 0] rfl ?_
          exact ih (i + 1) r_8 M_3 (by omega) (by omega) (by rw [elF_t hp]; exact hq) (fun i hi => by rw [hfr_5 i (by omega)]; exact hfr i hi) F_6 F_7 P_10
  have L1 : ∀ (fu : Nat) (i : Nat) (r : Nat → Nat) (M1 : Mem), 8 - i < fu → (i ≤ 8) → (∀ v, v < i → r v = 0) → (Fr 19 2 M M1) → M1 19 = .inr (0, [.ref (ad k 20), .int (nI n0), .int (bI c0)]) → M1 20 = .inl (kI k, 8, .inl (fun zq => nI (r zq))) → FmAt k M1 b cs → V C k 4 (0, 0) M1 2 [(0, .ref (ad k 19)), (1, .ref (ad k b)), (2, .int (nI i))] [] := by
    intro fu
    induction fu with
    | zero => intro i r M1 hfu; exact absurd hfu (Nat.not_lt_zero _)
    | succ fu ih =>
      intro i r M1 hfu hi hh hfr G0 G1 hF1
      refine v_iload_n X 2 dX0_run_2 rfl ?_
      refine v_bipush X (v := nI 8) (by decide) dX0_run_3 ?_
      refine v_cgeN X 21 (by omega) (by omega) dX0_run_5 (by decide) (fun c_11 => ?_) (fun c_11 => ?_)
      · refine v_aload_n X 0 dX0_run_21 rfl ?_
        refine v_iconst X (v := nI 0) (by decide) dX0_run_22 ?_
        refine v_put X cls0 G0 (by omega) 1 (by decide) m_6 rfl rfl rfl rfl (Nat.le_of_ble_eq_true rfl) dX0_run_23 (fun M_12 hM_13 => ?_)
        have F_14 : M_12 19 = .inr (0, [.ref (ad k 20), .int (nI 0), .int (bI c0)]) := by rw [hM_13]; exact mup_s
        have F_15 : M_12 20 = .inl (kI k, 8, .inl (fun zq => nI (r zq))) := by rw [hM_13, mup_n (by omega)]; exact G1
        have P_16 : FmAt k M_12 b cs := hF1.fr (fun i h1 h2 => by rw [hM_13, mup_n (by omega)])
        refine v_aload_n X 0 dX0_run_26 rfl ?_
        refine v_iconst X (v := bI true) (by decide) dX0_run_27 ?_
        refine v_put X cls0 F_14 (by omega) 2 (by decide) m_7 rfl rfl (narZ _) (fitZ _) (Nat.le_of_ble_eq_true rfl) dX0_run_28 (fun M_17 hM_18 => ?_)
        have F_19 : M_17 19 = .inr (0, [.ref (ad k 20), .int (nI 0), .int (bI true)]) := by rw [hM_18]; exact mup_s
        have F_20 : M_17 20 = .inl (kI k, 8, .inl (fun zq => nI (r zq))) := by rw [hM_18, mup_n (by omega)]; exact F_15
        have P_21 : FmAt k M_17 b cs := P_16.fr (fun i h1 h2 => by rw [hM_18, mup_n (by omega)])
        refine v_iconst X (v := nI 0) (by decide) dX0_run_31 ?_
        refine v_istore_n X [(2, .int (nI 0)), (0, .ref (ad k 19)), (1, .ref (ad k b))] dX0_run_32 (by decide) rfl ?_
        refine v_lv [1, 2, 0] rfl ?_
        exact L2 (cs.length + 1) 0 r M_17 (by omega) (by omega) (fun v hv => hh v (by omega)) (fun i hi => by rw [hM_18, mup_n (by omega), hM_13, mup_n (by omega)]; exact hfr i hi) F_19 F_20 P_21
      · refine v_aload_n X 0 dX0_run_8 rfl ?_
        refine v_get X cls0 G0 (by omega) 0 (by decide) m_5 rfl rfl dX0_run_9 ?_
        refine v_iload_n X 2 dX0_run_12 rfl ?_
        refine v_iconst X (v := nI 0) (by decide) dX0_run_13 ?_
        refine v_iast X nI 0 G1 (by omega) (by omega) (by decide) dX0_run_14 (fun M_22 hM_23 => ?_)
        have F_25 : M_22 19 = .inr (0, [.ref (ad k 20), .int (nI n0), .int (bI c0)]) := by rw [hM_23, mup_n (by omega)]; exact G0
        have F_26 : M_22 20 = .inl (kI k, 8, .inl (fun zq => nI (va_up r i 0 zq))) := by rw [hM_23]; exact mup_s
        have P_27 : FmAt k M_22 b cs := hF1.fr (fun i h1 h2 => by rw [hM_23, mup_n (by omega)])
        refine v_iinc X (v := nI (i + 1)) 2 [(2, .int (nI (i + 1))), (0, .ref (ad k 19)), (1, .ref (ad k b))] dX0_run_15 rfl (nI_1 _) (by decide) rfl ?_
        refine v_goto X 2 dX0_run_18 (by decide) ?_
        refine v_lv [1, 2, 0] rfl ?_
        exact ih (i + 1) (va_up r i 0) M_22 (by omega) (by omega) (z_step hh) (fun i hi => by rw [hM_23, mup_n (by omega)]; exact hfr i hi) F_25 F_26 P_27
  refine v_iconst X (v := nI 0) (by decide) dX0_run_0 ?_
  refine v_istore_n X [(2, .int (nI 0)), (0, .ref (ad k 19)), (1, .ref (ad k b))] dX0_run_1 (by decide) rfl ?_
  refine v_lv [1, 2, 0] rfl ?_
  exact L1 9 0 r0 M (by omega) (by omega) (fun v hv => absurd hv (Nat.not_lt_zero _)) Fr.rf F0 F1 hF
set_option maxHeartbeats 4000000 in
set_option maxRecDepth 100000 in
theorem c_X0_rowAt (l : Launch) (k : KX) (M : Mem) (e : EL) (x : Int32) (hE : ElOK k M e) (hB : ∀ v, v < 8 → e.1 v < 65536) : CM l yX0_rowAt cX0_rowAt 4 ((some .int)) { frames := 0, cells := 0, slots := 0, locals := 0 } k [.ref (ad k 19), .int x] M (pP (.int (oI (rowF e x))) M) := by
  refine CM.of (by decide) (Nat.le_of_ble_eq_true rfl) (fun C X hCl hCR rq => ?_)
  show V C k 4 (0, 0) M 0 [(0, .ref (ad k 19)), (1, .int x)] []
  obtain ⟨hN, f, F0, F1, hf⟩ := id hE
  have L : ∀ (fu : Nat) (i w : Nat), 8 - i < fu → (i ≤ 8) → (w ≤ i) → (nthF (fun v => decide (e.1 v ≠ 0)) x (8 - i) i w = nthF (fun v => decide (e.1 v ≠ 0)) x 8 0 0) → V C k 4 (0, 0) M 4 [(0, .ref (ad k 19)), (1, .int x), (2, .int (nI w)), (3, .int (nI i))] [] := by
    intro fu
    induction fu with
    | zero => intro i w hfu; exact absurd hfu (Nat.not_lt_zero _)
    | succ fu ih =>
      intro i w hfu hi hwi hl 
      refine v_iload_n X 3 dX0_rowAt_4 rfl ?_
      refine v_bipush X (v := nI 8) (by decide) dX0_rowAt_5 ?_
      refine v_cgeN X 40 (by omega) (by omega) dX0_rowAt_7 (by decide) (fun c_1 => ?_) (fun c_1 => ?_)
      · refine v_bipush X (v := (-9)) (by decide) dX0_rowAt_40 ?_
        exact v_iret X rq ⟨by decide, by decide⟩ rfl dX0_rowAt_42 (pP_i (by unfold rowF; rw [nth_end hl (by omega)]; rfl))
      · refine v_aload_n X 0 dX0_rowAt_10 rfl ?_
        refine v_get X cls0 F0 (by omega) 0 (by decide) m_5 rfl rfl dX0_rowAt_11 ?_
        refine v_iload_n X 3 dX0_rowAt_14 rfl ?_
        refine v_iald X nI F1 (by omega) (by omega) (by decide) dX0_rowAt_15 ?_
        refine v_top (show (Value.int (nI (f i)) : Value) = .int (nI (e.1 i)) from congrArg _ (congrArg nI (hf i (by omega)))) ?_
        have hbi := hB i (by omega)
        refine v_ieqN X 34 (by omega) dX0_rowAt_16 (by decide) (fun c_2 => ?_) (fun c_2 => ?_)
        · have hb := c_2
          refine v_iinc X (v := nI (i + 1)) 3 [(3, .int (nI (i + 1))), (0, .ref (ad k 19)), (1, .int x), (2, .int (nI w))] dX0_rowAt_34 rfl (nI_1 _) (by decide) rfl ?_
          refine v_goto X 4 dX0_rowAt_37 (by decide) ?_
          refine v_lv [1, 2, 3, 0] rfl ?_
          exact ih (i + 1) (w) (by omega) (by omega) (by omega) (nth_miss hl (by omega) (decide_eq_false (fun w => w hb)))
        · have hb := c_2
          refine v_iload_n X 2 dX0_rowAt_19 rfl ?_
          refine v_iload_n X 1 dX0_rowAt_20 rfl ?_
          refine v_icmp_ne X 31 dX0_rowAt_21 (by decide) (fun c_3 => ?_) (fun c_3 => ?_)
          · have h21 := c_3
            refine v_iinc X (v := nI (w + 1)) 2 [(2, .int (nI (w + 1))), (0, .ref (ad k 19)), (1, .int x), (3, .int (nI i))] dX0_rowAt_31 rfl (nI_1 _) (by decide) rfl ?_
            refine v_iinc X (v := nI (i + 1)) 3 [(3, .int (nI (i + 1))), (2, .int (nI (w + 1))), (0, .ref (ad k 19)), (1, .int x)] dX0_rowAt_34 rfl (nI_1 _) (by decide) rfl ?_
            refine v_goto X 4 dX0_rowAt_37 (by decide) ?_
            refine v_lv [2, 3, 1, 0] rfl ?_
            exact ih (i + 1) (w + 1) (by omega) (by omega) (by omega) (nth_next hl (by omega) (decide_eq_true hb) h21)
          · have h21 := c_3
            refine v_aload_n X 0 dX0_rowAt_24 rfl ?_
            refine v_get X cls0 F0 (by omega) 0 (by decide) m_5 rfl rfl dX0_rowAt_25 ?_
            refine v_iload_n X 3 dX0_rowAt_28 rfl ?_
            refine v_iald X nI F1 (by omega) (by omega) (by decide) dX0_rowAt_29 ?_
            refine v_top (show (Value.int (nI (f i)) : Value) = .int (nI (e.1 i)) from congrArg _ (congrArg nI (hf i (by omega)))) ?_
            exact v_iret X rq ⟨by decide, by decide⟩ rfl dX0_rowAt_30 (pP_i (by unfold rowF; rw [nth_hit hl (by omega) (decide_eq_true hb) h21]; rfl))
  refine v_iconst X (v := nI 0) (by decide) dX0_rowAt_0 ?_
  refine v_istore_n X [(2, .int (nI 0)), (0, .ref (ad k 19)), (1, .int x)] dX0_rowAt_1 (by decide) rfl ?_
  refine v_iconst X (v := nI 0) (by decide) dX0_rowAt_2 ?_
  refine v_istore_n X [(3, .int (nI 0)), (2, .int (nI 0)), (0, .ref (ad k 19)), (1, .int x)] dX0_rowAt_3 (by decide) rfl ?_
  refine v_lv [2, 3, 1, 0] rfl ?_
  exact L 9 0 0 (by omega) (by omega) (by omega) rfl
