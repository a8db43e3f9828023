set_option maxHeartbeats 4000000 in
set_option maxRecDepth 100000 in
theorem c_X5_decisionAt (l : Launch) (k : KX) (M : Mem) (b : Nat) (cs ds : List Nat) (i : Nat) (hS : StAt k M b cs ds) (hi : i < 2 ^ 31) : CM l yX5_decisionAt cX5_decisionAt 2 ((some .int)) { frames := 0, cells := 0, slots := 0, locals := 0 } k [.ref (ad k b), .int (nI i)] M (pP (.int (nI (cAt ds i))) M) := by
  refine CM.of (by decide) (Nat.le_of_ble_eq_true rfl) (fun C X hCl hCR rq => ?_)
  show V C k 2 (0, 0) M 0 [(0, .ref (ad k b)), (1, .int (nI i))] []
  obtain ⟨hN, hF, hlen, g, F0, F3, hg⟩ := id hS
  refine v_iload_n X 1 dX5_decisionAt_0 rfl ?_
  refine v_iltN X (by omega) dX5_decisionAt_1 ?_
  refine v_iload_n X 1 dX5_decisionAt_4 rfl ?_
  refine v_aload_n X 0 dX5_decisionAt_5 rfl ?_
  refine v_get X cls5 F0 (by omega) 2 (by decide) m_124 rfl rfl dX5_decisionAt_6 ?_
  refine v_cgeN X 21 (by omega) (by omega) dX5_decisionAt_9 (by decide) (fun c_2 => ?_) (fun c_2 => ?_)
  · refine v_iconst X (v := nI 0) (by decide) dX5_decisionAt_21 ?_
    exact v_iret X rq ⟨by decide, by decide⟩ rfl dX5_decisionAt_22 (pP_i (by rw [cAt_out (by omega)]))
  · refine v_aload_n X 0 dX5_decisionAt_12 rfl ?_
    refine v_get X cls5 F0 (by omega) 1 (by decide) m_123 rfl rfl dX5_decisionAt_13 ?_
    refine v_iload_n X 1 dX5_decisionAt_16 rfl ?_
    refine v_iald X nI F3 (by omega) (by omega) (by decide) dX5_decisionAt_17 ?_
    refine v_goto X 22 dX5_decisionAt_18 (by decide) ?_
    exact v_iret X rq ⟨by decide, by decide⟩ rfl dX5_decisionAt_22 (pP_i (by rw [hg i (by omega)]))
set_option maxHeartbeats 4000000 in
set_option maxRecDepth 100000 in
theorem c_X5_addDecision (l : Launch) (k : KX) (M : Mem) (b : Nat) (cs ds : List Nat) (x : Nat) (hS : StAt k M b cs ds) (hl : ds.length < 8) : CM l yX5_addDecision cX5_addDecision 2 none { frames := 0, cells := 0, slots := 0, locals := 0 } k [.ref (ad k b), .int (nI x)] M (pV (fun M' => StAt k M' b cs (ds ++ [x]) ∧ Fr b 4 M M')) := by
  refine CM.of (by decide) (Nat.le_of_ble_eq_true rfl) (fun C X hCl hCR rq => ?_)
  show V C k 2 (0, 0) M 0 [(0, .ref (ad k b)), (1, .int (nI x))] []
  obtain ⟨hN, hF, hlen, g, F0, F3, hg⟩ := id hS
  refine v_aload_n X 0 dX5_addDecision_0 rfl ?_
  refine v_get X cls5 F0 (by omega) 2 (by decide) m_124 rfl rfl dX5_addDecision_1 ?_
  refine v_bipush X (v := nI 8) (by decide) dX5_addDecision_4 ?_
  refine v_cgeN X 29 (by omega) (by omega) dX5_addDecision_6 (by decide) (fun c_1 => ?_) (fun c_1 => ?_)
  · exact absurd c_1 (by omega)
  · refine v_aload_n X 0 dX5_addDecision_9 rfl ?_
    refine v_get X cls5 F0 (by omega) 1 (by decide) m_123 rfl rfl dX5_addDecision_10 ?_
    refine v_aload_n X 0 dX5_addDecision_13 rfl ?_
    refine v_get X cls5 F0 (by omega) 2 (by decide) m_124 rfl rfl dX5_addDecision_14 ?_
    refine v_iload_n X 1 dX5_addDecision_17 rfl ?_
    refine v_iast X nI x F3 (by omega) (by omega) (by decide) dX5_addDecision_18 (fun M_2 hM_3 => ?_)
    have F_5 : M_2 b = .inr (5, [.ref (ad k (b + 1)), .ref (ad k (b + 3)), .int (nI ds.length)]) := by rw [hM_3, mup_n (by omega)]; exact F0
    have F_6 : M_2 (b + 3) = .inl (kI k, 8, .inl (fun zq => nI (va_up g ds.length x zq))) := by rw [hM_3]; exact mup_s
    have P_7 : FmAt k M_2 (b + 1) cs := hF.fr (fun i h1 h2 => by rw [hM_3, mup_n (by omega)])
    refine v_aload_n X 0 dX5_addDecision_19 rfl ?_
    refine v_dup X rfl dX5_addDecision_20 ?_
    refine v_get X cls5 F_5 (by omega) 2 (by decide) m_124 rfl rfl dX5_addDecision_21 ?_
    refine v_iconst X (v := nI 1) (by decide) dX5_addDecision_24 ?_
    refine v_addN X dX5_addDecision_25 ?_
    refine v_put X cls5 F_5 (by omega) 2 (by decide) m_124 rfl rfl rfl rfl (Nat.le_of_ble_eq_true rfl) dX5_addDecision_26 (fun M_8 hM_9 => ?_)
    have F_10 : M_8 b = .inr (5, [.ref (ad k (b + 1)), .ref (ad k (b + 3)), .int (nI (ds.length + 1))]) := by rw [hM_9]; exact mup_s
    have F_11 : M_8 (b + 3) = .inl (kI k, 8, .inl (fun zq => nI (va_up g ds.length x zq))) := by rw [hM_9, mup_n (by omega)]; exact F_6
    have P_12 : FmAt k M_8 (b + 1) cs := P_7.fr (fun i h1 h2 => by rw [hM_9, mup_n (by omega)])
    exact v_vret X rq ⟨by decide, by decide⟩ dX5_addDecision_29 ⟨rfl, ⟨hN, P_12, (by simp; omega), _, F_10.trans (by rw [List.length_append, List.length_singleton]), F_11, fa_app hg⟩, (fun i hi => by rw [hM_9, mup_n (by omega), hM_3, mup_n (by omega)])⟩
set_option maxHeartbeats 4000000 in
set_option maxRecDepth 100000 in
theorem c_X5_keepDecisions (l : Launch) (k : KX) (M : Mem) (b : Nat) (cs ds : List Nat) (n : Nat) (hS : StAt k M b cs ds) (hn : n < 2 ^ 31) : CM l yX5_keepDecisions cX5_keepDecisions 2 none { frames := 1, cells := 0, slots := 0, locals := 21 } k [.ref (ad k b), .int (nI n)] M (pV (fun M' => StAt k M' b cs (ds.take n) ∧ Fr b 4 M M')) := by
  refine CM.of (by decide) (Nat.le_of_ble_eq_true rfl) (fun C X hCl hCR rq => ?_)
  show V C k 2 (0, 0) M 0 [(0, .ref (ad k b)), (1, .int (nI n))] []
  obtain ⟨hN, hF, hlen, g, F0, F3, hg⟩ := id hS
  refine v_aload_n X 0 dX5_keepDecisions_0 rfl ?_
  refine v_iconst X (v := nI 0) (by decide) dX5_keepDecisions_1 ?_
  refine v_iload_n X 1 dX5_keepDecisions_2 rfl ?_
  refine v_aload_n X 0 dX5_keepDecisions_3 rfl ?_
  refine v_get X cls5 F0 (by omega) 2 (by decide) m_124 rfl rfl dX5_keepDecisions_4 ?_
  refine v_minN X hCR m_178 m_179 m_180 m_181 (by decide) (Nat.le_of_ble_eq_true rfl) ⟨by decide, by decide⟩ (by omega) (by omega) dX5_keepDecisions_7 ?_
  refine v_maxN X hCR m_182 m_183 m_180 m_184 (by decide) (Nat.le_of_ble_eq_true rfl) ⟨by decide, by decide⟩ (by omega) (by omega) dX5_keepDecisions_10 ?_
  refine v_put X cls5 F0 (by omega) 2 (by decide) m_124 rfl rfl rfl rfl (Nat.le_of_ble_eq_true rfl) dX5_keepDecisions_13 (fun M_1 hM_2 => ?_)
  have F_3 : M_1 b = .inr (5, [.ref (ad k (b + 1)), .ref (ad k (b + 3)), .int (nI (max 0 (min n ds.length)))]) := by rw [hM_2]; exact mup_s
  have F_4 : M_1 (b + 3) = .inl (kI k, 8, .inl (fun zq => nI (g zq))) := by rw [hM_2, mup_n (by omega)]; exact F3
  have P_5 : FmAt k M_1 (b + 1) cs := hF.fr (fun i h1 h2 => by rw [hM_2, mup_n (by omega)])
  exact v_vret X rq ⟨by decide, by decide⟩ dX5_keepDecisions_16 ⟨rfl, ⟨hN, P_5, (by simp; omega), _, F_3.trans (by rw [List.length_take, Nat.zero_max]), F_4, fun j hj => by rw [cAt_take (by simp at hj; omega)]; exact hg j (by simp at hj; omega)⟩, (fun i hi => by rw [hM_2, mup_n (by omega)])⟩
set_option maxHeartbeats 4000000 in
set_option maxRecDepth 100000 in
theorem c_X5_copyFrom (l : Launch) (k : KX) (M : Mem) (b b2 : Nat) (cs ds cs2 ds2 : List Nat) (hS : StAt k M b cs ds) (hS2 : StAt k M b2 cs2 ds2) (hap : b + 4 ≤ b2 ∨ b2 + 4 ≤ b) : CM l yX5_copyFrom cX5_copyFrom 3 none { frames := 1, cells := 0, slots := 0, locals := 22 } k [.ref (ad k b), .ref (ad k b2)] M (pV (fun M' => StAt k M' b cs2 ds2 ∧ Fr b 4 M M')) := by
  refine CM.of (by decide) (Nat.le_of_ble_eq_true rfl) (fun C X hCl hCR rq => ?_)
  show V C k 3 (0, 0) M 0 [(0, .ref (ad k b)), (1, .ref (ad k b2))] []
  obtain ⟨hN, hF, hlen, g, F0, F3, hg⟩ := id hS
  obtain ⟨hN2, hF2, hlen2, g2, E0, E3, hg2⟩ := id hS2
  have L : ∀ (fu : Nat) (q : Nat) (h : Nat → Nat) (M1 : Mem), ds2.length - q < fu → (q ≤ ds2.length) → (∀ i, i < q → h i = cAt ds2 i) → (Fr b 4 M M1) → M1 b = .inr (5, [.ref (ad k (b + 1)), .ref (ad k (b + 3)), .int (nI ds.length)]) → M1 (b + 3) = .inl (kI k, 8, .inl (fun zq => nI (h zq))) → M1 b2 = .inr (5, [.ref (ad k (b2 + 1)), .ref (ad k (b2 + 3)), .int (nI ds2.length)]) → M1 (b2 + 3) = .inl (kI k, 8, .inl (fun zq => nI (g2 zq))) → FmAt k M1 (b + 1) cs2 → V C k 3 (0, 0) M1 13 [(0, .ref (ad k b)), (1, .ref (ad k b2)), (2, .int (nI q))] [] := by
    intro fu
    induction fu with
    | zero => intro q h M1 hfu; exact absurd hfu (Nat.not_lt_zero _)
    | succ fu ih =>
      intro q h M1 hfu hq2 hh hfr G0 G3 H0 H3 hG
      refine v_iload_n X 2 dX5_copyFrom_13 rfl ?_
      refine v_aload_n X 1 dX5_copyFrom_14 rfl ?_
      refine v_get X cls5 H0 (by omega) 2 (by decide) m_124 rfl rfl dX5_copyFrom_15 ?_
      refine v_cgeN X 39 (by omega) (by omega) dX5_copyFrom_18 (by decide) (fun c_1 => ?_) (fun c_1 => ?_)
      · refine v_aload_n X 0 dX5_copyFrom_39 rfl ?_
        refine v_aload_n X 1 dX5_copyFrom_40 rfl ?_
        refine v_get X cls5 H0 (by omega) 2 (by decide) m_124 rfl rfl dX5_copyFrom_41 ?_
        refine v_put X cls5 G0 (by omega) 2 (by decide) m_124 rfl rfl rfl rfl (Nat.le_of_ble_eq_true rfl) dX5_copyFrom_44 (fun M_2 hM_3 => ?_)
        have F_4 : M_2 b = .inr (5, [.ref (ad k (b + 1)), .ref (ad k (b + 3)), .int (nI ds2.length)]) := by rw [hM_3]; exact mup_s
        have F_5 : M_2 (b + 3) = .inl (kI k, 8, .inl (fun zq => nI (h zq))) := by rw [hM_3, mup_n (by omega)]; exact G3
        have F_6 : M_2 b2 = .inr (5, [.ref (ad k (b2 + 1)), .ref (ad k (b2 + 3)), .int (nI ds2.length)]) := by rw [hM_3, mup_n (by omega)]; exact H0
        have F_7 : M_2 (b2 + 3) = .inl (kI k, 8, .inl (fun zq => nI (g2 zq))) := by rw [hM_3, mup_n (by omega)]; exact H3
        have P_8 : FmAt k M_2 (b + 1) cs2 := hG.fr (fun i h1 h2 => by rw [hM_3, mup_n (by omega)])
        exact v_vret X rq ⟨by decide, by decide⟩ dX5_copyFrom_47 ⟨rfl, ⟨hN, P_8, hlen2, h, F_4, F_5, fun i hi => hh i (by omega)⟩, (fun i hi => by rw [hM_3, mup_n (by omega)]; exact hfr i hi)⟩
      · refine v_aload_n X 0 dX5_copyFrom_21 rfl ?_
        refine v_get X cls5 G0 (by omega) 1 (by decide) m_123 rfl rfl dX5_copyFrom_22 ?_
        refine v_iload_n X 2 dX5_copyFrom_25 rfl ?_
        refine v_aload_n X 1 dX5_copyFrom_26 rfl ?_
        refine v_get X cls5 H0 (by omega) 1 (by decide) m_123 rfl rfl dX5_copyFrom_27 ?_
        refine v_iload_n X 2 dX5_copyFrom_30 rfl ?_
        refine v_iald X nI H3 (by omega) (by omega) (by decide) dX5_copyFrom_31 ?_
        have hv : g2 q = cAt ds2 q := hg2 q (by omega)
        refine v_iast X nI (g2 q) G3 (by omega) (by omega) (by decide) dX5_copyFrom_32 (fun M_9 hM_10 => ?_)
        have F_12 : M_9 b = .inr (5, [.ref (ad k (b + 1)), .ref (ad k (b + 3)), .int (nI ds.length)]) := by rw [hM_10, mup_n (by omega)]; exact G0
        have F_13 : M_9 (b + 3) = .inl (kI k, 8, .inl (fun zq => nI (va_up h q (g2 q) zq))) := by rw [hM_10]; exact mup_s
        have F_14 : M_9 b2 = .inr (5, [.ref (ad k (b2 + 1)), .ref (ad k (b2 + 3)), .int (nI ds2.length)]) := by rw [hM_10, mup_n (by omega)]; exact H0
        have F_15 : M_9 (b2 + 3) = .inl (kI k, 8, .inl (fun zq => nI (g2 zq))) := by rw [hM_10, mup_n (by omega)]; exact H3
        have P_16 : FmAt k M_9 (b + 1) cs2 := hG.fr (fun i h1 h2 => by rw [hM_10, mup_n (by omega)])
        refine v_iinc X (v := nI (q + 1)) 2 [(2, .int (nI (q + 1))), (0, .ref (ad k b)), (1, .ref (ad k b2))] dX5_copyFrom_33 rfl (nI_1 _) (by decide) rfl ?_
        refine v_goto X 13 dX5_copyFrom_36 (by decide) ?_
        refine v_lv [1, 2, 0] rfl ?_
        exact ih (q + 1) (va_up h q (g2 q)) M_9 (by omega) (by omega) (cp_step hh hv) (fun i hi => by rw [hM_10, mup_n (by omega)]; exact hfr i hi) F_12 F_13 F_14 F_15 P_16
  refine v_aload_n X 0 dX5_copyFrom_0 rfl ?_
  refine v_get X cls5 F0 (by omega) 0 (by decide) m_122 rfl rfl dX5_copyFrom_1 ?_
  refine v_aload_n X 1 dX5_copyFrom_4 rfl ?_
  refine v_get X cls5 E0 (by omega) 0 (by decide) m_122 rfl rfl dX5_copyFrom_5 ?_
  refine v_callV X hCl hCR (c_X1_copyFrom l k M (b + 1) (b2 + 1) cs cs2 hF hF2 (by omega)) cls1 hF.obj (by omega) mo_X1_copyFrom m_52 m_138 m_139 m_140 m_15 (by decide) rfl rfl (Nat.le_of_ble_eq_true rfl) ⟨rfl, rfl⟩ ⟨by decide, by decide⟩ dX5_copyFrom_8 (vV_in (fun M_17 hp_18 => ?_))
  obtain ⟨P_20, hfr_19⟩ := hp_18
  have F_21 : M_17 b = .inr (5, [.ref (ad k (b + 1)), .ref (ad k (b + 3)), .int (nI ds.length)]) := by rw [hfr_19 b (by omega)]; exact F0
  have F_22 : M_17 (b + 3) = .inl (kI k, 8, .inl (fun zq => nI (g zq))) := by rw [hfr_19 (b + 3) (by omega)]; exact F3
  have F_23 : M_17 b2 = .inr (5, [.ref (ad k (b2 + 1)), .ref (ad k (b2 + 3)), .int (nI ds2.length)]) := by rw [hfr_19 b2 (by omega)]; exact E0
  have F_24 : M_17 (b2 + 3) = .inl (kI k, 8, .inl (fun zq => nI (g2 zq))) := by rw [hfr_19 (b2 + 3) (by omega)]; exact E3
  have P_25 : FmAt k M_17 (b2 + 1) cs2 := hF2.fr (fun i h1 h2 => hfr_19 i (by omega))
  refine v_iconst X (v := nI 0) (by decide) dX5_copyFrom_11 ?_
  refine v_istore_n X [(2, .int (nI 0)), (0, .ref (ad k b)), (1, .ref (ad k b2))] dX5_copyFrom_12 (by decide) rfl ?_
  refine v_lv [1, 2, 0] rfl ?_
  exact L 9 0 g M_17 (by omega) (by omega) (fun i hi => absurd hi (by omega)) (fun i hi => by rw [hfr_19 i (by omega)]) F_21 F_22 F_23 F_24 P_20
