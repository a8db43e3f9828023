set_option maxHeartbeats 4000000 in
set_option maxRecDepth 100000 in
theorem c_X4_violatedBy (l : Launch) (k : KX) (M : Mem) (b : Nat) (cs : List Nat) (a : Nat) (hF : FmAt k M b cs) (ho : csOK cs) : CM l yX4_violatedBy cX4_violatedBy 4 ((some .int)) { frames := 2, cells := 0, slots := 0, locals := 43 } k [.ref (ad k b), .int (nI a)] M (pP (.int (nI (vset cs a))) M) := by
  refine CM.of (by decide) (Nat.le_of_ble_eq_true rfl) (fun C X hCl hCR rq => ?_)
  show V C k 4 (0, 0) M 0 [(0, .ref (ad k b)), (1, .int (nI a))] []
  obtain ⟨hN, hlen, f, F0, F1, hf⟩ := id hF
  have hok := cAt_ok ho
  have L : ∀ (fu : Nat) (i w : Nat), cs.length - i < fu → (i ≤ cs.length) → (vsetF cs a i = w) → V C k 4 (0, 0) M 4 [(0, .ref (ad k b)), (1, .int (nI a)), (2, .int (nI w)), (3, .int (nI i))] [] := by
    intro fu
    induction fu with
    | zero => intro i w hfu; exact absurd hfu (Nat.not_lt_zero _)
    | succ fu ih =>
      intro i w hfu hi hw 
      refine v_iload_n X 3 dX4_violatedBy_4 rfl ?_
      refine v_aload_n X 0 dX4_violatedBy_5 rfl ?_
      refine v_getN X cls1 F0 (by omega) 1 (by decide) nw_4 rfl rfl dX4_violatedBy_6 ?_
      refine v_cgeN X 36 (by omega) (by omega) dX4_violatedBy_9 (by decide) (fun c_1 => ?_) (fun c_1 => ?_)
      · refine v_iload_n X 2 dX4_violatedBy_36 rfl ?_
        exact v_iret X rq ⟨by decide, by decide⟩ rfl dX4_violatedBy_37 (pP_i (by rw [← hw, show i = cs.length by omega]; rfl))
      · refine v_aload_n X 0 dX4_violatedBy_12 rfl ?_
        refine v_iload_n X 3 dX4_violatedBy_13 rfl ?_
        refine v_callV X hCl hCR (c_X1_codeAtN l k M b cs i hF (by omega)) cls1 ⟨_, F0⟩ (by omega) mo_X1_codeAt m_10 m_166 m_32 m_33 m_15 (by decide) rfl rfl (Nat.le_of_ble_eq_true rfl) ⟨rfl, rfl⟩ ⟨by decide, by decide⟩ dX4_violatedBy_14 (vP_in ?_)
        refine v_iload_n X 1 dX4_violatedBy_17 rfl ?_
        refine v_callSN X hCl hCR (c_X7_isViolated l k M (cAt cs i) a (by have := hok i; omega)) mo_X7_isViolated m_58 nw_33 m_65 m_21 (by decide) rfl rfl (Nat.le_of_ble_eq_true rfl) ⟨rfl, rfl⟩ ⟨by decide, by decide⟩ dX4_violatedBy_18 (vP_in ?_)
        refine v_ieqB X 30 dX4_violatedBy_21 (by decide) (fun c_2 => ?_) (fun c_2 => ?_)
        · have hb := c_2
          refine v_iinc X (v := nI (i + 1)) 3 [(3, .int (nI (i + 1))), (0, .ref (ad k b)), (1, .int (nI a)), (2, .int (nI w))] dX4_violatedBy_30 rfl (nI_1 _) (by decide) rfl ?_
          refine v_goto X 4 dX4_violatedBy_33 (by decide) ?_
          refine v_lv [1, 2, 3, 0] rfl ?_
          exact ih (i + 1) (w) (by omega) (by omega) (by unfold vsetF; rw [if_neg (by simp [hb]), hw])
        · have hb := c_2
          refine v_iload_n X 2 dX4_violatedBy_24 rfl ?_
          refine v_iconst X (v := nI 1) (by decide) dX4_violatedBy_25 ?_
          refine v_iload_n X 3 dX4_violatedBy_26 rfl ?_
          refine v_shlN X (by omega) dX4_violatedBy_27 ?_
          refine v_orN X dX4_violatedBy_28 ?_
          refine v_istore_n X [(2, .int (nI (w ||| (1 <<< i)))), (0, .ref (ad k b)), (1, .int (nI a)), (3, .int (nI i))] dX4_violatedBy_29 (by decide) rfl ?_
          refine v_iinc X (v := nI (i + 1)) 3 [(3, .int (nI (i + 1))), (2, .int (nI (w ||| (1 <<< i)))), (0, .ref (ad k b)), (1, .int (nI a))] dX4_violatedBy_30 rfl (nI_1 _) (by decide) rfl ?_
          refine v_goto X 4 dX4_violatedBy_33 (by decide) ?_
          refine v_lv [2, 3, 1, 0] rfl ?_
          exact ih (i + 1) (w ||| (1 <<< i)) (by omega) (by omega) (by unfold vsetF; rw [if_pos hb, hw])
  refine v_iconst X (v := nI 0) (by decide) dX4_violatedBy_0 ?_
  refine v_istore_n X [(2, .int (nI 0)), (0, .ref (ad k b)), (1, .int (nI a))] dX4_violatedBy_1 (by decide) rfl ?_
  refine v_iconst X (v := nI 0) (by decide) dX4_violatedBy_2 ?_
  refine v_istore_n X [(3, .int (nI 0)), (2, .int (nI 0)), (0, .ref (ad k b)), (1, .int (nI a))] dX4_violatedBy_3 (by decide) rfl ?_
  refine v_lv [2, 3, 1, 0] rfl ?_
  exact L (cs.length + 1) 0 0 (by omega) (by omega) rfl
theorem vs_step {f F : Nat → Nat} {i : Nat} (hh : ∀ j, j < i → f j = F j) : ∀ j, j < i + 1 → va_up f i (F i) j = F j := by
  intro j hj
  by_cases e : j = i
  · subst e; rw [up_s]
  · rw [up_n _ _ e]; exact hh j (by omega)
set_option maxHeartbeats 4000000 in
set_option maxRecDepth 100000 in
theorem c_X4_refresh (l : Launch) (k : KX) (M : Mem) (cs : List Nat) (b : Nat) (hM : MoAt k M cs) (hF : FmAt k M b cs) (ho2 : csOK cs) (hap : b + 2 ≤ 17 ∨ 19 ≤ b) : CM l yX4_refresh cX4_refresh 3 none { frames := 3, cells := 0, slots := 0, locals := 66 } k [.ref (ad k 17), .ref (ad k b)] M (pV (fun M' => MoOK k M' cs ∧ Fr 17 2 M M')) := by
  refine CM.of (by decide) (Nat.le_of_ble_eq_true rfl) (fun C X hCl hCR rq => ?_)
  show V C k 3 (0, 0) M 0 [(0, .ref (ad k 17)), (1, .ref (ad k b))] []
  obtain ⟨hN, st, f, F0, F1, h2⟩ := id hM
  have hlc := hF.2.1
  have L : ∀ (fu : Nat) (i : Nat) (h : Nat → Nat) (M1 : Mem), 256 - i < fu → (i ≤ 256) → (∀ j, j < i → h j = vset cs j) → (Fr 17 2 M M1) → M1 17 = .inr (4, [.ref (ad k 18), .int (bI st)]) → M1 18 = .inl (kI k, 256, .inl (fun zq => nI (h zq))) → FmAt k M1 b cs → V C k 3 (0, 0) M1 9 [(0, .ref (ad k 17)), (1, .ref (ad k b)), (2, .int (nI i))] [] := by
    intro fu
    induction fu with
    | zero => intro i h M1 hfu; exact absurd hfu (Nat.not_lt_zero _)
    | succ fu ih =>
      intro i h M1 hfu hi hh hfr G0 G1 hF1
      refine v_iload_n X 2 dX4_refresh_9 rfl ?_
      refine v_sipush X (v := nI 256) (by decide) dX4_refresh_10 ?_
      refine v_cgeN X 33 (by omega) (by omega) dX4_refresh_13 (by decide) (fun c_1 => ?_) (fun c_1 => ?_)
      · refine v_aload_n X 0 dX4_refresh_33 rfl ?_
        refine v_iconst X (v := bI false) (by decide) dX4_refresh_34 ?_
        refine v_put X cls4 G0 (by omega) 1 (by decide) m_164 rfl rfl (narZ _) (fitZ _) (Nat.le_of_ble_eq_true rfl) dX4_refresh_35 (fun M_2 hM_3 => ?_)
        have F_4 : M_2 17 = .inr (4, [.ref (ad k 18), .int (bI false)]) := by rw [hM_3]; exact mup_s
        have F_5 : M_2 18 = .inl (kI k, 256, .inl (fun zq => nI (h zq))) := by rw [hM_3, mup_n (by omega)]; exact G1
        have P_6 : FmAt k M_2 b cs := hF1.fr (fun i h1 h2 => by rw [hM_3, mup_n (by omega)])
        exact v_vret X rq ⟨by decide, by decide⟩ dX4_refresh_38 ⟨rfl, ⟨hN, h, F_4, F_5, fun a ha => hh a (by omega)⟩, (fun i hi => by rw [hM_3, mup_n (by omega)]; exact hfr i hi)⟩
      · refine v_aload_n X 0 dX4_refresh_16 rfl ?_
        refine v_get X cls4 G0 (by omega) 0 (by decide) m_163 rfl rfl dX4_refresh_17 ?_
        refine v_iload_n X 2 dX4_refresh_20 rfl ?_
        refine v_aload_n X 1 dX4_refresh_21 rfl ?_
        refine v_iload_n X 2 dX4_refresh_22 rfl ?_
        refine v_callS X hCl hCR (c_X4_violatedBy l k M1 b cs i hF1 ho2) mo_X4_violatedBy m_165 m_167 m_168 m_169 (by decide) rfl rfl (Nat.le_of_ble_eq_true rfl) ⟨rfl, rfl⟩ ⟨by decide, by decide⟩ dX4_refresh_23 (vP_in ?_)
        refine v_iast X nI (vset cs i) G1 (by omega) (by omega) (by decide) dX4_refresh_26 (fun M_7 hM_8 => ?_)
        have F_10 : M_7 17 = .inr (4, [.ref (ad k 18), .int (bI st)]) := by rw [hM_8, mup_n (by omega)]; exact G0
        have F_11 : M_7 18 = .inl (kI k, 256, .inl (fun zq => nI (va_up h i (vset cs i) zq))) := by rw [hM_8]; exact mup_s
        have P_12 : FmAt k M_7 b cs := hF1.fr (fun i h1 h2 => by rw [hM_8, mup_n (by omega)])
        refine v_iinc X (v := nI (i + 1)) 2 [(2, .int (nI (i + 1))), (0, .ref (ad k 17)), (1, .ref (ad k b))] dX4_refresh_27 rfl (nI_1 _) (by decide) rfl ?_
        refine v_goto X 9 dX4_refresh_30 (by decide) ?_
        refine v_lv [1, 2, 0] rfl ?_
        exact ih (i + 1) (va_up h i (vset cs i)) M_7 (by omega) (by omega) (vs_step hh) (fun i hi => by rw [hM_8, mup_n (by omega)]; exact hfr i hi) F_10 F_11 P_12
  refine v_aload_n X 0 dX4_refresh_0 rfl ?_
  refine v_get X cls4 F0 (by omega) 1 (by decide) m_164 rfl rfl dX4_refresh_1 ?_
  refine v_ieqB X 38 dX4_refresh_4 (by decide) (fun c_13 => ?_) (fun c_13 => ?_)
  · have hst := c_13
    exact v_vret X rq ⟨by decide, by decide⟩ dX4_refresh_38 ⟨rfl, ⟨hN, f, (by rw [hst] at F0; exact F0), F1, h2 hst⟩, Fr.rf⟩
  · refine v_iconst X (v := nI 0) (by decide) dX4_refresh_7 ?_
    refine v_istore_n X [(2, .int (nI 0)), (0, .ref (ad k 17)), (1, .ref (ad k b))] dX4_refresh_8 (by decide) rfl ?_
    refine v_lv [1, 2, 0] rfl ?_
    exact L 257 0 f M (by omega) (by omega) (fun j hj => absurd hj (Nat.not_lt_zero _)) Fr.rf F0 F1 hF
set_option maxHeartbeats 4000000 in
set_option maxRecDepth 100000 in
theorem c_X4_countModels (l : Launch) (k : KX) (M : Mem) (cs : List Nat) (hM : MoOK k M cs) (hlc : cs.length ≤ 24) : CM l yX4_countModels cX4_countModels 3 ((some .int)) { frames := 0, cells := 0, slots := 0, locals := 0 } k [.ref (ad k 17)] M (pP (.int (nI (cntP (isMod cs) 256))) M) := by
  refine CM.of (by decide) (Nat.le_of_ble_eq_true rfl) (fun C X hCl hCR rq => ?_)
  show V C k 3 (0, 0) M 0 [(0, .ref (ad k 17))] []
  obtain ⟨hN, f, F0, F1, hf⟩ := id hM
  have L : ∀ (fu : Nat) (i w : Nat), 256 - i < fu → (i ≤ 256) → (cntP (isMod cs) i = w) → V C k 3 (0, 0) M 4 [(0, .ref (ad k 17)), (1, .int (nI w)), (2, .int (nI i))] [] := by
    intro fu
    induction fu with
    | zero => intro i w hfu; exact absurd hfu (Nat.not_lt_zero _)
    | succ fu ih =>
      intro i w hfu hi hw 
      refine v_iload_n X 2 dX4_countModels_4 rfl ?_
      refine v_sipush X (v := nI 256) (by decide) dX4_countModels_5 ?_
      refine v_cgeN X 29 (by omega) (by omega) dX4_countModels_8 (by decide) (fun c_1 => ?_) (fun c_1 => ?_)
      · refine v_iload_n X 1 dX4_countModels_29 rfl ?_
        exact v_iret X rq ⟨by decide, by decide⟩ rfl dX4_countModels_30 (pP_i (by rw [← hw, show i = 256 by omega]))
      · refine v_aload_n X 0 dX4_countModels_11 rfl ?_
        refine v_get X cls4 F0 (by omega) 0 (by decide) m_163 rfl rfl dX4_countModels_12 ?_
        refine v_iload_n X 2 dX4_countModels_15 rfl ?_
        refine v_iald X nI F1 (by omega) (by omega) (by decide) dX4_countModels_16 ?_
        refine v_top (show (Value.int (nI (f i)) : Value) = .int (nI (vset cs i)) from congrArg _ (congrArg nI (hf i (by omega)))) ?_
        have hvl := vset_lt (a := i) hlc
        refine v_ineN X 23 (by omega) dX4_countModels_17 (by decide) (fun c_2 => ?_) (fun c_2 => ?_)
        · have hb := c_2
          refine v_iinc X (v := nI (i + 1)) 2 [(2, .int (nI (i + 1))), (0, .ref (ad k 17)), (1, .int (nI w))] dX4_countModels_23 rfl (nI_1 _) (by decide) rfl ?_
          refine v_goto X 4 dX4_countModels_26 (by decide) ?_
          refine v_lv [1, 2, 0] rfl ?_
          exact ih (i + 1) (w) (by omega) (by omega) (by rw [cnt_f (isMod_f hb), hw])
        · have hb := c_2
          refine v_iinc X (v := nI (w + 1)) 1 [(1, .int (nI (w + 1))), (0, .ref (ad k 17)), (2, .int (nI i))] dX4_countModels_20 rfl (nI_1 _) (by decide) rfl ?_
          refine v_iinc X (v := nI (i + 1)) 2 [(2, .int (nI (i + 1))), (1, .int (nI (w + 1))), (0, .ref (ad k 17))] dX4_countModels_23 rfl (nI_1 _) (by decide) rfl ?_
          refine v_goto X 4 dX4_countModels_26 (by decide) ?_
          refine v_lv [2, 1, 0] rfl ?_
          exact ih (i + 1) (w + 1) (by omega) (by omega) (by rw [cnt_t (isMod_t hb), hw])
  refine v_iconst X (v := nI 0) (by decide) dX4_countModels_0 ?_
  refine v_istore_n X [(1, .int (nI 0)), (0, .ref (ad k 17))] dX4_countModels_1 (by decide) rfl ?_
  refine v_iconst X (v := nI 0) (by decide) dX4_countModels_2 ?_
  refine v_istore_n X [(2, .int (nI 0)), (1, .int (nI 0)), (0, .ref (ad k 17))] dX4_countModels_3 (by decide) rfl ?_
  refine v_lv [2, 1, 0] rfl ?_
  exact L 257 0 0 (by omega) (by omega) rfl
set_option maxHeartbeats 4000000 in
set_option maxRecDepth 100000 in
theorem c_X4_modelAt (l : Launch) (k : KX) (M : Mem) (cs : List Nat) (x : Int32) (hM : MoOK k M cs) (hlc : cs.length ≤ 24) : CM l yX4_modelAt cX4_modelAt 4 ((some .int)) { frames := 0, cells := 0, slots := 0, locals := 0 } k [.ref (ad k 17), .int x] M (pP (.int (oI (nthF (isMod cs) x 256 0 0))) M) := by
  refine CM.of (by decide) (Nat.le_of_ble_eq_true rfl) (fun C X hCl hCR rq => ?_)
  show V C k 4 (0, 0) M 0 [(0, .ref (ad k 17)), (1, .int x)] []
  obtain ⟨hN, f, F0, F1, hf⟩ := id hM
  have L : ∀ (fu : Nat) (i w : Nat), 256 - i < fu → (i ≤ 256) → (w ≤ i) → (nthF (isMod cs) x (256 - i) i w = nthF (isMod cs) x 256 0 0) → V C k 4 (0, 0) M 4 [(0, .ref (ad k 17)), (1, .int x), (2, .int (nI w)), (3, .int (nI i))] [] := by
    intro fu
    induction fu with
    | zero => intro i w hfu; exact absurd hfu (Nat.not_lt_zero _)
    | succ fu ih =>
      intro i w hfu hi hwi hl 
      refine v_iload_n X 3 dX4_modelAt_4 rfl ?_
      refine v_sipush X (v := nI 256) (by decide) dX4_modelAt_5 ?_
      refine v_cgeN X 36 (by omega) (by omega) dX4_modelAt_8 (by decide) (fun c_1 => ?_) (fun c_1 => ?_)
      · refine v_bipush X (v := (-9)) (by decide) dX4_modelAt_36 ?_
        exact v_iret X rq ⟨by decide, by decide⟩ rfl dX4_modelAt_38 (pP_i (by rw [nth_end hl (by omega)]; rfl))
      · refine v_aload_n X 0 dX4_modelAt_11 rfl ?_
        refine v_get X cls4 F0 (by omega) 0 (by decide) m_163 rfl rfl dX4_modelAt_12 ?_
        refine v_iload_n X 3 dX4_modelAt_15 rfl ?_
        refine v_iald X nI F1 (by omega) (by omega) (by decide) dX4_modelAt_16 ?_
        refine v_top (show (Value.int (nI (f i)) : Value) = .int (nI (vset cs i)) from congrArg _ (congrArg nI (hf i (by omega)))) ?_
        have hvl := vset_lt (a := i) hlc
        refine v_ineN X 30 (by omega) dX4_modelAt_17 (by decide) (fun c_2 => ?_) (fun c_2 => ?_)
        · have hb := c_2
          refine v_iinc X (v := nI (i + 1)) 3 [(3, .int (nI (i + 1))), (0, .ref (ad k 17)), (1, .int x), (2, .int (nI w))] dX4_modelAt_30 rfl (nI_1 _) (by decide) rfl ?_
          refine v_goto X 4 dX4_modelAt_33 (by decide) ?_
          refine v_lv [1, 2, 3, 0] rfl ?_
          exact ih (i + 1) (w) (by omega) (by omega) (by omega) (nth_miss hl (by omega) (isMod_f hb))
        · have hb := c_2
          refine v_iload_n X 2 dX4_modelAt_20 rfl ?_
          refine v_iload_n X 1 dX4_modelAt_21 rfl ?_
          refine v_icmp_ne X 27 dX4_modelAt_22 (by decide) (fun c_3 => ?_) (fun c_3 => ?_)
          · have h22 := c_3
            refine v_iinc X (v := nI (w + 1)) 2 [(2, .int (nI (w + 1))), (0, .ref (ad k 17)), (1, .int x), (3, .int (nI i))] dX4_modelAt_27 rfl (nI_1 _) (by decide) rfl ?_
            refine v_iinc X (v := nI (i + 1)) 3 [(3, .int (nI (i + 1))), (2, .int (nI (w + 1))), (0, .ref (ad k 17)), (1, .int x)] dX4_modelAt_30 rfl (nI_1 _) (by decide) rfl ?_
            refine v_goto X 4 dX4_modelAt_33 (by decide) ?_
            refine v_lv [2, 3, 1, 0] rfl ?_
            exact ih (i + 1) (w + 1) (by omega) (by omega) (by omega) (nth_next hl (by omega) (isMod_t hb) h22)
          · have h22 := c_3
            refine v_iload_n X 3 dX4_modelAt_25 rfl ?_
            exact v_iret X rq ⟨by decide, by decide⟩ rfl dX4_modelAt_26 (pP_i (by rw [nth_hit hl (by omega) (isMod_t hb) h22]; rfl))
  refine v_iconst X (v := nI 0) (by decide) dX4_modelAt_0 ?_
  refine v_istore_n X [(2, .int (nI 0)), (0, .ref (ad k 17)), (1, .int x)] dX4_modelAt_1 (by decide) rfl ?_
  refine v_iconst X (v := nI 0) (by decide) dX4_modelAt_2 ?_
  refine v_istore_n X [(3, .int (nI 0)), (2, .int (nI 0)), (0, .ref (ad k 17)), (1, .int x)] dX4_modelAt_3 (by decide) rfl ?_
  refine v_lv [2, 3, 1, 0] rfl ?_
  exact L 257 0 0 (by omega) (by omega) (by omega) rfl
set_option maxHeartbeats 4000000 in
set_option maxRecDepth 100000 in
theorem c_X4_allSatisfy (l : Launch) (k : KX) (M : Mem) (cs : List Nat) (x : Nat) (hM : MoOK k M cs) (hlc : cs.length ≤ 24) (hx : x < 2 ^ 31) : CM l yX4_allSatisfy cX4_allSatisfy 3 ((some .boolean)) { frames := 2, cells := 0, slots := 0, locals := 43 } k [.ref (ad k 17), .int (nI x)] M (pP (.int (bI (allS cs x))) M) := by
  refine CM.of (by decide) (Nat.le_of_ble_eq_true rfl) (fun C X hCl hCR rq => ?_)
  show V C k 3 (0, 0) M 0 [(0, .ref (ad k 17)), (1, .int (nI x))] []
  obtain ⟨hN, f, F0, F1, hf⟩ := id hM
  have L : ∀ (fu : Nat) (i : Nat), 256 - i < fu → (i ≤ 256) → (∀ a, a < i → isMod cs a = true → xViol x a = false) → V C k 3 (0, 0) M 2 [(0, .ref (ad k 17)), (1, .int (nI x)), (2, .int (nI i))] [] := by
    intro fu
    induction fu with
    | zero => intro i hfu; exact absurd hfu (Nat.not_lt_zero _)
    | succ fu ih =>
      intro i hfu hi hh 
      refine v_iload_n X 2 dX4_allSatisfy_2 rfl ?_
      refine v_sipush X (v := nI 256) (by decide) dX4_allSatisfy_3 ?_
      refine v_cgeN X 34 (by omega) (by omega) dX4_allSatisfy_6 (by decide) (fun c_1 => ?_) (fun c_1 => ?_)
      · refine v_iconst X (v := bI true) (by decide) dX4_allSatisfy_34 ?_
        exact v_iret X rq ⟨by decide, by decide⟩ (narZ _) dX4_allSatisfy_35 (pP_i (by rw [show allS cs x = true from pB_t (fun a ha => hh a (by omega))]))
      · refine v_aload_n X 0 dX4_allSatisfy_9 rfl ?_
        refine v_get X cls4 F0 (by omega) 0 (by decide) m_163 rfl rfl dX4_allSatisfy_10 ?_
        refine v_iload_n X 2 dX4_allSatisfy_13 rfl ?_
        refine v_iald X nI F1 (by omega) (by omega) (by decide) dX4_allSatisfy_14 ?_
        refine v_top (show (Value.int (nI (f i)) : Value) = .int (nI (vset cs i)) from congrArg _ (congrArg nI (hf i (by omega)))) ?_
        have hvl := vset_lt (a := i) hlc
        refine v_ineN X 28 (by omega) dX4_allSatisfy_15 (by decide) (fun c_2 => ?_) (fun c_2 => ?_)
        · have hb := c_2
          refine v_iinc X (v := nI (i + 1)) 2 [(2, .int (nI (i + 1))), (0, .ref (ad k 17)), (1, .int (nI x))] dX4_allSatisfy_28 rfl (nI_1 _) (by decide) rfl ?_
          refine v_goto X 2 dX4_allSatisfy_31 (by decide) ?_
          refine v_lv [1, 2, 0] rfl ?_
          exact ih (i + 1) (by omega) (by omega) (sat_step hh (fun w => absurd (of_decide_eq_true w) hb))
        · have hb := c_2
          refine v_iload_n X 1 dX4_allSatisfy_18 rfl ?_
          refine v_iload_n X 2 dX4_allSatisfy_19 rfl ?_
          refine v_callSN X hCl hCR (c_X7_isViolated l k M x i (by omega)) mo_X7_isViolated m_58 nw_33 m_65 m_21 (by decide) rfl rfl (Nat.le_of_ble_eq_true rfl) ⟨rfl, rfl⟩ ⟨by decide, by decide⟩ dX4_allSatisfy_20 (vP_in ?_)
          refine v_ieqB X 28 dX4_allSatisfy_23 (by decide) (fun c_3 => ?_) (fun c_3 => ?_)
          · have hb2 := c_3
            refine v_iinc X (v := nI (i + 1)) 2 [(2, .int (nI (i + 1))), (0, .ref (ad k 17)), (1, .int (nI x))] dX4_allSatisfy_28 rfl (nI_1 _) (by decide) rfl ?_
            refine v_goto X 2 dX4_allSatisfy_31 (by decide) ?_
            refine v_lv [1, 2, 0] rfl ?_
            exact ih (i + 1) (by omega) (by omega) (sat_step hh (fun w => hb2))
          · have hb2 := c_3
            refine v_iconst X (v := bI false) (by decide) dX4_allSatisfy_26 ?_
            exact v_iret X rq ⟨by decide, by decide⟩ (narZ _) dX4_allSatisfy_27 (pP_i (by rw [allS_no (by omega) hb hb2]))
  refine v_iconst X (v := nI 0) (by decide) dX4_allSatisfy_0 ?_
  refine v_istore_n X [(2, .int (nI 0)), (0, .ref (ad k 17)), (1, .int (nI x))] dX4_allSatisfy_1 (by decide) rfl ?_
  refine v_lv [1, 2, 0] rfl ?_
  exact L 257 0 (by omega) (by omega) (fun a ha => absurd ha (Nat.not_lt_zero _))
set_option maxHeartbeats 4000000 in
set_option maxRecDepth 100000 in
theorem c_X4_canSatisfy (l : Launch) (k : KX) (M : Mem) (cs : List Nat) (m : Nat) (hM : MoOK k M cs) (hlc : cs.length ≤ 24) : CM l yX4_canSatisfy cX4_canSatisfy 3 ((some .boolean)) { frames := 0, cells := 0, slots := 0, locals := 0 } k [.ref (ad k 17), .int (nI m)] M (pP (.int (bI (canS cs m))) M) := by
  refine CM.of (by decide) (Nat.le_of_ble_eq_true rfl) (fun C X hCl hCR rq => ?_)
  show V C k 3 (0, 0) M 0 [(0, .ref (ad k 17)), (1, .int (nI m))] []
  obtain ⟨hN, f, F0, F1, hf⟩ := id hM
  have L : ∀ (fu : Nat) (i : Nat), 256 - i < fu → (i ≤ 256) → (∀ a, a < i → vset cs a &&& m ≠ 0) → V C k 3 (0, 0) M 2 [(0, .ref (ad k 17)), (1, .int (nI m)), (2, .int (nI i))] [] := by
    intro fu
    induction fu with
    | zero => intro i hfu; exact absurd hfu (Nat.not_lt_zero _)
    | succ fu ih =>
      intro i hfu hi hh 
      refine v_iload_n X 2 dX4_canSatisfy_2 rfl ?_
      refine v_sipush X (v := nI 256) (by decide) dX4_canSatisfy_3 ?_
      refine v_cgeN X 28 (by omega) (by omega) dX4_canSatisfy_6 (by decide) (fun c_1 => ?_) (fun c_1 => ?_)
      · refine v_iconst X (v := bI false) (by decide) dX4_canSatisfy_28 ?_
        exact v_iret X rq ⟨by decide, by decide⟩ (narZ _) dX4_canSatisfy_29 (pP_i (by rw [show canS cs m = false from pB_f (fun ⟨a, ha, h⟩ => hh a (by omega) h)]))
      · refine v_aload_n X 0 dX4_canSatisfy_9 rfl ?_
        refine v_get X cls4 F0 (by omega) 0 (by decide) m_163 rfl rfl dX4_canSatisfy_10 ?_
        refine v_iload_n X 2 dX4_canSatisfy_13 rfl ?_
        refine v_iald X nI F1 (by omega) (by omega) (by decide) dX4_canSatisfy_14 ?_
        refine v_top (show (Value.int (nI (f i)) : Value) = .int (nI (vset cs i)) from congrArg _ (congrArg nI (hf i (by omega)))) ?_
        have hvl := vset_lt (a := i) hlc
        refine v_iload_n X 1 dX4_canSatisfy_15 rfl ?_
        refine v_andN X dX4_canSatisfy_16 ?_
        refine v_ineN X 22 (and_ltl (by omega)) dX4_canSatisfy_17 (by decide) (fun c_2 => ?_) (fun c_2 => ?_)
        · have hb := c_2
          refine v_iinc X (v := nI (i + 1)) 2 [(2, .int (nI (i + 1))), (0, .ref (ad k 17)), (1, .int (nI m))] dX4_canSatisfy_22 rfl (nI_1 _) (by decide) rfl ?_
          refine v_goto X 2 dX4_canSatisfy_25 (by decide) ?_
          refine v_lv [1, 2, 0] rfl ?_
          exact ih (i + 1) (by omega) (by omega) (can_step hh hb)
        · have hb := c_2
          refine v_iconst X (v := bI true) (by decide) dX4_canSatisfy_20 ?_
          exact v_iret X rq ⟨by decide, by decide⟩ (narZ _) dX4_canSatisfy_21 (pP_i (by rw [show canS cs m = true from pB_t ⟨i, by omega, hb⟩]))
  refine v_iconst X (v := nI 0) (by decide) dX4_canSatisfy_0 ?_
  refine v_istore_n X [(2, .int (nI 0)), (0, .ref (ad k 17)), (1, .int (nI m))] dX4_canSatisfy_1 (by decide) rfl ?_
  refine v_lv [1, 2, 0] rfl ?_
  exact L 257 0 (by omega) (by omega) (fun a ha => absurd ha (Nat.not_lt_zero _))
