set_option maxHeartbeats 4000000 in
set_option maxRecDepth 100000 in
theorem c_X3_copyInto (l : Launch) (k : KX) (M : Mem) (b b2 : Nat) (cs ds cs2 ds2 : List Nat) (hS : StAt k M b cs ds) (hS2 : StAt k M b2 cs2 ds2) (hap : b + 4 ≤ b2 ∨ b2 + 4 ≤ b) : CM l yX3_copyInto cX3_copyInto 2 none { frames := 2, cells := 0, slots := 0, locals := 44 } k [.ref (ad k b), .ref (ad k b2)] M (pV (fun M' => StAt k M' b cs2 ds2 ∧ Fr b 4 M M')) := by
  refine CM.of (by decide) (Nat.le_of_ble_eq_true rfl) (fun C X hCl hCR rq => ?_)
  show V C k 2 (0, 0) M 0 [(0, .ref (ad k b)), (1, .ref (ad k b2))] []
  have hN := hS.1
  refine v_aload_n X 0 dX3_copyInto_0 rfl ?_
  refine v_ifnull X dX3_copyInto_1 ?_
  refine v_aload_n X 1 dX3_copyInto_4 rfl ?_
  refine v_ifnull X dX3_copyInto_5 ?_
  refine v_aload_n X 0 dX3_copyInto_8 rfl ?_
  refine v_aload_n X 1 dX3_copyInto_9 rfl ?_
  refine v_callV X hCl hCR (c_X5_copyFrom l k M b b2 cs ds cs2 ds2 hS hS2 (by omega)) cls5 hS.obj (by omega) mo_X5_copyFrom m_137 m_142 m_143 m_144 m_133 (by decide) rfl rfl (Nat.le_of_ble_eq_true rfl) ⟨rfl, rfl⟩ ⟨by decide, by decide⟩ dX3_copyInto_10 (vV_in (fun M_1 hp_2 => ?_))
  obtain ⟨P_4, hfr_3⟩ := hp_2
  have P_5 : StAt k M_1 b2 cs2 ds2 := hS2.fr (fun i h1 h2 => hfr_3 i (by omega))
  exact v_vret X rq ⟨by decide, by decide⟩ dX3_copyInto_13 ⟨rfl, P_4, (fun i hi => by rw [hfr_3 i (by omega)])⟩
theorem fo_step {g h : Nat → Option Nat} {i : Nat} (hi : i < 13) (hh : ∀ j, j < 14 → h j = if j < i then g (j + 1) else g j) {x : Option Nat} (hx : x = g (i + 1) := by assumption) : ∀ j, j < 14 → va_up h i x j = if j < i + 1 then g (j + 1) else g j := by
  intro j hj
  by_cases e : j = i
  · subst e; rw [up_s, if_pos (by omega)]; exact hx
  · rw [up_n _ _ e, hh j hj]
    by_cases e2 : j < i
    · rw [if_pos e2, if_pos (by omega)]
    · rw [if_neg e2, if_neg (by omega)]
theorem fo_end {g h : Nat → Option Nat} {i : Nat} (hi : 13 ≤ i) (hh : ∀ j, j < 14 → h j = if j < i then g (j + 1) else g j) {x : Option Nat} (hx : x = g 0) : ∀ j, j < 14 → va_up h 13 x j = if j < 13 then g (j + 1) else g 0 := by
  intro j hj
  by_cases e : j = 13
  · subst e; rw [up_s, if_neg (by omega)]; exact hx
  · rw [up_n _ _ e, hh j hj, if_pos (by omega), if_pos (by omega)]
set_option maxHeartbeats 4000000 in
set_option maxRecDepth 100000 in
theorem c_X3_forgetOldest (l : Launch) (k : KX) (M : Mem) (n : Nat) (g : Nat → Option Nat) (p : Nat → Nat) (hN : 93 ≤ kN k) (F0 : M 13 = .inr (3, [.ref (ad k 14), .ref (ad k 15), .ref (ad k 16), .int (nI n)])) (F1 : M 14 = .inl (kS k, 14, .inr (.inr (.inr (.inr g))))) (hp : ∀ j, j < 14 → p j < 14) (hg : ∀ j, j < 14 → g j = some (ad k (29 + 4 * p j))) (hst : ∀ j, j < 14 → ∃ vs, M (29 + 4 * p j) = .inr (5, vs)) : CM l yX3_forgetOldest cX3_forgetOldest 3 none { frames := 0, cells := 0, slots := 0, locals := 0 } k [.ref (ad k 13)] M (pV (fun M' => (∃ h : Nat → Option Nat, M' 13 = .inr (3, [.ref (ad k 14), .ref (ad k 15), .ref (ad k 16), .int (nI 13)]) ∧ M' 14 = .inl (kS k, 14, .inr (.inr (.inr (.inr h)))) ∧ ∀ j, j < 14 → h j = if j < 13 then g (j + 1) else g 0) ∧ Fr 13 2 M M')) := by
  refine CM.of (by decide) (Nat.le_of_ble_eq_true rfl) (fun C X hCl hCR rq => ?_)
  show V C k 3 (0, 0) M 0 [(0, .ref (ad k 13))] []
  have L : ∀ (fu : Nat) (i : Nat) (h : Nat → Option Nat) (M1 : Mem), 13 - i < fu → (i ≤ 13) → (∀ j, j < 14 → h j = if j < i then g (j + 1) else g j) → (Fr 14 1 M M1) → M1 13 = .inr (3, [.ref (ad k 14), .ref (ad k 15), .ref (ad k 16), .int (nI n)]) → M1 14 = .inl (kS k, 14, .inr (.inr (.inr (.inr h)))) → V C k 3 (0, 0) M1 9 [(0, .ref (ad k 13)), (1, .ref (ad k (29 + 4 * p 0))), (2, .int (nI i))] [] := by
    intro fu
    induction fu with
    | zero => intro i h M1 hfu; exact absurd hfu (Nat.not_lt_zero _)
    | succ fu ih =>
      intro i h M1 hfu hi0 hh hfr G0 G1
      refine v_iload_n X 2 dX3_forgetOldest_9 rfl ?_
      refine v_bipush X (v := nI 13) (by decide) dX3_forgetOldest_10 ?_
      refine v_cgeN X 35 (by omega) (by omega) dX3_forgetOldest_12 (by decide) (fun c_1 => ?_) (fun c_1 => ?_)
      · refine v_aload_n X 0 dX3_forgetOldest_35 rfl ?_
        refine v_get X cls3 G0 (by omega) 0 (by decide) m_127 rfl rfl dX3_forgetOldest_36 ?_
        refine v_bipush X (v := nI 13) (by decide) dX3_forgetOldest_39 ?_
        refine v_aload_n X 1 dX3_forgetOldest_41 rfl ?_
        obtain ⟨vs, hvs⟩ := hst 0 (by omega)
        have hvs1 : M1 (29 + 4 * p 0) = .inr (5, vs) := by rw [hfr _ (by omega)]; exact hvs
        have hpi := hp 0 (by omega)
        refine v_aast X G1 (by omega) (by omega) (by decide) hvs1 (by omega) dX3_forgetOldest_42 (fun M_2 hM_3 => ?_)
        have F_4 : M_2 13 = .inr (3, [.ref (ad k 14), .ref (ad k 15), .ref (ad k 16), .int (nI n)]) := by rw [hM_3, mup_n (by omega)]; exact G0
        have F_5 : M_2 14 = .inl (kS k, 14, .inr (.inr (.inr (.inr (va_up h 13 (some (ad k (29 + 4 * p 0)))))))) := by rw [hM_3]; exact mup_s
        refine v_aload_n X 0 dX3_forgetOldest_43 rfl ?_
        refine v_bipush X (v := nI 13) (by decide) dX3_forgetOldest_44 ?_
        refine v_put X cls3 F_4 (by omega) 3 (by decide) m_131 rfl rfl rfl rfl (Nat.le_of_ble_eq_true rfl) dX3_forgetOldest_46 (fun M_6 hM_7 => ?_)
        have F_8 : M_6 13 = .inr (3, [.ref (ad k 14), .ref (ad k 15), .ref (ad k 16), .int (nI 13)]) := by rw [hM_7]; exact mup_s
        have F_9 : M_6 14 = .inl (kS k, 14, .inr (.inr (.inr (.inr (va_up h 13 (some (ad k (29 + 4 * p 0)))))))) := by rw [hM_7, mup_n (by omega)]; exact F_5
        exact v_vret X rq ⟨by decide, by decide⟩ dX3_forgetOldest_49 ⟨rfl, ⟨_, F_8, F_9, fo_end (by omega) hh (hg 0 (by omega)).symm⟩, (fun i hi => by rw [hM_7, mup_n (by omega), hM_3, mup_n (by omega)]; exact hfr i (by omega))⟩
      · have hi := c_1
        refine v_aload_n X 0 dX3_forgetOldest_15 rfl ?_
        refine v_get X cls3 G0 (by omega) 0 (by decide) m_127 rfl rfl dX3_forgetOldest_16 ?_
        refine v_iload_n X 2 dX3_forgetOldest_19 rfl ?_
        refine v_aload_n X 0 dX3_forgetOldest_20 rfl ?_
        refine v_get X cls3 G0 (by omega) 0 (by decide) m_127 rfl rfl dX3_forgetOldest_21 ?_
        refine v_iload_n X 2 dX3_forgetOldest_24 rfl ?_
        refine v_iconst X (v := nI 1) (by decide) dX3_forgetOldest_25 ?_
        refine v_addN X dX3_forgetOldest_26 ?_
        refine v_aald X (a := ad k (29 + 4 * p (i + 1))) G1 (by omega) (by omega) (by decide) ((hh (i + 1) (by omega)).trans (by rw [if_neg (by omega)]; exact hg (i + 1) (by omega))) dX3_forgetOldest_27 ?_
        obtain ⟨vs, hvs⟩ := hst (i + 1) (by omega)
        have hvs1 : M1 (29 + 4 * p (i + 1)) = .inr (5, vs) := by rw [hfr _ (by omega)]; exact hvs
        have hpi := hp (i + 1) (by omega)
        refine v_aast X G1 (by omega) (by omega) (by decide) hvs1 (by omega) dX3_forgetOldest_28 (fun M_10 hM_11 => ?_)
        have F_12 : M_10 13 = .inr (3, [.ref (ad k 14), .ref (ad k 15), .ref (ad k 16), .int (nI n)]) := by rw [hM_11, mup_n (by omega)]; exact G0
        have F_13 : M_10 14 = .inl (kS k, 14, .inr (.inr (.inr (.inr (va_up h i (some (ad k (29 + 4 * p (i + 1))))))))) := by rw [hM_11]; exact mup_s
        have hx : some (ad k (29 + 4 * p (i + 1))) = g (i + 1) := (hg (i + 1) (by omega)).symm
        refine v_iinc X (v := nI (i + 1)) 2 [(2, .int (nI (i + 1))), (0, .ref (ad k 13)), (1, .ref (ad k (29 + 4 * p 0)))] dX3_forgetOldest_29 rfl (nI_1 _) (by decide) rfl ?_
        refine v_goto X 9 dX3_forgetOldest_32 (by decide) ?_
        refine v_lv [1, 2, 0] rfl ?_
        exact ih (i + 1) (va_up h i (some (ad k (29 + 4 * p (i + 1))))) M_10 (by omega) (by omega) (fo_step hi hh) (fun i hi => by rw [hM_11, mup_n (by omega)]; exact hfr i hi) F_12 F_13
  refine v_aload_n X 0 dX3_forgetOldest_0 rfl ?_
  refine v_get X cls3 F0 (by omega) 0 (by decide) m_127 rfl rfl dX3_forgetOldest_1 ?_
  refine v_iconst X (v := nI 0) (by decide) dX3_forgetOldest_4 ?_
  refine v_aald X (a := ad k (29 + 4 * p 0)) F1 (by omega) (by omega) (by decide) (hg 0 (by omega)) dX3_forgetOldest_5 ?_
  refine v_astore_n X [(1, .ref (ad k (29 + 4 * p 0))), (0, .ref (ad k 13))] dX3_forgetOldest_6 (by decide) rfl ?_
  refine v_iconst X (v := nI 0) (by decide) dX3_forgetOldest_7 ?_
  refine v_istore_n X [(2, .int (nI 0)), (1, .ref (ad k (29 + 4 * p 0))), (0, .ref (ad k 13))] dX3_forgetOldest_8 (by decide) rfl ?_
  refine v_lv [2, 1, 0] rfl ?_
  exact L 14 0 g M (by omega) (by omega) (fun j hj => by rw [if_neg (by omega)]) Fr.rf F0 F1
set_option maxHeartbeats 4000000 in
set_option maxRecDepth 100000 in
theorem c_X3_forgetAll (l : Launch) (k : KX) (M : Mem) (mem : List SD) (sl : Nat → Option SD) (hM : MeAt k M mem sl) : CM l yX3_forgetAll cX3_forgetAll 1 none { frames := 0, cells := 0, slots := 0, locals := 0 } k [.ref (ad k 13)] M (pV (fun M' => MeAt k M' [] sl ∧ Fr 13 1 M M')) := by
  refine CM.of (by decide) (Nat.le_of_ble_eq_true rfl) (fun C X hCl hCR rq => ?_)
  show V C k 1 (0, 0) M 0 [(0, .ref (ad k 13))] []
  obtain ⟨p_1, g_2, g2_3, fl_4, c_5, c2_6, hm_7⟩ := MeAt.op hM
  obtain ⟨hN_8, hl_9, hp_10, hi_11, F0_12, F1_13, F2_14, F3_15, hg_16, hc_17, hg2_18, hs_19⟩ := id hm_7
  refine v_aload_n X 0 dX3_forgetAll_0 rfl ?_
  refine v_iconst X (v := nI 0) (by decide) dX3_forgetAll_1 ?_
  refine v_put X cls3 F0_12 (by omega) 3 (by decide) m_131 rfl rfl rfl rfl (Nat.le_of_ble_eq_true rfl) dX3_forgetAll_2 (fun M_20 hM_21 => ?_)
  have F_22 : M_20 13 = .inr (3, [.ref (ad k 14), .ref (ad k 15), .ref (ad k 16), .int (nI 0)]) := by rw [hM_21]; exact mup_s
  have F_23 : M_20 14 = .inl (kS k, 14, .inr (.inr (.inr (.inr g_2)))) := by rw [hM_21, mup_n (by omega)]; exact F1_13
  have F_24 : M_20 15 = .inl (kS k, 2, .inr (.inr (.inr (.inr g2_3)))) := by rw [hM_21, mup_n (by omega)]; exact F2_14
  have F_25 : M_20 16 = .inl (kZ k, 2, .inl (fun zq => bI (fl_4 zq))) := by rw [hM_21, mup_n (by omega)]; exact F3_15
  exact v_vret X rq ⟨by decide, by decide⟩ dX3_forgetAll_5 ⟨rfl, hm_7.cut (Nat.zero_le _) (fun j hj => absurd hj (Nat.not_lt_zero _)) F_22 (fun i hi => by rw [hM_21, mup_n (by omega)]), (fun i hi => by rw [hM_21, mup_n (by omega)])⟩
set_option maxHeartbeats 4000000 in
set_option maxRecDepth 100000 in
theorem c_X3_isFilled (l : Launch) (k : KX) (M : Mem) (mem : List SD) (sl : Nat → Option SD) (j : Nat) (hM : MeAt k M mem sl) (hj : j < 2) : CM l yX3_isFilled cX3_isFilled 2 ((some .boolean)) { frames := 0, cells := 0, slots := 0, locals := 0 } k [.ref (ad k 13), .int (nI j)] M (pP (.int (bI (sl j).isSome)) M) := by
  refine CM.of (by decide) (Nat.le_of_ble_eq_true rfl) (fun C X hCl hCR rq => ?_)
  show V C k 2 (0, 0) M 0 [(0, .ref (ad k 13)), (1, .int (nI j))] []
  obtain ⟨p_1, g_2, g2_3, fl_4, c_5, c2_6, hm_7⟩ := MeAt.op hM
  obtain ⟨hN_8, hl_9, hp_10, hi_11, F0_12, F1_13, F2_14, F3_15, hg_16, hc_17, hg2_18, hs_19⟩ := id hm_7
  refine v_iload_n X 1 dX3_isFilled_0 rfl ?_
  refine v_iltN X (by omega) dX3_isFilled_1 ?_
  refine v_iload_n X 1 dX3_isFilled_4 rfl ?_
  refine v_iconst X (v := nI 2) (by decide) dX3_isFilled_5 ?_
  refine v_cgeN X 22 (by omega) (by omega) dX3_isFilled_6 (by decide) (fun c_21 => ?_) (fun c_21 => ?_)
  · exact absurd c_21 (by omega)
  · refine v_aload_n X 0 dX3_isFilled_9 rfl ?_
    refine v_get X cls3 F0_12 (by omega) 2 (by decide) m_130 rfl rfl dX3_isFilled_10 ?_
    refine v_iload_n X 1 dX3_isFilled_13 rfl ?_
    refine v_zald X F3_15 (by omega) (by omega) (by decide) dX3_isFilled_14 ?_
    refine v_ieqB X 22 dX3_isFilled_15 (by decide) (fun c_22 => ?_) (fun c_22 => ?_)
    · have hb := (hs_19 j hj).1.symm.trans c_22
      refine v_iconst X (v := bI false) (by decide) dX3_isFilled_22 ?_
      exact v_iret X rq ⟨by decide, by decide⟩ (narZ _) dX3_isFilled_23 (pP_i (by rw [hb]))
    · have hb := (hs_19 j hj).1.symm.trans c_22
      refine v_iconst X (v := bI true) (by decide) dX3_isFilled_18 ?_
      refine v_goto X 23 dX3_isFilled_19 (by decide) ?_
      exact v_iret X rq ⟨by decide, by decide⟩ (narZ _) dX3_isFilled_23 (pP_i (by rw [hb]))
theorem es_step {f : Nat → Bool} {i : Nat} (hi : i < 2) (hh : ∀ j, j < i → f j = false) : ∀ j, j < i + 1 → va_up f i false j = false := by
  intro j hj
  by_cases e : j = i
  · subst e; rw [up_s]
  · rw [up_n _ _ e]; exact hh j (by omega)
set_option maxHeartbeats 4000000 in
set_option maxRecDepth 100000 in
theorem c_X3_emptySlots (l : Launch) (k : KX) (M : Mem) (mem : List SD) (sl : Nat → Option SD) (hM : MeAt k M mem sl) : CM l yX3_emptySlots cX3_emptySlots 2 none { frames := 0, cells := 0, slots := 0, locals := 0 } k [.ref (ad k 13)] M (pV (fun M' => MeAt k M' mem (fun _ => none) ∧ Fr 16 1 M M')) := by
  refine CM.of (by decide) (Nat.le_of_ble_eq_true rfl) (fun C X hCl hCR rq => ?_)
  show V C k 2 (0, 0) M 0 [(0, .ref (ad k 13))] []
  obtain ⟨p, g, g2, fl, c, c2, hm⟩ := MeAt.op hM
  obtain ⟨hN, hl, hp, hi0, F0, F1, F2, F3, hg, hc, hg2, hs⟩ := id hm
  have L : ∀ (fu : Nat) (i : Nat) (f : Nat → Bool) (M1 : Mem), 2 - i < fu → (i ≤ 2) → (∀ j, j < i → f j = false) → (Fr 16 1 M M1) → M1 13 = .inr (3, [.ref (ad k 14), .ref (ad k 15), .ref (ad k 16), .int (nI mem.length)]) → M1 16 = .inl (kZ k, 2, .inl (fun zq => bI (f zq))) → V C k 2 (0, 0) M1 2 [(0, .ref (ad k 13)), (1, .int (nI i))] [] := by
    intro fu
    induction fu with
    | zero => intro i f M1 hfu; exact absurd hfu (Nat.not_lt_zero _)
    | succ fu ih =>
      intro i f M1 hfu hi1 hh hfr G0 G3
      refine v_iload_n X 1 dX3_emptySlots_2 rfl ?_
      refine v_iconst X (v := nI 2) (by decide) dX3_emptySlots_3 ?_
      refine v_cgeN X 20 (by omega) (by omega) dX3_emptySlots_4 (by decide) (fun c_1 => ?_) (fun c_1 => ?_)
      · exact v_vret X rq ⟨by decide, by decide⟩ dX3_emptySlots_20 ⟨rfl, hm.empty G3 (fun j hj => hh j (by omega)) (fun i hi => hfr i (by omega)), hfr⟩
      · have hi := c_1
        refine v_aload_n X 0 dX3_emptySlots_7 rfl ?_
        refine v_get X cls3 G0 (by omega) 2 (by decide) m_130 rfl rfl dX3_emptySlots_8 ?_
        refine v_iload_n X 1 dX3_emptySlots_11 rfl ?_
        refine v_iconst X (v := bI false) (by decide) dX3_emptySlots_12 ?_
        refine v_zast X false G3 (by omega) (by omega) (by decide) dX3_emptySlots_13 (fun M_2 hM_3 => ?_)
        have F_4 : M_2 13 = .inr (3, [.ref (ad k 14), .ref (ad k 15), .ref (ad k 16), .int (nI mem.length)]) := by rw [hM_3, mup_n (by omega)]; exact G0
        have F_5 : M_2 16 = .inl (kZ k, 2, .inl (fun zq => bI (va_up f i false zq))) := by rw [hM_3]; exact mup_s
        refine v_iinc X (v := nI (i + 1)) 1 [(1, .int (nI (i + 1))), (0, .ref (ad k 13))] dX3_emptySlots_14 rfl (nI_1 _) (by decide) rfl ?_
        refine v_goto X 2 dX3_emptySlots_17 (by decide) ?_
        refine v_lv [1, 0] rfl ?_
        exact ih (i + 1) (va_up f i false) M_2 (by omega) (by omega) (es_step hi hh) (fun i hi => by rw [hM_3, mup_n (by omega)]; exact hfr i hi) F_4 F_5
  refine v_iconst X (v := nI 0) (by decide) dX3_emptySlots_0 ?_
  refine v_istore_n X [(1, .int (nI 0)), (0, .ref (ad k 13))] dX3_emptySlots_1 (by decide) rfl ?_
  refine v_lv [1, 0] rfl ?_
  exact L 3 0 fl M (by omega) (by omega) (fun j hj => absurd hj (Nat.not_lt_zero _)) Fr.rf F0 F3
set_option maxHeartbeats 4000000 in
set_option maxRecDepth 100000 in
theorem c_X3_remember (l : Launch) (k : KX) (M : Mem) (mem : List SD) (sl : Nat → Option SD) (cs ds : List Nat) (hM : MeAt k M mem sl) (hS : StAt k M 5 cs ds) : CM l yX3_remember cX3_remember 2 none { frames := 3, cells := 0, slots := 0, locals := 65 } k [.ref (ad k 13), .ref (ad k 5)] M (pV (fun M' => MeAt k M' (remF mem (cs, ds)) sl ∧ ∀ i, (i < 13 ∨ (17 ≤ i ∧ i < 29) ∨ 93 ≤ i) → M' i = M i)) := by
  refine CM.of (by decide) (Nat.le_of_ble_eq_true rfl) (fun C X hCl hCR rq => ?_)
  show V C k 2 (0, 0) M 0 [(0, .ref (ad k 13)), (1, .ref (ad k 5))] []
  obtain ⟨p_1, g_2, g2_3, fl_4, c_5, c2_6, hm_7⟩ := MeAt.op hM
  obtain ⟨hN_8, hl_9, hp_10, hi_11, F0_12, F1_13, F2_14, F3_15, hg_16, hc_17, hg2_18, hs_19⟩ := id hm_7
  refine v_aload_n X 0 dX3_remember_0 rfl ?_
  refine v_get X cls3 F0_12 (by omega) 3 (by decide) m_131 rfl rfl dX3_remember_1 ?_
  refine v_bipush X (v := nI 14) (by decide) dX3_remember_4 ?_
  refine v_cltN X 13 (by omega) (by omega) dX3_remember_6 (by decide) (fun c_20 => ?_) (fun c_20 => ?_)
  · have hlt := c_20
    refine v_aload_n X 0 dX3_remember_13 rfl ?_
    refine v_get X cls3 F0_12 (by omega) 0 (by decide) m_127 rfl rfl dX3_remember_14 ?_
    refine v_aload_n X 0 dX3_remember_17 rfl ?_
    refine v_get X cls3 F0_12 (by omega) 3 (by decide) m_131 rfl rfl dX3_remember_18 ?_
    refine v_aald X (a := ad k (29 + 4 * p_1 mem.length)) F1_13 (by omega) (by omega) (by decide) (hg_16 _ hlt).1 dX3_remember_21 ?_
    have hst := (hg_16 _ hlt).2
    have hpi := hp_10 _ hlt
    refine v_aload_n X 1 dX3_remember_22 rfl ?_
    refine v_callS X hCl hCR (c_X3_copyInto l k M (29 + 4 * p_1 mem.length) 5 (c_5 mem.length).1 (c_5 mem.length).2 cs ds hst hS (by omega)) mo_X3_copyInto m_141 m_149 m_150 m_148 (by decide) rfl rfl (Nat.le_of_ble_eq_true rfl) ⟨rfl, rfl⟩ ⟨by decide, by decide⟩ dX3_remember_23 (vV_in (fun M_21 hp_22 => ?_))
    obtain ⟨P_24, hfr_23⟩ := hp_22
    have F_25 : M_21 13 = .inr (3, [.ref (ad k 14), .ref (ad k 15), .ref (ad k 16), .int (nI mem.length)]) := by rw [hfr_23 13 (by omega)]; exact F0_12
    have F_26 : M_21 14 = .inl (kS k, 14, .inr (.inr (.inr (.inr g_2)))) := by rw [hfr_23 14 (by omega)]; exact F1_13
    have F_27 : M_21 15 = .inl (kS k, 2, .inr (.inr (.inr (.inr g2_3)))) := by rw [hfr_23 15 (by omega)]; exact F2_14
    have F_28 : M_21 16 = .inl (kZ k, 2, .inl (fun zq => bI (fl_4 zq))) := by rw [hfr_23 16 (by omega)]; exact F3_15
    have P_29 : StAt k M_21 5 cs ds := hS.fr (fun i h1 h2 => hfr_23 i (by omega))
    refine v_aload_n X 0 dX3_remember_26 rfl ?_
    refine v_dup X rfl dX3_remember_27 ?_
    refine v_get X cls3 F_25 (by omega) 3 (by decide) m_131 rfl rfl dX3_remember_28 ?_
    refine v_iconst X (v := nI 1) (by decide) dX3_remember_31 ?_
    refine v_addN X dX3_remember_32 ?_
    refine v_put X cls3 F_25 (by omega) 3 (by decide) m_131 rfl rfl rfl rfl (Nat.le_of_ble_eq_true rfl) dX3_remember_33 (fun M_30 hM_31 => ?_)
    have F_32 : M_30 13 = .inr (3, [.ref (ad k 14), .ref (ad k 15), .ref (ad k 16), .int (nI (mem.length + 1))]) := by rw [hM_31]; exact mup_s
    have F_33 : M_30 14 = .inl (kS k, 14, .inr (.inr (.inr (.inr g_2)))) := by rw [hM_31, mup_n (by omega)]; exact F_26
    have F_34 : M_30 15 = .inl (kS k, 2, .inr (.inr (.inr (.inr g2_3)))) := by rw [hM_31, mup_n (by omega)]; exact F_27
    have F_35 : M_30 16 = .inl (kZ k, 2, .inl (fun zq => bI (fl_4 zq))) := by rw [hM_31, mup_n (by omega)]; exact F_28
    have P_36 : StAt k M_30 5 cs ds := P_29.fr (fun i h1 h2 => by rw [hM_31, mup_n (by omega)])
    have P_37 : StAt k M_30 (29 + 4 * p_1 mem.length) cs ds := P_24.fr (fun i h1 h2 => by rw [hM_31, mup_n (by omega)])
    exact v_vret X rq ⟨by decide, by decide⟩ dX3_remember_36 ⟨rfl, (by unfold remF; rw [if_neg (by omega)]; exact hm_7.push hlt F_32 P_37 (fun i hi hi2 => by rw [hM_31, mup_n (by omega), hfr_23 i (by omega)])), (fun i hi => by rw [hM_31, mup_n (by omega), hfr_23 i (by omega)])⟩
  · refine v_aload_n X 0 dX3_remember_9 rfl ?_
    refine v_callV X hCl hCR (c_X3_forgetOldest l k M mem.length g_2 p_1 hN_8 F0_12 F1_13 hp_10 (fun j hj => (hg_16 j hj).1) (fun j hj => (hg_16 j hj).2.obj)) cls3 ⟨_, F0_12⟩ (by omega) mo_X3_forgetOldest m_136 m_145 m_146 m_147 m_148 (by decide) rfl rfl (Nat.le_of_ble_eq_true rfl) ⟨rfl, rfl⟩ ⟨by decide, by decide⟩ dX3_remember_10 (vV_in (fun M_38 hp_39 => ?_))
    obtain ⟨⟨h_41, G_42, G_43, hh_44⟩, hfr_40⟩ := hp_39
    have P_45 := hm_7.rot (by omega) G_42 G_43 hh_44 hfr_40
    have P_46 : StAt k M_38 5 cs ds := hS.fr (fun i h1 h2 => hfr_40 i (by omega))
    obtain ⟨p_47, g_48, g2_49, fl_50, c_51, c2_52, hm_53⟩ := MeAt.op P_45
    obtain ⟨hN_54, hl_55, hp_56, hi_57, F0_58, F1_59, F2_60, F3_61, hg_62, hc_63, hg2_64, hs_65⟩ := id hm_53
    have hlt : mem.tail.length < 14 := by simp; omega
    refine v_aload_n X 0 dX3_remember_13 rfl ?_
    refine v_get X cls3 F0_58 (by omega) 0 (by decide) m_127 rfl rfl dX3_remember_14 ?_
    refine v_aload_n X 0 dX3_remember_17 rfl ?_
    refine v_get X cls3 F0_58 (by omega) 3 (by decide) m_131 rfl rfl dX3_remember_18 ?_
    refine v_aald X (a := ad k (29 + 4 * p_47 mem.tail.length)) F1_59 (by omega) (by omega) (by decide) (hg_62 _ hlt).1 dX3_remember_21 ?_
    have hst := (hg_62 _ hlt).2
    have hpi := hp_56 _ hlt
    refine v_aload_n X 1 dX3_remember_22 rfl ?_
    refine v_callS X hCl hCR (c_X3_copyInto l k M_38 (29 + 4 * p_47 mem.tail.length) 5 (c_51 mem.tail.length).1 (c_51 mem.tail.length).2 cs ds hst P_46 (by omega)) mo_X3_copyInto m_141 m_149 m_150 m_148 (by decide) rfl rfl (Nat.le_of_ble_eq_true rfl) ⟨rfl, rfl⟩ ⟨by decide, by decide⟩ dX3_remember_23 (vV_in (fun M_66 hp_67 => ?_))
    obtain ⟨P_69, hfr_68⟩ := hp_67
    have F_70 : M_66 13 = .inr (3, [.ref (ad k 14), .ref (ad k 15), .ref (ad k 16), .int (nI mem.tail.length)]) := by rw [hfr_68 13 (by omega)]; exact F0_58
    have F_71 : M_66 14 = .inl (kS k, 14, .inr (.inr (.inr (.inr g_48)))) := by rw [hfr_68 14 (by omega)]; exact F1_59
    have F_72 : M_66 15 = .inl (kS k, 2, .inr (.inr (.inr (.inr g2_49)))) := by rw [hfr_68 15 (by omega)]; exact F2_60
    have F_73 : M_66 16 = .inl (kZ k, 2, .inl (fun zq => bI (fl_50 zq))) := by rw [hfr_68 16 (by omega)]; exact F3_61
    have P_74 : StAt k M_66 5 cs ds := P_46.fr (fun i h1 h2 => hfr_68 i (by omega))
    refine v_aload_n X 0 dX3_remember_26 rfl ?_
    refine v_dup X rfl dX3_remember_27 ?_
    refine v_get X cls3 F_70 (by omega) 3 (by decide) m_131 rfl rfl dX3_remember_28 ?_
    refine v_iconst X (v := nI 1) (by decide) dX3_remember_31 ?_
    refine v_addN X dX3_remember_32 ?_
    refine v_put X cls3 F_70 (by omega) 3 (by decide) m_131 rfl rfl rfl rfl (Nat.le_of_ble_eq_true rfl) dX3_remember_33 (fun M_75 hM_76 => ?_)
    have F_77 : M_75 13 = .inr (3, [.ref (ad k 14), .ref (ad k 15), .ref (ad k 16), .int (nI (mem.tail.length + 1))]) := by rw [hM_76]; exact mup_s
    have F_78 : M_75 14 = .inl (kS k, 14, .inr (.inr (.inr (.inr g_48)))) := by rw [hM_76, mup_n (by omega)]; exact F_71
    have F_79 : M_75 15 = .inl (kS k, 2, .inr (.inr (.inr (.inr g2_49)))) := by rw [hM_76, mup_n (by omega)]; exact F_72
    have F_80 : M_75 16 = .inl (kZ k, 2, .inl (fun zq => bI (fl_50 zq))) := by rw [hM_76, mup_n (by omega)]; exact F_73
    have P_81 : StAt k M_75 5 cs ds := P_74.fr (fun i h1 h2 => by rw [hM_76, mup_n (by omega)])
    have P_82 : StAt k M_75 (29 + 4 * p_47 mem.tail.length) cs ds := P_69.fr (fun i h1 h2 => by rw [hM_76, mup_n (by omega)])
    exact v_vret X rq ⟨by decide, by decide⟩ dX3_remember_36 ⟨rfl, (by unfold remF; rw [if_pos (by omega)]; exact hm_53.push hlt F_77 P_82 (fun i hi hi2 => by rw [hM_76, mup_n (by omega), hfr_68 i (by omega)])), (fun i hi => by rw [hM_76, mup_n (by omega), hfr_68 i (by omega), hfr_40 i (by omega)])⟩
set_option maxHeartbeats 4000000 in
set_option maxRecDepth 100000 in
theorem c_X3_takeBack (l : Launch) (k : KX) (M : Mem) (mem : List SD) (sl : Nat → Option SD) (cs ds : List Nat) (ini : List SD) (s : SD) (hM : MeAt k M mem sl) (hS : StAt k M 5 cs ds) (hm : mem = ini ++ [s]) : CM l yX3_takeBack cX3_takeBack 2 none { frames := 3, cells := 0, slots := 0, locals := 65 } k [.ref (ad k 13), .ref (ad k 5)] M (pV (fun M' => MeAt k M' ini sl ∧ StAt k M' 5 s.1 s.2 ∧ ∀ i, (i < 5 ∨ 9 ≤ i) → i ≠ 13 → M' i = M i)) := by
  refine CM.of (by decide) (Nat.le_of_ble_eq_true rfl) (fun C X hCl hCR rq => ?_)
  show V C k 2 (0, 0) M 0 [(0, .ref (ad k 13)), (1, .ref (ad k 5))] []
  have hml : 0 < mem.length := by rw [hm]; simp
  obtain ⟨p_1, g_2, g2_3, fl_4, c_5, c2_6, hm_7⟩ := MeAt.op hM
  obtain ⟨hN_8, hl_9, hp_10, hi_11, F0_12, F1_13, F2_14, F3_15, hg_16, hc_17, hg2_18, hs_19⟩ := id hm_7
  refine v_aload_n X 0 dX3_takeBack_0 rfl ?_
  refine v_get X cls3 F0_12 (by omega) 3 (by decide) m_131 rfl rfl dX3_takeBack_1 ?_
  refine v_ileN X 30 (by omega) dX3_takeBack_4 (by decide) (fun c_20 => ?_) (fun c_20 => ?_)
  · exact absurd c_20 (by omega)
  · refine v_aload_n X 0 dX3_takeBack_7 rfl ?_
    refine v_dup X rfl dX3_takeBack_8 ?_
    refine v_get X cls3 F0_12 (by omega) 3 (by decide) m_131 rfl rfl dX3_takeBack_9 ?_
    refine v_iconst X (v := nI 1) (by decide) dX3_takeBack_12 ?_
    refine v_subN X (by omega) dX3_takeBack_13 ?_
    refine v_put X cls3 F0_12 (by omega) 3 (by decide) m_131 rfl rfl rfl rfl (Nat.le_of_ble_eq_true rfl) dX3_takeBack_14 (fun M_21 hM_22 => ?_)
    have F_23 : M_21 13 = .inr (3, [.ref (ad k 14), .ref (ad k 15), .ref (ad k 16), .int (nI (mem.length - 1))]) := by rw [hM_22]; exact mup_s
    have F_24 : M_21 14 = .inl (kS k, 14, .inr (.inr (.inr (.inr g_2)))) := by rw [hM_22, mup_n (by omega)]; exact F1_13
    have F_25 : M_21 15 = .inl (kS k, 2, .inr (.inr (.inr (.inr g2_3)))) := by rw [hM_22, mup_n (by omega)]; exact F2_14
    have F_26 : M_21 16 = .inl (kZ k, 2, .inl (fun zq => bI (fl_4 zq))) := by rw [hM_22, mup_n (by omega)]; exact F3_15
    have P_27 : StAt k M_21 5 cs ds := hS.fr (fun i h1 h2 => by rw [hM_22, mup_n (by omega)])
    refine v_aload_n X 1 dX3_takeBack_17 rfl ?_
    refine v_aload_n X 0 dX3_takeBack_18 rfl ?_
    refine v_get X cls3 F_23 (by omega) 0 (by decide) m_127 rfl rfl dX3_takeBack_19 ?_
    refine v_aload_n X 0 dX3_takeBack_22 rfl ?_
    refine v_get X cls3 F_23 (by omega) 3 (by decide) m_131 rfl rfl dX3_takeBack_23 ?_
    refine v_aald X (a := ad k (29 + 4 * p_1 (mem.length - 1))) F_24 (by omega) (by omega) (by decide) (hg_16 _ (by omega)).1 dX3_takeBack_26 ?_
    have hpi := hp_10 (mem.length - 1) (by omega)
    have hst := (hg_16 (mem.length - 1) (by omega)).2.fr (M' := M_21) (fun i h1 h2 => by rw [hM_22, mup_n (by omega)])
    refine v_callS X hCl hCR (c_X3_copyInto l k M_21 5 (29 + 4 * p_1 (mem.length - 1)) cs ds (c_5 (mem.length - 1)).1 (c_5 (mem.length - 1)).2 P_27 hst (by omega)) mo_X3_copyInto m_141 m_149 m_150 m_148 (by decide) rfl rfl (Nat.le_of_ble_eq_true rfl) ⟨rfl, rfl⟩ ⟨by decide, by decide⟩ dX3_takeBack_27 (vV_in (fun M_28 hp_29 => ?_))
    obtain ⟨P_31, hfr_30⟩ := hp_29
    have F_32 : M_28 13 = .inr (3, [.ref (ad k 14), .ref (ad k 15), .ref (ad k 16), .int (nI (mem.length - 1))]) := by rw [hfr_30 13 (by omega)]; exact F_23
    have F_33 : M_28 14 = .inl (kS k, 14, .inr (.inr (.inr (.inr g_2)))) := by rw [hfr_30 14 (by omega)]; exact F_24
    have F_34 : M_28 15 = .inl (kS k, 2, .inr (.inr (.inr (.inr g2_3)))) := by rw [hfr_30 15 (by omega)]; exact F_25
    have F_35 : M_28 16 = .inl (kZ k, 2, .inl (fun zq => bI (fl_4 zq))) := by rw [hfr_30 16 (by omega)]; exact F_26
    have P_36 : StAt k M_28 (29 + 4 * p_1 (mem.length - 1)) (c_5 (mem.length - 1)).1 (c_5 (mem.length - 1)).2 := hst.fr (fun i h1 h2 => hfr_30 i (by omega))
    have hce : c_5 (mem.length - 1) = s := by rw [hc_17 _ (by omega), hm]; simp
    exact v_vret X rq ⟨by decide, by decide⟩ dX3_takeBack_30 ⟨rfl, hm_7.cut (by rw [hm]; simp) (fun j hj => by rw [hm, getD_app, if_neg (by omega)]) (F_32.trans (by rw [hm]; simp)) (fun i hi => by rw [hfr_30 i (by omega), hM_22, mup_n (by omega)]), (by rw [← hce]; exact P_31), (fun i hi hi2 => by rw [hfr_30 i (by omega), hM_22, mup_n (by omega)])⟩
set_option maxHeartbeats 4000000 in
set_option maxRecDepth 100000 in
theorem c_X3_fillSlot (l : Launch) (k : KX) (M : Mem) (mem : List SD) (sl : Nat → Option SD) (cs ds : List Nat) (j : Nat) (hM : MeAt k M mem sl) (hS : StAt k M 5 cs ds) (hj : j < 2) : CM l yX3_fillSlot cX3_fillSlot 3 none { frames := 3, cells := 0, slots := 0, locals := 65 } k [.ref (ad k 13), .int (nI j), .ref (ad k 5)] M (pV (fun M' => MeAt k M' mem (va_up sl j (some (cs, ds))) ∧ ∀ i, (i < 13 ∨ (17 ≤ i ∧ i < 29) ∨ 93 ≤ i) → M' i = M i)) := by
  refine CM.of (by decide) (Nat.le_of_ble_eq_true rfl) (fun C X hCl hCR rq => ?_)
  show V C k 3 (0, 0) M 0 [(0, .ref (ad k 13)), (1, .int (nI j)), (2, .ref (ad k 5))] []
  obtain ⟨p_1, g_2, g2_3, fl_4, c_5, c2_6, hm_7⟩ := MeAt.op hM
  obtain ⟨hN_8, hl_9, hp_10, hi_11, F0_12, F1_13, F2_14, F3_15, hg_16, hc_17, hg2_18, hs_19⟩ := id hm_7
  refine v_iload_n X 1 dX3_fillSlot_0 rfl ?_
  refine v_iltN X (by omega) dX3_fillSlot_1 ?_
  refine v_iload_n X 1 dX3_fillSlot_4 rfl ?_
  refine v_iconst X (v := nI 2) (by decide) dX3_fillSlot_5 ?_
  refine v_cgeN X 26 (by omega) (by omega) dX3_fillSlot_6 (by decide) (fun c_21 => ?_) (fun c_21 => ?_)
  · exact absurd c_21 (by omega)
  · refine v_aload_n X 0 dX3_fillSlot_9 rfl ?_
    refine v_get X cls3 F0_12 (by omega) 1 (by decide) m_128 rfl rfl dX3_fillSlot_10 ?_
    refine v_iload_n X 1 dX3_fillSlot_13 rfl ?_
    refine v_aald X (a := ad k (85 + 4 * j)) F2_14 (by omega) (by omega) (by decide) (hg2_18 j hj).1 dX3_fillSlot_14 ?_
    have hst := (hg2_18 j hj).2
    refine v_aload_n X 2 dX3_fillSlot_15 rfl ?_
    refine v_callS X hCl hCR (c_X3_copyInto l k M (85 + 4 * j) 5 (c2_6 j).1 (c2_6 j).2 cs ds hst hS (by omega)) mo_X3_copyInto m_141 m_149 m_150 m_148 (by decide) rfl rfl (Nat.le_of_ble_eq_true rfl) ⟨rfl, rfl⟩ ⟨by decide, by decide⟩ dX3_fillSlot_16 (vV_in (fun M_22 hp_23 => ?_))
    obtain ⟨P_25, hfr_24⟩ := hp_23
    have F_26 : M_22 13 = .inr (3, [.ref (ad k 14), .ref (ad k 15), .ref (ad k 16), .int (nI mem.length)]) := by rw [hfr_24 13 (by omega)]; exact F0_12
    have F_27 : M_22 14 = .inl (kS k, 14, .inr (.inr (.inr (.inr g_2)))) := by rw [hfr_24 14 (by omega)]; exact F1_13
    have F_28 : M_22 15 = .inl (kS k, 2, .inr (.inr (.inr (.inr g2_3)))) := by rw [hfr_24 15 (by omega)]; exact F2_14
    have F_29 : M_22 16 = .inl (kZ k, 2, .inl (fun zq => bI (fl_4 zq))) := by rw [hfr_24 16 (by omega)]; exact F3_15
    have P_30 : StAt k M_22 5 cs ds := hS.fr (fun i h1 h2 => hfr_24 i (by omega))
    refine v_aload_n X 0 dX3_fillSlot_19 rfl ?_
    refine v_get X cls3 F_26 (by omega) 2 (by decide) m_130 rfl rfl dX3_fillSlot_20 ?_
    refine v_iload_n X 1 dX3_fillSlot_23 rfl ?_
    refine v_iconst X (v := bI true) (by decide) dX3_fillSlot_24 ?_
    refine v_zast X true F_29 (by omega) (by omega) (by decide) dX3_fillSlot_25 (fun M_31 hM_32 => ?_)
    have F_33 : M_31 13 = .inr (3, [.ref (ad k 14), .ref (ad k 15), .ref (ad k 16), .int (nI mem.length)]) := by rw [hM_32, mup_n (by omega)]; exact F_26
    have F_34 : M_31 14 = .inl (kS k, 14, .inr (.inr (.inr (.inr g_2)))) := by rw [hM_32, mup_n (by omega)]; exact F_27
    have F_35 : M_31 15 = .inl (kS k, 2, .inr (.inr (.inr (.inr g2_3)))) := by rw [hM_32, mup_n (by omega)]; exact F_28
    have F_36 : M_31 16 = .inl (kZ k, 2, .inl (fun zq => bI (va_up fl_4 j true zq))) := by rw [hM_32]; exact mup_s
    have P_37 : StAt k M_31 5 cs ds := P_30.fr (fun i h1 h2 => by rw [hM_32, mup_n (by omega)])
    have P_38 : StAt k M_31 (85 + 4 * j) cs ds := P_25.fr (fun i h1 h2 => by rw [hM_32, mup_n (by omega)])
    exact v_vret X rq ⟨by decide, by decide⟩ dX3_fillSlot_26 ⟨rfl, hm_7.fill hj F_36 P_38 (fun i hi hi2 => by rw [hM_32, mup_n (by omega), hfr_24 i (by omega)]), (fun i hi => by rw [hM_32, mup_n (by omega), hfr_24 i (by omega)])⟩
set_option maxHeartbeats 4000000 in
set_option maxRecDepth 100000 in
theorem c_X3_copySlot (l : Launch) (k : KX) (M : Mem) (mem : List SD) (sl : Nat → Option SD) (cs ds : List Nat) (j : Nat) (s : SD) (hM : MeAt k M mem sl) (hS : StAt k M 5 cs ds) (hj : j < 2) (hs0 : sl j = some s) : CM l yX3_copySlot cX3_copySlot 3 none { frames := 3, cells := 0, slots := 0, locals := 65 } k [.ref (ad k 13), .int (nI j), .ref (ad k 5)] M (pV (fun M' => StAt k M' 5 s.1 s.2 ∧ Fr 5 4 M M')) := by
  refine CM.of (by decide) (Nat.le_of_ble_eq_true rfl) (fun C X hCl hCR rq => ?_)
  show V C k 3 (0, 0) M 0 [(0, .ref (ad k 13)), (1, .int (nI j)), (2, .ref (ad k 5))] []
  obtain ⟨p_1, g_2, g2_3, fl_4, c_5, c2_6, hm_7⟩ := MeAt.op hM
  obtain ⟨hN_8, hl_9, hp_10, hi_11, F0_12, F1_13, F2_14, F3_15, hg_16, hc_17, hg2_18, hs_19⟩ := id hm_7
  refine v_aload_n X 0 dX3_copySlot_0 rfl ?_
  refine v_iload_n X 1 dX3_copySlot_1 rfl ?_
  refine v_callV X hCl hCR (c_X3_isFilled l k M mem sl j hM (by omega)) cls3 ⟨_, F0_12⟩ (by omega) mo_X3_isFilled m_154 m_156 m_157 m_158 m_148 (by decide) rfl rfl (Nat.le_of_ble_eq_true rfl) ⟨rfl, rfl⟩ ⟨by decide, by decide⟩ dX3_copySlot_2 (vP_in ?_)
  refine v_ieqB X 18 dX3_copySlot_5 (by decide) (fun c_20 => ?_) (fun c_20 => ?_)
  · exact absurd c_20 (by rw [hs0]; simp)
  · refine v_aload_n X 2 dX3_copySlot_8 rfl ?_
    refine v_aload_n X 0 dX3_copySlot_9 rfl ?_
    refine v_get X cls3 F0_12 (by omega) 1 (by decide) m_128 rfl rfl dX3_copySlot_10 ?_
    refine v_iload_n X 1 dX3_copySlot_13 rfl ?_
    refine v_aald X (a := ad k (85 + 4 * j)) F2_14 (by omega) (by omega) (by decide) (hg2_18 j hj).1 dX3_copySlot_14 ?_
    have hst := (hg2_18 j hj).2
    refine v_callS X hCl hCR (c_X3_copyInto l k M 5 (85 + 4 * j) cs ds (c2_6 j).1 (c2_6 j).2 hS hst (by omega)) mo_X3_copyInto m_141 m_149 m_150 m_148 (by decide) rfl rfl (Nat.le_of_ble_eq_true rfl) ⟨rfl, rfl⟩ ⟨by decide, by decide⟩ dX3_copySlot_15 (vV_in (fun M_21 hp_22 => ?_))
    obtain ⟨P_24, hfr_23⟩ := hp_22
    have F_25 : M_21 13 = .inr (3, [.ref (ad k 14), .ref (ad k 15), .ref (ad k 16), .int (nI mem.length)]) := by rw [hfr_23 13 (by omega)]; exact F0_12
    have F_26 : M_21 14 = .inl (kS k, 14, .inr (.inr (.inr (.inr g_2)))) := by rw [hfr_23 14 (by omega)]; exact F1_13
    have F_27 : M_21 15 = .inl (kS k, 2, .inr (.inr (.inr (.inr g2_3)))) := by rw [hfr_23 15 (by omega)]; exact F2_14
    have F_28 : M_21 16 = .inl (kZ k, 2, .inl (fun zq => bI (fl_4 zq))) := by rw [hfr_23 16 (by omega)]; exact F3_15
    have P_29 : StAt k M_21 (85 + 4 * j) (c2_6 j).1 (c2_6 j).2 := hst.fr (fun i h1 h2 => hfr_23 i (by omega))
    exact v_vret X rq ⟨by decide, by decide⟩ dX3_copySlot_18 ⟨rfl, (by rw [← (hs_19 j hj).2 s hs0]; exact P_24), (fun i hi => by rw [hfr_23 i (by omega)])⟩
