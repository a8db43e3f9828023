set_option maxHeartbeats 4000000 in
set_option maxRecDepth 100000 in
theorem c_X1_has (l : Launch) (k : KX) (M : Mem) (b : Nat) (cs : List Nat) (x : Int32) (hF : FmAt k M b cs) : CM l yX1_has cX1_has 2 ((some .boolean)) { frames := 0, cells := 0, slots := 0, locals := 0 } k [.ref (ad k b), .int x] M (pP (.int (bI (inL x cs.length))) M) := by
  refine CM.of (by decide) (Nat.le_of_ble_eq_true rfl) (fun C X hCl hCR rq => ?_)
  show V C k 2 (0, 0) M 0 [(0, .ref (ad k b)), (1, .int x)] []
  obtain ⟨hN, hlen, f, F0, F1, hf⟩ := id hF
  refine v_iload_n X 1 dX1_has_0 rfl ?_
  refine v_if_lt X 16 dX1_has_1 (by decide) (fun c_1 => ?_) (fun c_1 => ?_)
  · refine v_iconst X (v := bI false) (by decide) dX1_has_16 ?_
    exact v_iret X rq ⟨by decide, by decide⟩ (narZ _) dX1_has_17 (pP_i (by simp_all [inL, nI_0']))
  · refine v_iload_n X 1 dX1_has_4 rfl ?_
    refine v_aload_n X 0 dX1_has_5 rfl ?_
    refine v_get X cls1 F0 (by omega) 1 (by decide) m_9 rfl rfl dX1_has_6 ?_
    refine v_icmp_ge X 16 dX1_has_9 (by decide) (fun c_2 => ?_) (fun c_2 => ?_)
    · refine v_iconst X (v := bI false) (by decide) dX1_has_16 ?_
      exact v_iret X rq ⟨by decide, by decide⟩ (narZ _) dX1_has_17 (pP_i (by simp_all [inL, nI_0']))
    · refine v_iconst X (v := bI true) (by decide) dX1_has_12 ?_
      refine v_goto X 17 dX1_has_13 (by decide) ?_
      exact v_iret X rq ⟨by decide, by decide⟩ (narZ _) dX1_has_17 (pP_i (by simp_all [inL, nI_0']))
set_option maxHeartbeats 4000000 in
set_option maxRecDepth 100000 in
theorem c_X1_isFull (l : Launch) (k : KX) (M : Mem) (b : Nat) (cs : List Nat) (hF : FmAt k M b cs) : CM l yX1_isFull cX1_isFull 1 ((some .boolean)) { frames := 0, cells := 0, slots := 0, locals := 0 } k [.ref (ad k b)] M (pP (.int (bI (decide (24 ≤ cs.length)))) M) := by
  refine CM.of (by decide) (Nat.le_of_ble_eq_true rfl) (fun C X hCl hCR rq => ?_)
  show V C k 1 (0, 0) M 0 [(0, .ref (ad k b))] []
  obtain ⟨hN, hlen, f, F0, F1, hf⟩ := id hF
  refine v_aload_n X 0 dX1_isFull_0 rfl ?_
  refine v_get X cls1 F0 (by omega) 1 (by decide) m_9 rfl rfl dX1_isFull_1 ?_
  refine v_bipush X (v := nI 24) (by decide) dX1_isFull_4 ?_
  refine v_cltN X 13 (by omega) (by omega) dX1_isFull_6 (by decide) (fun c_1 => ?_) (fun c_1 => ?_)
  · refine v_iconst X (v := bI false) (by decide) dX1_isFull_13 ?_
    exact v_iret X rq ⟨by decide, by decide⟩ (narZ _) dX1_isFull_14 (pP_i (by congr 1; simp; omega))
  · refine v_iconst X (v := bI true) (by decide) dX1_isFull_9 ?_
    refine v_goto X 14 dX1_isFull_10 (by decide) ?_
    exact v_iret X rq ⟨by decide, by decide⟩ (narZ _) dX1_isFull_14 (pP_i (by congr 1; simp; omega))
set_option maxHeartbeats 4000000 in
set_option maxRecDepth 100000 in
theorem c_X1_codeAt (l : Launch) (k : KX) (M : Mem) (b : Nat) (cs : List Nat) (x : Int32) (hF : FmAt k M b cs) : CM l yX1_codeAt cX1_codeAt 2 ((some .int)) { frames := 1, cells := 0, slots := 0, locals := 21 } k [.ref (ad k b), .int x] M (pP (.int (nI (cAtI cs x))) M) := by
  refine CM.of (by decide) (Nat.le_of_ble_eq_true rfl) (fun C X hCl hCR rq => ?_)
  show V C k 2 (0, 0) M 0 [(0, .ref (ad k b)), (1, .int x)] []
  obtain ⟨hN, hlen, f, F0, F1, hf⟩ := id hF
  refine v_aload_n X 0 dX1_codeAt_0 rfl ?_
  refine v_iload_n X 1 dX1_codeAt_1 rfl ?_
  refine v_callV X hCl hCR (c_X1_has l k M b cs x hF) cls1 ⟨_, F0⟩ (by omega) mo_X1_has m_8 m_12 m_13 m_14 m_15 (by decide) rfl rfl (Nat.le_of_ble_eq_true rfl) ⟨rfl, rfl⟩ ⟨by decide, by decide⟩ dX1_codeAt_2 (vP_in ?_)
  refine v_ieqB X 17 dX1_codeAt_5 (by decide) (fun c_1 => ?_) (fun c_1 => ?_)
  · have hx : cAtI cs x = 0 := by unfold cAtI; rw [c_1]; rfl
    refine v_iconst X (v := nI 0) (by decide) dX1_codeAt_17 ?_
    exact v_iret X rq ⟨by decide, by decide⟩ rfl dX1_codeAt_18 (pP_i (by rw [hx]))
  · obtain ⟨j, hj, rfl⟩ := inL_of (by omega) c_1
    have hx : cAtI cs (nI j) = f j := by rw [cAtI_n (by omega) (by omega), hf j hj]
    refine v_aload_n X 0 dX1_codeAt_8 rfl ?_
    refine v_get X cls1 F0 (by omega) 0 (by decide) m_11 rfl rfl dX1_codeAt_9 ?_
    refine v_iload_n X 1 dX1_codeAt_12 rfl ?_
    refine v_iald X nI F1 (by omega) (by omega) (by decide) dX1_codeAt_13 ?_
    refine v_goto X 18 dX1_codeAt_14 (by decide) ?_
    exact v_iret X rq ⟨by decide, by decide⟩ rfl dX1_codeAt_18 (pP_i (by rw [hx]))
theorem c_X1_codeAtN (l : Launch) (k : KX) (M : Mem) (b : Nat) (cs : List Nat) (j : Nat) (hF : FmAt k M b cs) (hj : j < 2 ^ 31) : CM l yX1_codeAt cX1_codeAt 2 (some .int) { frames := 1, cells := 0, slots := 0, locals := 21 } k [.ref (ad k b), .int (nI j)] M (pP (.int (nI (cAt cs j))) M) := by
  have h := c_X1_codeAt l k M b cs (nI j) hF
  rwa [cAtI_n hj (by have := hF.2.1; omega)] at h
theorem c_X1_codeAtO (l : Launch) (k : KX) (M : Mem) (b : Nat) (cs : List Nat) (o : Option Nat) (hF : FmAt k M b cs) (ho : ∀ n, o = some n → n < 2 ^ 31) : CM l yX1_codeAt cX1_codeAt 2 (some .int) { frames := 1, cells := 0, slots := 0, locals := 21 } k [.ref (ad k b), .int (oI o)] M (pP (.int (nI (cAt cs (o.getD 24)))) M) := by
  have h := c_X1_codeAt l k M b cs (oI o) hF
  rwa [cAtI_o ho hF.2.1] at h
set_option maxHeartbeats 4000000 in
set_option maxRecDepth 100000 in
theorem c_X1_add (l : Launch) (k : KX) (M : Mem) (b : Nat) (cs : List Nat) (x : Nat) (hF : FmAt k M b cs) (hl : cs.length < 24) : CM l yX1_add cX1_add 2 none { frames := 1, cells := 0, slots := 0, locals := 20 } k [.ref (ad k b), .int (nI x)] M (pV (fun M' => FmAt k M' b (cs ++ [x]) ∧ Fr b 2 M M')) := by
  refine CM.of (by decide) (Nat.le_of_ble_eq_true rfl) (fun C X hCl hCR rq => ?_)
  show V C k 2 (0, 0) M 0 [(0, .ref (ad k b)), (1, .int (nI x))] []
  obtain ⟨hN, hlen, f, F0, F1, hf⟩ := id hF
  refine v_aload_n X 0 dX1_add_0 rfl ?_
  refine v_callV X hCl hCR (c_X1_isFull l k M b cs hF) cls1 ⟨_, F0⟩ (by omega) mo_X1_isFull m_46 m_48 m_49 m_50 m_15 (by decide) rfl rfl (Nat.le_of_ble_eq_true rfl) ⟨rfl, rfl⟩ ⟨by decide, by decide⟩ dX1_add_1 (vP_in ?_)
  refine v_ineB X 27 dX1_add_4 (by decide) (fun c_1 => ?_) (fun c_1 => ?_)
  · exact absurd c_1 (by simp; omega)
  · refine v_aload_n X 0 dX1_add_7 rfl ?_
    refine v_get X cls1 F0 (by omega) 0 (by decide) m_11 rfl rfl dX1_add_8 ?_
    refine v_aload_n X 0 dX1_add_11 rfl ?_
    refine v_get X cls1 F0 (by omega) 1 (by decide) m_9 rfl rfl dX1_add_12 ?_
    refine v_iload_n X 1 dX1_add_15 rfl ?_
    refine v_iast X nI x F1 (by omega) (by omega) (by decide) dX1_add_16 (fun M_2 hM_3 => ?_)
    have F_5 : M_2 b = .inr (1, [.ref (ad k (b + 1)), .int (nI cs.length)]) := by rw [hM_3, mup_n (by omega)]; exact F0
    have F_6 : M_2 (b + 1) = .inl (kI k, 24, .inl (fun zq => nI (va_up f cs.length x zq))) := by rw [hM_3]; exact mup_s
    refine v_aload_n X 0 dX1_add_17 rfl ?_
    refine v_dup X rfl dX1_add_18 ?_
    refine v_get X cls1 F_5 (by omega) 1 (by decide) m_9 rfl rfl dX1_add_19 ?_
    refine v_iconst X (v := nI 1) (by decide) dX1_add_22 ?_
    refine v_addN X dX1_add_23 ?_
    refine v_put X cls1 F_5 (by omega) 1 (by decide) m_9 rfl rfl rfl rfl (Nat.le_of_ble_eq_true rfl) dX1_add_24 (fun M_7 hM_8 => ?_)
    have F_9 : M_7 b = .inr (1, [.ref (ad k (b + 1)), .int (nI (cs.length + 1))]) := by rw [hM_8]; exact mup_s
    have F_10 : M_7 (b + 1) = .inl (kI k, 24, .inl (fun zq => nI (va_up f cs.length x zq))) := by rw [hM_8, mup_n (by omega)]; exact F_6
    exact v_vret X rq ⟨by decide, by decide⟩ dX1_add_27 ⟨rfl, ⟨hN, (by simp; omega), _, F_9.trans (by rw [List.length_append, List.length_singleton]), F_10, fa_app hf⟩, (fun i hi => by rw [hM_8, mup_n (by omega), hM_3, mup_n (by omega)])⟩
set_option maxHeartbeats 4000000 in
set_option maxRecDepth 100000 in
theorem c_X1_removeAt (l : Launch) (k : KX) (M : Mem) (b : Nat) (cs : List Nat) (j : Nat) (hF : FmAt k M b cs) (hj : j < cs.length) : CM l yX1_removeAt cX1_removeAt 3 none { frames := 1, cells := 0, slots := 0, locals := 21 } k [.ref (ad k b), .int (nI j)] M (pV (fun M' => FmAt k M' b (cs.eraseIdx j) ∧ Fr b 2 M M')) := by
  refine CM.of (by decide) (Nat.le_of_ble_eq_true rfl) (fun C X hCl hCR rq => ?_)
  show V C k 3 (0, 0) M 0 [(0, .ref (ad k b)), (1, .int (nI j))] []
  obtain ⟨hN, hlen, f, F0, F1, hf⟩ := id hF
  have L : ∀ (fu : Nat) (q : Nat) (h : Nat → Nat) (M1 : Mem), cs.length - q < fu → (j ≤ q) → (q ≤ cs.length - 1) → (∀ i, i < cs.length → h i = if i < j ∨ q ≤ i then f i else f (i + 1)) → (Fr b 2 M M1) → M1 b = .inr (1, [.ref (ad k (b + 1)), .int (nI cs.length)]) → M1 (b + 1) = .inl (kI k, 24, .inl (fun zq => nI (h zq))) → V C k 3 (0, 0) M1 10 [(0, .ref (ad k b)), (1, .int (nI j)), (2, .int (nI q))] [] := by
    intro fu
    induction fu with
    | zero => intro q h M1 hfu; exact absurd hfu (Nat.not_lt_zero _)
    | succ fu ih =>
      intro q h M1 hfu hq1 hq2 hh hfr G0 G1
      refine v_iload_n X 2 dX1_removeAt_10 rfl ?_
      refine v_aload_n X 0 dX1_removeAt_11 rfl ?_
      refine v_get X cls1 G0 (by omega) 1 (by decide) m_9 rfl rfl dX1_removeAt_12 ?_
      refine v_iconst X (v := nI 1) (by decide) dX1_removeAt_15 ?_
      refine v_subN X (by omega) dX1_removeAt_16 ?_
      refine v_cgeN X 40 (by omega) (by omega) dX1_removeAt_17 (by decide) (fun c_1 => ?_) (fun c_1 => ?_)
      · refine v_aload_n X 0 dX1_removeAt_40 rfl ?_
        refine v_dup X rfl dX1_removeAt_41 ?_
        refine v_get X cls1 G0 (by omega) 1 (by decide) m_9 rfl rfl dX1_removeAt_42 ?_
        refine v_iconst X (v := nI 1) (by decide) dX1_removeAt_45 ?_
        refine v_subN X (by omega) dX1_removeAt_46 ?_
        refine v_put X cls1 G0 (by omega) 1 (by decide) m_9 rfl rfl rfl rfl (Nat.le_of_ble_eq_true rfl) dX1_removeAt_47 (fun M_2 hM_3 => ?_)
        have F_4 : M_2 b = .inr (1, [.ref (ad k (b + 1)), .int (nI (cs.length - 1))]) := by rw [hM_3]; exact mup_s
        have F_5 : M_2 (b + 1) = .inl (kI k, 24, .inl (fun zq => nI (h zq))) := by rw [hM_3, mup_n (by omega)]; exact G1
        exact v_vret X rq ⟨by decide, by decide⟩ dX1_removeAt_50 ⟨rfl, ⟨hN, (by rw [List.length_eraseIdx_of_lt hj]; omega), h, F_4.trans (by rw [List.length_eraseIdx_of_lt hj]), F_5, rm_end hj (by omega) hf hh⟩, (fun i hi => by rw [hM_3, mup_n (by omega)]; exact hfr i hi)⟩
      · refine v_aload_n X 0 dX1_removeAt_20 rfl ?_
        refine v_get X cls1 G0 (by omega) 0 (by decide) m_11 rfl rfl dX1_removeAt_21 ?_
        refine v_iload_n X 2 dX1_removeAt_24 rfl ?_
        refine v_aload_n X 0 dX1_removeAt_25 rfl ?_
        refine v_get X cls1 G0 (by omega) 0 (by decide) m_11 rfl rfl dX1_removeAt_26 ?_
        refine v_iload_n X 2 dX1_removeAt_29 rfl ?_
        refine v_iconst X (v := nI 1) (by decide) dX1_removeAt_30 ?_
        refine v_addN X dX1_removeAt_31 ?_
        refine v_iald X nI G1 (by omega) (by omega) (by decide) dX1_removeAt_32 ?_
        have hv : h (q + 1) = f (q + 1) := by rw [hh _ (by omega), if_pos (by omega)]
        refine v_iast X nI (h (q + 1)) G1 (by omega) (by omega) (by decide) dX1_removeAt_33 (fun M_6 hM_7 => ?_)
        have F_9 : M_6 b = .inr (1, [.ref (ad k (b + 1)), .int (nI cs.length)]) := by rw [hM_7, mup_n (by omega)]; exact G0
        have F_10 : M_6 (b + 1) = .inl (kI k, 24, .inl (fun zq => nI (va_up h q (h (q + 1)) zq))) := by rw [hM_7]; exact mup_s
        refine v_iinc X (v := nI (q + 1)) 2 [(2, .int (nI (q + 1))), (0, .ref (ad k b)), (1, .int (nI j))] dX1_removeAt_34 rfl (nI_1 _) (by decide) rfl ?_
        refine v_goto X 10 dX1_removeAt_37 (by decide) ?_
        refine v_lv [1, 2, 0] rfl ?_
        exact ih (q + 1) (va_up h q (h (q + 1))) M_6 (by omega) (by omega) (by omega) (rm_step hq1 hh hv) (fun i hi => by rw [hM_7, mup_n (by omega)]; exact hfr i hi) F_9 F_10
  refine v_aload_n X 0 dX1_removeAt_0 rfl ?_
  refine v_iload_n X 1 dX1_removeAt_1 rfl ?_
  refine v_callV X hCl hCR (c_X1_has l k M b cs (nI j) hF) cls1 ⟨_, F0⟩ (by omega) mo_X1_has m_8 m_12 m_13 m_14 m_15 (by decide) rfl rfl (Nat.le_of_ble_eq_true rfl) ⟨rfl, rfl⟩ ⟨by decide, by decide⟩ dX1_removeAt_2 (vP_in ?_)
  refine v_ieqB X 50 dX1_removeAt_5 (by decide) (fun c_11 => ?_) (fun c_11 => ?_)
  · exact absurd c_11 (by rw [inL_n (by omega) (by omega)]; simp; exact hj)
  · refine v_iload_n X 1 dX1_removeAt_8 rfl ?_
    refine v_istore_n X [(2, .int (nI j)), (0, .ref (ad k b)), (1, .int (nI j))] dX1_removeAt_9 (by decide) rfl ?_
    refine v_lv [1, 2, 0] rfl ?_
    exact L 25 j f M (by omega) (by omega) (by omega) (fun i hi => by rw [if_pos (by omega)]) Fr.rf F0 F1
set_option maxHeartbeats 4000000 in
set_option maxRecDepth 100000 in
theorem c_X1_copyFrom (l : Launch) (k : KX) (M : Mem) (b b2 : Nat) (cs cs2 : List Nat) (hF : FmAt k M b cs) (hF2 : FmAt k M b2 cs2) (hap : b + 2 ≤ b2 ∨ b2 + 2 ≤ b) : CM l yX1_copyFrom cX1_copyFrom 3 none { frames := 0, cells := 0, slots := 0, locals := 0 } k [.ref (ad k b), .ref (ad k b2)] M (pV (fun M' => FmAt k M' b cs2 ∧ Fr b 2 M M')) := by
  refine CM.of (by decide) (Nat.le_of_ble_eq_true rfl) (fun C X hCl hCR rq => ?_)
  show V C k 3 (0, 0) M 0 [(0, .ref (ad k b)), (1, .ref (ad k b2))] []
  obtain ⟨hN, hlen, f, F0, F1, hf⟩ := id hF
  obtain ⟨hN2, hlen2, f2, E0, E1, hf2⟩ := id hF2
  have L : ∀ (fu : Nat) (q : Nat) (h : Nat → Nat) (M1 : Mem), cs2.length - q < fu → (q ≤ cs2.length) → (∀ i, i < q → h i = cAt cs2 i) → (Fr b 2 M M1) → M1 b = .inr (1, [.ref (ad k (b + 1)), .int (nI cs.length)]) → M1 (b + 1) = .inl (kI k, 24, .inl (fun zq => nI (h zq))) → M1 b2 = .inr (1, [.ref (ad k (b2 + 1)), .int (nI cs2.length)]) → M1 (b2 + 1) = .inl (kI k, 24, .inl (fun zq => nI (f2 zq))) → V C k 3 (0, 0) M1 2 [(0, .ref (ad k b)), (1, .ref (ad k b2)), (2, .int (nI q))] [] := by
    intro fu
    induction fu with
    | zero => intro q h M1 hfu; exact absurd hfu (Nat.not_lt_zero _)
    | succ fu ih =>
      intro q h M1 hfu hq2 hh hfr G0 G1 H0 H1
      refine v_iload_n X 2 dX1_copyFrom_2 rfl ?_
      refine v_aload_n X 1 dX1_copyFrom_3 rfl ?_
      refine v_get X cls1 H0 (by omega) 1 (by decide) m_9 rfl rfl dX1_copyFrom_4 ?_
      refine v_cgeN X 28 (by omega) (by omega) dX1_copyFrom_7 (by decide) (fun c_1 => ?_) (fun c_1 => ?_)
      · refine v_aload_n X 0 dX1_copyFrom_28 rfl ?_
        refine v_aload_n X 1 dX1_copyFrom_29 rfl ?_
        refine v_get X cls1 H0 (by omega) 1 (by decide) m_9 rfl rfl dX1_copyFrom_30 ?_
        refine v_put X cls1 G0 (by omega) 1 (by decide) m_9 rfl rfl rfl rfl (Nat.le_of_ble_eq_true rfl) dX1_copyFrom_33 (fun M_2 hM_3 => ?_)
        have F_4 : M_2 b = .inr (1, [.ref (ad k (b + 1)), .int (nI cs2.length)]) := by rw [hM_3]; exact mup_s
        have F_5 : M_2 (b + 1) = .inl (kI k, 24, .inl (fun zq => nI (h zq))) := by rw [hM_3, mup_n (by omega)]; exact G1
        have F_6 : M_2 b2 = .inr (1, [.ref (ad k (b2 + 1)), .int (nI cs2.length)]) := by rw [hM_3, mup_n (by omega)]; exact H0
        have F_7 : M_2 (b2 + 1) = .inl (kI k, 24, .inl (fun zq => nI (f2 zq))) := by rw [hM_3, mup_n (by omega)]; exact H1
        exact v_vret X rq ⟨by decide, by decide⟩ dX1_copyFrom_36 ⟨rfl, ⟨hN, hlen2, h, F_4, F_5, fun i hi => hh i (by omega)⟩, (fun i hi => by rw [hM_3, mup_n (by omega)]; exact hfr i hi)⟩
      · refine v_aload_n X 0 dX1_copyFrom_10 rfl ?_
        refine v_get X cls1 G0 (by omega) 0 (by decide) m_11 rfl rfl dX1_copyFrom_11 ?_
        refine v_iload_n X 2 dX1_copyFrom_14 rfl ?_
        refine v_aload_n X 1 dX1_copyFrom_15 rfl ?_
        refine v_get X cls1 H0 (by omega) 0 (by decide) m_11 rfl rfl dX1_copyFrom_16 ?_
        refine v_iload_n X 2 dX1_copyFrom_19 rfl ?_
        refine v_iald X nI H1 (by omega) (by omega) (by decide) dX1_copyFrom_20 ?_
        have hv : f2 q = cAt cs2 q := hf2 q (by omega)
        refine v_iast X nI (f2 q) G1 (by omega) (by omega) (by decide) dX1_copyFrom_21 (fun M_8 hM_9 => ?_)
        have F_11 : M_8 b = .inr (1, [.ref (ad k (b + 1)), .int (nI cs.length)]) := by rw [hM_9, mup_n (by omega)]; exact G0
        have F_12 : M_8 (b + 1) = .inl (kI k, 24, .inl (fun zq => nI (va_up h q (f2 q) zq))) := by rw [hM_9]; exact mup_s
        have F_13 : M_8 b2 = .inr (1, [.ref (ad k (b2 + 1)), .int (nI cs2.length)]) := by rw [hM_9, mup_n (by omega)]; exact H0
        have F_14 : M_8 (b2 + 1) = .inl (kI k, 24, .inl (fun zq => nI (f2 zq))) := by rw [hM_9, mup_n (by omega)]; exact H1
        refine v_iinc X (v := nI (q + 1)) 2 [(2, .int (nI (q + 1))), (0, .ref (ad k b)), (1, .ref (ad k b2))] dX1_copyFrom_22 rfl (nI_1 _) (by decide) rfl ?_
        refine v_goto X 2 dX1_copyFrom_25 (by decide) ?_
        refine v_lv [1, 2, 0] rfl ?_
        exact ih (q + 1) (va_up h q (f2 q)) M_8 (by omega) (by omega) (cp_step hh hv) (fun i hi => by rw [hM_9, mup_n (by omega)]; exact hfr i hi) F_11 F_12 F_13 F_14
  refine v_iconst X (v := nI 0) (by decide) dX1_copyFrom_0 ?_
  refine v_istore_n X [(2, .int (nI 0)), (0, .ref (ad k b)), (1, .ref (ad k b2))] dX1_copyFrom_1 (by decide) rfl ?_
  refine v_lv [1, 2, 0] rfl ?_
  exact L 25 0 f M (by omega) (by omega) (fun i hi => absurd hi (by omega)) Fr.rf F0 F1 E0 E1
set_option maxHeartbeats 4000000 in
set_option maxRecDepth 100000 in
theorem c_X1_firstViolatedOrUnit (l : Launch) (k : KX) (M : Mem) (b : Nat) (cs : List Nat) (A T : Nat) (hF : FmAt k M b cs) (ho : csOK cs) (hT : T < 256) : CM l yX1_firstViolatedOrUnit cX1_firstViolatedOrUnit 5 ((some .int)) { frames := 2, cells := 0, slots := 0, locals := 43 } k [.ref (ad k b), .int (nI A), .int (nI T)] M (pP (.int (oI (fstAct cs A T))) M) := by
  refine CM.of (by decide) (Nat.le_of_ble_eq_true rfl) (fun C X hCl hCR rq => ?_)
  show V C k 5 (0, 0) M 0 [(0, .ref (ad k b)), (1, .int (nI A)), (2, .int (nI T))] []
  obtain ⟨hN, hlen, f, F0, F1, hf⟩ := id hF
  have hok := cAt_ok ho
  have L : ∀ (fu : Nat) (q : Nat), cs.length - q < fu → (q ≤ cs.length) → (fstFrom (fun i => xAct (cAt cs i) A T) (cs.length - q) q = fstAct cs A T) → V C k 5 (0, 0) M 2 [(0, .ref (ad k b)), (1, .int (nI A)), (2, .int (nI T)), (3, .int (nI q))] [] := by
    intro fu
    induction fu with
    | zero => intro q hfu; exact absurd hfu (Nat.not_lt_zero _)
    | succ fu ih =>
      intro q hfu hq hl 
      refine v_iload_n X 3 dX1_firstViolatedOrUnit_2 rfl ?_
      refine v_aload_n X 0 dX1_firstViolatedOrUnit_3 rfl ?_
      refine v_get X cls1 F0 (by omega) 1 (by decide) m_9 rfl rfl dX1_firstViolatedOrUnit_4 ?_
      refine v_cgeN X 71 (by omega) (by omega) dX1_firstViolatedOrUnit_7 (by decide) (fun c_1 => ?_) (fun c_1 => ?_)
      · refine v_bipush X (v := (-9)) (by decide) dX1_firstViolatedOrUnit_71 ?_
        exact v_iret X rq ⟨by decide, by decide⟩ rfl dX1_firstViolatedOrUnit_73 (pP_i (by rw [← hl, show cs.length - q = 0 by omega]; rfl))
      · refine v_aload_n X 0 dX1_firstViolatedOrUnit_10 rfl ?_
        refine v_get X cls1 F0 (by omega) 0 (by decide) m_11 rfl rfl dX1_firstViolatedOrUnit_11 ?_
        refine v_iload_n X 3 dX1_firstViolatedOrUnit_14 rfl ?_
        refine v_iald X nI F1 (by omega) (by omega) (by decide) dX1_firstViolatedOrUnit_15 ?_
        refine v_top (show (Value.int (nI (f q)) : Value) = .int (nI (cAt cs q)) from congrArg _ (congrArg nI (hf q (by omega)))) ?_
        refine v_callSN X hCl hCR (c_X7_variablesOf l k M (cAt cs q) (by have := hok q; omega)) mo_X7_variablesOf m_53 nw_24 m_63 m_21 (by decide) rfl rfl (Nat.le_of_ble_eq_true rfl) ⟨rfl, rfl⟩ ⟨by decide, by decide⟩ dX1_firstViolatedOrUnit_16 (vP_in ?_)
        refine v_iload_n X 1 dX1_firstViolatedOrUnit_19 rfl ?_
        refine v_iconst X (v := nI 4294967295) (by decide) dX1_firstViolatedOrUnit_20 ?_
        refine v_xorN X dX1_firstViolatedOrUnit_21 ?_
        refine v_andN X dX1_firstViolatedOrUnit_22 ?_
        refine v_istore X [(4, .int (nI ((xVars (cAt cs q)) &&& (A ^^^ 4294967295)))), (0, .ref (ad k b)), (1, .int (nI A)), (2, .int (nI T)), (3, .int (nI q))] dX1_firstViolatedOrUnit_23 (by decide) rfl ?_
        refine v_iload X 0 dX1_firstViolatedOrUnit_25 rfl ?_
        refine v_callS X hCl hCR (c_J6_bitCount_0f7a4 l k M ((xVars (cAt cs q)) &&& (A ^^^ 4294967295)) (and_ltl (xVars_lt _))) mo_J6_bitCount_0f7a4 m_54 m_64 m_60 m_61 (by decide) rfl rfl (Nat.le_of_ble_eq_true rfl) ⟨rfl, rfl⟩ ⟨by decide, by decide⟩ dX1_firstViolatedOrUnit_27 (vP_in ?_)
        refine v_iconst X (v := nI 1) (by decide) dX1_firstViolatedOrUnit_30 ?_
        refine v_cgtN X 65 (by have : ∀ a, pcN 8 a ≤ 8 := pc8_le; have := this (xVars (cAt cs q) &&& (A ^^^ 4294967295)); omega) (by decide) dX1_firstViolatedOrUnit_31 (by decide) (fun c_2 => ?_) (fun c_2 => ?_)
        · have c31 := c_2
          refine v_iinc X (v := nI (q + 1)) 4 [(3, .int (nI (q + 1))), (4, .int (nI ((xVars (cAt cs q)) &&& (A ^^^ 4294967295)))), (0, .ref (ad k b)), (1, .int (nI A)), (2, .int (nI T))] dX1_firstViolatedOrUnit_65 rfl (nI_1 _) (by decide) rfl ?_
          refine v_goto X 2 dX1_firstViolatedOrUnit_68 (by decide) ?_
          refine v_lv [2, 3, 4, 0] rfl ?_
          exact ih (q + 1) (by omega) (by omega) (by rw [← hl, fst_at (n := cs.length) (i := q) (by omega), if_neg (by simp only [xAct, Bool.and_eq_true, decide_eq_true_eq]; intro w; exact absurd w.1 (by simpa [mdiff] using c31))])
        · have c31 := c_2
          refine v_aload_n X 1 dX1_firstViolatedOrUnit_34 rfl ?_
          refine v_get X cls1 F0 (by omega) 0 (by decide) m_11 rfl rfl dX1_firstViolatedOrUnit_35 ?_
          refine v_iload_n X 4 dX1_firstViolatedOrUnit_38 rfl ?_
          refine v_iald X nI F1 (by omega) (by omega) (by decide) dX1_firstViolatedOrUnit_39 ?_
          refine v_top (show (Value.int (nI (f q)) : Value) = .int (nI (cAt cs q)) from congrArg _ (congrArg nI (hf q (by omega)))) ?_
          refine v_iload_n X 3 dX1_firstViolatedOrUnit_40 rfl ?_
          refine v_callSN X hCl hCR (c_X7_isViolated l k M (cAt cs q) T (by have := hok q; omega)) mo_X7_isViolated m_58 nw_25 m_65 m_21 (by decide) rfl rfl (Nat.le_of_ble_eq_true rfl) ⟨rfl, rfl⟩ ⟨by decide, by decide⟩ dX1_firstViolatedOrUnit_41 (vP_in ?_)
          refine v_ineB X 63 dX1_firstViolatedOrUnit_44 (by decide) (fun c_3 => ?_) (fun c_3 => ?_)
          · have c44 := c_3
            refine v_iload_n X 4 dX1_firstViolatedOrUnit_63 rfl ?_
            exact v_iret X rq ⟨by decide, by decide⟩ rfl dX1_firstViolatedOrUnit_64 (pP_i (by rw [← hl, fst_at (n := cs.length) (i := q) (by omega), if_pos (by simp only [xAct, mdiff, c44, Bool.true_or, Bool.and_true]; exact decide_eq_true c31)]; rfl))
          · have c44 := c_3
            refine v_aload_n X 1 dX1_firstViolatedOrUnit_47 rfl ?_
            refine v_get X cls1 F0 (by omega) 0 (by decide) m_11 rfl rfl dX1_firstViolatedOrUnit_48 ?_
            refine v_iload_n X 4 dX1_firstViolatedOrUnit_51 rfl ?_
            refine v_iald X nI F1 (by omega) (by omega) (by decide) dX1_firstViolatedOrUnit_52 ?_
            refine v_top (show (Value.int (nI (f q)) : Value) = .int (nI (cAt cs q)) from congrArg _ (congrArg nI (hf q (by omega)))) ?_
            refine v_iload_n X 3 dX1_firstViolatedOrUnit_53 rfl ?_
            refine v_iload X 0 dX1_firstViolatedOrUnit_54 rfl ?_
            refine v_orN X dX1_firstViolatedOrUnit_56 ?_
            refine v_callSN X hCl hCR (c_X7_isViolated l k M (cAt cs q) (T ||| ((xVars (cAt cs q)) &&& (A ^^^ 4294967295))) (by have := hok q; omega)) mo_X7_isViolated m_58 nw_25 m_65 m_21 (by decide) rfl rfl (Nat.le_of_ble_eq_true rfl) ⟨rfl, rfl⟩ ⟨by decide, by decide⟩ dX1_firstViolatedOrUnit_57 (vP_in ?_)
            refine v_ieqB X 65 dX1_firstViolatedOrUnit_60 (by decide) (fun c_4 => ?_) (fun c_4 => ?_)
            · have c60 := c_4
              refine v_iinc X (v := nI (q + 1)) 4 [(3, .int (nI (q + 1))), (4, .int (nI ((xVars (cAt cs q)) &&& (A ^^^ 4294967295)))), (0, .ref (ad k b)), (1, .int (nI A)), (2, .int (nI T))] dX1_firstViolatedOrUnit_65 rfl (nI_1 _) (by decide) rfl ?_
              refine v_goto X 2 dX1_firstViolatedOrUnit_68 (by decide) ?_
              refine v_lv [2, 3, 4, 0] rfl ?_
              exact ih (q + 1) (by omega) (by omega) (by rw [← hl, fst_at (n := cs.length) (i := q) (by omega), if_neg (by simp only [xAct, mdiff, c44, c60]; simp)])
            · have c60 := c_4
              refine v_iload_n X 4 dX1_firstViolatedOrUnit_63 rfl ?_
              exact v_iret X rq ⟨by decide, by decide⟩ rfl dX1_firstViolatedOrUnit_64 (pP_i (by rw [← hl, fst_at (n := cs.length) (i := q) (by omega), if_pos (by simp only [xAct, mdiff, c60, Bool.or_true, Bool.and_true]; exact decide_eq_true c31)]; rfl))
  refine v_iconst X (v := nI 0) (by decide) dX1_firstViolatedOrUnit_0 ?_
  refine v_istore_n X [(3, .int (nI 0)), (0, .ref (ad k b)), (1, .int (nI A)), (2, .int (nI T))] dX1_firstViolatedOrUnit_1 (by decide) rfl ?_
  refine v_lv [1, 2, 3, 0] rfl ?_
  exact L 25 0 (by omega) (by omega) rfl
