set_option maxHeartbeats 4000000 in
set_option maxRecDepth 100000 in
theorem c_X2_isNewLetter (l : Launch) (k : KX) (M : Mem) (c b u : Nat) (hc : c < 256) (hb : b < 256) (hu : u < 2 ^ 31) : CM l yX2_isNewLetter cX2_isNewLetter 4 ((some .boolean)) { frames := 1, cells := 0, slots := 0, locals := 21 } k [.int (nI c), .int (nI b), .int (nI u)] M (pP (.int (bI (newL c b u))) M) := by
  refine CM.of (by decide) (Nat.le_of_ble_eq_true rfl) (fun C X hCl hCR rq => ?_)
  show V C k 4 (0, 0) M 0 [(0, .int (nI c)), (1, .int (nI b)), (2, .int (nI u))] []
  refine v_iload_n X 0 dX2_isNewLetter_0 rfl ?_
  refine v_iload_n X 1 dX2_isNewLetter_1 rfl ?_
  refine v_isub X dX2_isNewLetter_2 ?_
  refine v_istore_n X [(3, .int (nI c - nI b)), (0, .int (nI c)), (1, .int (nI b)), (2, .int (nI u))] dX2_isNewLetter_3 (by decide) rfl ?_
  refine v_iload_n X 0 dX2_isNewLetter_4 rfl ?_
  refine v_callSN X hCl hCR (c_X7_isVariable l k M ((nI c - nI b))) mo_X7_isVariable m_25 nw_40 m_29 m_21 (by decide) rfl rfl (Nat.le_of_ble_eq_true rfl) ⟨rfl, rfl⟩ ⟨by decide, by decide⟩ dX2_isNewLetter_5 (vP_in ?_)
  refine v_ieqB X 23 dX2_isNewLetter_8 (by decide) (fun c_1 => ?_) (fun c_1 => ?_)
  · have h8 := c_1
    rw [inL_sub hc hb] at h8
    refine v_iconst X (v := bI false) (by decide) dX2_isNewLetter_23 ?_
    exact v_iret X rq ⟨by decide, by decide⟩ (narZ _) dX2_isNewLetter_24 (pP_i (by unfold newL; rw [h8]; rfl))
  · have h8 := c_1
    rw [inL_sub hc hb] at h8
    have hr := of_decide_eq_true h8
    rw [pk_sub hr.1]
    refine v_iload_n X 3 dX2_isNewLetter_11 rfl ?_
    refine v_iload_n X 0 dX2_isNewLetter_12 rfl ?_
    refine v_callSN X hCl hCR (c_X7_contains l k M u (c - b) (by omega) (by omega)) mo_X7_contains m_18 nw_41 m_20 m_21 (by decide) rfl rfl (Nat.le_of_ble_eq_true rfl) ⟨rfl, rfl⟩ ⟨by decide, by decide⟩ dX2_isNewLetter_13 (vP_in ?_)
    refine v_ineB X 23 dX2_isNewLetter_16 (by decide) (fun c_2 => ?_) (fun c_2 => ?_)
    · have h16 := c_2
      refine v_iconst X (v := bI false) (by decide) dX2_isNewLetter_23 ?_
      exact v_iret X rq ⟨by decide, by decide⟩ (narZ _) dX2_isNewLetter_24 (pP_i (by unfold newL; rw [h8, h16]; rfl))
    · have h16 := c_2
      refine v_iconst X (v := bI true) (by decide) dX2_isNewLetter_19 ?_
      refine v_goto X 24 dX2_isNewLetter_20 (by decide) ?_
      exact v_iret X rq ⟨by decide, by decide⟩ (narZ _) dX2_isNewLetter_24 (pP_i (by unfold newL; rw [h8, h16]; rfl))
set_option maxHeartbeats 4000000 in
set_option maxRecDepth 100000 in
theorem c_X2_startItem (l : Launch) (k : KX) (M : Mem) (n : Nat) (cs : List Nat) (pl i1 i2 : Nat) (hT : TsAt k M n (cs, pl, i1, i2)) : CM l yX2_startItem cX2_startItem 1 none { frames := 0, cells := 0, slots := 0, locals := 0 } k [.ref (ad k 1)] M (pV (fun M' => TsAt k M' n (cs, 0, 0, 0) ∧ Fr 1 1 M M')) := by
  refine CM.of (by decide) (Nat.le_of_ble_eq_true rfl) (fun C X hCl hCR rq => ?_)
  show V C k 1 (0, 0) M 0 [(0, .ref (ad k 1))] []
  obtain ⟨hN, F0, hF⟩ := id hT
  have hF : FmAt k M 3 cs := hF
  refine v_aload_n X 0 dX2_startItem_0 rfl ?_
  refine v_iconst X (v := nI 0) (by decide) dX2_startItem_1 ?_
  refine v_put X cls2 F0 (by omega) 3 (by decide) m_73 rfl rfl rfl rfl (Nat.le_of_ble_eq_true rfl) dX2_startItem_2 (fun M_1 hM_2 => ?_)
  have F_3 : M_1 1 = .inr (2, [.ref (ad k 2), .int (nI n), .ref (ad k 3), .int (nI 0), .int (nI i1), .int (nI i2)]) := by rw [hM_2]; exact mup_s
  have P_4 : FmAt k M_1 3 cs := hF.fr (fun i h1 h2 => by rw [hM_2, mup_n (by omega)])
  refine v_aload_n X 0 dX2_startItem_5 rfl ?_
  refine v_iconst X (v := nI 0) (by decide) dX2_startItem_6 ?_
  refine v_put X cls2 F_3 (by omega) 4 (by decide) m_74 rfl rfl rfl rfl (Nat.le_of_ble_eq_true rfl) dX2_startItem_7 (fun M_5 hM_6 => ?_)
  have F_7 : M_5 1 = .inr (2, [.ref (ad k 2), .int (nI n), .ref (ad k 3), .int (nI 0), .int (nI 0), .int (nI i2)]) := by rw [hM_6]; exact mup_s
  have P_8 : FmAt k M_5 3 cs := P_4.fr (fun i h1 h2 => by rw [hM_6, mup_n (by omega)])
  refine v_aload_n X 0 dX2_startItem_10 rfl ?_
  refine v_iconst X (v := nI 0) (by decide) dX2_startItem_11 ?_
  refine v_put X cls2 F_7 (by omega) 5 (by decide) m_75 rfl rfl rfl rfl (Nat.le_of_ble_eq_true rfl) dX2_startItem_12 (fun M_9 hM_10 => ?_)
  have F_11 : M_9 1 = .inr (2, [.ref (ad k 2), .int (nI n), .ref (ad k 3), .int (nI 0), .int (nI 0), .int (nI 0)]) := by rw [hM_10]; exact mup_s
  have P_12 : FmAt k M_9 3 cs := P_8.fr (fun i h1 h2 => by rw [hM_10, mup_n (by omega)])
  exact v_vret X rq ⟨by decide, by decide⟩ dX2_startItem_15 ⟨rfl, ⟨hN, F_11, P_12⟩, (fun i hi => by rw [hM_10, mup_n (by omega), hM_6, mup_n (by omega), hM_2, mup_n (by omega)])⟩
set_option maxHeartbeats 4000000 in
set_option maxRecDepth 100000 in
theorem c_X2_endsItem (l : Launch) (k : KX) (M : Mem) (n : Nat) (cs : List Nat) (pl i1 i2 : Nat) (x : Nat) (hT : TsAt k M n (cs, pl, i1, i2)) (ho : tsOK (cs, pl, i1, i2)) (hl : cs.length < 24) : CM l yX2_endsItem cX2_endsItem 2 ((some .boolean)) { frames := 2, cells := 0, slots := 0, locals := 41 } k [.ref (ad k 1), .int (nI x)] M (pI (fun r M' => r = bI (endS (cs, pl, i1, i2) x).1 ∧ TsAt k M' n (endS (cs, pl, i1, i2) x).2 ∧ TFr M M')) := by
  refine CM.of (by decide) (Nat.le_of_ble_eq_true rfl) (fun C X hCl hCR rq => ?_)
  show V C k 2 (0, 0) M 0 [(0, .ref (ad k 1)), (1, .int (nI x))] []
  obtain ⟨hN, F0, hF⟩ := id hT
  obtain ⟨o1, o2, o3, o4, o5⟩ := id ho
  simp only [] at o1 o2 o3 o4 o5
  have F0 : M 1 = .inr (2, [.ref (ad k 2), .int (nI n), .ref (ad k 3), .int (nI pl), .int (nI i1), .int (nI i2)]) := F0
  have hF : FmAt k M 3 cs := hF
  refine v_aload_n X 0 dX2_endsItem_0 rfl ?_
  refine v_get X cls2 F0 (by omega) 2 (by decide) m_72 rfl rfl dX2_endsItem_1 ?_
  refine v_iload_n X 1 dX2_endsItem_4 rfl ?_
  refine v_callV X hCl hCR (c_X1_add l k M 3 cs x hF (by omega)) cls1 hF.obj (by omega) mo_X1_add m_47 m_91 m_92 m_93 m_15 (by decide) rfl rfl (Nat.le_of_ble_eq_true rfl) ⟨rfl, rfl⟩ ⟨by decide, by decide⟩ dX2_endsItem_5 (vV_in (fun M_1 hp_2 => ?_))
  obtain ⟨P_4, hfr_3⟩ := hp_2
  have F_5 : M_1 1 = .inr (2, [.ref (ad k 2), .int (nI n), .ref (ad k 3), .int (nI pl), .int (nI i1), .int (nI i2)]) := by rw [hfr_3 1 (by omega)]; exact F0
  refine v_aload_n X 0 dX2_endsItem_8 rfl ?_
  have T_6 : TsAt k M_1 n ((cs ++ [x]), pl, i1, i2) := ⟨hN, F_5, P_4⟩
  refine v_callV X hCl hCR (c_X2_startItem l k M_1 n ((cs ++ [x])) pl i1 i2 T_6) cls2 ⟨_, F_5⟩ (by omega) mo_X2_startItem m_78 m_94 m_95 m_96 m_83 (by decide) rfl rfl (Nat.le_of_ble_eq_true rfl) ⟨rfl, rfl⟩ ⟨by decide, by decide⟩ dX2_endsItem_9 (vV_in (fun M_7 hp_8 => ?_))
  obtain ⟨⟨_, F_10, P_11⟩, hfr_9⟩ := hp_8
  have P_12 : FmAt k M_7 3 (cs ++ [x]) := P_4.fr (fun i h1 h2 => hfr_9 i (by omega))
  refine v_iconst X (v := bI true) (by decide) dX2_endsItem_12 ?_
  exact v_iret X rq ⟨by decide, by decide⟩ (narZ _) dX2_endsItem_13 ⟨_, rfl, rfl, ⟨hN, F_10, P_12⟩, (fun i h1 h3 h4 => by rw [hfr_9 i (by omega), hfr_3 i (by omega)])⟩
set_option maxHeartbeats 4000000 in
set_option maxRecDepth 100000 in
theorem c_X2_takesClauseLetter (l : Launch) (k : KX) (M : Mem) (n : Nat) (cs : List Nat) (pl i1 i2 : Nat) (c : Nat) (hT : TsAt k M n (cs, pl, i1, i2)) (ho : tsOK (cs, pl, i1, i2)) (hc : c < 256) : CM l yX2_takesClauseLetter cX2_takesClauseLetter 3 ((some .boolean)) { frames := 2, cells := 0, slots := 0, locals := 44 } k [.ref (ad k 1), .int (nI c)] M (pI (fun r M' => r = bI (clL (cs, pl, i1, i2) c).1 ∧ TsAt k M' n (clL (cs, pl, i1, i2) c).2 ∧ TFr M M')) := by
  refine CM.of (by decide) (Nat.le_of_ble_eq_true rfl) (fun C X hCl hCR rq => ?_)
  show V C k 3 (0, 0) M 0 [(0, .ref (ad k 1)), (1, .int (nI c))] []
  obtain ⟨hN, F0, hF⟩ := id hT
  obtain ⟨o1, o2, o3, o4, o5⟩ := id ho
  simp only [] at o1 o2 o3 o4 o5
  have F0 : M 1 = .inr (2, [.ref (ad k 2), .int (nI n), .ref (ad k 3), .int (nI pl), .int (nI i1), .int (nI i2)]) := F0
  have hF : FmAt k M 3 cs := hF
  have hu := or_lt256 o2 o3
  refine v_aload_n X 0 dX2_takesClauseLetter_0 rfl ?_
  refine v_get X cls2 F0 (by omega) 4 (by decide) m_74 rfl rfl dX2_takesClauseLetter_1 ?_
  refine v_aload_n X 0 dX2_takesClauseLetter_4 rfl ?_
  refine v_get X cls2 F0 (by omega) 5 (by decide) m_75 rfl rfl dX2_takesClauseLetter_5 ?_
  refine v_orN X dX2_takesClauseLetter_8 ?_
  refine v_istore_n X [(2, .int (nI (i1 ||| i2))), (0, .ref (ad k 1)), (1, .int (nI c))] dX2_takesClauseLetter_9 (by decide) rfl ?_
  refine v_iload_n X 2 dX2_takesClauseLetter_10 rfl ?_
  refine v_bipush X (v := nI 97) (by decide) dX2_takesClauseLetter_11 ?_
  refine v_iload_n X 0 dX2_takesClauseLetter_13 rfl ?_
  refine v_callS X hCl hCR (c_X2_isNewLetter l k M c 97 (i1 ||| i2) (by omega) (by omega) (by omega)) mo_X2_isNewLetter m_79 m_81 m_82 m_83 (by decide) rfl rfl (Nat.le_of_ble_eq_true rfl) ⟨rfl, rfl⟩ ⟨by decide, by decide⟩ dX2_takesClauseLetter_14 (vP_in ?_)
  refine v_ieqB X 37 dX2_takesClauseLetter_17 (by decide) (fun c_1 => ?_) (fun c_1 => ?_)
  · have h17 := c_1
    refine v_iload_n X 2 dX2_takesClauseLetter_37 rfl ?_
    refine v_bipush X (v := nI 65) (by decide) dX2_takesClauseLetter_38 ?_
    refine v_iload_n X 0 dX2_takesClauseLetter_40 rfl ?_
    refine v_callS X hCl hCR (c_X2_isNewLetter l k M c 65 (i1 ||| i2) (by omega) (by omega) (by omega)) mo_X2_isNewLetter m_79 m_81 m_82 m_83 (by decide) rfl rfl (Nat.le_of_ble_eq_true rfl) ⟨rfl, rfl⟩ ⟨by decide, by decide⟩ dX2_takesClauseLetter_41 (vP_in ?_)
    refine v_ieqB X 64 dX2_takesClauseLetter_44 (by decide) (fun c_2 => ?_) (fun c_2 => ?_)
    · have h44 := c_2
      refine v_iconst X (v := bI false) (by decide) dX2_takesClauseLetter_64 ?_
      exact v_iret X rq ⟨by decide, by decide⟩ (narZ _) dX2_takesClauseLetter_65 ⟨_, rfl, by rw [clL, if_neg (by simp [h17]), if_neg (by simp [h44])], by rw [clL, if_neg (by simp [h17]), if_neg (by simp [h44])]; exact ⟨hN, F0, hF⟩, (fun _ _ _ _ => rfl)⟩
    · have h44 := c_2
      have hr := newL_rng h44
      refine v_aload_n X 1 dX2_takesClauseLetter_47 rfl ?_
      refine v_dup X rfl dX2_takesClauseLetter_48 ?_
      refine v_get X cls2 F0 (by omega) 5 (by decide) m_75 rfl rfl dX2_takesClauseLetter_49 ?_
      refine v_iconst X (v := nI 1) (by decide) dX2_takesClauseLetter_52 ?_
      refine v_iload_n X 2 dX2_takesClauseLetter_53 rfl ?_
      refine v_bipush X (v := nI 65) (by decide) dX2_takesClauseLetter_54 ?_
      refine v_subN X (by omega) dX2_takesClauseLetter_56 ?_
      refine v_shlN X (by omega) dX2_takesClauseLetter_57 ?_
      refine v_orN X dX2_takesClauseLetter_58 ?_
      refine v_put X cls2 F0 (by omega) 5 (by decide) m_75 rfl rfl rfl rfl (Nat.le_of_ble_eq_true rfl) dX2_takesClauseLetter_59 (fun M_3 hM_4 => ?_)
      have F_5 : M_3 1 = .inr (2, [.ref (ad k 2), .int (nI n), .ref (ad k 3), .int (nI pl), .int (nI i1), .int (nI (i2 ||| (1 <<< (c - 65))))]) := by rw [hM_4]; exact mup_s
      have P_6 : FmAt k M_3 3 cs := hF.fr (fun i h1 h2 => by rw [hM_4, mup_n (by omega)])
      refine v_iconst X (v := bI true) (by decide) dX2_takesClauseLetter_62 ?_
      exact v_iret X rq ⟨by decide, by decide⟩ (narZ _) dX2_takesClauseLetter_63 ⟨_, rfl, by rw [clL, if_neg (by simp [h17]), if_pos h44], by rw [clL, if_neg (by simp [h17]), if_pos h44]; exact ⟨hN, F_5, P_6⟩, (fun i h1 h3 h4 => by rw [hM_4, mup_n (by omega)])⟩
  · have h17 := c_1
    have hr := newL_rng h17
    refine v_aload_n X 1 dX2_takesClauseLetter_20 rfl ?_
    refine v_dup X rfl dX2_takesClauseLetter_21 ?_
    refine v_get X cls2 F0 (by omega) 4 (by decide) m_74 rfl rfl dX2_takesClauseLetter_22 ?_
    refine v_iconst X (v := nI 1) (by decide) dX2_takesClauseLetter_25 ?_
    refine v_iload_n X 2 dX2_takesClauseLetter_26 rfl ?_
    refine v_bipush X (v := nI 97) (by decide) dX2_takesClauseLetter_27 ?_
    refine v_subN X (by omega) dX2_takesClauseLetter_29 ?_
    refine v_shlN X (by omega) dX2_takesClauseLetter_30 ?_
    refine v_orN X dX2_takesClauseLetter_31 ?_
    refine v_put X cls2 F0 (by omega) 4 (by decide) m_74 rfl rfl rfl rfl (Nat.le_of_ble_eq_true rfl) dX2_takesClauseLetter_32 (fun M_7 hM_8 => ?_)
    have F_9 : M_7 1 = .inr (2, [.ref (ad k 2), .int (nI n), .ref (ad k 3), .int (nI pl), .int (nI (i1 ||| (1 <<< (c - 97)))), .int (nI i2)]) := by rw [hM_8]; exact mup_s
    have P_10 : FmAt k M_7 3 cs := hF.fr (fun i h1 h2 => by rw [hM_8, mup_n (by omega)])
    refine v_iconst X (v := bI true) (by decide) dX2_takesClauseLetter_35 ?_
    exact v_iret X rq ⟨by decide, by decide⟩ (narZ _) dX2_takesClauseLetter_36 ⟨_, rfl, by rw [clL, if_pos h17], by rw [clL, if_pos h17]; exact ⟨hN, F_9, P_10⟩, (fun i h1 h3 h4 => by rw [hM_8, mup_n (by omega)])⟩
set_option maxHeartbeats 4000000 in
set_option maxRecDepth 100000 in
theorem c_X2_takesBit (l : Launch) (k : KX) (M : Mem) (n : Nat) (cs : List Nat) (pl i1 i2 : Nat) (c : Nat) (hT : TsAt k M n (cs, pl, i1, i2)) (ho : tsOK (cs, pl, i1, i2)) (hc : c < 256) : CM l yX2_takesBit cX2_takesBit 2 ((some .boolean)) { frames := 0, cells := 0, slots := 0, locals := 0 } k [.ref (ad k 1), .int (nI c)] M (pI (fun r M' => r = bI (bitS (cs, pl, i1, i2) c).1 ∧ TsAt k M' n (bitS (cs, pl, i1, i2) c).2 ∧ TFr M M')) := by
  refine CM.of (by decide) (Nat.le_of_ble_eq_true rfl) (fun C X hCl hCR rq => ?_)
  show V C k 2 (0, 0) M 0 [(0, .ref (ad k 1)), (1, .int (nI c))] []
  obtain ⟨hN, F0, hF⟩ := id hT
  obtain ⟨o1, o2, o3, o4, o5⟩ := id ho
  simp only [] at o1 o2 o3 o4 o5
  have F0 : M 1 = .inr (2, [.ref (ad k 2), .int (nI n), .ref (ad k 3), .int (nI pl), .int (nI i1), .int (nI i2)]) := F0
  have hF : FmAt k M 3 cs := hF
  refine v_iload_n X 1 dX2_takesBit_0 rfl ?_
  refine v_bipush X (v := nI 48) (by decide) dX2_takesBit_1 ?_
  refine v_ceqN X 14 (by omega) (by omega) dX2_takesBit_3 (by decide) (fun c_1 => ?_) (fun c_1 => ?_)
  · refine v_aload_n X 0 dX2_takesBit_14 rfl ?_
    refine v_iload_n X 1 dX2_takesBit_15 rfl ?_
    refine v_bipush X (v := nI 48) (by decide) dX2_takesBit_16 ?_
    refine v_subN X (by omega) dX2_takesBit_18 ?_
    refine v_put X cls2 F0 (by omega) 5 (by decide) m_75 rfl rfl rfl rfl (Nat.le_of_ble_eq_true rfl) dX2_takesBit_19 (fun M_2 hM_3 => ?_)
    have F_4 : M_2 1 = .inr (2, [.ref (ad k 2), .int (nI n), .ref (ad k 3), .int (nI pl), .int (nI i1), .int (nI (c - 48))]) := by rw [hM_3]; exact mup_s
    have P_5 : FmAt k M_2 3 cs := hF.fr (fun i h1 h2 => by rw [hM_3, mup_n (by omega)])
    refine v_aload_n X 0 dX2_takesBit_22 rfl ?_
    refine v_iconst X (v := nI 3) (by decide) dX2_takesBit_23 ?_
    refine v_put X cls2 F_4 (by omega) 3 (by decide) m_73 rfl rfl rfl rfl (Nat.le_of_ble_eq_true rfl) dX2_takesBit_24 (fun M_6 hM_7 => ?_)
    have F_8 : M_6 1 = .inr (2, [.ref (ad k 2), .int (nI n), .ref (ad k 3), .int (nI 3), .int (nI i1), .int (nI (c - 48))]) := by rw [hM_7]; exact mup_s
    have P_9 : FmAt k M_6 3 cs := P_5.fr (fun i h1 h2 => by rw [hM_7, mup_n (by omega)])
    refine v_iconst X (v := bI true) (by decide) dX2_takesBit_27 ?_
    exact v_iret X rq ⟨by decide, by decide⟩ (narZ _) dX2_takesBit_28 ⟨_, rfl, by rw [bitS, if_pos (by omega)], by rw [bitS, if_pos (by omega)]; exact ⟨hN, F_8, P_9⟩, (fun i h1 h3 h4 => by rw [hM_7, mup_n (by omega), hM_3, mup_n (by omega)])⟩
  · refine v_iload_n X 1 dX2_takesBit_6 rfl ?_
    refine v_bipush X (v := nI 49) (by decide) dX2_takesBit_7 ?_
    refine v_ceqN X 14 (by omega) (by omega) dX2_takesBit_9 (by decide) (fun c_10 => ?_) (fun c_10 => ?_)
    · refine v_aload_n X 0 dX2_takesBit_14 rfl ?_
      refine v_iload_n X 1 dX2_takesBit_15 rfl ?_
      refine v_bipush X (v := nI 48) (by decide) dX2_takesBit_16 ?_
      refine v_subN X (by omega) dX2_takesBit_18 ?_
      refine v_put X cls2 F0 (by omega) 5 (by decide) m_75 rfl rfl rfl rfl (Nat.le_of_ble_eq_true rfl) dX2_takesBit_19 (fun M_11 hM_12 => ?_)
      have F_13 : M_11 1 = .inr (2, [.ref (ad k 2), .int (nI n), .ref (ad k 3), .int (nI pl), .int (nI i1), .int (nI (c - 48))]) := by rw [hM_12]; exact mup_s
      have P_14 : FmAt k M_11 3 cs := hF.fr (fun i h1 h2 => by rw [hM_12, mup_n (by omega)])
      refine v_aload_n X 0 dX2_takesBit_22 rfl ?_
      refine v_iconst X (v := nI 3) (by decide) dX2_takesBit_23 ?_
      refine v_put X cls2 F_13 (by omega) 3 (by decide) m_73 rfl rfl rfl rfl (Nat.le_of_ble_eq_true rfl) dX2_takesBit_24 (fun M_15 hM_16 => ?_)
      have F_17 : M_15 1 = .inr (2, [.ref (ad k 2), .int (nI n), .ref (ad k 3), .int (nI 3), .int (nI i1), .int (nI (c - 48))]) := by rw [hM_16]; exact mup_s
      have P_18 : FmAt k M_15 3 cs := P_14.fr (fun i h1 h2 => by rw [hM_16, mup_n (by omega)])
      refine v_iconst X (v := bI true) (by decide) dX2_takesBit_27 ?_
      exact v_iret X rq ⟨by decide, by decide⟩ (narZ _) dX2_takesBit_28 ⟨_, rfl, by rw [bitS, if_pos (by omega)], by rw [bitS, if_pos (by omega)]; exact ⟨hN, F_17, P_18⟩, (fun i h1 h3 h4 => by rw [hM_16, mup_n (by omega), hM_12, mup_n (by omega)])⟩
    · refine v_iconst X (v := bI false) (by decide) dX2_takesBit_12 ?_
      exact v_iret X rq ⟨by decide, by decide⟩ (narZ _) dX2_takesBit_13 ⟨_, rfl, by rw [bitS, if_neg (by omega)], by rw [bitS, if_neg (by omega)]; exact ⟨hN, F0, hF⟩, (fun _ _ _ _ => rfl)⟩
set_option maxHeartbeats 4000000 in
set_option maxRecDepth 100000 in
theorem c_X2_takesFirst (l : Launch) (k : KX) (M : Mem) (n : Nat) (cs : List Nat) (pl i1 i2 : Nat) (c : Nat) (hT : TsAt k M n (cs, pl, i1, i2)) (ho : tsOK (cs, pl, i1, i2)) (hc : c < 256) : CM l yX2_takesFirst cX2_takesFirst 2 ((some .boolean)) { frames := 3, cells := 0, slots := 0, locals := 66 } k [.ref (ad k 1), .int (nI c)] M (pI (fun r M' => r = bI (fstS (cs, pl, i1, i2) c).1 ∧ TsAt k M' n (fstS (cs, pl, i1, i2) c).2 ∧ TFr M M')) := by
  refine CM.of (by decide) (Nat.le_of_ble_eq_true rfl) (fun C X hCl hCR rq => ?_)
  show V C k 2 (0, 0) M 0 [(0, .ref (ad k 1)), (1, .int (nI c))] []
  obtain ⟨hN, F0, hF⟩ := id hT
  obtain ⟨o1, o2, o3, o4, o5⟩ := id ho
  simp only [] at o1 o2 o3 o4 o5
  have F0 : M 1 = .inr (2, [.ref (ad k 2), .int (nI n), .ref (ad k 3), .int (nI pl), .int (nI i1), .int (nI i2)]) := F0
  have hF : FmAt k M 3 cs := hF
  refine v_aload_n X 0 dX2_takesFirst_0 rfl ?_
  refine v_get X cls2 F0 (by omega) 2 (by decide) m_72 rfl rfl dX2_takesFirst_1 ?_
  refine v_callV X hCl hCR (c_X1_isFull l k M 3 cs hF) cls1 hF.obj (by omega) mo_X1_isFull m_46 m_85 m_49 m_50 m_15 (by decide) rfl rfl (Nat.le_of_ble_eq_true rfl) ⟨rfl, rfl⟩ ⟨by decide, by decide⟩ dX2_takesFirst_4 (vP_in ?_)
  refine v_ieqB X 12 dX2_takesFirst_7 (by decide) (fun c_1 => ?_) (fun c_1 => ?_)
  · have h7 := of_decide_eq_false c_1
    refine v_iload_n X 1 dX2_takesFirst_12 rfl ?_
    refine v_bipush X (v := nI 61) (by decide) dX2_takesFirst_13 ?_
    refine v_cneN X 25 (by omega) (by omega) dX2_takesFirst_15 (by decide) (fun c_2 => ?_) (fun c_2 => ?_)
    · have h15 := c_2
      refine v_aload_n X 0 dX2_takesFirst_25 rfl ?_
      refine v_iconst X (v := nI 1) (by decide) dX2_takesFirst_26 ?_
      refine v_put X cls2 F0 (by omega) 3 (by decide) m_73 rfl rfl rfl rfl (Nat.le_of_ble_eq_true rfl) dX2_takesFirst_27 (fun M_3 hM_4 => ?_)
      have F_5 : M_3 1 = .inr (2, [.ref (ad k 2), .int (nI n), .ref (ad k 3), .int (nI 1), .int (nI i1), .int (nI i2)]) := by rw [hM_4]; exact mup_s
      have P_6 : FmAt k M_3 3 cs := hF.fr (fun i h1 h2 => by rw [hM_4, mup_n (by omega)])
      refine v_aload_n X 0 dX2_takesFirst_30 rfl ?_
      refine v_iload_n X 1 dX2_takesFirst_31 rfl ?_
      have T_7 : TsAt k M_3 n (cs, 1, i1, i2) := ⟨hN, F_5, P_6⟩
      refine v_callV X hCl hCR (c_X2_takesClauseLetter l k M_3 n cs 1 i1 i2 c T_7 ⟨(show 1 ≤ 3 by decide), o2, o3, o4, fun _ => by show cs.length < 24; omega⟩ (by omega)) cls2 ⟨_, F_5⟩ (by omega) mo_X2_takesClauseLetter m_80 m_86 m_87 m_88 m_83 (by decide) rfl rfl (Nat.le_of_ble_eq_true rfl) ⟨rfl, rfl⟩ ⟨by decide, by decide⟩ dX2_takesFirst_32 (vI_in (fun r_11 M_8 hp_9 => ?_))
      obtain ⟨he_13, T_12, hfr_10⟩ := hp_9
      subst he_13
      exact v_iret X rq ⟨by decide, by decide⟩ (narZ _) dX2_takesFirst_35 ⟨_, rfl, by rw [fstS, if_neg h7, if_neg h15], by rw [fstS, if_neg h7, if_neg h15]; exact T_12, (fun i h1 h3 h4 => by rw [hfr_10 i (by omega) (by omega) (by omega), hM_4, mup_n (by omega)])⟩
    · have h15 := c_2
      refine v_aload_n X 0 dX2_takesFirst_18 rfl ?_
      refine v_iconst X (v := nI 2) (by decide) dX2_takesFirst_19 ?_
      refine v_put X cls2 F0 (by omega) 3 (by decide) m_73 rfl rfl rfl rfl (Nat.le_of_ble_eq_true rfl) dX2_takesFirst_20 (fun M_14 hM_15 => ?_)
      have F_16 : M_14 1 = .inr (2, [.ref (ad k 2), .int (nI n), .ref (ad k 3), .int (nI 2), .int (nI i1), .int (nI i2)]) := by rw [hM_15]; exact mup_s
      have P_17 : FmAt k M_14 3 cs := hF.fr (fun i h1 h2 => by rw [hM_15, mup_n (by omega)])
      refine v_iconst X (v := bI true) (by decide) dX2_takesFirst_23 ?_
      exact v_iret X rq ⟨by decide, by decide⟩ (narZ _) dX2_takesFirst_24 ⟨_, rfl, by rw [fstS, if_neg h7, if_pos h15], by rw [fstS, if_neg h7, if_pos h15]; exact ⟨hN, F_16, P_17⟩, (fun i h1 h3 h4 => by rw [hM_15, mup_n (by omega)])⟩
  · have h7 := of_decide_eq_true c_1
    refine v_iconst X (v := bI false) (by decide) dX2_takesFirst_10 ?_
    exact v_iret X rq ⟨by decide, by decide⟩ (narZ _) dX2_takesFirst_11 ⟨_, rfl, by rw [fstS, if_pos h7], by rw [fstS, if_pos h7]; exact ⟨hN, F0, hF⟩, (fun _ _ _ _ => rfl)⟩
set_option maxHeartbeats 4000000 in
set_option maxRecDepth 100000 in
theorem c_X2_takesInParity (l : Launch) (k : KX) (M : Mem) (n : Nat) (cs : List Nat) (pl i1 i2 : Nat) (c : Nat) (hT : TsAt k M n (cs, pl, i1, i2)) (ho : tsOK (cs, pl, i1, i2)) (hc : c < 256) (hpl : pl ≠ 0) : CM l yX2_takesInParity cX2_takesInParity 2 ((some .boolean)) { frames := 3, cells := 0, slots := 0, locals := 62 } k [.ref (ad k 1), .int (nI c)] M (pI (fun r M' => r = bI (parS (cs, pl, i1, i2) c).1 ∧ TsAt k M' n (parS (cs, pl, i1, i2) c).2 ∧ TFr M M')) := by
  refine CM.of (by decide) (Nat.le_of_ble_eq_true rfl) (fun C X hCl hCR rq => ?_)
  show V C k 2 (0, 0) M 0 [(0, .ref (ad k 1)), (1, .int (nI c))] []
  obtain ⟨hN, F0, hF⟩ := id hT
  obtain ⟨o1, o2, o3, o4, o5⟩ := id ho
  simp only [] at o1 o2 o3 o4 o5
  have F0 : M 1 = .inr (2, [.ref (ad k 2), .int (nI n), .ref (ad k 3), .int (nI pl), .int (nI i1), .int (nI i2)]) := F0
  have hF : FmAt k M 3 cs := hF
  have hl := o5 hpl
  refine v_iload_n X 1 dX2_takesInParity_0 rfl ?_
  refine v_bipush X (v := nI 59) (by decide) dX2_takesInParity_1 ?_
  refine v_cneN X 37 (by omega) (by omega) dX2_takesInParity_3 (by decide) (fun c_1 => ?_) (fun c_1 => ?_)
  · have h3 := c_1
    refine v_iload_n X 1 dX2_takesInParity_37 rfl ?_
    refine v_bipush X (v := nI 97) (by decide) dX2_takesInParity_38 ?_
    refine v_aload_n X 0 dX2_takesInParity_40 rfl ?_
    refine v_get X cls2 F0 (by omega) 4 (by decide) m_74 rfl rfl dX2_takesInParity_41 ?_
    refine v_callS X hCl hCR (c_X2_isNewLetter l k M c 97 i1 (by omega) (by omega) (by omega)) mo_X2_isNewLetter m_79 m_81 m_82 m_83 (by decide) rfl rfl (Nat.le_of_ble_eq_true rfl) ⟨rfl, rfl⟩ ⟨by decide, by decide⟩ dX2_takesInParity_44 (vP_in ?_)
    refine v_ineB X 52 dX2_takesInParity_47 (by decide) (fun c_2 => ?_) (fun c_2 => ?_)
    · have h47 := c_2
      have hr := newL_rng h47
      refine v_aload_n X 0 dX2_takesInParity_52 rfl ?_
      refine v_dup X rfl dX2_takesInParity_53 ?_
      refine v_get X cls2 F0 (by omega) 4 (by decide) m_74 rfl rfl dX2_takesInParity_54 ?_
      refine v_iconst X (v := nI 1) (by decide) dX2_takesInParity_57 ?_
      refine v_iload_n X 1 dX2_takesInParity_58 rfl ?_
      refine v_bipush X (v := nI 97) (by decide) dX2_takesInParity_59 ?_
      refine v_subN X (by omega) dX2_takesInParity_61 ?_
      refine v_shlN X (by omega) dX2_takesInParity_62 ?_
      refine v_orN X dX2_takesInParity_63 ?_
      refine v_put X cls2 F0 (by omega) 4 (by decide) m_74 rfl rfl rfl rfl (Nat.le_of_ble_eq_true rfl) dX2_takesInParity_64 (fun M_3 hM_4 => ?_)
      have F_5 : M_3 1 = .inr (2, [.ref (ad k 2), .int (nI n), .ref (ad k 3), .int (nI pl), .int (nI (i1 ||| (1 <<< (c - 97)))), .int (nI i2)]) := by rw [hM_4]; exact mup_s
      have P_6 : FmAt k M_3 3 cs := hF.fr (fun i h1 h2 => by rw [hM_4, mup_n (by omega)])
      refine v_iconst X (v := bI true) (by decide) dX2_takesInParity_67 ?_
      exact v_iret X rq ⟨by decide, by decide⟩ (narZ _) dX2_takesInParity_68 ⟨_, rfl, by rw [parS, if_neg h3, if_pos h47], by rw [parS, if_neg h3, if_pos h47]; exact ⟨hN, F_5, P_6⟩, (fun i h1 h3 h4 => by rw [hM_4, mup_n (by omega)])⟩
    · have h47 := c_2
      refine v_iconst X (v := bI false) (by decide) dX2_takesInParity_50 ?_
      exact v_iret X rq ⟨by decide, by decide⟩ (narZ _) dX2_takesInParity_51 ⟨_, rfl, by rw [parS, if_neg h3, if_neg (by simp [h47])], by rw [parS, if_neg h3, if_neg (by simp [h47])]; exact ⟨hN, F0, hF⟩, (fun _ _ _ _ => rfl)⟩
  · have h3 := c_1
    refine v_aload_n X 0 dX2_takesInParity_6 rfl ?_
    refine v_get X cls2 F0 (by omega) 4 (by decide) m_74 rfl rfl dX2_takesInParity_7 ?_
    refine v_ieqN X 35 (by omega) dX2_takesInParity_10 (by decide) (fun c_7 => ?_) (fun c_7 => ?_)
    · have h10 := c_7
      refine v_iconst X (v := bI false) (by decide) dX2_takesInParity_35 ?_
      exact v_iret X rq ⟨by decide, by decide⟩ (narZ _) dX2_takesInParity_36 ⟨_, rfl, by rw [parS, if_pos h3, if_pos h10], by rw [parS, if_pos h3, if_pos h10]; exact ⟨hN, F0, hF⟩, (fun _ _ _ _ => rfl)⟩
    · have h10 := c_7
      refine v_aload_n X 0 dX2_takesInParity_13 rfl ?_
      refine v_aload_n X 0 dX2_takesInParity_14 rfl ?_
      refine v_get X cls2 F0 (by omega) 4 (by decide) m_74 rfl rfl dX2_takesInParity_15 ?_
      refine v_aload_n X 0 dX2_takesInParity_18 rfl ?_
      refine v_get X cls2 F0 (by omega) 5 (by decide) m_75 rfl rfl dX2_takesInParity_19 ?_
      refine v_callSN X hCl hCR (c_X7_parityCode l k M i1 i2) mo_X7_parityCode m_98 nw_43 m_99 m_21 (by decide) rfl rfl (Nat.le_of_ble_eq_true rfl) ⟨rfl, rfl⟩ ⟨by decide, by decide⟩ dX2_takesInParity_22 (vP_in ?_)
      have T_8 : TsAt k M n (cs, pl, i1, i2) := ⟨hN, F0, hF⟩
      refine v_callV X hCl hCR (c_X2_endsItem l k M n cs pl i1 i2 (xParity i1 i2) T_8 ho hl) cls2 ⟨_, F0⟩ (by omega) mo_X2_endsItem m_90 m_100 m_101 m_102 m_83 (by decide) rfl rfl (Nat.le_of_ble_eq_true rfl) ⟨rfl, rfl⟩ ⟨by decide, by decide⟩ dX2_takesInParity_25 (vI_in (fun r_12 M_9 hp_10 => ?_))
      obtain ⟨he_14, T_13, hfr_11⟩ := hp_10
      subst he_14
      refine v_ieqB X 35 dX2_takesInParity_28 (by decide) (fun c_15 => ?_) (fun c_15 => ?_)
      · exact absurd c_15 (by simp [endS])
      · refine v_iconst X (v := bI true) (by decide) dX2_takesInParity_31 ?_
        refine v_goto X 36 dX2_takesInParity_32 (by decide) ?_
        exact v_iret X rq ⟨by decide, by decide⟩ (narZ _) dX2_takesInParity_36 ⟨_, rfl, by rw [parS, if_pos h3, if_neg h10]; rfl, by rw [parS, if_pos h3, if_neg h10]; exact T_13, (fun i h1 h3 h4 => by rw [hfr_11 i (by omega) (by omega) (by omega)])⟩
set_option maxHeartbeats 4000000 in
set_option maxRecDepth 100000 in
theorem c_X2_takes (l : Launch) (k : KX) (M : Mem) (n : Nat) (cs : List Nat) (pl i1 i2 : Nat) (c : Nat) (hT : TsAt k M n (cs, pl, i1, i2)) (ho : tsOK (cs, pl, i1, i2)) (hc : c < 256) : CM l yX2_takes cX2_takes 2 ((some .boolean)) { frames := 4, cells := 0, slots := 0, locals := 87 } k [.ref (ad k 1), .int (nI c)] M (pI (fun r M' => r = bI (txStep (cs, pl, i1, i2) c).1 ∧ TsAt k M' n (txStep (cs, pl, i1, i2) c).2 ∧ TFr M M')) := by
  refine CM.of (by decide) (Nat.le_of_ble_eq_true rfl) (fun C X hCl hCR rq => ?_)
  show V C k 2 (0, 0) M 0 [(0, .ref (ad k 1)), (1, .int (nI c))] []
  obtain ⟨hN, F0, hF⟩ := id hT
  obtain ⟨o1, o2, o3, o4, o5⟩ := id ho
  simp only [] at o1 o2 o3 o4 o5
  have F0 : M 1 = .inr (2, [.ref (ad k 2), .int (nI n), .ref (ad k 3), .int (nI pl), .int (nI i1), .int (nI i2)]) := F0
  have hF : FmAt k M 3 cs := hF
  refine v_aload_n X 0 dX2_takes_0 rfl ?_
  refine v_get X cls2 F0 (by omega) 3 (by decide) m_73 rfl rfl dX2_takes_1 ?_
  rcases (show pl = 0 ∨ pl = 1 ∨ pl = 2 ∨ pl = 3 by omega) with rfl | rfl | rfl | rfl
  · refine v_tswIn X 32 dX2_takes_4 (by decide) (by decide) (off := 28) (by decide) (by decide) ?_
    refine v_aload_n X 0 dX2_takes_32 rfl ?_
    refine v_iload_n X 1 dX2_takes_33 rfl ?_
    have T_1 : TsAt k M n (cs, 0, i1, i2) := ⟨hN, F0, hF⟩
    refine v_callV X hCl hCR (c_X2_takesFirst l k M n cs 0 i1 i2 c T_1 ho (by omega)) cls2 ⟨_, F0⟩ (by omega) mo_X2_takesFirst m_84 m_104 m_105 m_106 m_83 (by decide) rfl rfl (Nat.le_of_ble_eq_true rfl) ⟨rfl, rfl⟩ ⟨by decide, by decide⟩ dX2_takes_34 (vI_in (fun r_5 M_2 hp_3 => ?_))
    obtain ⟨he_7, T_6, hfr_4⟩ := hp_3
    subst he_7
    exact v_iret X rq ⟨by decide, by decide⟩ (narZ _) dX2_takes_37 ⟨_, rfl, by rw [txStep_0], by rw [txStep_0]; exact T_6, (fun i h1 h3 h4 => by rw [hfr_4 i (by omega) (by omega) (by omega)])⟩
  · refine v_tswIn X 38 dX2_takes_4 (by decide) (by decide) (off := 34) (by decide) (by decide) ?_
    have hl := o5 (by decide)
    refine v_iload_n X 1 dX2_takes_38 rfl ?_
    refine v_bipush X (v := nI 59) (by decide) dX2_takes_39 ?_
    refine v_cneN X 62 (by omega) (by omega) dX2_takes_41 (by decide) (fun c_8 => ?_) (fun c_8 => ?_)
    · have h41 := c_8
      refine v_aload_n X 0 dX2_takes_62 rfl ?_
      refine v_iload_n X 1 dX2_takes_63 rfl ?_
      have T_9 : TsAt k M n (cs, 1, i1, i2) := ⟨hN, F0, hF⟩
      refine v_callV X hCl hCR (c_X2_takesClauseLetter l k M n cs 1 i1 i2 c T_9 ho (by omega)) cls2 ⟨_, F0⟩ (by omega) mo_X2_takesClauseLetter m_80 m_86 m_87 m_88 m_83 (by decide) rfl rfl (Nat.le_of_ble_eq_true rfl) ⟨rfl, rfl⟩ ⟨by decide, by decide⟩ dX2_takes_64 (vI_in (fun r_13 M_10 hp_11 => ?_))
      obtain ⟨he_15, T_14, hfr_12⟩ := hp_11
      subst he_15
      exact v_iret X rq ⟨by decide, by decide⟩ (narZ _) dX2_takes_67 ⟨_, rfl, by rw [txStep_1n _ _ _ h41], by rw [txStep_1n _ _ _ h41]; exact T_14, (fun i h1 h3 h4 => by rw [hfr_12 i (by omega) (by omega) (by omega)])⟩
    · have h41 := c_8
      refine v_aload_n X 0 dX2_takes_44 rfl ?_
      refine v_aload_n X 0 dX2_takes_45 rfl ?_
      refine v_get X cls2 F0 (by omega) 4 (by decide) m_74 rfl rfl dX2_takes_46 ?_
      refine v_aload_n X 0 dX2_takes_49 rfl ?_
      refine v_get X cls2 F0 (by omega) 5 (by decide) m_75 rfl rfl dX2_takes_50 ?_
      refine v_callSN X hCl hCR (c_X7_clauseCode l k M i1 i2) mo_X7_clauseCode m_89 nw_42 m_107 m_21 (by decide) rfl rfl (Nat.le_of_ble_eq_true rfl) ⟨rfl, rfl⟩ ⟨by decide, by decide⟩ dX2_takes_53 (vP_in ?_)
      have T_16 : TsAt k M n (cs, 1, i1, i2) := ⟨hN, F0, hF⟩
      refine v_callV X hCl hCR (c_X2_endsItem l k M n cs 1 i1 i2 (xClause i1 i2) T_16 ho hl) cls2 ⟨_, F0⟩ (by omega) mo_X2_endsItem m_90 m_100 m_101 m_102 m_83 (by decide) rfl rfl (Nat.le_of_ble_eq_true rfl) ⟨rfl, rfl⟩ ⟨by decide, by decide⟩ dX2_takes_56 (vI_in (fun r_20 M_17 hp_18 => ?_))
      obtain ⟨he_22, T_21, hfr_19⟩ := hp_18
      subst he_22
      refine v_goto X 67 dX2_takes_59 (by decide) ?_
      exact v_iret X rq ⟨by decide, by decide⟩ (narZ _) dX2_takes_67 ⟨_, rfl, by rw [txStep_1c _ _ _ h41], by rw [txStep_1c _ _ _ h41]; exact T_21, (fun i h1 h3 h4 => by rw [hfr_19 i (by omega) (by omega) (by omega)])⟩
  · refine v_tswIn X 68 dX2_takes_4 (by decide) (by decide) (off := 64) (by decide) (by decide) ?_
    refine v_aload_n X 0 dX2_takes_68 rfl ?_
    refine v_iload_n X 1 dX2_takes_69 rfl ?_
    have T_23 : TsAt k M n (cs, 2, i1, i2) := ⟨hN, F0, hF⟩
    refine v_callV X hCl hCR (c_X2_takesBit l k M n cs 2 i1 i2 c T_23 ho (by omega)) cls2 ⟨_, F0⟩ (by omega) mo_X2_takesBit m_97 m_108 m_109 m_110 m_83 (by decide) rfl rfl (Nat.le_of_ble_eq_true rfl) ⟨rfl, rfl⟩ ⟨by decide, by decide⟩ dX2_takes_70 (vI_in (fun r_27 M_24 hp_25 => ?_))
    obtain ⟨he_29, T_28, hfr_26⟩ := hp_25
    subst he_29
    exact v_iret X rq ⟨by decide, by decide⟩ (narZ _) dX2_takes_73 ⟨_, rfl, by rw [txStep_2], by rw [txStep_2]; exact T_28, (fun i h1 h3 h4 => by rw [hfr_26 i (by omega) (by omega) (by omega)])⟩
  · refine v_tswOut X 74 dX2_takes_4 (by decide) (by decide) ?_
    refine v_aload_n X 0 dX2_takes_74 rfl ?_
    refine v_iload_n X 1 dX2_takes_75 rfl ?_
    have T_30 : TsAt k M n (cs, 3, i1, i2) := ⟨hN, F0, hF⟩
    refine v_callV X hCl hCR (c_X2_takesInParity l k M n cs 3 i1 i2 c T_30 ho (by omega) (by decide)) cls2 ⟨_, F0⟩ (by omega) mo_X2_takesInParity m_103 m_111 m_112 m_113 m_83 (by decide) rfl rfl (Nat.le_of_ble_eq_true rfl) ⟨rfl, rfl⟩ ⟨by decide, by decide⟩ dX2_takes_76 (vI_in (fun r_34 M_31 hp_32 => ?_))
    obtain ⟨he_36, T_35, hfr_33⟩ := hp_32
    subst he_36
    exact v_iret X rq ⟨by decide, by decide⟩ (narZ _) dX2_takes_79 ⟨_, rfl, by rw [txStep_3], by rw [txStep_3]; exact T_35, (fun i h1 h3 h4 => by rw [hfr_33 i (by omega) (by omega) (by omega)])⟩
set_option maxHeartbeats 4000000 in
set_option maxRecDepth 100000 in
theorem c_X2_put (l : Launch) (k : KX) (M : Mem) (tx : List Nat) (c : Nat) (hT : TxAt k M tx) (hl : tx.length < 90) (hc : c < 256) : CM l yX2_put cX2_put 2 none { frames := 0, cells := 0, slots := 0, locals := 0 } k [.ref (ad k 1), .int (nI c)] M (pV (fun M' => TxAt k M' (tx ++ [c]) ∧ Fr 1 4 M M')) := by
  refine CM.of (by decide) (Nat.le_of_ble_eq_true rfl) (fun C X hCl hCR rq => ?_)
  show V C k 2 (0, 0) M 0 [(0, .ref (ad k 1)), (1, .int (nI c))] []
  obtain ⟨hl9, hch, s, f, hs, F2, hf⟩ := id hT
  obtain ⟨hN, F0, hF⟩ := id hs
  refine v_aload_n X 0 dX2_put_0 rfl ?_
  refine v_get X cls2 F0 (by omega) 1 (by decide) m_69 rfl rfl dX2_put_1 ?_
  refine v_bipush X (v := nI 90) (by decide) dX2_put_4 ?_
  refine v_cgeN X 29 (by omega) (by omega) dX2_put_6 (by decide) (fun c_1 => ?_) (fun c_1 => ?_)
  · exact absurd c_1 (by omega)
  · refine v_aload_n X 0 dX2_put_9 rfl ?_
    refine v_get X cls2 F0 (by omega) 0 (by decide) m_68 rfl rfl dX2_put_10 ?_
    refine v_aload_n X 0 dX2_put_13 rfl ?_
    refine v_get X cls2 F0 (by omega) 1 (by decide) m_69 rfl rfl dX2_put_14 ?_
    refine v_iload_n X 1 dX2_put_17 rfl ?_
    refine v_iast X nI c F2 (by omega) (by omega) (by decide) dX2_put_18 (fun M_2 hM_3 => ?_)
    have F_5 : M_2 1 = .inr (2, [.ref (ad k 2), .int (nI tx.length), .ref (ad k 3), .int (nI s.2.1), .int (nI s.2.2.1), .int (nI s.2.2.2)]) := by rw [hM_3, mup_n (by omega)]; exact F0
    have F_6 : M_2 2 = .inl (kI k, 90, .inl (fun zq => nI (va_up f tx.length c zq))) := by rw [hM_3]; exact mup_s
    have P_7 : FmAt k M_2 3 s.1 := hF.fr (fun i h1 h2 => by rw [hM_3, mup_n (by omega)])
    refine v_aload_n X 0 dX2_put_19 rfl ?_
    refine v_dup X rfl dX2_put_20 ?_
    refine v_get X cls2 F_5 (by omega) 1 (by decide) m_69 rfl rfl dX2_put_21 ?_
    refine v_iconst X (v := nI 1) (by decide) dX2_put_24 ?_
    refine v_addN X dX2_put_25 ?_
    refine v_put X cls2 F_5 (by omega) 1 (by decide) m_69 rfl rfl rfl rfl (Nat.le_of_ble_eq_true rfl) dX2_put_26 (fun M_8 hM_9 => ?_)
    have F_10 : M_8 1 = .inr (2, [.ref (ad k 2), .int (nI (tx.length + 1)), .ref (ad k 3), .int (nI s.2.1), .int (nI s.2.2.1), .int (nI s.2.2.2)]) := by rw [hM_9]; exact mup_s
    have F_11 : M_8 2 = .inl (kI k, 90, .inl (fun zq => nI (va_up f tx.length c zq))) := by rw [hM_9, mup_n (by omega)]; exact F_6
    have P_12 : FmAt k M_8 3 s.1 := P_7.fr (fun i h1 h2 => by rw [hM_9, mup_n (by omega)])
    exact v_vret X rq ⟨by decide, by decide⟩ dX2_put_29 ⟨rfl, ⟨(by simp; omega), (fun x hx => by rcases List.mem_append.mp hx with h | h; exact hch x h; rw [List.mem_singleton.mp h]; exact hc), s, _, ⟨hN, F_10.trans (by rw [List.length_append, List.length_singleton]), P_12⟩, F_11, fa_app hf⟩, (fun i hi => by rw [hM_9, mup_n (by omega), hM_3, mup_n (by omega)])⟩
def TxR (k : KX) (M : Mem) (tx : List Nat) (R : Option Nat × TS) : Prop := TsAt k M tx.length R.2 ∧ tx.length ≤ 90 ∧ (∀ c ∈ tx, c < 256) ∧ ∃ f : Nat → Nat, M 2 = .inl (kI k, 90, .inl (fun q => nI (f q))) ∧ ∀ j, j < tx.length → f j = cAt tx j
theorem TxR.at {k : KX} {M : Mem} {tx : List Nat} {R : Option Nat × TS} (h : TxR k M tx R) : TxAt k M tx := by
  obtain ⟨h1, h2, h3, f, F2, h4⟩ := h; exact ⟨h2, h3, _, f, h1, F2, h4⟩
set_option maxHeartbeats 4000000 in
set_option maxRecDepth 100000 in
theorem c_X2_read (l : Launch) (k : KX) (M : Mem) (tx : List Nat) (hT : TxAt k M tx) : CM l yX2_read cX2_read 2 ((some .int)) { frames := 5, cells := 0, slots := 0, locals := 108 } k [.ref (ad k 1)] M (pI (fun r M' => r = oI (rdText tx).1 ∧ TxR k M' tx (rdText tx) ∧ TFr M M')) := by
  refine CM.of (by decide) (Nat.le_of_ble_eq_true rfl) (fun C X hCl hCR rq => ?_)
  show V C k 2 (0, 0) M 0 [(0, .ref (ad k 1))] []
  obtain ⟨hl9, hch, s, f, hs, F2, hf⟩ := id hT
  obtain ⟨hN, F0, hF⟩ := id hs
  have L : ∀ (fu : Nat) (i : Nat) (s : TS) (M1 : Mem), tx.length - i < fu → (i ≤ tx.length) → (txRun tx (tx.length - i) i s = rdText tx) → (tsOK s) → (TsAt k M1 tx.length s) → (TFr M M1) → (M1 2 = .inl (kI k, 90, .inl (fun q => nI (f q)))) → V C k 2 (0, 0) M1 14 [(0, .ref (ad k 1)), (1, .int (nI i))] [] := by
    intro fu
    induction fu with
    | zero => intro i s M1 hfu; exact absurd hfu (Nat.not_lt_zero _)
    | succ fu ih =>
      intro i s M1 hfu hi0 hr hso hts hfr hM2 
      refine v_iload_n X 1 dX2_read_14 rfl ?_
      obtain ⟨hN1, G0, hG⟩ := id hts
      refine v_aload_n X 0 dX2_read_15 rfl ?_
      refine v_get X cls2 G0 (by omega) 1 (by decide) m_69 rfl rfl dX2_read_16 ?_
      refine v_cgeN X 43 (by omega) (by omega) dX2_read_19 (by decide) (fun c_1 => ?_) (fun c_1 => ?_)
      · refine v_aload_n X 0 dX2_read_43 rfl ?_
        refine v_get X cls2 G0 (by omega) 3 (by decide) m_73 rfl rfl dX2_read_44 ?_
        refine v_ineN X 55 (by have := hso.1; omega) dX2_read_47 (by decide) (fun c_2 => ?_) (fun c_2 => ?_)
        · have h47 := c_2
          have hee := tx_end hr (by omega)
          rw [if_neg h47] at hee
          refine v_aload_n X 0 dX2_read_55 rfl ?_
          refine v_get X cls2 G0 (by omega) 1 (by decide) m_69 rfl rfl dX2_read_56 ?_
          exact v_iret X rq ⟨by decide, by decide⟩ rfl dX2_read_59 ⟨_, rfl, by rw [hee]; rw [show i = tx.length by omega]; rfl, by rw [hee]; exact ⟨hts, hl9, hch, f, hM2, hf⟩, hfr⟩
        · have h47 := c_2
          have hee := tx_end hr (by omega)
          rw [if_pos h47] at hee
          refine v_bipush X (v := (-9)) (by decide) dX2_read_50 ?_
          refine v_goto X 59 dX2_read_52 (by decide) ?_
          exact v_iret X rq ⟨by decide, by decide⟩ rfl dX2_read_59 ⟨_, rfl, by rw [hee]; rfl, by rw [hee]; exact ⟨hts, hl9, hch, f, hM2, hf⟩, hfr⟩
      · have hi := c_1
        refine v_aload_n X 0 dX2_read_22 rfl ?_
        refine v_aload_n X 0 dX2_read_23 rfl ?_
        refine v_get X cls2 G0 (by omega) 0 (by decide) m_68 rfl rfl dX2_read_24 ?_
        refine v_iload_n X 1 dX2_read_27 rfl ?_
        refine v_iald X nI hM2 (by omega) (by omega) (by decide) dX2_read_28 ?_
        refine v_top (show (Value.int (nI (f i)) : Value) = .int (nI (cAt tx i)) from congrArg _ (congrArg nI (hf i (by omega)))) ?_
        have hcx := hch _ (cAt_mem hi)
        refine v_callV X hCl hCR (c_X2_takes l k M1 tx.length s.1 s.2.1 s.2.2.1 s.2.2.2 (cAt tx i) hts hso hcx) cls2 ⟨_, G0⟩ (by omega) mo_X2_takes m_114 m_115 m_116 m_117 m_83 (by decide) rfl rfl (Nat.le_of_ble_eq_true rfl) ⟨rfl, rfl⟩ ⟨by decide, by decide⟩ dX2_read_29 (vI_in (fun r_6 M_3 hp_4 => ?_))
        obtain ⟨he_8, T_7, hfr_5⟩ := hp_4
        subst he_8
        have F_9 : M_3 2 = .inl (kI k, 90, .inl (fun zq => nI (f zq))) := by rw [hfr_5 2 (by omega) (by omega) (by omega)]; exact hM2
        refine v_ineB X 37 dX2_read_32 (by decide) (fun c_10 => ?_) (fun c_10 => ?_)
        · have hb := c_10
          refine v_iinc X (v := nI (i + 1)) 1 [(1, .int (nI (i + 1))), (0, .ref (ad k 1))] dX2_read_37 rfl (nI_1 _) (by decide) rfl ?_
          refine v_goto X 14 dX2_read_40 (by decide) ?_
          refine v_lv [1, 0] rfl ?_
          exact ih (i + 1) (txStep s (cAt tx i)).2 M_3 (by omega) (by omega) (tx_go hr hi hb) (txStep_ok hso) T_7 (fun i h1 h3 h4 => by rw [hfr_5 i (by omega) (by omega) (by omega)]; exact hfr i h1 h3 h4) (by rw [hfr_5 2 (by omega) (by omega) (by omega)]; exact hM2)
        · have hb := c_10
          refine v_iload_n X 1 dX2_read_35 rfl ?_
          exact v_iret X rq ⟨by decide, by decide⟩ rfl dX2_read_36 ⟨_, rfl, by rw [tx_stop hr hi hb]; rfl, by rw [tx_stop hr hi hb]; exact ⟨T_7, hl9, hch, f, (by rw [hfr_5 2 (by omega) (by omega) (by omega)]; exact hM2), hf⟩, (fun i h1 h3 h4 => by rw [hfr_5 i (by omega) (by omega) (by omega)]; exact hfr i h1 h3 h4)⟩
  refine v_aload_n X 0 dX2_read_0 rfl ?_
  refine v_get X cls2 F0 (by omega) 2 (by decide) m_72 rfl rfl dX2_read_1 ?_
  obtain ⟨hN3, hl3, f3, G3, G4, hf3⟩ := id hF
  refine v_iconst X (v := nI 0) (by decide) dX2_read_4 ?_
  refine v_putN X cls1 G3 (by omega) 1 (by decide) nw_3 rfl rfl rfl rfl (Nat.le_of_ble_eq_true rfl) dX2_read_5 (fun M_11 hM_12 => ?_)
  have F_13 : M_11 1 = .inr (2, [.ref (ad k 2), .int (nI tx.length), .ref (ad k 3), .int (nI s.2.1), .int (nI s.2.2.1), .int (nI s.2.2.2)]) := by rw [hM_12, mup_n (by omega)]; exact F0
  have F_14 : M_11 2 = .inl (kI k, 90, .inl (fun zq => nI (f zq))) := by rw [hM_12, mup_n (by omega)]; exact F2
  have F_15 : M_11 3 = .inr (1, [.ref (ad k 4), .int (nI 0)]) := by rw [hM_12]; exact mup_s
  have F_16 : M_11 4 = .inl (kI k, 24, .inl (fun zq => nI (f3 zq))) := by rw [hM_12, mup_n (by omega)]; exact G4
  have hF0 : FmAt k M_11 3 [] := ⟨hN3, by decide, f3, F_15, F_16, fun j hj => absurd hj (Nat.not_lt_zero _)⟩
  refine v_aload_n X 0 dX2_read_8 rfl ?_
  have T_17 : TsAt k M_11 tx.length ([], s.2.1, s.2.2.1, s.2.2.2) := ⟨hN, F_13, hF0⟩
  refine v_callV X hCl hCR (c_X2_startItem l k M_11 tx.length ([]) s.2.1 s.2.2.1 s.2.2.2 T_17) cls2 ⟨_, F_13⟩ (by omega) mo_X2_startItem m_78 m_94 m_95 m_96 m_83 (by decide) rfl rfl (Nat.le_of_ble_eq_true rfl) ⟨rfl, rfl⟩ ⟨by decide, by decide⟩ dX2_read_9 (vV_in (fun M_18 hp_19 => ?_))
  obtain ⟨⟨_, F_21, P_22⟩, hfr_20⟩ := hp_19
  have F_23 : M_18 2 = .inl (kI k, 90, .inl (fun zq => nI (f zq))) := by rw [hfr_20 2 (by omega)]; exact F_14
  have P_24 : FmAt k M_18 3 [] := hF0.fr (fun i h1 h2 => hfr_20 i (by omega))
  refine v_iconst X (v := nI 0) (by decide) dX2_read_12 ?_
  refine v_istore_n X [(1, .int (nI 0)), (0, .ref (ad k 1))] dX2_read_13 (by decide) rfl ?_
  refine v_lv [1, 0] rfl ?_
  exact L (tx.length + 1) 0 ([], 0, 0, 0) M_18 (by omega) (by omega) rfl ⟨by decide, by decide, by decide, by decide, fun w => absurd rfl w⟩ ⟨hN, F_21, P_24⟩ (fun i h1 h3 h4 => by rw [hfr_20 i (by omega), hM_12, mup_n (by omega)]) F_23
