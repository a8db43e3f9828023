theorem bc_all : ∀ a, a < 256 → (((((((((nI a)) - ((((((nI a))).toUInt32 >>> ((nI 1).toUInt32 &&& Int32.toUInt32 31)).toInt32) &&& nI 1431655765)) &&& nI 858993459) + (((((((nI a)) - ((((((nI a))).toUInt32 >>> ((nI 1).toUInt32 &&& Int32.toUInt32 31)).toInt32) &&& nI 1431655765))).toUInt32 >>> ((nI 2).toUInt32 &&& Int32.toUInt32 31)).toInt32) &&& nI 858993459)) + ((((((((nI a)) - ((((((nI a))).toUInt32 >>> ((nI 1).toUInt32 &&& Int32.toUInt32 31)).toInt32) &&& nI 1431655765)) &&& nI 858993459) + (((((((nI a)) - ((((((nI a))).toUInt32 >>> ((nI 1).toUInt32 &&& Int32.toUInt32 31)).toInt32) &&& nI 1431655765))).toUInt32 >>> ((nI 2).toUInt32 &&& Int32.toUInt32 31)).toInt32) &&& nI 858993459))).toUInt32 >>> ((nI 4).toUInt32 &&& Int32.toUInt32 31)).toInt32)) &&& nI 252645135) + ((((((((((nI a)) - ((((((nI a))).toUInt32 >>> ((nI 1).toUInt32 &&& Int32.toUInt32 31)).toInt32) &&& nI 1431655765)) &&& nI 858993459) + (((((((nI a)) - ((((((nI a))).toUInt32 >>> ((nI 1).toUInt32 &&& Int32.toUInt32 31)).toInt32) &&& nI 1431655765))).toUInt32 >>> ((nI 2).toUInt32 &&& Int32.toUInt32 31)).toInt32) &&& nI 858993459)) + ((((((((nI a)) - ((((((nI a))).toUInt32 >>> ((nI 1).toUInt32 &&& Int32.toUInt32 31)).toInt32) &&& nI 1431655765)) &&& nI 858993459) + (((((((nI a)) - ((((((nI a))).toUInt32 >>> ((nI 1).toUInt32 &&& Int32.toUInt32 31)).toInt32) &&& nI 1431655765))).toUInt32 >>> ((nI 2).toUInt32 &&& Int32.toUInt32 31)).toInt32) &&& nI 858993459))).toUInt32 >>> ((nI 4).toUInt32 &&& Int32.toUInt32 31)).toInt32)) &&& nI 252645135)).toUInt32 >>> ((nI 8).toUInt32 &&& Int32.toUInt32 31)).toInt32)) + (((((((((((nI a)) - ((((((nI a))).toUInt32 >>> ((nI 1).toUInt32 &&& Int32.toUInt32 31)).toInt32) &&& nI 1431655765)) &&& nI 858993459) + (((((((nI a)) - ((((((nI a))).toUInt32 >>> ((nI 1).toUInt32 &&& Int32.toUInt32 31)).toInt32) &&& nI 1431655765))).toUInt32 >>> ((nI 2).toUInt32 &&& Int32.toUInt32 31)).toInt32) &&& nI 858993459)) + ((((((((nI a)) - ((((((nI a))).toUInt32 >>> ((nI 1).toUInt32 &&& Int32.toUInt32 31)).toInt32) &&& nI 1431655765)) &&& nI 858993459) + (((((((nI a)) - ((((((nI a))).toUInt32 >>> ((nI 1).toUInt32 &&& Int32.toUInt32 31)).toInt32) &&& nI 1431655765))).toUInt32 >>> ((nI 2).toUInt32 &&& Int32.toUInt32 31)).toInt32) &&& nI 858993459))).toUInt32 >>> ((nI 4).toUInt32 &&& Int32.toUInt32 31)).toInt32)) &&& nI 252645135) + ((((((((((nI a)) - ((((((nI a))).toUInt32 >>> ((nI 1).toUInt32 &&& Int32.toUInt32 31)).toInt32) &&& nI 1431655765)) &&& nI 858993459) + (((((((nI a)) - ((((((nI a))).toUInt32 >>> ((nI 1).toUInt32 &&& Int32.toUInt32 31)).toInt32) &&& nI 1431655765))).toUInt32 >>> ((nI 2).toUInt32 &&& Int32.toUInt32 31)).toInt32) &&& nI 858993459)) + ((((((((nI a)) - ((((((nI a))).toUInt32 >>> ((nI 1).toUInt32 &&& Int32.toUInt32 31)).toInt32) &&& nI 1431655765)) &&& nI 858993459) + (((((((nI a)) - ((((((nI a))).toUInt32 >>> ((nI 1).toUInt32 &&& Int32.toUInt32 31)).toInt32) &&& nI 1431655765))).toUInt32 >>> ((nI 2).toUInt32 &&& Int32.toUInt32 31)).toInt32) &&& nI 858993459))).toUInt32 >>> ((nI 4).toUInt32 &&& Int32.toUInt32 31)).toInt32)) &&& nI 252645135)).toUInt32 >>> ((nI 8).toUInt32 &&& Int32.toUInt32 31)).toInt32))).toUInt32 >>> ((nI 16).toUInt32 &&& Int32.toUInt32 31)).toInt32)) &&& nI 63 = nI (pcN 8 a) := by decide +kernel
set_option maxHeartbeats 4000000 in
set_option maxRecDepth 100000 in
/-- Integer.bitCount, of a set -/
theorem c_J6_bitCount_0f7a4 (l : Launch) (k : KX) (M : Mem) (a : Nat) (ha : a < 256) : CM l yJ6_bitCount_0f7a4 cJ6_bitCount_0f7a4 1 ((some .int)) { frames := 0, cells := 0, slots := 0, locals := 0 } k [.int ((nI a))] M (pP (.int (nI (pcN 8 a))) M) := by
  refine CM.of (by decide) (Nat.le_of_ble_eq_true rfl) (fun C X hCl hCR rq => ?_)
  show V C k 1 (0, 0) M 0 [(0, .int ((nI a)))] []
  refine v_iload_n X 0 dJ6_bitCount_0f7a4_0 rfl ?_
  refine v_iload_n X 0 dJ6_bitCount_0f7a4_1 rfl ?_
  refine v_iconst X (v := nI 1) (by decide) dJ6_bitCount_0f7a4_2 ?_
  refine v_iushr X rfl dJ6_bitCount_0f7a4_3 ?_
  refine v_ldcw X (v := nI 1431655765) m_55 dJ6_bitCount_0f7a4_4 ?_
  refine v_iand X dJ6_bitCount_0f7a4_7 ?_
  refine v_isub X dJ6_bitCount_0f7a4_8 ?_
  refine v_istore_n X [(0, .int (((nI a)) - ((((((nI a))).toUInt32 >>> ((nI 1).toUInt32 &&& Int32.toUInt32 31)).toInt32) &&& nI 1431655765)))] dJ6_bitCount_0f7a4_9 (by decide) rfl ?_
  refine v_iload_n X 0 dJ6_bitCount_0f7a4_10 rfl ?_
  refine v_ldcw X (v := nI 858993459) m_56 dJ6_bitCount_0f7a4_11 ?_
  refine v_iand X dJ6_bitCount_0f7a4_14 ?_
  refine v_iload_n X 0 dJ6_bitCount_0f7a4_15 rfl ?_
  refine v_iconst X (v := nI 2) (by decide) dJ6_bitCount_0f7a4_16 ?_
  refine v_iushr X rfl dJ6_bitCount_0f7a4_17 ?_
  refine v_ldcw X (v := nI 858993459) m_56 dJ6_bitCount_0f7a4_18 ?_
  refine v_iand X dJ6_bitCount_0f7a4_21 ?_
  refine v_iadd X dJ6_bitCount_0f7a4_22 ?_
  refine v_istore_n X [(0, .int (((((nI a)) - ((((((nI a))).toUInt32 >>> ((nI 1).toUInt32 &&& Int32.toUInt32 31)).toInt32) &&& nI 1431655765)) &&& nI 858993459) + (((((((nI a)) - ((((((nI a))).toUInt32 >>> ((nI 1).toUInt32 &&& Int32.toUInt32 31)).toInt32) &&& nI 1431655765))).toUInt32 >>> ((nI 2).toUInt32 &&& Int32.toUInt32 31)).toInt32) &&& nI 858993459)))] dJ6_bitCount_0f7a4_23 (by decide) rfl ?_
  refine v_iload_n X 0 dJ6_bitCount_0f7a4_24 rfl ?_
  refine v_iload_n X 0 dJ6_bitCount_0f7a4_25 rfl ?_
  refine v_iconst X (v := nI 4) (by decide) dJ6_bitCount_0f7a4_26 ?_
  refine v_iushr X rfl dJ6_bitCount_0f7a4_27 ?_
  refine v_iadd X dJ6_bitCount_0f7a4_28 ?_
  refine v_ldcw X (v := nI 252645135) m_57 dJ6_bitCount_0f7a4_29 ?_
  refine v_iand X dJ6_bitCount_0f7a4_32 ?_
  refine v_istore_n X [(0, .int (((((((nI a)) - ((((((nI a))).toUInt32 >>> ((nI 1).toUInt32 &&& Int32.toUInt32 31)).toInt32) &&& nI 1431655765)) &&& nI 858993459) + (((((((nI a)) - ((((((nI a))).toUInt32 >>> ((nI 1).toUInt32 &&& Int32.toUInt32 31)).toInt32) &&& nI 1431655765))).toUInt32 >>> ((nI 2).toUInt32 &&& Int32.toUInt32 31)).toInt32) &&& nI 858993459)) + ((((((((nI a)) - ((((((nI a))).toUInt32 >>> ((nI 1).toUInt32 &&& Int32.toUInt32 31)).toInt32) &&& nI 1431655765)) &&& nI 858993459) + (((((((nI a)) - ((((((nI a))).toUInt32 >>> ((nI 1).toUInt32 &&& Int32.toUInt32 31)).toInt32) &&& nI 1431655765))).toUInt32 >>> ((nI 2).toUInt32 &&& Int32.toUInt32 31)).toInt32) &&& nI 858993459))).toUInt32 >>> ((nI 4).toUInt32 &&& Int32.toUInt32 31)).toInt32)) &&& nI 252645135))] dJ6_bitCount_0f7a4_33 (by decide) rfl ?_
  refine v_iload_n X 0 dJ6_bitCount_0f7a4_34 rfl ?_
  refine v_iload_n X 0 dJ6_bitCount_0f7a4_35 rfl ?_
  refine v_bipush X (v := nI 8) (by decide) dJ6_bitCount_0f7a4_36 ?_
  refine v_iushr X rfl dJ6_bitCount_0f7a4_38 ?_
  refine v_iadd X dJ6_bitCount_0f7a4_39 ?_
  refine v_istore_n X [(0, .int ((((((((nI a)) - ((((((nI a))).toUInt32 >>> ((nI 1).toUInt32 &&& Int32.toUInt32 31)).toInt32) &&& nI 1431655765)) &&& nI 858993459) + (((((((nI a)) - ((((((nI a))).toUInt32 >>> ((nI 1).toUInt32 &&& Int32.toUInt32 31)).toInt32) &&& nI 1431655765))).toUInt32 >>> ((nI 2).toUInt32 &&& Int32.toUInt32 31)).toInt32) &&& nI 858993459)) + ((((((((nI a)) - ((((((nI a))).toUInt32 >>> ((nI 1).toUInt32 &&& Int32.toUInt32 31)).toInt32) &&& nI 1431655765)) &&& nI 858993459) + (((((((nI a)) - ((((((nI a))).toUInt32 >>> ((nI 1).toUInt32 &&& Int32.toUInt32 31)).toInt32) &&& nI 1431655765))).toUInt32 >>> ((nI 2).toUInt32 &&& Int32.toUInt32 31)).toInt32) &&& nI 858993459))).toUInt32 >>> ((nI 4).toUInt32 &&& Int32.toUInt32 31)).toInt32)) &&& nI 252645135) + ((((((((((nI a)) - ((((((nI a))).toUInt32 >>> ((nI 1).toUInt32 &&& Int32.toUInt32 31)).toInt32) &&& nI 1431655765)) &&& nI 858993459) + (((((((nI a)) - ((((((nI a))).toUInt32 >>> ((nI 1).toUInt32 &&& Int32.toUInt32 31)).toInt32) &&& nI 1431655765))).toUInt32 >>> ((nI 2).toUInt32 &&& Int32.toUInt32 31)).toInt32) &&& nI 858993459)) + ((((((((nI a)) - ((((((nI a))).toUInt32 >>> ((nI 1).toUInt32 &&& Int32.toUInt32 31)).toInt32) &&& nI 1431655765)) &&& nI 858993459) + (((((((nI a)) - ((((((nI a))).toUInt32 >>> ((nI 1).toUInt32 &&& Int32.toUInt32 31)).toInt32) &&& nI 1431655765))).toUInt32 >>> ((nI 2).toUInt32 &&& Int32.toUInt32 31)).toInt32) &&& nI 858993459))).toUInt32 >>> ((nI 4).toUInt32 &&& Int32.toUInt32 31)).toInt32)) &&& nI 252645135)).toUInt32 >>> ((nI 8).toUInt32 &&& Int32.toUInt32 31)).toInt32)))] dJ6_bitCount_0f7a4_40 (by decide) rfl ?_
  refine v_iload_n X 0 dJ6_bitCount_0f7a4_41 rfl ?_
  refine v_iload_n X 0 dJ6_bitCount_0f7a4_42 rfl ?_
  refine v_bipush X (v := nI 16) (by decide) dJ6_bitCount_0f7a4_43 ?_
  refine v_iushr X rfl dJ6_bitCount_0f7a4_45 ?_
  refine v_iadd X dJ6_bitCount_0f7a4_46 ?_
  refine v_istore_n X [(0, .int (((((((((nI a)) - ((((((nI a))).toUInt32 >>> ((nI 1).toUInt32 &&& Int32.toUInt32 31)).toInt32) &&& nI 1431655765)) &&& nI 858993459) + (((((((nI a)) - ((((((nI a))).toUInt32 >>> ((nI 1).toUInt32 &&& Int32.toUInt32 31)).toInt32) &&& nI 1431655765))).toUInt32 >>> ((nI 2).toUInt32 &&& Int32.toUInt32 31)).toInt32) &&& nI 858993459)) + ((((((((nI a)) - ((((((nI a))).toUInt32 >>> ((nI 1).toUInt32 &&& Int32.toUInt32 31)).toInt32) &&& nI 1431655765)) &&& nI 858993459) + (((((((nI a)) - ((((((nI a))).toUInt32 >>> ((nI 1).toUInt32 &&& Int32.toUInt32 31)).toInt32) &&& nI 1431655765))).toUInt32 >>> ((nI 2).toUInt32 &&& Int32.toUInt32 31)).toInt32) &&& nI 858993459))).toUInt32 >>> ((nI 4).toUInt32 &&& Int32.toUInt32 31)).toInt32)) &&& nI 252645135) + ((((((((((nI a)) - ((((((nI a))).toUInt32 >>> ((nI 1).toUInt32 &&& Int32.toUInt32 31)).toInt32) &&& nI 1431655765)) &&& nI 858993459) + (((((((nI a)) - ((((((nI a))).toUInt32 >>> ((nI 1).toUInt32 &&& Int32.toUInt32 31)).toInt32) &&& nI 1431655765))).toUInt32 >>> ((nI 2).toUInt32 &&& Int32.toUInt32 31)).toInt32) &&& nI 858993459)) + ((((((((nI a)) - ((((((nI a))).toUInt32 >>> ((nI 1).toUInt32 &&& Int32.toUInt32 31)).toInt32) &&& nI 1431655765)) &&& nI 858993459) + (((((((nI a)) - ((((((nI a))).toUInt32 >>> ((nI 1).toUInt32 &&& Int32.toUInt32 31)).toInt32) &&& nI 1431655765))).toUInt32 >>> ((nI 2).toUInt32 &&& Int32.toUInt32 31)).toInt32) &&& nI 858993459))).toUInt32 >>> ((nI 4).toUInt32 &&& Int32.toUInt32 31)).toInt32)) &&& nI 252645135)).toUInt32 >>> ((nI 8).toUInt32 &&& Int32.toUInt32 31)).toInt32)) + (((((((((((nI a)) - ((((((nI a))).toUInt32 >>> ((nI 1).toUInt32 &&& Int32.toUInt32 31)).toInt32) &&& nI 1431655765)) &&& nI 858993459) + (((((((nI a)) - ((((((nI a))).toUInt32 >>> ((nI 1).toUInt32 &&& Int32.toUInt32 31)).toInt32) &&& nI 1431655765))).toUInt32 >>> ((nI 2).toUInt32 &&& Int32.toUInt32 31)).toInt32) &&& nI 858993459)) + ((((((((nI a)) - ((((((nI a))).toUInt32 >>> ((nI 1).toUInt32 &&& Int32.toUInt32 31)).toInt32) &&& nI 1431655765)) &&& nI 858993459) + (((((((nI a)) - ((((((nI a))).toUInt32 >>> ((nI 1).toUInt32 &&& Int32.toUInt32 31)).toInt32) &&& nI 1431655765))).toUInt32 >>> ((nI 2).toUInt32 &&& Int32.toUInt32 31)).toInt32) &&& nI 858993459))).toUInt32 >>> ((nI 4).toUInt32 &&& Int32.toUInt32 31)).toInt32)) &&& nI 252645135) + ((((((((((nI a)) - ((((((nI a))).toUInt32 >>> ((nI 1).toUInt32 &&& Int32.toUInt32 31)).toInt32) &&& nI 1431655765)) &&& nI 858993459) + (((((((nI a)) - ((((((nI a))).toUInt32 >>> ((nI 1).toUInt32 &&& Int32.toUInt32 31)).toInt32) &&& nI 1431655765))).toUInt32 >>> ((nI 2).toUInt32 &&& Int32.toUInt32 31)).toInt32) &&& nI 858993459)) + ((((((((nI a)) - ((((((nI a))).toUInt32 >>> ((nI 1).toUInt32 &&& Int32.toUInt32 31)).toInt32) &&& nI 1431655765)) &&& nI 858993459) + (((((((nI a)) - ((((((nI a))).toUInt32 >>> ((nI 1).toUInt32 &&& Int32.toUInt32 31)).toInt32) &&& nI 1431655765))).toUInt32 >>> ((nI 2).toUInt32 &&& Int32.toUInt32 31)).toInt32) &&& nI 858993459))).toUInt32 >>> ((nI 4).toUInt32 &&& Int32.toUInt32 31)).toInt32)) &&& nI 252645135)).toUInt32 >>> ((nI 8).toUInt32 &&& Int32.toUInt32 31)).toInt32))).toUInt32 >>> ((nI 16).toUInt32 &&& Int32.toUInt32 31)).toInt32)))] dJ6_bitCount_0f7a4_47 (by decide) rfl ?_
  refine v_iload_n X 0 dJ6_bitCount_0f7a4_48 rfl ?_
  refine v_bipush X (v := nI 63) (by decide) dJ6_bitCount_0f7a4_49 ?_
  refine v_iand X dJ6_bitCount_0f7a4_51 ?_
  exact v_iret X rq ⟨by decide, by decide⟩ rfl dJ6_bitCount_0f7a4_52 (pP_i (bc_all a ha))
set_option maxHeartbeats 4000000 in
set_option maxRecDepth 100000 in
theorem c_X7_isSet (l : Launch) (k : KX) (M : Mem) (x : Int32) : CM l yX7_isSet cX7_isSet 1 ((some .boolean)) { frames := 0, cells := 0, slots := 0, locals := 0 } k [.int x] M (pP (.int (bI (inR x 255))) M) := by
  refine CM.of (by decide) (Nat.le_of_ble_eq_true rfl) (fun C X hCl hCR rq => ?_)
  show V C k 1 (0, 0) M 0 [(0, .int x)] []
  refine v_iload_n X 0 dX7_isSet_0 rfl ?_
  refine v_if_lt X 15 dX7_isSet_1 (by decide) (fun c_1 => ?_) (fun c_1 => ?_)
  · refine v_iconst X (v := bI false) (by decide) dX7_isSet_15 ?_
    exact v_iret X rq ⟨by decide, by decide⟩ (narZ _) dX7_isSet_16 (pP_i (by simp_all [inR, nI_0']))
  · refine v_iload_n X 0 dX7_isSet_4 rfl ?_
    refine v_sipush X (v := nI 255) (by decide) dX7_isSet_5 ?_
    refine v_icmp_gt X 15 dX7_isSet_8 (by decide) (fun c_2 => ?_) (fun c_2 => ?_)
    · refine v_iconst X (v := bI false) (by decide) dX7_isSet_15 ?_
      exact v_iret X rq ⟨by decide, by decide⟩ (narZ _) dX7_isSet_16 (pP_i (by simp_all [inR, nI_0']))
    · refine v_iconst X (v := bI true) (by decide) dX7_isSet_11 ?_
      refine v_goto X 16 dX7_isSet_12 (by decide) ?_
      exact v_iret X rq ⟨by decide, by decide⟩ (narZ _) dX7_isSet_16 (pP_i (by simp_all [inR, nI_0']))
set_option maxHeartbeats 4000000 in
set_option maxRecDepth 100000 in
theorem c_X7_isVariable (l : Launch) (k : KX) (M : Mem) (x : Int32) : CM l yX7_isVariable cX7_isVariable 1 ((some .boolean)) { frames := 0, cells := 0, slots := 0, locals := 0 } k [.int x] M (pP (.int (bI (inL x 8))) M) := by
  refine CM.of (by decide) (Nat.le_of_ble_eq_true rfl) (fun C X hCl hCR rq => ?_)
  show V C k 1 (0, 0) M 0 [(0, .int x)] []
  refine v_iload_n X 0 dX7_isVariable_0 rfl ?_
  refine v_if_lt X 14 dX7_isVariable_1 (by decide) (fun c_1 => ?_) (fun c_1 => ?_)
  · refine v_iconst X (v := bI false) (by decide) dX7_isVariable_14 ?_
    exact v_iret X rq ⟨by decide, by decide⟩ (narZ _) dX7_isVariable_15 (pP_i (by simp_all [inL, nI_0']))
  · refine v_iload_n X 0 dX7_isVariable_4 rfl ?_
    refine v_bipush X (v := nI 8) (by decide) dX7_isVariable_5 ?_
    refine v_icmp_ge X 14 dX7_isVariable_7 (by decide) (fun c_2 => ?_) (fun c_2 => ?_)
    · refine v_iconst X (v := bI false) (by decide) dX7_isVariable_14 ?_
      exact v_iret X rq ⟨by decide, by decide⟩ (narZ _) dX7_isVariable_15 (pP_i (by simp_all [inL, nI_0']))
    · refine v_iconst X (v := bI true) (by decide) dX7_isVariable_10 ?_
      refine v_goto X 15 dX7_isVariable_11 (by decide) ?_
      exact v_iret X rq ⟨by decide, by decide⟩ (narZ _) dX7_isVariable_15 (pP_i (by simp_all [inL, nI_0']))
set_option maxHeartbeats 4000000 in
set_option maxRecDepth 100000 in
theorem c_X7_contains (l : Launch) (k : KX) (M : Mem) (A v : Nat) (hA : A < 2 ^ 31) (hv : v < 32) : CM l yX7_contains cX7_contains 2 ((some .boolean)) { frames := 0, cells := 0, slots := 0, locals := 0 } k [.int (nI A), .int (nI v)] M (pP (.int (bI (A.testBit v))) M) := by
  refine CM.of (by decide) (Nat.le_of_ble_eq_true rfl) (fun C X hCl hCR rq => ?_)
  show V C k 2 (0, 0) M 0 [(0, .int (nI A)), (1, .int (nI v))] []
  refine v_iload_n X 0 dX7_contains_0 rfl ?_
  refine v_iload_n X 1 dX7_contains_1 rfl ?_
  refine v_shrN X (by omega) (by omega) dX7_contains_2 ?_
  refine v_iconst X (v := nI 1) (by decide) dX7_contains_3 ?_
  refine v_andN X dX7_contains_4 ?_
  refine v_iconst X (v := nI 1) (by decide) dX7_contains_5 ?_
  refine v_cneN X 13 (tb_lt _ _) (by decide) dX7_contains_6 (by decide) (fun c_1 => ?_) (fun c_1 => ?_)
  · refine v_iconst X (v := bI false) (by decide) dX7_contains_13 ?_
    exact v_iret X rq ⟨by decide, by decide⟩ (narZ _) dX7_contains_14 (pP_i (by rw [tb_0 c_1]))
  · refine v_iconst X (v := bI true) (by decide) dX7_contains_9 ?_
    refine v_goto X 14 dX7_contains_10 (by decide) ?_
    exact v_iret X rq ⟨by decide, by decide⟩ (narZ _) dX7_contains_14 (pP_i (by rw [tb_1 c_1]))
set_option maxHeartbeats 4000000 in
set_option maxRecDepth 100000 in
theorem c_X7_smallestVariable (l : Launch) (k : KX) (M : Mem) (A : Nat) (hA : A < 2 ^ 31) : CM l yX7_smallestVariable cX7_smallestVariable 2 ((some .int)) { frames := 1, cells := 0, slots := 0, locals := 21 } k [.int (nI A)] M (pP (.int (oI (lowO A))) M) := by
  refine CM.of (by decide) (Nat.le_of_ble_eq_true rfl) (fun C X hCl hCR rq => ?_)
  show V C k 2 (0, 0) M 0 [(0, .int (nI A))] []
  have L : ∀ (fu : Nat) (i : Nat), 8 - i < fu → (i ≤ 8) → (lowFrom A (8 - i) i = lowO A) → V C k 2 (0, 0) M 2 [(0, .int (nI A)), (1, .int (nI i))] [] := by
    intro fu
    induction fu with
    | zero => intro i hfu; exact absurd hfu (Nat.not_lt_zero _)
    | succ fu ih =>
      intro i hfu hi hl 
      refine v_iload_n X 1 dX7_smallestVariable_2 rfl ?_
      refine v_bipush X (v := nI 8) (by decide) dX7_smallestVariable_3 ?_
      refine v_cgeN X 24 (by omega) (by omega) dX7_smallestVariable_5 (by decide) (fun c_1 => ?_) (fun c_1 => ?_)
      · refine v_bipush X (v := (-9)) (by decide) dX7_smallestVariable_24 ?_
        exact v_iret X rq ⟨by decide, by decide⟩ rfl dX7_smallestVariable_26 (pP_i (by rw [low_end hl (by omega)]; rfl))
      · refine v_iload_n X 0 dX7_smallestVariable_8 rfl ?_
        refine v_iload_n X 1 dX7_smallestVariable_9 rfl ?_
        refine v_callS X hCl hCR (c_X7_contains l k M A i (by omega) (by omega)) mo_X7_contains m_18 m_24 m_20 m_21 (by decide) rfl rfl (Nat.le_of_ble_eq_true rfl) ⟨rfl, rfl⟩ ⟨by decide, by decide⟩ dX7_smallestVariable_10 (vP_in ?_)
        refine v_ieqB X 18 dX7_smallestVariable_13 (by decide) (fun c_2 => ?_) (fun c_2 => ?_)
        · have hb := c_2
          refine v_iinc X (v := nI (i + 1)) 1 [(1, .int (nI (i + 1))), (0, .int (nI A))] dX7_smallestVariable_18 rfl (nI_1 _) (by decide) rfl ?_
          refine v_goto X 2 dX7_smallestVariable_21 (by decide) ?_
          refine v_lv [1, 0] rfl ?_
          exact ih (i + 1) (by omega) (by omega) (low_miss hl (by omega) hb)
        · have hb := c_2
          refine v_iload_n X 1 dX7_smallestVariable_16 rfl ?_
          exact v_iret X rq ⟨by decide, by decide⟩ rfl dX7_smallestVariable_17 (pP_i (by rw [low_hit hl (by omega) hb]; rfl))
  refine v_iconst X (v := nI 0) (by decide) dX7_smallestVariable_0 ?_
  refine v_istore_n X [(1, .int (nI 0)), (0, .int (nI A))] dX7_smallestVariable_1 (by decide) rfl ?_
  refine v_lv [1, 0] rfl ?_
  exact L 9 0 (by omega) (by omega) rfl
set_option maxHeartbeats 4000000 in
set_option maxRecDepth 100000 in
theorem c_X7_literalOf (l : Launch) (k : KX) (M : Mem) (v : Nat) (b : Bool) : CM l yX7_literalOf cX7_literalOf 2 ((some .int)) { frames := 0, cells := 0, slots := 0, locals := 0 } k [.int (nI v), .int (bI b)] M (pP (.int (nI (2 * v + (if b then 0 else 1)))) M) := by
  refine CM.of (by decide) (Nat.le_of_ble_eq_true rfl) (fun C X hCl hCR rq => ?_)
  show V C k 2 (0, 0) M 0 [(0, .int (nI v)), (1, .int (bI b))] []
  refine v_iconst X (v := nI 2) (by decide) dX7_literalOf_0 ?_
  refine v_iload_n X 0 dX7_literalOf_1 rfl ?_
  refine v_mulN X dX7_literalOf_2 ?_
  refine v_iload_n X 1 dX7_literalOf_3 rfl ?_
  refine v_ieqB X 11 dX7_literalOf_4 (by decide) (fun c_1 => ?_) (fun c_1 => ?_)
  · refine v_iconst X (v := nI 1) (by decide) dX7_literalOf_11 ?_
    refine v_addN X dX7_literalOf_12 ?_
    exact v_iret X rq ⟨by decide, by decide⟩ rfl dX7_literalOf_13 (pP_i (by simp_all))
  · refine v_iconst X (v := nI 0) (by decide) dX7_literalOf_7 ?_
    refine v_goto X 12 dX7_literalOf_8 (by decide) ?_
    refine v_addN X dX7_literalOf_12 ?_
    exact v_iret X rq ⟨by decide, by decide⟩ rfl dX7_literalOf_13 (pP_i (by simp_all))
set_option maxHeartbeats 4000000 in
set_option maxRecDepth 100000 in
theorem c_X7_variableOf (l : Launch) (k : KX) (M : Mem) (x : Nat) (hx : x < 2 ^ 31) : CM l yX7_variableOf cX7_variableOf 1 ((some .int)) { frames := 0, cells := 0, slots := 0, locals := 0 } k [.int (nI x)] M (pP (.int (nI (x / 2))) M) := by
  refine CM.of (by decide) (Nat.le_of_ble_eq_true rfl) (fun C X hCl hCR rq => ?_)
  show V C k 1 (0, 0) M 0 [(0, .int (nI x))] []
  refine v_iload_n X 0 dX7_variableOf_0 rfl ?_
  refine v_iconst X (v := nI 1) (by decide) dX7_variableOf_1 ?_
  refine v_shrN X (by omega) (by omega) dX7_variableOf_2 ?_
  exact v_iret X rq ⟨by decide, by decide⟩ rfl dX7_variableOf_3 (pP_i (by rw [Nat.shiftRight_eq_div_pow]))
set_option maxHeartbeats 4000000 in
set_option maxRecDepth 100000 in
theorem c_X7_clauseCode (l : Launch) (k : KX) (M : Mem) (p n : Nat) : CM l yX7_clauseCode cX7_clauseCode 2 ((some .int)) { frames := 0, cells := 0, slots := 0, locals := 0 } k [.int (nI p), .int (nI n)] M (pP (.int (nI (xClause p n))) M) := by
  refine CM.of (by decide) (Nat.le_of_ble_eq_true rfl) (fun C X hCl hCR rq => ?_)
  show V C k 2 (0, 0) M 0 [(0, .int (nI p)), (1, .int (nI n))] []
  refine v_iload_n X 1 dX7_clauseCode_0 rfl ?_
  refine v_bipush X (v := nI 8) (by decide) dX7_clauseCode_1 ?_
  refine v_shlN X (by omega) dX7_clauseCode_3 ?_
  refine v_iload_n X 0 dX7_clauseCode_4 rfl ?_
  refine v_orN X dX7_clauseCode_5 ?_
  exact v_iret X rq ⟨by decide, by decide⟩ rfl dX7_clauseCode_6 (pP_i rfl)
set_option maxHeartbeats 4000000 in
set_option maxRecDepth 100000 in
theorem c_X7_parityCode (l : Launch) (k : KX) (M : Mem) (p n : Nat) : CM l yX7_parityCode cX7_parityCode 2 ((some .int)) { frames := 0, cells := 0, slots := 0, locals := 0 } k [.int (nI p), .int (nI n)] M (pP (.int (nI (xParity p n))) M) := by
  refine CM.of (by decide) (Nat.le_of_ble_eq_true rfl) (fun C X hCl hCR rq => ?_)
  show V C k 2 (0, 0) M 0 [(0, .int (nI p)), (1, .int (nI n))] []
  refine v_ldcw X (v := nI 65536) m_17 dX7_parityCode_0 ?_
  refine v_iload_n X 1 dX7_parityCode_3 rfl ?_
  refine v_bipush X (v := nI 8) (by decide) dX7_parityCode_4 ?_
  refine v_shlN X (by omega) dX7_parityCode_6 ?_
  refine v_orN X dX7_parityCode_7 ?_
  refine v_iload_n X 0 dX7_parityCode_8 rfl ?_
  refine v_orN X dX7_parityCode_9 ?_
  exact v_iret X rq ⟨by decide, by decide⟩ rfl dX7_parityCode_10 (pP_i rfl)
set_option maxHeartbeats 4000000 in
set_option maxRecDepth 100000 in
theorem c_X7_isParityCode (l : Launch) (k : KX) (M : Mem) (x : Nat) (hx : x < 2 ^ 31) : CM l yX7_isParityCode cX7_isParityCode 1 ((some .boolean)) { frames := 0, cells := 0, slots := 0, locals := 0 } k [.int (nI x)] M (pP (.int (bI (xPar x))) M) := by
  refine CM.of (by decide) (Nat.le_of_ble_eq_true rfl) (fun C X hCl hCR rq => ?_)
  show V C k 1 (0, 0) M 0 [(0, .int (nI x))] []
  refine v_iload_n X 0 dX7_isParityCode_0 rfl ?_
  refine v_ldcw X (v := nI 65536) m_17 dX7_isParityCode_1 ?_
  refine v_andN X dX7_isParityCode_4 ?_
  refine v_ieqN X 12 (and_ltl hx) dX7_isParityCode_5 (by decide) (fun c_1 => ?_) (fun c_1 => ?_)
  · refine v_iconst X (v := bI false) (by decide) dX7_isParityCode_12 ?_
    exact v_iret X rq ⟨by decide, by decide⟩ (narZ _) dX7_isParityCode_13 (pP_i (by rw [(par_and x).mp c_1]))
  · refine v_iconst X (v := bI true) (by decide) dX7_isParityCode_8 ?_
    refine v_goto X 13 dX7_isParityCode_9 (by decide) ?_
    exact v_iret X rq ⟨by decide, by decide⟩ (narZ _) dX7_isParityCode_13 (pP_i (by rw [(by simpa using fun e => c_1 ((par_and x).mpr e) : xPar x = true)]))
set_option maxHeartbeats 4000000 in
set_option maxRecDepth 100000 in
theorem c_X7_firstPart (l : Launch) (k : KX) (M : Mem) (x : Nat) : CM l yX7_firstPart cX7_firstPart 1 ((some .int)) { frames := 0, cells := 0, slots := 0, locals := 0 } k [.int (nI x)] M (pP (.int (nI (xFirst x))) M) := by
  refine CM.of (by decide) (Nat.le_of_ble_eq_true rfl) (fun C X hCl hCR rq => ?_)
  show V C k 1 (0, 0) M 0 [(0, .int (nI x))] []
  refine v_iload_n X 0 dX7_firstPart_0 rfl ?_
  refine v_sipush X (v := nI 255) (by decide) dX7_firstPart_1 ?_
  refine v_andN X dX7_firstPart_4 ?_
  exact v_iret X rq ⟨by decide, by decide⟩ rfl dX7_firstPart_5 (pP_i rfl)
set_option maxHeartbeats 4000000 in
set_option maxRecDepth 100000 in
theorem c_X7_secondPart (l : Launch) (k : KX) (M : Mem) (x : Nat) (hx : x < 2 ^ 31) : CM l yX7_secondPart cX7_secondPart 1 ((some .int)) { frames := 0, cells := 0, slots := 0, locals := 0 } k [.int (nI x)] M (pP (.int (nI (xSecond x))) M) := by
  refine CM.of (by decide) (Nat.le_of_ble_eq_true rfl) (fun C X hCl hCR rq => ?_)
  show V C k 1 (0, 0) M 0 [(0, .int (nI x))] []
  refine v_iload_n X 0 dX7_secondPart_0 rfl ?_
  refine v_bipush X (v := nI 8) (by decide) dX7_secondPart_1 ?_
  refine v_shrN X (by omega) (by omega) dX7_secondPart_3 ?_
  refine v_sipush X (v := nI 255) (by decide) dX7_secondPart_4 ?_
  refine v_andN X dX7_secondPart_7 ?_
  exact v_iret X rq ⟨by decide, by decide⟩ rfl dX7_secondPart_8 (pP_i rfl)
set_option maxHeartbeats 4000000 in
set_option maxRecDepth 100000 in
theorem c_X7_variablesOf (l : Launch) (k : KX) (M : Mem) (x : Nat) (hx : x < 2 ^ 31) : CM l yX7_variablesOf cX7_variablesOf 2 ((some .int)) { frames := 0, cells := 0, slots := 0, locals := 0 } k [.int (nI x)] M (pP (.int (nI (xVars x))) M) := by
  refine CM.of (by decide) (Nat.le_of_ble_eq_true rfl) (fun C X hCl hCR rq => ?_)
  show V C k 2 (0, 0) M 0 [(0, .int (nI x))] []
  refine v_iload_n X 0 dX7_variablesOf_0 rfl ?_
  refine v_ldcw X (v := nI 65536) m_17 dX7_variablesOf_1 ?_
  refine v_andN X dX7_variablesOf_4 ?_
  refine v_ieqN X 12 (and_ltl hx) dX7_variablesOf_5 (by decide) (fun c_1 => ?_) (fun c_1 => ?_)
  · have hp : xPar x = false := (par_and x).mp c_1
    refine v_iload_n X 0 dX7_variablesOf_12 rfl ?_
    refine v_iload_n X 0 dX7_variablesOf_13 rfl ?_
    refine v_bipush X (v := nI 8) (by decide) dX7_variablesOf_14 ?_
    refine v_shrN X (by omega) (by omega) dX7_variablesOf_16 ?_
    refine v_orN X dX7_variablesOf_17 ?_
    refine v_istore_n X [(1, .int (nI (x ||| (x >>> 8)))), (0, .int (nI x))] dX7_variablesOf_18 (by decide) rfl ?_
    refine v_iload_n X 0 dX7_variablesOf_19 rfl ?_
    refine v_sipush X (v := nI 255) (by decide) dX7_variablesOf_20 ?_
    refine v_andN X dX7_variablesOf_23 ?_
    exact v_iret X rq ⟨by decide, by decide⟩ rfl dX7_variablesOf_24 (pP_i (by simp [xVars, hp]))
  · have hp : xPar x = true := by simpa using fun e => c_1 ((par_and x).mpr e)
    refine v_iload_n X 0 dX7_variablesOf_8 rfl ?_
    refine v_goto X 18 dX7_variablesOf_9 (by decide) ?_
    refine v_istore_n X [(1, .int (nI x)), (0, .int (nI x))] dX7_variablesOf_18 (by decide) rfl ?_
    refine v_iload_n X 0 dX7_variablesOf_19 rfl ?_
    refine v_sipush X (v := nI 255) (by decide) dX7_variablesOf_20 ?_
    refine v_andN X dX7_variablesOf_23 ?_
    exact v_iret X rq ⟨by decide, by decide⟩ rfl dX7_variablesOf_24 (pP_i (by simp [xVars, hp]))
set_option maxHeartbeats 4000000 in
set_option maxRecDepth 100000 in
theorem c_X7_isViolated (l : Launch) (k : KX) (M : Mem) (x t : Nat) (hx : x < 2 ^ 31) : CM l yX7_isViolated cX7_isViolated 4 ((some .boolean)) { frames := 1, cells := 0, slots := 0, locals := 20 } k [.int (nI x), .int (nI t)] M (pP (.int (bI (xViol x t))) M) := by
  refine CM.of (by decide) (Nat.le_of_ble_eq_true rfl) (fun C X hCl hCR rq => ?_)
  show V C k 4 (0, 0) M 0 [(0, .int (nI x)), (1, .int (nI t))] []
  refine v_iload_n X 0 dX7_isViolated_0 rfl ?_
  refine v_sipush X (v := nI 255) (by decide) dX7_isViolated_1 ?_
  refine v_andN X dX7_isViolated_4 ?_
  refine v_istore_n X [(2, .int (nI (x &&& 255))), (0, .int (nI x)), (1, .int (nI t))] dX7_isViolated_5 (by decide) rfl ?_
  refine v_iload_n X 1 dX7_isViolated_6 rfl ?_
  refine v_bipush X (v := nI 8) (by decide) dX7_isViolated_7 ?_
  refine v_shrN X (by omega) (by omega) dX7_isViolated_9 ?_
  refine v_sipush X (v := nI 255) (by decide) dX7_isViolated_10 ?_
  refine v_andN X dX7_isViolated_13 ?_
  refine v_istore_n X [(3, .int (nI ((x >>> 8) &&& 255))), (2, .int (nI (x &&& 255))), (0, .int (nI x)), (1, .int (nI t))] dX7_isViolated_14 (by decide) rfl ?_
  refine v_iload_n X 2 dX7_isViolated_15 rfl ?_
  refine v_ldcw X (v := nI 65536) m_17 dX7_isViolated_16 ?_
  refine v_andN X dX7_isViolated_19 ?_
  refine v_ieqN X 41 (and_ltl hx) dX7_isViolated_20 (by decide) (fun c_1 => ?_) (fun c_1 => ?_)
  · have hp : xPar x = false := (par_and x).mp c_1
    refine v_iload_n X 1 dX7_isViolated_41 rfl ?_
    refine v_iload_n X 3 dX7_isViolated_42 rfl ?_
    refine v_andN X dX7_isViolated_43 ?_
    refine v_ineN X 59 (and_ltl (and_lt (by decide))) dX7_isViolated_44 (by decide) (fun c_2 => ?_) (fun c_2 => ?_)
    · refine v_iconst X (v := bI false) (by decide) dX7_isViolated_59 ?_
      exact v_iret X rq ⟨by decide, by decide⟩ (narZ _) dX7_isViolated_60 (pP_i (by simp_all [xViol, xFirst, xSecond, mdiff, Nat.and_one_is_mod]))
    · refine v_iload_n X 0 dX7_isViolated_47 rfl ?_
      refine v_iload_n X 3 dX7_isViolated_48 rfl ?_
      refine v_iconst X (v := nI 4294967295) (by decide) dX7_isViolated_49 ?_
      refine v_xorN X dX7_isViolated_50 ?_
      refine v_andN X dX7_isViolated_51 ?_
      refine v_ineN X 59 (and_ltl (and_lt (by decide))) dX7_isViolated_52 (by decide) (fun c_3 => ?_) (fun c_3 => ?_)
      · refine v_iconst X (v := bI false) (by decide) dX7_isViolated_59 ?_
        exact v_iret X rq ⟨by decide, by decide⟩ (narZ _) dX7_isViolated_60 (pP_i (by simp_all [xViol, xFirst, xSecond, mdiff, Nat.and_one_is_mod]))
      · refine v_iconst X (v := bI true) (by decide) dX7_isViolated_55 ?_
        refine v_goto X 60 dX7_isViolated_56 (by decide) ?_
        exact v_iret X rq ⟨by decide, by decide⟩ (narZ _) dX7_isViolated_60 (pP_i (by simp_all [xViol, xFirst, xSecond, mdiff, Nat.and_one_is_mod]))
  · have hp : xPar x = true := by simpa using fun e => c_1 ((par_and x).mpr e)
    refine v_iload_n X 1 dX7_isViolated_23 rfl ?_
    refine v_iload_n X 3 dX7_isViolated_24 rfl ?_
    refine v_andN X dX7_isViolated_25 ?_
    refine v_callS X hCl hCR (c_J6_bitCount_0f7a4 l k M ((x &&& 255) &&& t) (and_ltl (and_lt (by decide)))) mo_J6_bitCount_0f7a4 m_54 m_59 m_60 m_61 (by decide) rfl rfl (Nat.le_of_ble_eq_true rfl) ⟨rfl, rfl⟩ ⟨by decide, by decide⟩ dX7_isViolated_26 (vP_in ?_)
    refine v_iconst X (v := nI 1) (by decide) dX7_isViolated_29 ?_
    refine v_andN X dX7_isViolated_30 ?_
    refine v_iload_n X 0 dX7_isViolated_31 rfl ?_
    refine v_ceqN X 39 (and_lt (by decide)) (and_lt (by decide)) dX7_isViolated_32 (by decide) (fun c_4 => ?_) (fun c_4 => ?_)
    · refine v_iconst X (v := bI false) (by decide) dX7_isViolated_39 ?_
      exact v_iret X rq ⟨by decide, by decide⟩ (narZ _) dX7_isViolated_40 (pP_i (by simp_all [xViol, xFirst, xSecond, mdiff, Nat.and_one_is_mod]))
    · refine v_iconst X (v := bI true) (by decide) dX7_isViolated_35 ?_
      refine v_goto X 40 dX7_isViolated_36 (by decide) ?_
      exact v_iret X rq ⟨by decide, by decide⟩ (narZ _) dX7_isViolated_40 (pP_i (by simp_all [xViol, xFirst, xSecond, mdiff, Nat.and_one_is_mod]))
