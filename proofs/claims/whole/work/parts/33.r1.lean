set_option maxHeartbeats 4000000 in
set_option maxRecDepth 100000 in
theorem c_X8_in (l : Launch) (k : KX) (M : Mem) (x lo hi : Int32) : CM l yX8_in cX8_in 6 ((some .boolean)) { frames := 0, cells := 0, slots := 0, locals := 0 } k [.long x.toInt64, .long lo.toInt64, .long hi.toInt64] M (pP (.int (bI (inB x lo hi))) M) := by
  refine CM.of (by decide) (Nat.le_of_ble_eq_true rfl) (fun C X hCl hCR rq => ?_)
  show V C k 6 (0, 0) M 0 [(0, .long x.toInt64), (2, .long lo.toInt64), (4, .long hi.toInt64)] []
  refine v_lload_n X 0 dX8_in_0 rfl ?_
  refine v_lload_n X 1 dX8_in_1 rfl ?_
  refine v_lcmp X dX8_in_2 ?_
  refine v_if_lt X 17 dX8_in_3 (by decide) (fun c_1 => ?_) (fun c_1 => ?_)
  · have ha := i64_lt.mp ((lg_cmp_lt _ _).mp c_1)
    refine v_iconst X (v := bI false) (by decide) dX8_in_17 ?_
    exact v_iret X rq ⟨by decide, by decide⟩ (narZ _) dX8_in_18 (pP_i (by unfold inB; rw [decide_eq_false (Int32.not_le.mpr ha), Bool.false_and]))
  · have ha : lo ≤ x := Int32.not_lt.mp (fun w => c_1 ((lg_cmp_lt _ _).mpr (i64_lt.mpr w)))
    refine v_lload_n X 0 dX8_in_6 rfl ?_
    refine v_lload X 2 dX8_in_7 rfl ?_
    refine v_lcmp X dX8_in_9 ?_
    refine v_if_gt X 17 dX8_in_10 (by decide) (fun c_2 => ?_) (fun c_2 => ?_)
    · have hc := i64_lt.mp ((lg_cmp_gt _ _).mp c_2)
      refine v_iconst X (v := bI false) (by decide) dX8_in_17 ?_
      exact v_iret X rq ⟨by decide, by decide⟩ (narZ _) dX8_in_18 (pP_i (by unfold inB; rw [decide_eq_false (Int32.not_le.mpr hc), Bool.and_false]))
    · have hc : x ≤ hi := Int32.not_lt.mp (fun w => c_2 ((lg_cmp_gt _ _).mpr (i64_lt.mpr w)))
      refine v_iconst X (v := bI true) (by decide) dX8_in_13 ?_
      refine v_goto X 18 dX8_in_14 (by decide) ?_
      exact v_iret X rq ⟨by decide, by decide⟩ (narZ _) dX8_in_18 (pP_i (by unfold inB; rw [decide_eq_true ha, decide_eq_true hc]; rfl))
theorem c_in_R (l : Launch) (k : KX) (M : Mem) (x : Int32) (m : Nat) : CM l yX8_in cX8_in 6 (some .boolean) { frames := 0, cells := 0, slots := 0, locals := 0 } k [.long x.toInt64, .long (nI 0).toInt64, .long (nI m).toInt64] M (pP (.int (bI (inR x m))) M) := by
  rw [← inB_R]; exact c_X8_in l k M x (nI 0) (nI m)
theorem c_in_L (l : Launch) (k : KX) (M : Mem) (x : Int32) (n : Nat) (hn : n < 2 ^ 31) : CM l yX8_in cX8_in 6 (some .boolean) { frames := 0, cells := 0, slots := 0, locals := 0 } k [.long x.toInt64, .long (nI 0).toInt64, .long (nI n - nI 1).toInt64] M (pP (.int (bI (inL x n))) M) := by
  rw [← inB_L hn]; exact c_X8_in l k M x (nI 0) (nI n - nI 1)
set_option maxHeartbeats 4000000 in
set_option maxRecDepth 100000 in
theorem c_X8_has (l : Launch) (k : KX) (M : Mem) (A v : Nat) (hA : A < 2 ^ 31) (hv : v < 32) : CM l yX8_has cX8_has 2 ((some .boolean)) { frames := 0, cells := 0, slots := 0, locals := 0 } k [.int (nI A), .int (nI v)] M (pP (.int (bI (A.testBit v))) M) := by
  refine CM.of (by decide) (Nat.le_of_ble_eq_true rfl) (fun C X hCl hCR rq => ?_)
  show V C k 2 (0, 0) M 0 [(0, .int (nI A)), (1, .int (nI v))] []
  refine v_iload_n X 0 dX8_has_0 rfl ?_
  refine v_iload_n X 1 dX8_has_1 rfl ?_
  refine v_shrN X (by omega) (by omega) dX8_has_2 ?_
  refine v_iconst X (v := nI 1) (by decide) dX8_has_3 ?_
  refine v_andN X dX8_has_4 ?_
  refine v_iconst X (v := nI 1) (by decide) dX8_has_5 ?_
  refine v_cneN X 13 (tb_lt _ _) (by decide) dX8_has_6 (by decide) (fun c_1 => ?_) (fun c_1 => ?_)
  · refine v_iconst X (v := bI false) (by decide) dX8_has_13 ?_
    exact v_iret X rq ⟨by decide, by decide⟩ (narZ _) dX8_has_14 (pP_i (by rw [tb_0 c_1]))
  · refine v_iconst X (v := bI true) (by decide) dX8_has_9 ?_
    refine v_goto X 14 dX8_has_10 (by decide) ?_
    exact v_iret X rq ⟨by decide, by decide⟩ (narZ _) dX8_has_14 (pP_i (by rw [tb_1 c_1]))
set_option maxHeartbeats 4000000 in
set_option maxRecDepth 100000 in
theorem c_X8_bits (l : Launch) (k : KX) (M : Mem) (a : Nat) (ha : a < 256) : CM l yX8_bits cX8_bits 3 ((some .int)) { frames := 0, cells := 0, slots := 0, locals := 0 } k [.int (nI a)] M (pP (.int (nI (pcN 8 a))) M) := by
  refine CM.of (by decide) (Nat.le_of_ble_eq_true rfl) (fun C X hCl hCR rq => ?_)
  show V C k 3 (0, 0) M 0 [(0, .int (nI a))] []
  have L : ∀ (fu : Nat) (v : Nat), 24 - v < fu → (v ≤ 24) → V C k 3 (0, 0) M 4 [(0, .int (nI a)), (1, .int (nI (pcN v a))), (2, .int (nI v))] [] := by
    intro fu
    induction fu with
    | zero => intro v hfu; exact absurd hfu (Nat.not_lt_zero _)
    | succ fu ih =>
      intro v hfu hv 
      refine v_iload_n X 2 dX8_bits_4 rfl ?_
      refine v_bipush X (v := nI 24) (by decide) dX8_bits_5 ?_
      refine v_cgeN X 24 (by omega) (by omega) dX8_bits_7 (by decide) (fun c_1 => ?_) (fun c_1 => ?_)
      · refine v_iload_n X 1 dX8_bits_24 rfl ?_
        exact v_iret X rq ⟨by decide, by decide⟩ rfl dX8_bits_25 (pP_i (by rw [show v = 24 by omega, pc24 ha]))
      · refine v_iload_n X 1 dX8_bits_10 rfl ?_
        refine v_iload_n X 0 dX8_bits_11 rfl ?_
        refine v_iload_n X 2 dX8_bits_12 rfl ?_
        refine v_shrN X (by omega) (by omega) dX8_bits_13 ?_
        refine v_iconst X (v := nI 1) (by decide) dX8_bits_14 ?_
        refine v_andN X dX8_bits_15 ?_
        refine v_addN X dX8_bits_16 ?_
        refine v_top (show (Value.int (nI ((pcN v a) + ((a >>> v) &&& 1))) : Value) = .int (nI (pcN (v + 1) a)) from congrArg _ (by rw [tb_and1]; rfl)) ?_
        refine v_istore_n X [(1, .int (nI (pcN (v + 1) a))), (0, .int (nI a)), (2, .int (nI v))] dX8_bits_17 (by decide) rfl ?_
        refine v_iinc X (v := nI (v + 1)) 2 [(2, .int (nI (v + 1))), (1, .int (nI (pcN (v + 1) a))), (0, .int (nI a))] dX8_bits_18 rfl (nI_1 _) (by decide) rfl ?_
        refine v_goto X 4 dX8_bits_21 (by decide) ?_
        refine v_lv [2, 1, 0] rfl ?_
        exact ih (v + 1) (by omega) (by omega)
  refine v_iconst X (v := nI 0) (by decide) dX8_bits_0 ?_
  refine v_istore_n X [(1, .int (nI 0)), (0, .int (nI a))] dX8_bits_1 (by decide) rfl ?_
  refine v_iconst X (v := nI 0) (by decide) dX8_bits_2 ?_
  refine v_istore_n X [(2, .int (nI 0)), (1, .int (nI 0)), (0, .int (nI a))] dX8_bits_3 (by decide) rfl ?_
  refine v_lv [2, 1, 0] rfl ?_
  exact L 25 0 (by omega) (by omega)
set_option maxHeartbeats 4000000 in
set_option maxRecDepth 100000 in
theorem c_X8_lowest (l : Launch) (k : KX) (M : Mem) (A w : Nat) (hA : A < 2 ^ 31) (hw : lowO A = some w) : CM l yX8_lowest cX8_lowest 2 ((some .int)) { frames := 1, cells := 0, slots := 0, locals := 21 } k [.int (nI A)] M (pP (.int (nI w)) M) := by
  refine CM.of (by decide) (Nat.le_of_ble_eq_true rfl) (fun C X hCl hCR rq => ?_)
  show V C k 2 (0, 0) M 0 [(0, .int (nI A))] []
  have L : ∀ (fu : Nat) (i : Nat), 9 - i < fu → (i ≤ 8) → (lowFrom A (8 - i) i = lowO A) → V C k 2 (0, 0) M 2 [(0, .int (nI A)), (1, .int (nI i))] [] := by
    intro fu
    induction fu with
    | zero => intro i hfu; exact absurd hfu (Nat.not_lt_zero _)
    | succ fu ih =>
      intro i hfu hi hl 
      have hi8 : i < 8 := by
        rcases Nat.lt_or_ge i 8 with q | q
        · exact q
        · have := low_end hl q; rw [hw] at this; cases this
      refine v_iload_n X 0 dX8_lowest_2 rfl ?_
      refine v_iload_n X 1 dX8_lowest_3 rfl ?_
      refine v_callS X hCl hCR (c_X8_has l k M A i (by omega) (by omega)) mo_X8_has m_460 m_463 m_464 m_465 (by decide) rfl rfl (Nat.le_of_ble_eq_true rfl) ⟨rfl, rfl⟩ ⟨by decide, by decide⟩ dX8_lowest_4 (vP_in ?_)
      refine v_ineB X 16 dX8_lowest_7 (by decide) (fun c_1 => ?_) (fun c_1 => ?_)
      · have hb := c_1
        refine v_iload_n X 1 dX8_lowest_16 rfl ?_
        exact v_iret X rq ⟨by decide, by decide⟩ rfl dX8_lowest_17 (pP_i (by have := low_hit hl hi8 hb; rw [hw] at this; rw [Option.some.inj this]))
      · have hb := c_1
        refine v_iinc X (v := nI (i + 1)) 1 [(1, .int (nI (i + 1))), (0, .int (nI A))] dX8_lowest_10 rfl (nI_1 _) (by decide) rfl ?_
        refine v_goto X 2 dX8_lowest_13 (by decide) ?_
        have hi8 : i < 8 := by
          rcases Nat.lt_or_ge i 8 with q | q
          · exact q
          · have := low_end hl q; rw [hw] at this; cases this
        refine v_lv [1, 0] rfl ?_
        exact ih (i + 1) (by omega) (by omega) (low_miss hl hi8 hb)
  refine v_iconst X (v := nI 0) (by decide) dX8_lowest_0 ?_
  refine v_istore_n X [(1, .int (nI 0)), (0, .int (nI A))] dX8_lowest_1 (by decide) rfl ?_
  refine v_lv [1, 0] rfl ?_
  exact L 10 0 (by omega) (by omega) rfl
set_option maxHeartbeats 4000000 in
set_option maxRecDepth 100000 in
theorem c_X8_copy (l : Launch) (k : KX) (M : Mem) (a b : Nat) (f h0 : Nat → Nat) (ha : a < kN k) (hb : b < kN k) (hab : a ≠ b) (FA : M a = IR k 82 f) (FB : M b = IR k 82 h0) : CM l yX8_copy cX8_copy 3 none { frames := 0, cells := 0, slots := 0, locals := 0 } k [.ref (ad k a), .ref (ad k b)] M (pV (fun M' => (∃ g, M' b = IR k 82 g ∧ ∀ q, q < 82 → g q = f q) ∧ Fr b 1 M M')) := by
  refine CM.of (by decide) (Nat.le_of_ble_eq_true rfl) (fun C X hCl hCR rq => ?_)
  show V C k 3 (0, 0) M 0 [(0, .ref (ad k a)), (1, .ref (ad k b))] []
  have L : ∀ (fu : Nat) (i : Nat) (h : Nat → Nat) (M1 : Mem), 82 - i < fu → (i ≤ 82) → (∀ q, q < i → h q = f q) → (Fr b 1 M M1) → M1 a = IR k 82 f → M1 b = IR k 82 h → V C k 3 (0, 0) M1 2 [(0, .ref (ad k a)), (1, .ref (ad k b)), (2, .int (nI i))] [] := by
    intro fu
    induction fu with
    | zero => intro i h M1 hfu; exact absurd hfu (Nat.not_lt_zero _)
    | succ fu ih =>
      intro i h M1 hfu hi hh hfr GA GB
      refine v_iload_n X 2 dX8_copy_2 rfl ?_
      refine v_bipush X (v := nI 82) (by decide) dX8_copy_3 ?_
      refine v_cgeN X 20 (by omega) (by omega) dX8_copy_5 (by decide) (fun c_1 => ?_) (fun c_1 => ?_)
      · exact v_vret X rq ⟨by decide, by decide⟩ dX8_copy_20 ⟨rfl, ⟨h, GB, fun q hq => hh q (by omega)⟩, hfr⟩
      · refine v_aload_n X 1 dX8_copy_8 rfl ?_
        refine v_iload_n X 2 dX8_copy_9 rfl ?_
        refine v_aload_n X 0 dX8_copy_10 rfl ?_
        refine v_iload_n X 2 dX8_copy_11 rfl ?_
        refine v_iald X nI GA (by omega) (by omega) (by decide) dX8_copy_12 ?_
        refine v_iast X nI (f i) GB (by omega) (by omega) (by decide) dX8_copy_13 (fun M_2 hM_3 => ?_)
        have F_5 : M_2 a = IR k 82 f := by rw [hM_3, mup_n (by omega)]; exact GA
        have F_6 : M_2 b = IR k 82 (va_up h i (f i)) := by rw [hM_3]; exact mup_s
        refine v_iinc X (v := nI (i + 1)) 2 [(2, .int (nI (i + 1))), (0, .ref (ad k a)), (1, .ref (ad k b))] dX8_copy_14 rfl (nI_1 _) (by decide) rfl ?_
        refine v_goto X 2 dX8_copy_17 (by decide) ?_
        refine v_lv [1, 2, 0] rfl ?_
        exact ih (i + 1) (va_up h i (f i)) M_2 (by omega) (by omega) (ext_up hh) (fun i hi => by rw [hM_3, mup_n (by omega)]; exact hfr i hi) F_5 F_6
  refine v_iconst X (v := nI 0) (by decide) dX8_copy_0 ?_
  refine v_istore_n X [(2, .int (nI 0)), (0, .ref (ad k a)), (1, .ref (ad k b))] dX8_copy_1 (by decide) rfl ?_
  refine v_lv [1, 2, 0] rfl ?_
  exact L 83 0 h0 M (by omega) (by omega) (fun q hq => absurd hq (by omega)) Fr.rf FA FB
set_option maxHeartbeats 4000000 in
set_option maxRecDepth 100000 in
theorem c_X8_variablesOf (l : Launch) (k : KX) (M : Mem) (b : Nat) (f : Nat → Nat) (i x : Nat) (hb : b < kN k) (F : M b = IR k 82 f) (hi : i < 24) (hx : rAt f i x) : CM l yX8_variablesOf cX8_variablesOf 2 ((some .int)) { frames := 0, cells := 0, slots := 0, locals := 0 } k [.ref (ad k b), .int (nI i)] M (pP (.int (nI (xVars x))) M) := by
  refine CM.of (by decide) (Nat.le_of_ble_eq_true rfl) (fun C X hCl hCR rq => ?_)
  show V C k 2 (0, 0) M 0 [(0, .ref (ad k b)), (1, .int (nI i))] []
  have hx1 := hx.lt
  obtain ⟨-, x2, x3, x4⟩ := id hx
  have xf := xFirst_lt x
  have xs := xSecond_lt x
  refine v_aload_n X 0 dX8_variablesOf_0 rfl ?_
  refine v_iconst X (v := nI 1) (by decide) dX8_variablesOf_1 ?_
  refine v_iload_n X 1 dX8_variablesOf_2 rfl ?_
  refine v_addN X dX8_variablesOf_3 ?_
  refine v_iald X nI F (by omega) (by omega) (by decide) dX8_variablesOf_4 ?_
  refine v_iconst X (v := nI 1) (by decide) dX8_variablesOf_5 ?_
  refine v_cneN X 18 (by omega) (by omega) dX8_variablesOf_6 (by decide) (fun c_1 => ?_) (fun c_1 => ?_)
  · have hp := (rAt.p0 hx).mp c_1
    refine v_aload_n X 0 dX8_variablesOf_18 rfl ?_
    refine v_bipush X (v := nI 25) (by decide) dX8_variablesOf_19 ?_
    refine v_iload_n X 1 dX8_variablesOf_21 rfl ?_
    refine v_addN X dX8_variablesOf_22 ?_
    refine v_iald X nI F (by omega) (by omega) (by decide) dX8_variablesOf_23 ?_
    refine v_aload_n X 0 dX8_variablesOf_24 rfl ?_
    refine v_bipush X (v := nI 49) (by decide) dX8_variablesOf_25 ?_
    refine v_iload_n X 1 dX8_variablesOf_27 rfl ?_
    refine v_addN X dX8_variablesOf_28 ?_
    refine v_iald X nI F (by omega) (by omega) (by decide) dX8_variablesOf_29 ?_
    refine v_orN X dX8_variablesOf_30 ?_
    exact v_iret X rq ⟨by decide, by decide⟩ rfl dX8_variablesOf_31 (pP_i (by rw [x2, x3, xVars_cl hp]))
  · have hp := (rAt.p1 hx).mp c_1
    refine v_aload_n X 0 dX8_variablesOf_9 rfl ?_
    refine v_bipush X (v := nI 25) (by decide) dX8_variablesOf_10 ?_
    refine v_iload_n X 1 dX8_variablesOf_12 rfl ?_
    refine v_addN X dX8_variablesOf_13 ?_
    refine v_iald X nI F (by omega) (by omega) (by decide) dX8_variablesOf_14 ?_
    refine v_goto X 31 dX8_variablesOf_15 (by decide) ?_
    exact v_iret X rq ⟨by decide, by decide⟩ rfl dX8_variablesOf_31 (pP_i (by rw [x2, xVars_par hp]))
set_option maxHeartbeats 4000000 in
set_option maxRecDepth 100000 in
theorem c_X8_isSatisfied (l : Launch) (k : KX) (M : Mem) (b : Nat) (f : Nat → Nat) (i x : Nat) (t : Nat) (hb : b < kN k) (F : M b = IR k 82 f) (hi : i < 24) (hx : rAt f i x) : CM l yX8_isSatisfied cX8_isSatisfied 3 ((some .boolean)) { frames := 1, cells := 0, slots := 0, locals := 22 } k [.ref (ad k b), .int (nI i), .int (nI t)] M (pP (.int (bI (!(xViol x t)))) M) := by
  refine CM.of (by decide) (Nat.le_of_ble_eq_true rfl) (fun C X hCl hCR rq => ?_)
  show V C k 3 (0, 0) M 0 [(0, .ref (ad k b)), (1, .int (nI i)), (2, .int (nI t))] []
  have hx1 := hx.lt
  obtain ⟨-, x2, x3, x4⟩ := id hx
  have xf := xFirst_lt x
  have xs := xSecond_lt x
  refine v_aload_n X 0 dX8_isSatisfied_0 rfl ?_
  refine v_iconst X (v := nI 1) (by decide) dX8_isSatisfied_1 ?_
  refine v_iload_n X 1 dX8_isSatisfied_2 rfl ?_
  refine v_addN X dX8_isSatisfied_3 ?_
  refine v_iald X nI F (by omega) (by omega) (by decide) dX8_isSatisfied_4 ?_
  refine v_iconst X (v := nI 1) (by decide) dX8_isSatisfied_5 ?_
  refine v_cneN X 37 (by omega) (by omega) dX8_isSatisfied_6 (by decide) (fun c_1 => ?_) (fun c_1 => ?_)
  · have hp := (rAt.p0 hx).mp c_1
    refine v_aload_n X 0 dX8_isSatisfied_37 rfl ?_
    refine v_bipush X (v := nI 25) (by decide) dX8_isSatisfied_38 ?_
    refine v_iload_n X 1 dX8_isSatisfied_40 rfl ?_
    refine v_addN X dX8_isSatisfied_41 ?_
    refine v_iald X nI F (by omega) (by omega) (by decide) dX8_isSatisfied_42 ?_
    refine v_iload_n X 2 dX8_isSatisfied_43 rfl ?_
    refine v_andN X dX8_isSatisfied_44 ?_
    refine v_ineN X 61 (and_ltl (by omega)) dX8_isSatisfied_45 (by decide) (fun c_2 => ?_) (fun c_2 => ?_)
    · have h45 := c_2
      refine v_iconst X (v := bI true) (by decide) dX8_isSatisfied_61 ?_
      refine v_goto X 66 dX8_isSatisfied_62 (by decide) ?_
      exact v_iret X rq ⟨by decide, by decide⟩ (narZ _) dX8_isSatisfied_66 (pP_i (by congr 1; first | (rw [viol_par hp]; simp_all; done) | (rw [viol_cl hp]; simp_all [mdiff])))
    · have h45 := c_2
      refine v_aload_n X 0 dX8_isSatisfied_48 rfl ?_
      refine v_bipush X (v := nI 49) (by decide) dX8_isSatisfied_49 ?_
      refine v_iload_n X 1 dX8_isSatisfied_51 rfl ?_
      refine v_addN X dX8_isSatisfied_52 ?_
      refine v_iald X nI F (by omega) (by omega) (by decide) dX8_isSatisfied_53 ?_
      refine v_iload_n X 2 dX8_isSatisfied_54 rfl ?_
      refine v_iconst X (v := nI 4294967295) (by decide) dX8_isSatisfied_55 ?_
      refine v_xorN X dX8_isSatisfied_56 ?_
      refine v_andN X dX8_isSatisfied_57 ?_
      refine v_ieqN X 65 (and_ltl (by omega)) dX8_isSatisfied_58 (by decide) (fun c_3 => ?_) (fun c_3 => ?_)
      · have h58 := c_3
        refine v_iconst X (v := bI false) (by decide) dX8_isSatisfied_65 ?_
        exact v_iret X rq ⟨by decide, by decide⟩ (narZ _) dX8_isSatisfied_66 (pP_i (by congr 1; first | (rw [viol_par hp]; simp_all; done) | (rw [viol_cl hp]; simp_all [mdiff])))
      · have h58 := c_3
        refine v_iconst X (v := bI true) (by decide) dX8_isSatisfied_61 ?_
        refine v_goto X 66 dX8_isSatisfied_62 (by decide) ?_
        exact v_iret X rq ⟨by decide, by decide⟩ (narZ _) dX8_isSatisfied_66 (pP_i (by congr 1; first | (rw [viol_par hp]; simp_all; done) | (rw [viol_cl hp]; simp_all [mdiff])))
  · have hp := (rAt.p1 hx).mp c_1
    refine v_aload_n X 0 dX8_isSatisfied_9 rfl ?_
    refine v_bipush X (v := nI 25) (by decide) dX8_isSatisfied_10 ?_
    refine v_iload_n X 1 dX8_isSatisfied_12 rfl ?_
    refine v_addN X dX8_isSatisfied_13 ?_
    refine v_iald X nI F (by omega) (by omega) (by decide) dX8_isSatisfied_14 ?_
    refine v_iload_n X 2 dX8_isSatisfied_15 rfl ?_
    refine v_andN X dX8_isSatisfied_16 ?_
    refine v_callS X hCl hCR (c_X8_bits l k M ((f (25 + i)) &&& t) (and_ltl (by omega))) mo_X8_bits m_461 m_469 m_470 m_465 (by decide) rfl rfl (Nat.le_of_ble_eq_true rfl) ⟨rfl, rfl⟩ ⟨by decide, by decide⟩ dX8_isSatisfied_17 (vP_in ?_)
    refine v_iconst X (v := nI 2) (by decide) dX8_isSatisfied_20 ?_
    refine v_remN X (by have := pc8_le (f (25 + i) &&& t); omega) (by omega) (by omega) dX8_isSatisfied_21 ?_
    refine v_aload_n X 0 dX8_isSatisfied_22 rfl ?_
    refine v_bipush X (v := nI 49) (by decide) dX8_isSatisfied_23 ?_
    refine v_iload_n X 1 dX8_isSatisfied_25 rfl ?_
    refine v_addN X dX8_isSatisfied_26 ?_
    refine v_iald X nI F (by omega) (by omega) (by decide) dX8_isSatisfied_27 ?_
    refine v_cneN X 35 (by omega) (by omega) dX8_isSatisfied_28 (by decide) (fun c_4 => ?_) (fun c_4 => ?_)
    · have h28 := c_4
      refine v_iconst X (v := bI false) (by decide) dX8_isSatisfied_35 ?_
      exact v_iret X rq ⟨by decide, by decide⟩ (narZ _) dX8_isSatisfied_36 (pP_i (by congr 1; first | (rw [viol_par hp]; simp_all; done) | (rw [viol_cl hp]; simp_all [mdiff])))
    · have h28 := c_4
      refine v_iconst X (v := bI true) (by decide) dX8_isSatisfied_31 ?_
      refine v_goto X 36 dX8_isSatisfied_32 (by decide) ?_
      exact v_iret X rq ⟨by decide, by decide⟩ (narZ _) dX8_isSatisfied_36 (pP_i (by congr 1; first | (rw [viol_par hp]; simp_all; done) | (rw [viol_cl hp]; simp_all [mdiff])))
set_option maxHeartbeats 4000000 in
set_option maxRecDepth 100000 in
theorem c_X8_addTo (l : Launch) (k : KX) (M : Mem) (b : Nat) (f : Nat → Nat) (kd p n : Nat) (hb : b < kN k) (F : M b = IR k 82 f) (h0 : f 0 < 24) : CM l yX8_addTo cX8_addTo 5 none { frames := 0, cells := 0, slots := 0, locals := 0 } k [.ref (ad k b), .int (nI kd), .int (nI p), .int (nI n)] M (pV (fun M' => M' b = IR k 82 (addF f kd p n) ∧ Fr b 1 M M')) := by
  refine CM.of (by decide) (Nat.le_of_ble_eq_true rfl) (fun C X hCl hCR rq => ?_)
  show V C k 5 (0, 0) M 0 [(0, .ref (ad k b)), (1, .int (nI kd)), (2, .int (nI p)), (3, .int (nI n))] []
  refine v_aload_n X 0 dX8_addTo_0 rfl ?_
  refine v_iconst X (v := nI 0) (by decide) dX8_addTo_1 ?_
  refine v_iald X nI F (by omega) (by omega) (by decide) dX8_addTo_2 ?_
  refine v_istore X [(4, .int (nI (f 0))), (0, .ref (ad k b)), (1, .int (nI kd)), (2, .int (nI p)), (3, .int (nI n))] dX8_addTo_3 (by decide) rfl ?_
  refine v_aload_n X 1 dX8_addTo_5 rfl ?_
  refine v_iconst X (v := nI 1) (by decide) dX8_addTo_6 ?_
  refine v_iload X 0 dX8_addTo_7 rfl ?_
  refine v_addN X dX8_addTo_9 ?_
  refine v_iload_n X 2 dX8_addTo_10 rfl ?_
  refine v_iast X nI kd F (by omega) (by omega) (by decide) dX8_addTo_11 (fun M_1 hM_2 => ?_)
  have F_4 : M_1 b = IR k 82 (va_up f (1 + (f 0)) kd) := by rw [hM_2]; exact mup_s
  refine v_aload_n X 1 dX8_addTo_12 rfl ?_
  refine v_bipush X (v := nI 25) (by decide) dX8_addTo_13 ?_
  refine v_iload X 0 dX8_addTo_15 rfl ?_
  refine v_addN X dX8_addTo_17 ?_
  refine v_iload_n X 3 dX8_addTo_18 rfl ?_
  refine v_iast X nI p F_4 (by omega) (by omega) (by decide) dX8_addTo_19 (fun M_5 hM_6 => ?_)
  have F_8 : M_5 b = IR k 82 (va_up (va_up f (1 + (f 0)) kd) (25 + (f 0)) p) := by rw [hM_6]; exact mup_s
  refine v_aload_n X 1 dX8_addTo_20 rfl ?_
  refine v_bipush X (v := nI 49) (by decide) dX8_addTo_21 ?_
  refine v_iload X 0 dX8_addTo_23 rfl ?_
  refine v_addN X dX8_addTo_25 ?_
  refine v_iload_n X 4 dX8_addTo_26 rfl ?_
  refine v_iast X nI n F_8 (by omega) (by omega) (by decide) dX8_addTo_27 (fun M_9 hM_10 => ?_)
  have F_12 : M_9 b = IR k 82 (va_up (va_up (va_up f (1 + (f 0)) kd) (25 + (f 0)) p) (49 + (f 0)) n) := by rw [hM_10]; exact mup_s
  refine v_aload_n X 1 dX8_addTo_28 rfl ?_
  refine v_iconst X (v := nI 0) (by decide) dX8_addTo_29 ?_
  refine v_dup2 X rfl rfl dX8_addTo_30 ?_
  refine v_iald X nI F_12 (by omega) (by omega) (by decide) dX8_addTo_31 ?_
  refine v_top (show (Value.int (nI (va_up (va_up (va_up f (1 + (f 0)) kd) (25 + (f 0)) p) (49 + (f 0)) n 0)) : Value) = .int (nI (f 0)) from congrArg _ (by rw [up_n _ _ (by omega), up_n _ _ (by omega), up_n _ _ (by omega)])) ?_
  refine v_iconst X (v := nI 1) (by decide) dX8_addTo_32 ?_
  refine v_addN X dX8_addTo_33 ?_
  refine v_iast X nI ((f 0) + 1) F_12 (by omega) (by omega) (by decide) dX8_addTo_34 (fun M_13 hM_14 => ?_)
  have F_16 : M_13 b = IR k 82 (va_up (va_up (va_up (va_up f (1 + (f 0)) kd) (25 + (f 0)) p) (49 + (f 0)) n) 0 ((f 0) + 1)) := by rw [hM_14]; exact mup_s
  exact v_vret X rq ⟨by decide, by decide⟩ dX8_addTo_35 ⟨rfl, F_16, (fun i hi => by rw [hM_14, mup_n (by omega), hM_10, mup_n (by omega), hM_6, mup_n (by omega), hM_2, mup_n (by omega)])⟩
