/-! the law's own methods, the first of them -/
theorem odd_step (n v : Nat) : pcN v n % 2 ^^^ n >>> v &&& 1 = pcN (v + 1) n % 2 := by
  rw [tb_and1]
  show pcN v n % 2 ^^^ (if n.testBit v = true then 1 else 0) = (pcN v n + (if n.testBit v then 1 else 0)) % 2
  rcases Nat.mod_two_eq_zero_or_one (pcN v n) with e | e <;> cases n.testBit v <;> rw [e] <;> simp <;> omega
theorem pc2_lt {n v : Nat} : pcN v n % 2 < 2 := Nat.mod_lt _ (by decide)
noncomputable section
def now0 (S : SS) : Int64 := ((((100) * (nI S.1.length).toInt64) + ((10) * (nI S.2.1.length).toInt64)) + (oI (sCf S)).toInt64)
def nowA (S : SS) (a : Int64) (i : Nat) : Int64 := (((((1009) * a) - ((1009) * a) / (1000000007) * (1000000007)) + ((70000) * ((W_parity S (nI i)).1).toInt64)) + ((257) * ((W_first S (nI i)).1).toInt64)) + ((W_second S (nI i)).1).toInt64
def now1 (S : SS) : Nat → Int64
  | 0 => now0 S
  | i + 1 => nowA S (now1 S i) i
def nowB (S : SS) (a : Int64) (v : Nat) : Int64 := (((((113) * a) - ((113) * a) / (1000000009) * (1000000009)) + ((40) * ((W_value S (nI v)).1).toInt64)) + ((W_reason S (nI v)).1).toInt64) + ((7) * ((W_trail S (nI v)).1).toInt64)
def now2 (S : SS) : Nat → Int64
  | 0 => now1 S S.1.length
  | v + 1 => nowB S (now2 S v) v
def nowF (S : SS) : Int64 := now2 S 8
end
theorem nI_ne {n : Nat} {x : Int32} (h : n < 2 ^ 31) (hx : x < 0) : ¬ nI n = x := fun q => by rw [← q] at hx; exact nI_pos h hx
theorem e_parity1 {S : SS} {i : Nat} (hl : S.1.length ≤ 24) (h : i < S.1.length) (hp : xPar (cAt S.1 i) = true) : W_parity S (nI i) = (nI 1, S) := by rw [e_parity hl h, if_pos hp]
theorem e_parity0 {S : SS} {i : Nat} (hl : S.1.length ≤ 24) (h : i < S.1.length) (hp : xPar (cAt S.1 i) = false) : W_parity S (nI i) = (nI 0, S) := by rw [e_parity hl h, if_neg (by rw [hp]; simp)]
theorem e_parityA {S : SS} {x : Nat} (h0 : 0 < S.1.length) (h24 : S.1.length < 24) (hp : xPar (cAt S.1 0) = true) : W_parity (actS S (S.1 ++ [x]) S.2.1) (nI 0) = (nI 1, actS S (S.1 ++ [x]) S.2.1) := by
  have e : (actS S (S.1 ++ [x]) S.2.1).1.length = S.1.length + 1 := by show (S.1 ++ [x]).length = _; simp
  refine e_parity1 (by omega) (by omega) ?_
  show xPar (cAt (S.1 ++ [x]) 0) = true
  rw [cAt_app_l h0]; exact hp
theorem At.cf {k : KX} {M : Mem} {S : SS} (h : At k M S) : ∀ n, sCf S = some n → n < 2 ^ 31 := fun n hn => by
  have h1 : n < S.1.length := (build_ok h.vok.1.1.1 h.vok.1.2.1).2 n hn
  have h2 := h.len
  omega
set_option maxHeartbeats 4000000 in
set_option maxRecDepth 100000 in
theorem c_L_odd (l : Launch) (k : KX) (M : Mem) (n : Nat) (hn : n < 256) : CM l yL_odd cL_odd 3 (some .int) { frames := 0, cells := 0, slots := 0, locals := 0 } k [.int (nI n)] M (pP (.int (nI (pcN 8 n % 2))) M) := by
  refine CM.of (by decide) (Nat.le_of_ble_eq_true rfl) (fun C X hCl hCR rq => ?_)
  show V C k 3 (0, 0) M 0 [(0, .int (nI n))] []
  have L4 : ∀ (fu : Nat) (v : Nat) (Mq : Mem), 8 - v < fu → (v ≤ 8) → (Mq = M) → V C k 3 (0, 0) Mq 4 [(2, .int (nI v)), (1, .int (nI (pcN v n % 2))), (0, .int (nI n))] [] := by
    intro fu
    induction fu with
    | zero => intro v Mq hfu; exact absurd hfu (Nat.not_lt_zero _)
    | succ fu ih_L4 =>
      intro v Mq hfu hv hM
      refine v_iload_n X 0 dL_odd_4 rfl ?_
      refine v_bipush X (v := nI 8) (by decide) dL_odd_5 ?_
      refine v_cgeN X 24 (by omega) (by omega) dL_odd_7 (by decide) (fun c_1 => ?_) (fun c_2 => ?_)
      · have hv8 : v = 8 := by omega
        subst hv8
        refine v_iload_n X 1 dL_odd_24 rfl ?_
        exact v_iret X rq ⟨Nat.le_of_ble_eq_true rfl, Nat.le_of_ble_eq_true rfl⟩ rfl dL_odd_25 ⟨rfl, hM⟩
      · refine v_iload_n X 1 dL_odd_10 rfl ?_
        refine v_iload_n X 2 dL_odd_11 rfl ?_
        refine v_iload_n X 0 dL_odd_12 rfl ?_
        refine v_shrN X (by omega) (by omega) dL_odd_13 ?_
        refine v_iconst X (v := nI 1) (by decide) dL_odd_14 ?_
        refine v_andN X dL_odd_15 ?_
        refine v_xorN X dL_odd_16 ?_
        refine v_top (show (Value.int (nI ((pcN v n % 2) ^^^ ((n >>> v) &&& 1))) : Value) = .int (nI (pcN (v + 1) n % 2)) from congrArg _ (congrArg nI (odd_step n v))) ?_
        refine v_istore_n X [(1, .int (nI (pcN (v + 1) n % 2))), (2, .int (nI v)), (0, .int (nI n))] dL_odd_17 (by decide) rfl ?_
        refine v_iinc X (v := nI (v + 1)) 1 [(2, .int (nI (v + 1))), (1, .int (nI (pcN (v + 1) n % 2))), (0, .int (nI n))] dL_odd_18 rfl (nI_1 _) (by decide) rfl ?_
        refine v_goto X 4 dL_odd_21 (by decide) ?_
        exact ih_L4 (v + 1) Mq (by omega) (by omega) hM 
  refine v_iconst X (v := nI 0) (by decide) dL_odd_0 ?_
  refine v_istore_n X [(1, .int (nI 0)), (0, .int (nI n))] dL_odd_1 (by decide) rfl ?_
  refine v_iconst X (v := nI 0) (by decide) dL_odd_2 ?_
  refine v_istore_n X [(2, .int (nI 0)), (1, .int (nI 0)), (0, .int (nI n))] dL_odd_3 (by decide) rfl ?_
  refine v_cast (lv' := [(2, .int (nI 0)), (1, .int (nI (pcN 0 n % 2))), (0, .int (nI n))]) (st' := []) rfl rfl ?_
  exact L4 9 0 M (by omega) (Nat.zero_le _) rfl 
set_option maxHeartbeats 4000000 in
set_option maxRecDepth 100000 in
theorem c_L_undone0 (l : Launch) (hst0 : l.stackTraces = false) (k : KX) (M : Mem) (S : SS) (hA : At k M S) : CB l yL_undone cL_undone 2 (some .boolean) { frames := 8, cells := 1, slots := 6, locals := 176 } k [.ref (ad k 0), .int (nI 0)] M (pI (fun r M' => r = bI true ∧ At k M' S ∧ Fr 0 93 M M')) := by
  refine CB.of (by decide) (Nat.le_of_ble_eq_true rfl) (fun C X hCl hCR rb => ?_)
  show V C k 2 (0, 0) M 0 [(0, .ref (ad k 0)), (1, .int (nI 0))] []
  refine v_iload_n X 1 dL_undone_0 rfl ?_
  refine v_ieqN X 11 (by omega) dL_undone_1 (by decide) (fun _ => ?_) (fun q_1 => absurd (by decide) q_1)
  refine v_iconst X (v := nI 1) (by decide) dL_undone_11 ?_
  refine v_goto X 16 dL_undone_12 (by decide) ?_
  exact v_iret X rb.1 ⟨Nat.le_of_ble_eq_true rfl, Nat.le_of_ble_eq_true rfl⟩ (by decide +kernel) dL_undone_16 ⟨_, rfl, rfl, hA, Fr.rf⟩
set_option maxHeartbeats 4000000 in
set_option maxRecDepth 100000 in
theorem c_L_undone1 (l : Launch) (hst0 : l.stackTraces = false) (k : KX) (M : Mem) (S S2 : SS) {j : Nat} (hj : j < 2 ^ 31 ∧ W_undo S = (nI j, S2)) (hA : At k M S) : CB l yL_undone cL_undone 2 (some .boolean) { frames := 8, cells := 1, slots := 6, locals := 176 } k [.ref (ad k 0), .int (nI 1)] M (pI (fun r M' => r = bI true ∧ At k M' S2 ∧ Fr 0 93 M M')) := by
  refine CB.of (by decide) (Nat.le_of_ble_eq_true rfl) (fun C X hCl hCR rb => ?_)
  show V C k 2 (0, 0) M 0 [(0, .ref (ad k 0)), (1, .int (nI 1))] []
  refine v_iload_n X 1 dL_undone_0 rfl ?_
  refine v_ieqN X 11 (by omega) dL_undone_1 (by decide) (fun q_1 => absurd q_1 (by decide)) (fun _ => ?_)
  refine v_aload_n X 0 dL_undone_4 rfl ?_
  refine v_callL X rb.2.1 rb.2.2.1 hCl hCR (c_L_undo l hst0 k M S hA) mo_L_undo m_542 m_579 m_580 m_581 ⟨Nat.le_of_ble_eq_true rfl, Nat.le_of_ble_eq_true rfl⟩ rfl rfl (Nat.le_of_ble_eq_true rfl) ⟨Nat.le_of_ble_eq_true rfl, Nat.le_of_ble_eq_true rfl⟩ dL_undone_5 (vI_in (fun r_4 M_2 h_3 => ?_))
  refine v_widen (z' := (1, 6)) (Nat.le_of_ble_eq_true rfl) (Nat.le_of_ble_eq_true rfl) ?_
  obtain ⟨hr_5, hA_6, hF_7⟩ := pa_eq (hj.2) h_3
  subst hr_5
  have hFr_8 := Fr.rf.tr hF_7
  refine v_iltN X (by omega) dL_undone_8 ?_
  refine v_iconst X (v := nI 1) (by decide) dL_undone_11 ?_
  refine v_goto X 16 dL_undone_12 (by decide) ?_
  exact v_iret X rb.1 ⟨Nat.le_of_ble_eq_true rfl, Nat.le_of_ble_eq_true rfl⟩ (by decide +kernel) dL_undone_16 ⟨_, rfl, rfl, hA_6, hFr_8⟩
set_option maxHeartbeats 4000000 in
set_option maxRecDepth 100000 in
theorem c_L_now (l : Launch) (hst0 : l.stackTraces = false) (k : KX) (M : Mem) (S : SS) (hA : At k M S) : CB l yL_now cL_now 5 (some .long) { frames := 9, cells := 96, slots := 576, locals := 154 } k [.ref (ad k 0)] M (pJ (fun r M' => r = nowF S ∧ At k M' S ∧ Fr 0 93 M M')) := by
  refine CB.of (by decide) (Nat.le_of_ble_eq_true rfl) (fun C X hCl hCR rb => ?_)
  show V C k 5 (0, 0) M 0 [(0, .ref (ad k 0))] []
  have hN := hA.N
  have hl := hA.len
  have L88 : ∀ (fu : Nat) (v : Nat) (Mq : Mem), 8 - v < fu → (v ≤ 8) → At k Mq S → Fr 0 93 M Mq → V C k 5 (72 + 3 * v, 432 + 18 * v) Mq 88 [(4, .int (nI v)), (2, .long (now2 S v)), (1, .int (nI S.1.length)), (0, .ref (ad k 0))] [] := by
    intro fu
    induction fu with
    | zero => intro v Mq hfu; exact absurd hfu (Nat.not_lt_zero _)
    | succ fu ih_L88 =>
      intro v Mq hfu hv hAq hFq
      refine v_iload X 0 dL_now_88 rfl ?_
      refine v_bipush X (v := nI 8) (by decide) dL_now_90 ?_
      refine v_cgeN X 143 (by omega) (by omega) dL_now_92 (by decide) (fun c_3 => ?_) (fun c_4 => ?_)
      · have hv_ : v = 8 := by omega
        subst hv_
        refine v_lload_n X 1 dL_now_143 rfl ?_
        exact v_lret X rb.1 ⟨(show 72 + 3 * 8 ≤ 96 by omega), (show 432 + 18 * 8 ≤ 576 by omega)⟩ dL_now_144 ⟨_, rfl, rfl, hAq, hFq⟩
      · refine v_ldc2 X m_658 dL_now_95 ?_
        refine v_lload_n X 1 dL_now_98 rfl ?_
        refine v_lmul X dL_now_99 ?_
        refine v_ldc2 X m_659 dL_now_100 ?_
        refine v_lrem X (by decide) dL_now_103 ?_
        refine v_ldc2 X m_660 dL_now_104 ?_
        refine v_aload_n X 3 dL_now_107 rfl ?_
        refine v_iload X 0 dL_now_108 rfl ?_
        refine v_callL X rb.2.1 rb.2.2.1 hCl hCR (c_L_value l hst0 k Mq S (nI v) hAq) mo_L_value m_546 m_611 m_612 m_581 ⟨Nat.le_of_ble_eq_true rfl, Nat.le_of_ble_eq_true rfl⟩ rfl rfl (Nat.le_of_ble_eq_true rfl) ⟨(show 72 + 3 * v + 1 ≤ 96 by omega), (show 432 + 18 * v + 6 ≤ 576 by omega)⟩ dL_now_110 (vI_in (fun r_3 M_1 h_2 => ?_))
        refine v_widen (z' := (72 + 3 * v + 1, 432 + 18 * v + 6)) (show 72 + 3 * v + 1 ≤ 72 + 3 * v + 1 by omega) (show 432 + 18 * v + 6 ≤ 432 + 18 * v + 6 by omega) ?_
        obtain ⟨hr_4, hA_5, hF_6⟩ := pa_eq ((rfl : W_value S (nI v) = ((W_value S (nI v)).1, S))) h_2
        subst hr_4
        have hFr_7 := hFq.tr hF_6
        refine v_i2l X (v := (((W_value S (nI v)).1)).toInt64) rfl dL_now_113 ?_
        refine v_lmul X dL_now_114 ?_
        refine v_ladd X dL_now_115 ?_
        refine v_aload_n X 3 dL_now_116 rfl ?_
        refine v_iload X 0 dL_now_117 rfl ?_
        refine v_callL X rb.2.1 rb.2.2.1 hCl hCR (c_L_reason l hst0 k M_1 S (nI v) hA_5) mo_L_reason m_554 m_615 m_616 m_581 ⟨Nat.le_of_ble_eq_true rfl, Nat.le_of_ble_eq_true rfl⟩ rfl rfl (Nat.le_of_ble_eq_true rfl) ⟨(show 72 + 3 * v + 1 + 1 ≤ 96 by omega), (show 432 + 18 * v + 6 + 6 ≤ 576 by omega)⟩ dL_now_119 (vI_in (fun r_10 M_8 h_9 => ?_))
        refine v_widen (z' := (72 + 3 * v + 2, 432 + 18 * v + 12)) (show 72 + 3 * v + 1 + 1 ≤ 72 + 3 * v + 2 by omega) (show 432 + 18 * v + 6 + 6 ≤ 432 + 18 * v + 12 by omega) ?_
        obtain ⟨hr_11, hA_12, hF_13⟩ := pa_eq ((rfl : W_reason S (nI v) = ((W_reason S (nI v)).1, S))) h_9
        subst hr_11
        have hFr_14 := hFr_7.tr hF_13
        refine v_i2l X (v := (((W_reason S (nI v)).1)).toInt64) rfl dL_now_122 ?_
        refine v_ladd X dL_now_123 ?_
        refine v_ldc2 X m_661 dL_now_124 ?_
        refine v_aload_n X 3 dL_now_127 rfl ?_
        refine v_iload X 0 dL_now_128 rfl ?_
        refine v_callL X rb.2.1 rb.2.2.1 hCl hCR (c_L_trail l hst0 k M_8 S (nI v) hA_12) mo_L_trail m_550 m_613 m_614 m_581 ⟨Nat.le_of_ble_eq_true rfl, Nat.le_of_ble_eq_true rfl⟩ rfl rfl (Nat.le_of_ble_eq_true rfl) ⟨(show 72 + 3 * v + 2 + 1 ≤ 96 by omega), (show 432 + 18 * v + 12 + 6 ≤ 576 by omega)⟩ dL_now_130 (vI_in (fun r_17 M_15 h_16 => ?_))
        refine v_widen (z' := (72 + 3 * v + 3, 432 + 18 * v + 18)) (show 72 + 3 * v + 2 + 1 ≤ 72 + 3 * v + 3 by omega) (show 432 + 18 * v + 12 + 6 ≤ 432 + 18 * v + 18 by omega) ?_
        obtain ⟨hr_18, hA_19, hF_20⟩ := pa_eq ((rfl : W_trail S (nI v) = ((W_trail S (nI v)).1, S))) h_16
        subst hr_18
        have hFr_21 := hFr_14.tr hF_20
        refine v_i2l X (v := (((W_trail S (nI v)).1)).toInt64) rfl dL_now_133 ?_
        refine v_lmul X dL_now_134 ?_
        refine v_ladd X dL_now_135 ?_
        refine v_lstore_n X [(2, .long (((((((113) * now2 S v) - ((113) * now2 S v) / (1000000009) * (1000000009)) + ((40) * (((W_value S (nI v)).1)).toInt64)) + (((W_reason S (nI v)).1)).toInt64) + ((7) * (((W_trail S (nI v)).1)).toInt64)))), (4, .int (nI v)), (1, .int (nI S.1.length)), (0, .ref (ad k 0))] dL_now_136 (by decide) rfl ?_
        refine v_iinc X (v := nI (v + 1)) 1 [(4, .int (nI (v + 1))), (2, .long (((((((113) * now2 S v) - ((113) * now2 S v) / (1000000009) * (1000000009)) + ((40) * (((W_value S (nI v)).1)).toInt64)) + (((W_reason S (nI v)).1)).toInt64) + ((7) * (((W_trail S (nI v)).1)).toInt64)))), (1, .int (nI S.1.length)), (0, .ref (ad k 0))] dL_now_137 rfl (nI_1 _) (by decide) rfl ?_
        refine v_goto X 88 dL_now_140 (by decide) ?_
        refine v_widen (z' := (72 + 3 * (v + 1), 432 + 18 * (v + 1))) (show 72 + 3 * v + 3 ≤ 72 + 3 * (v + 1) by omega) (show 432 + 18 * v + 18 ≤ 432 + 18 * (v + 1) by omega) ?_
        exact ih_L88 (v + 1) M_15 (by omega) (by omega) hA_19 hFr_21
  have L31 : ∀ (fu : Nat) (i : Nat) (Mq : Mem), S.1.length - i < fu → (i ≤ S.1.length) → At k Mq S → Fr 0 93 M Mq → V C k 5 (3 * i, 18 * i) Mq 31 [(4, .int (nI i)), (2, .long (now1 S i)), (1, .int (nI S.1.length)), (0, .ref (ad k 0))] [] := by
    intro fu
    induction fu with
    | zero => intro i Mq hfu; exact absurd hfu (Nat.not_lt_zero _)
    | succ fu ih_L31 =>
      intro i Mq hfu hi hAq hFq
      refine v_iload X 0 dL_now_31 rfl ?_
      refine v_iload_n X 2 dL_now_33 rfl ?_
      refine v_cgeN X 85 (by omega) (by omega) dL_now_34 (by decide) (fun c_1 => ?_) (fun c_2 => ?_)
      · have hi_ : i = S.1.length := by omega
        subst hi_
        refine v_iconst X (v := nI 0) (by decide) dL_now_85 ?_
        refine v_istore X [(4, .int (nI 0)), (2, .long (now1 S S.1.length)), (1, .int (nI S.1.length)), (0, .ref (ad k 0))] dL_now_86 (by decide) rfl ?_
        refine v_widen (z' := (72 + 3 * 0, 432 + 18 * 0)) (show 3 * S.1.length ≤ 72 + 3 * 0 by omega) (show 18 * S.1.length ≤ 432 + 18 * 0 by omega) ?_
        exact L88 9 0 Mq (by omega) (Nat.zero_le _) hAq hFq
      · refine v_ldc2 X m_654 dL_now_37 ?_
        refine v_lload_n X 1 dL_now_40 rfl ?_
        refine v_lmul X dL_now_41 ?_
        refine v_ldc2 X m_655 dL_now_42 ?_
        refine v_lrem X (by decide) dL_now_45 ?_
        refine v_ldc2 X m_656 dL_now_46 ?_
        refine v_aload_n X 3 dL_now_49 rfl ?_
        refine v_iload X 0 dL_now_50 rfl ?_
        refine v_callL X rb.2.1 rb.2.2.1 hCl hCR (c_L_parity l hst0 k Mq S (nI i) hAq) mo_L_parity m_498 m_588 m_589 m_581 ⟨Nat.le_of_ble_eq_true rfl, Nat.le_of_ble_eq_true rfl⟩ rfl rfl (Nat.le_of_ble_eq_true rfl) ⟨(show 3 * i + 1 ≤ 96 by omega), (show 18 * i + 6 ≤ 576 by omega)⟩ dL_now_52 (vI_in (fun r_24 M_22 h_23 => ?_))
        refine v_widen (z' := (3 * i + 1, 18 * i + 6)) (show 3 * i + 1 ≤ 3 * i + 1 by omega) (show 18 * i + 6 ≤ 18 * i + 6 by omega) ?_
        obtain ⟨hr_25, hA_26, hF_27⟩ := pa_eq ((rfl : W_parity S (nI i) = ((W_parity S (nI i)).1, S))) h_23
        subst hr_25
        have hFr_28 := hFq.tr hF_27
        refine v_i2l X (v := (((W_parity S (nI i)).1)).toInt64) rfl dL_now_55 ?_
        refine v_lmul X dL_now_56 ?_
        refine v_ladd X dL_now_57 ?_
        refine v_ldc2 X m_657 dL_now_58 ?_
        refine v_aload_n X 3 dL_now_61 rfl ?_
        refine v_iload X 0 dL_now_62 rfl ?_
        refine v_callL X rb.2.1 rb.2.2.1 hCl hCR (c_L_first l hst0 k M_22 S (nI i) hA_26) mo_L_first m_502 m_590 m_591 m_581 ⟨Nat.le_of_ble_eq_true rfl, Nat.le_of_ble_eq_true rfl⟩ rfl rfl (Nat.le_of_ble_eq_true rfl) ⟨(show 3 * i + 1 + 1 ≤ 96 by omega), (show 18 * i + 6 + 6 ≤ 576 by omega)⟩ dL_now_64 (vI_in (fun r_31 M_29 h_30 => ?_))
        refine v_widen (z' := (3 * i + 2, 18 * i + 12)) (show 3 * i + 1 + 1 ≤ 3 * i + 2 by omega) (show 18 * i + 6 + 6 ≤ 18 * i + 12 by omega) ?_
        obtain ⟨hr_32, hA_33, hF_34⟩ := pa_eq ((rfl : W_first S (nI i) = ((W_first S (nI i)).1, S))) h_30
        subst hr_32
        have hFr_35 := hFr_28.tr hF_34
        refine v_i2l X (v := (((W_first S (nI i)).1)).toInt64) rfl dL_now_67 ?_
        refine v_lmul X dL_now_68 ?_
        refine v_ladd X dL_now_69 ?_
        refine v_aload_n X 3 dL_now_70 rfl ?_
        refine v_iload X 0 dL_now_71 rfl ?_
        refine v_callL X rb.2.1 rb.2.2.1 hCl hCR (c_L_second l hst0 k M_29 S (nI i) hA_33) mo_L_second m_506 m_592 m_593 m_581 ⟨Nat.le_of_ble_eq_true rfl, Nat.le_of_ble_eq_true rfl⟩ rfl rfl (Nat.le_of_ble_eq_true rfl) ⟨(show 3 * i + 2 + 1 ≤ 96 by omega), (show 18 * i + 12 + 6 ≤ 576 by omega)⟩ dL_now_73 (vI_in (fun r_38 M_36 h_37 => ?_))
        refine v_widen (z' := (3 * i + 3, 18 * i + 18)) (show 3 * i + 2 + 1 ≤ 3 * i + 3 by omega) (show 18 * i + 12 + 6 ≤ 18 * i + 18 by omega) ?_
        obtain ⟨hr_39, hA_40, hF_41⟩ := pa_eq ((rfl : W_second S (nI i) = ((W_second S (nI i)).1, S))) h_37
        subst hr_39
        have hFr_42 := hFr_35.tr hF_41
        refine v_i2l X (v := (((W_second S (nI i)).1)).toInt64) rfl dL_now_76 ?_
        refine v_ladd X dL_now_77 ?_
        refine v_lstore_n X [(2, .long (((((((1009) * now1 S i) - ((1009) * now1 S i) / (1000000007) * (1000000007)) + ((70000) * (((W_parity S (nI i)).1)).toInt64)) + ((257) * (((W_first S (nI i)).1)).toInt64)) + (((W_second S (nI i)).1)).toInt64))), (4, .int (nI i)), (1, .int (nI S.1.length)), (0, .ref (ad k 0))] dL_now_78 (by decide) rfl ?_
        refine v_iinc X (v := nI (i + 1)) 1 [(4, .int (nI (i + 1))), (2, .long (((((((1009) * now1 S i) - ((1009) * now1 S i) / (1000000007) * (1000000007)) + ((70000) * (((W_parity S (nI i)).1)).toInt64)) + ((257) * (((W_first S (nI i)).1)).toInt64)) + (((W_second S (nI i)).1)).toInt64))), (1, .int (nI S.1.length)), (0, .ref (ad k 0))] dL_now_79 rfl (nI_1 _) (by decide) rfl ?_
        refine v_goto X 31 dL_now_82 (by decide) ?_
        refine v_widen (z' := (3 * (i + 1), 18 * (i + 1))) (show 3 * i + 3 ≤ 3 * (i + 1) by omega) (show 18 * i + 18 ≤ 18 * (i + 1) by omega) ?_
        exact ih_L31 (i + 1) M_36 (by omega) (by omega) hA_40 hFr_42
  refine v_aload_n X 0 dL_now_0 rfl ?_
  refine v_callV X hCl hCR (c_X7_constraintCount l k M S.1 S.2.1 S.2.2.1 S.2.2.2.1 S.2.2.2.2 hA) cls7 hA.obj (by omega) mo_X7_constraintCount m_302 m_583 m_584 m_585 m_21 (by decide) rfl rfl (Nat.le_of_ble_eq_true rfl) ⟨rfl, rfl⟩ ⟨Nat.le_of_ble_eq_true rfl, Nat.le_of_ble_eq_true rfl⟩ dL_now_1 (vI_in (fun r_45 M_43 h_44 => ?_))
  obtain ⟨hr_46, hA_47, hF_48⟩ : r_45 = nI S.1.length ∧ At k M_43 S ∧ Fr 0 93 M M_43 := h_44
  subst hr_46
  have hFr_49 := Fr.rf.tr hF_48
  refine v_istore_n X [(1, .int (nI S.1.length)), (0, .ref (ad k 0))] dL_now_4 (by decide) rfl ?_
  refine v_ldc2 X m_652 dL_now_5 ?_
  refine v_iload_n X 0 dL_now_8 rfl ?_
  refine v_i2l X (v := (nI S.1.length).toInt64) rfl dL_now_9 ?_
  refine v_lmul X dL_now_10 ?_
  refine v_ldc2 X m_653 dL_now_11 ?_
  refine v_aload_n X 1 dL_now_14 rfl ?_
  refine v_callV X hCl hCR (c_X7_level l k M_43 S.1 S.2.1 S.2.2.1 S.2.2.2.1 S.2.2.2.2 hA_47) cls7 hA_47.obj (by omega) mo_X7_level m_383 m_606 m_607 m_608 m_21 (by decide) rfl rfl (Nat.le_of_ble_eq_true rfl) ⟨rfl, rfl⟩ ⟨Nat.le_of_ble_eq_true rfl, Nat.le_of_ble_eq_true rfl⟩ dL_now_15 (vI_in (fun r_52 M_50 h_51 => ?_))
  obtain ⟨hr_53, hA_54, hF_55⟩ : r_52 = nI S.2.1.length ∧ At k M_50 S ∧ Fr 0 93 M_43 M_50 := h_51
  subst hr_53
  have hFr_56 := hFr_49.tr hF_55
  refine v_i2l X (v := (nI S.2.1.length).toInt64) rfl dL_now_18 ?_
  refine v_lmul X dL_now_19 ?_
  refine v_ladd X dL_now_20 ?_
  refine v_aload_n X 1 dL_now_21 rfl ?_
  refine v_callV X hCl hCR (c_X7_conflict l k M_50 S.1 S.2.1 S.2.2.1 S.2.2.2.1 S.2.2.2.2 hA_54) cls7 hA_54.obj (by omega) mo_X7_conflict m_392 m_628 m_629 m_630 m_21 (by decide) rfl rfl (Nat.le_of_ble_eq_true rfl) ⟨rfl, rfl⟩ ⟨Nat.le_of_ble_eq_true rfl, Nat.le_of_ble_eq_true rfl⟩ dL_now_22 (vI_in (fun r_59 M_57 h_58 => ?_))
  obtain ⟨hr_60, hA_61, hF_62⟩ : r_59 = oI (sCf S) ∧ At k M_57 S ∧ Fr 0 93 M_50 M_57 := h_58
  subst hr_60
  have hFr_63 := hFr_56.tr hF_62
  refine v_i2l X (v := (oI (sCf S)).toInt64) rfl dL_now_25 ?_
  refine v_ladd X dL_now_26 ?_
  refine v_lstore_n X [(2, .long (((((100) * (nI S.1.length).toInt64) + ((10) * (nI S.2.1.length).toInt64)) + (oI (sCf S)).toInt64))), (1, .int (nI S.1.length)), (0, .ref (ad k 0))] dL_now_27 (by decide) rfl ?_
  refine v_iconst X (v := nI 0) (by decide) dL_now_28 ?_
  refine v_istore X [(4, .int (nI 0)), (2, .long (((((100) * (nI S.1.length).toInt64) + ((10) * (nI S.2.1.length).toInt64)) + (oI (sCf S)).toInt64))), (1, .int (nI S.1.length)), (0, .ref (ad k 0))] dL_now_29 (by decide) rfl ?_
  refine v_widen (z' := (3 * 0, 18 * 0)) (show 0 ≤ 3 * 0 by omega) (show 0 ≤ 18 * 0 by omega) ?_
  exact L31 (S.1.length + 1) 0 M_57 (by omega) (Nat.zero_le _) hA_61 hFr_63
theorem hv_pf {x a : Nat} (hp : xPar x = true) (h : pcN 8 (xFirst x &&& a) % 2 ≠ xSecond x) : nI 0 = bI (!xViol x a) := by rw [(viol_par hp).mpr h]; rfl
theorem hv_pt {x a : Nat} (hp : xPar x = true) (h : pcN 8 (xFirst x &&& a) % 2 = xSecond x) : nI 1 = bI (!xViol x a) := by
  cases hv : xViol x a with
  | false => rfl
  | true => exact absurd h ((viol_par hp).mp hv)
theorem hv_clN {x a : Nat} (hp : xPar x = false) : xViol x a = decide (xFirst x &&& a ||| mdiff (xSecond x) a = 0) := by
  unfold xViol
  rw [if_neg (by simp [hp])]
  refine bool_of ?_
  rw [Bool.and_eq_true, decide_eq_true_eq, decide_eq_true_eq, decide_eq_true_eq]
  exact Nat.or_eq_zero_iff.symm
theorem hv_cf {x a : Nat} (hp : xPar x = false) (h : xFirst x &&& a ||| xSecond x &&& (a ^^^ 4294967295) = 0) : nI 0 = bI (!xViol x a) := by
  rw [hv_clN hp, decide_eq_true (show xFirst x &&& a ||| mdiff (xSecond x) a = 0 from h)]; rfl
theorem hv_ct {x a : Nat} (hp : xPar x = false) (h : xFirst x &&& a ||| xSecond x &&& (a ^^^ 4294967295) ≠ 0) : nI 1 = bI (!xViol x a) := by
  rw [hv_clN hp, decide_eq_false (show ¬ (xFirst x &&& a ||| mdiff (xSecond x) a = 0) from h)]; rfl
set_option maxHeartbeats 4000000 in
set_option maxRecDepth 100000 in
theorem c_L_holds (l : Launch) (hst0 : l.stackTraces = false) (k : KX) (M : Mem) (S : SS) (i a : Nat) (hia : i < S.1.length ∧ a < 256) (hA : At k M S) : CB l yL_holds cL_holds 5 (some .boolean) { frames := 9, cells := 3, slots := 18, locals := 154 } k [.ref (ad k 0), .int (nI i), .int (nI a)] M (pI (fun r M' => r = bI (!xViol (cAt S.1 i) a) ∧ At k M' S ∧ Fr 0 93 M M')) := by
  refine CB.of (by decide) (Nat.le_of_ble_eq_true rfl) (fun C X hCl hCR rb => ?_)
  show V C k 5 (0, 0) M 0 [(0, .ref (ad k 0)), (1, .int (nI i)), (2, .int (nI a))] []
  have hN := hA.N
  have hl := hA.len
  obtain ⟨hi, ha⟩ := hia
  refine v_aload_n X 0 dL_holds_0 rfl ?_
  refine v_iload_n X 1 dL_holds_1 rfl ?_
  refine v_callL X rb.2.1 rb.2.2.1 hCl hCR (c_L_first l hst0 k M S (nI i) hA) mo_L_first m_502 m_590 m_591 m_581 ⟨Nat.le_of_ble_eq_true rfl, Nat.le_of_ble_eq_true rfl⟩ rfl rfl (Nat.le_of_ble_eq_true rfl) ⟨Nat.le_of_ble_eq_true rfl, Nat.le_of_ble_eq_true rfl⟩ dL_holds_2 (vI_in (fun r_3 M_1 h_2 => ?_))
  refine v_widen (z' := (1, 6)) (Nat.le_of_ble_eq_true rfl) (Nat.le_of_ble_eq_true rfl) ?_
  obtain ⟨hr_4, hA_5, hF_6⟩ := pa_eq (e_first hl hi) h_2
  subst hr_4
  have hFr_7 := Fr.rf.tr hF_6
  refine v_istore_n X [(3, .int (nI (xFirst (cAt S.1 i)))), (0, .ref (ad k 0)), (1, .int (nI i)), (2, .int (nI a))] dL_holds_5 (by decide) rfl ?_
  refine v_aload_n X 1 dL_holds_6 rfl ?_
  refine v_iload_n X 2 dL_holds_7 rfl ?_
  refine v_callL X rb.2.1 rb.2.2.1 hCl hCR (c_L_second l hst0 k M_1 S (nI i) hA_5) mo_L_second m_506 m_592 m_593 m_581 ⟨Nat.le_of_ble_eq_true rfl, Nat.le_of_ble_eq_true rfl⟩ rfl rfl (Nat.le_of_ble_eq_true rfl) ⟨Nat.le_of_ble_eq_true rfl, Nat.le_of_ble_eq_true rfl⟩ dL_holds_8 (vI_in (fun r_10 M_8 h_9 => ?_))
  refine v_widen (z' := (2, 12)) (Nat.le_of_ble_eq_true rfl) (Nat.le_of_ble_eq_true rfl) ?_
  obtain ⟨hr_11, hA_12, hF_13⟩ := pa_eq (e_second hl hi) h_9
  subst hr_11
  have hFr_14 := hFr_7.tr hF_13
  refine v_istore X [(4, .int (nI (xSecond (cAt S.1 i)))), (3, .int (nI (xFirst (cAt S.1 i)))), (0, .ref (ad k 0)), (1, .int (nI i)), (2, .int (nI a))] dL_holds_11 (by decide) rfl ?_
  by_cases hp : xPar (cAt S.1 i) = true
  · refine v_aload_n X 2 dL_holds_13 rfl ?_
    refine v_iload_n X 3 dL_holds_14 rfl ?_
    refine v_callL X rb.2.1 rb.2.2.1 hCl hCR (c_L_parity l hst0 k M_8 S (nI i) hA_12) mo_L_parity m_498 m_588 m_589 m_581 ⟨Nat.le_of_ble_eq_true rfl, Nat.le_of_ble_eq_true rfl⟩ rfl rfl (Nat.le_of_ble_eq_true rfl) ⟨Nat.le_of_ble_eq_true rfl, Nat.le_of_ble_eq_true rfl⟩ dL_holds_15 (vI_in (fun r_17 M_15 h_16 => ?_))
    refine v_widen (z' := (3, 18)) (Nat.le_of_ble_eq_true rfl) (Nat.le_of_ble_eq_true rfl) ?_
    obtain ⟨hr_18, hA_19, hF_20⟩ := pa_eq (e_parity1 hl hi hp) h_16
    subst hr_18
    have hFr_21 := hFr_14.tr hF_20
    refine v_iconst X (v := nI 1) (by decide) dL_holds_18 ?_
    refine v_cneN X 41 (by omega) (by omega) dL_holds_19 (by decide) (fun q_22 => absurd rfl q_22) (fun _ => ?_)
    refine v_iload_n X 1 dL_holds_22 rfl ?_
    refine v_iload_n X 4 dL_holds_23 rfl ?_
    refine v_andN X dL_holds_24 ?_
    refine v_callS X hCl hCR (c_L_odd l k M_15 ((xFirst (cAt S.1 i)) &&& a) (and_lt ha)) mo_L_odd m_b5 m_679 m_680 m_581 (by decide) rfl rfl (Nat.le_of_ble_eq_true rfl) ⟨rfl, rfl⟩ ⟨Nat.le_of_ble_eq_true rfl, Nat.le_of_ble_eq_true rfl⟩ dL_holds_25 (vP_in ?_)
    refine v_iload X 0 dL_holds_28 rfl ?_
    refine v_cneN X 37 (by have := pc2_lt (n := xFirst (cAt S.1 i) &&& a) (v := 8); omega) (by have := xSecond_lt (cAt S.1 i); omega) dL_holds_30 (by decide) (fun c_1 => ?_) (fun c_2 => ?_)
    · refine v_iconst X (v := nI 0) (by decide) dL_holds_37 ?_
      refine v_goto X 59 dL_holds_38 (by decide) ?_
      exact v_iret X rb.1 ⟨Nat.le_of_ble_eq_true rfl, Nat.le_of_ble_eq_true rfl⟩ (by decide +kernel) dL_holds_59 ⟨_, rfl, (hv_pf hp c_1), hA_19, hFr_21⟩
    · refine v_iconst X (v := nI 1) (by decide) dL_holds_33 ?_
      refine v_goto X 59 dL_holds_34 (by decide) ?_
      exact v_iret X rb.1 ⟨Nat.le_of_ble_eq_true rfl, Nat.le_of_ble_eq_true rfl⟩ (by decide +kernel) dL_holds_59 ⟨_, rfl, (hv_pt hp c_2), hA_19, hFr_21⟩
  · have hp : xPar (cAt S.1 i) = false := by simpa using hp
    refine v_aload_n X 2 dL_holds_13 rfl ?_
    refine v_iload_n X 3 dL_holds_14 rfl ?_
    refine v_callL X rb.2.1 rb.2.2.1 hCl hCR (c_L_parity l hst0 k M_8 S (nI i) hA_12) mo_L_parity m_498 m_588 m_589 m_581 ⟨Nat.le_of_ble_eq_true rfl, Nat.le_of_ble_eq_true rfl⟩ rfl rfl (Nat.le_of_ble_eq_true rfl) ⟨Nat.le_of_ble_eq_true rfl, Nat.le_of_ble_eq_true rfl⟩ dL_holds_15 (vI_in (fun r_25 M_23 h_24 => ?_))
    refine v_widen (z' := (3, 18)) (Nat.le_of_ble_eq_true rfl) (Nat.le_of_ble_eq_true rfl) ?_
    obtain ⟨hr_26, hA_27, hF_28⟩ := pa_eq (e_parity0 hl hi hp) h_24
    subst hr_26
    have hFr_29 := hFr_14.tr hF_28
    refine v_iconst X (v := nI 1) (by decide) dL_holds_18 ?_
    refine v_cneN X 41 (by omega) (by omega) dL_holds_19 (by decide) (fun _ => ?_) (fun q_30 => absurd q_30 (by decide))
    refine v_iload_n X 1 dL_holds_41 rfl ?_
    refine v_iload_n X 4 dL_holds_42 rfl ?_
    refine v_andN X dL_holds_43 ?_
    refine v_iload X 0 dL_holds_44 rfl ?_
    refine v_iload_n X 4 dL_holds_46 rfl ?_
    refine v_iconst X (v := nI 4294967295) (by decide) dL_holds_47 ?_
    refine v_xorN X dL_holds_48 ?_
    refine v_andN X dL_holds_49 ?_
    refine v_orN X dL_holds_50 ?_
    refine v_ieqN X 58 (Nat.lt_of_lt_of_le (or_lt256 (and_lt ha) (mdiff_lt (xSecond_lt _))) (by decide)) dL_holds_51 (by decide) (fun c_3 => ?_) (fun c_4 => ?_)
    · refine v_iconst X (v := nI 0) (by decide) dL_holds_58 ?_
      exact v_iret X rb.1 ⟨Nat.le_of_ble_eq_true rfl, Nat.le_of_ble_eq_true rfl⟩ (by decide +kernel) dL_holds_59 ⟨_, rfl, (hv_cf hp c_3), hA_27, hFr_29⟩
    · refine v_iconst X (v := nI 1) (by decide) dL_holds_54 ?_
      refine v_goto X 59 dL_holds_55 (by decide) ?_
      exact v_iret X rb.1 ⟨Nat.le_of_ble_eq_true rfl, Nat.le_of_ble_eq_true rfl⟩ (by decide +kernel) dL_holds_59 ⟨_, rfl, (hv_ct hp c_4), hA_27, hFr_29⟩
set_option maxHeartbeats 4000000 in
set_option maxRecDepth 100000 in
theorem c_L_errors (l : Launch) (hst0 : l.stackTraces = false) (k : KX) (M : Mem) (S : SS) (hm : S.2.2.1 = []) (hA : At k M S) : CB l yL_errors cL_errors 3 (some .boolean) { frames := 9, cells := 140, slots := 900, locals := 208 } k [.ref (ad k 0)] M (pI (fun r M' => r = bI true ∧ At k M' S ∧ Fr 0 93 M M')) := by
  refine CB.of (by decide) (Nat.le_of_ble_eq_true rfl) (fun C X hCl hCR rb => ?_)
  show V C k 3 (0, 0) M 0 [(0, .ref (ad k 0))] []
  have hN := hA.N
  have hl := hA.len
  have hd := hA.dlen
  have ht8 := hA.tlen
  have hv := hA.vok
  have hcf := hA.cf
  have B485 : ∀  (Mq : Mem), At k Mq S → Fr 0 93 M Mq → V C k 3 (140, 900) Mq 485 [(1, .int (nI S.1.length)), (0, .ref (ad k 0))] [] := by
    intro  Mq hAq hFq
    refine v_iconst X (v := nI 1) (by decide) dL_errors_485 ?_
    refine v_goto X 490 dL_errors_486 (by decide) ?_
    exact v_iret X rb.1 ⟨Nat.le_of_ble_eq_true rfl, Nat.le_of_ble_eq_true rfl⟩ (by decide +kernel) dL_errors_490 ⟨_, rfl, rfl, hAq, hFq⟩
  have B415 : ∀  (Mq : Mem), At k Mq S → Fr 0 93 M Mq → V C k 3 (110, 700) Mq 415 [(1, .int (nI S.1.length)), (0, .ref (ad k 0))] [] := by
    intro  Mq hAq hFq
    refine v_iload_n X 0 dL_errors_415 rfl ?_
    refine v_ieqN X 485 (by omega) dL_errors_416 (by decide) (fun hn4 => ?_) (fun hn5 => ?_)
    · refine v_widen (z' := (140, 900)) (Nat.le_of_ble_eq_true rfl) (Nat.le_of_ble_eq_true rfl) ?_
      exact B485  Mq  hAq hFq
    · by_cases hp : xPar (cAt S.1 0) = true
      · by_cases h24 : S.1.length < 24
        · refine v_aload_n X 1 dL_errors_419 rfl ?_
          refine v_iconst X (v := nI 0) (by decide) dL_errors_420 ?_
          refine v_callL X rb.2.1 rb.2.2.1 hCl hCR (c_L_parity l hst0 k Mq S (nI 0) hAq) mo_L_parity m_498 m_588 m_589 m_581 ⟨Nat.le_of_ble_eq_true rfl, Nat.le_of_ble_eq_true rfl⟩ rfl rfl (Nat.le_of_ble_eq_true rfl) ⟨Nat.le_of_ble_eq_true rfl, Nat.le_of_ble_eq_true rfl⟩ dL_errors_421 (vI_in (fun r_3 M_1 h_2 => ?_))
          refine v_widen (z' := (111, 706)) (Nat.le_of_ble_eq_true rfl) (Nat.le_of_ble_eq_true rfl) ?_
          obtain ⟨hr_4, hA_5, hF_6⟩ := pa_eq (e_parity1 hl (by omega) hp) h_2
          subst hr_4
          have hFr_7 := hFq.tr hF_6
          refine v_iconst X (v := nI 1) (by decide) dL_errors_424 ?_
          refine v_cneN X 438 (by omega) (by omega) dL_errors_425 (by decide) (fun q_8 => absurd rfl q_8) (fun _ => ?_)
          refine v_iload_n X 0 dL_errors_428 rfl ?_
          refine v_bipush X (v := nI 24) (by decide) dL_errors_429 ?_
          refine v_cgeN X 438 (by omega) (by omega) dL_errors_431 (by decide) (fun q_9 => absurd q_9 (by omega)) (fun _ => ?_)
          refine v_iconst X (v := nI 1) (by decide) dL_errors_434 ?_
          refine v_goto X 439 dL_errors_435 (by decide) ?_
          refine v_aload_n X 1 dL_errors_439 rfl ?_
          refine v_iconst X (v := nI 0) (by decide) dL_errors_440 ?_
          refine v_iconst X (v := nI 0) (by decide) dL_errors_441 ?_
          refine v_callL X rb.2.1 rb.2.2.1 hCl hCR (c_L_sum l hst0 k M_1 S (nI 0) (nI 0) hA_5) mo_L_sum m_526 m_602 m_603 m_581 ⟨Nat.le_of_ble_eq_true rfl, Nat.le_of_ble_eq_true rfl⟩ rfl rfl (Nat.le_of_ble_eq_true rfl) ⟨Nat.le_of_ble_eq_true rfl, Nat.le_of_ble_eq_true rfl⟩ dL_errors_442 (vI_in (fun r_12 M_10 h_11 => ?_))
          refine v_widen (z' := (115, 730)) (Nat.le_of_ble_eq_true rfl) (Nat.le_of_ble_eq_true rfl) ?_
          obtain ⟨hr_13, hA_14, hF_15⟩ := pa_eq (e_sumT hl (by omega) (by omega) ⟨hp, hp, h24⟩) h_11
          subst hr_13
          have hFr_16 := hFr_7.tr hF_15
          refine v_bipush X (v := (-103)) (by decide) dL_errors_445 ?_
          refine v_icmp_eq X 454 dL_errors_447 (by decide) (fun q_17 => absurd q_17 (nI_ne (by omega) (by decide))) (fun _ => ?_)
          refine v_iconst X (v := nI 1) (by decide) dL_errors_450 ?_
          refine v_goto X 455 dL_errors_451 (by decide) ?_
          refine v_cneN X 489 (by omega) (by omega) dL_errors_455 (by decide) (fun q_18 => absurd rfl q_18) (fun _ => ?_)
          refine v_aload_n X 1 dL_errors_458 rfl ?_
          refine v_aload_n X 1 dL_errors_459 rfl ?_
          refine v_iconst X (v := nI 0) (by decide) dL_errors_460 ?_
          refine v_callL X rb.2.1 rb.2.2.1 hCl hCR (c_L_parity l hst0 k M_10 (actS S (S.1 ++ [smX S.1 0 0]) S.2.1) (nI 0) hA_14) mo_L_parity m_498 m_588 m_589 m_581 ⟨Nat.le_of_ble_eq_true rfl, Nat.le_of_ble_eq_true rfl⟩ rfl rfl (Nat.le_of_ble_eq_true rfl) ⟨Nat.le_of_ble_eq_true rfl, Nat.le_of_ble_eq_true rfl⟩ dL_errors_461 (vI_in (fun r_21 M_19 h_20 => ?_))
          refine v_widen (z' := (116, 736)) (Nat.le_of_ble_eq_true rfl) (Nat.le_of_ble_eq_true rfl) ?_
          obtain ⟨hr_22, hA_23, hF_24⟩ := pa_eq (e_parityA (by omega) h24 hp) h_20
          subst hr_22
          have hFr_25 := hFr_16.tr hF_24
          refine v_iconst X (v := nI 1) (by decide) dL_errors_464 ?_
          refine v_cneN X 478 (by omega) (by omega) dL_errors_465 (by decide) (fun q_26 => absurd rfl q_26) (fun _ => ?_)
          refine v_iload_n X 0 dL_errors_468 rfl ?_
          refine v_bipush X (v := nI 24) (by decide) dL_errors_469 ?_
          refine v_cgeN X 478 (by omega) (by omega) dL_errors_471 (by decide) (fun q_27 => absurd q_27 (by omega)) (fun _ => ?_)
          refine v_iconst X (v := nI 1) (by decide) dL_errors_474 ?_
          refine v_goto X 479 dL_errors_475 (by decide) ?_
          refine v_callB X rb.2 hCl hCR (c_L_undone1 l hst0 k M_19 (actS S (S.1 ++ [smX S.1 0 0]) S.2.1) S ⟨(by decide), e_undo0 hv hm _ _⟩ hA_23) mo_L_undone m_582 m_640 m_641 m_581 ⟨Nat.le_of_ble_eq_true rfl, Nat.le_of_ble_eq_true rfl⟩ rfl rfl (Nat.le_of_ble_eq_true rfl) ⟨Nat.le_of_ble_eq_true rfl, Nat.le_of_ble_eq_true rfl⟩ dL_errors_479 (vI_in (fun r_30 M_28 h_29 => ?_))
          refine v_widen (z' := (117, 742)) (Nat.le_of_ble_eq_true rfl) (Nat.le_of_ble_eq_true rfl) ?_
          obtain ⟨hr_31, hA_32, hF_33⟩ := h_29
          subst hr_31
          have hFr_34 := hFr_25.tr hF_33
          refine v_ieqB X 489 dL_errors_482 (by decide) (fun q_35 => absurd q_35 (by simp)) (fun _ => ?_)
          refine v_widen (z' := (140, 900)) (Nat.le_of_ble_eq_true rfl) (Nat.le_of_ble_eq_true rfl) ?_
          exact B485  M_28  hA_32 hFr_34
        · refine v_aload_n X 1 dL_errors_419 rfl ?_
          refine v_iconst X (v := nI 0) (by decide) dL_errors_420 ?_
          refine v_callL X rb.2.1 rb.2.2.1 hCl hCR (c_L_parity l hst0 k Mq S (nI 0) hAq) mo_L_parity m_498 m_588 m_589 m_581 ⟨Nat.le_of_ble_eq_true rfl, Nat.le_of_ble_eq_true rfl⟩ rfl rfl (Nat.le_of_ble_eq_true rfl) ⟨Nat.le_of_ble_eq_true rfl, Nat.le_of_ble_eq_true rfl⟩ dL_errors_421 (vI_in (fun r_38 M_36 h_37 => ?_))
          refine v_widen (z' := (111, 706)) (Nat.le_of_ble_eq_true rfl) (Nat.le_of_ble_eq_true rfl) ?_
          obtain ⟨hr_39, hA_40, hF_41⟩ := pa_eq (e_parity1 hl (by omega) hp) h_37
          subst hr_39
          have hFr_42 := hFq.tr hF_41
          refine v_iconst X (v := nI 1) (by decide) dL_errors_424 ?_
          refine v_cneN X 438 (by omega) (by omega) dL_errors_425 (by decide) (fun q_43 => absurd rfl q_43) (fun _ => ?_)
          refine v_iload_n X 0 dL_errors_428 rfl ?_
          refine v_bipush X (v := nI 24) (by decide) dL_errors_429 ?_
          refine v_cgeN X 438 (by omega) (by omega) dL_errors_431 (by decide) (fun _ => ?_) (fun q_44 => absurd q_44 (by omega))
          refine v_iconst X (v := nI 0) (by decide) dL_errors_438 ?_
          refine v_aload_n X 1 dL_errors_439 rfl ?_
          refine v_iconst X (v := nI 0) (by decide) dL_errors_440 ?_
          refine v_iconst X (v := nI 0) (by decide) dL_errors_441 ?_
          refine v_callL X rb.2.1 rb.2.2.1 hCl hCR (c_L_sum l hst0 k M_36 S (nI 0) (nI 0) hA_40) mo_L_sum m_526 m_602 m_603 m_581 ⟨Nat.le_of_ble_eq_true rfl, Nat.le_of_ble_eq_true rfl⟩ rfl rfl (Nat.le_of_ble_eq_true rfl) ⟨Nat.le_of_ble_eq_true rfl, Nat.le_of_ble_eq_true rfl⟩ dL_errors_442 (vI_in (fun r_47 M_45 h_46 => ?_))
          refine v_widen (z' := (115, 730)) (Nat.le_of_ble_eq_true rfl) (Nat.le_of_ble_eq_true rfl) ?_
          obtain ⟨hr_48, hA_49, hF_50⟩ := pa_eq (e_sumF hl (by omega) (by omega) (fun q => h24 q.2.2)) h_46
          subst hr_48
          have hFr_51 := hFr_42.tr hF_50
          refine v_bipush X (v := (-103)) (by decide) dL_errors_445 ?_
          refine v_icmp_eq X 454 dL_errors_447 (by decide) (fun _ => ?_) (fun q_52 => absurd rfl q_52)
          refine v_iconst X (v := nI 0) (by decide) dL_errors_454 ?_
          refine v_cneN X 489 (by omega) (by omega) dL_errors_455 (by decide) (fun q_53 => absurd rfl q_53) (fun _ => ?_)
          refine v_aload_n X 1 dL_errors_458 rfl ?_
          refine v_aload_n X 1 dL_errors_459 rfl ?_
          refine v_iconst X (v := nI 0) (by decide) dL_errors_460 ?_
          refine v_callL X rb.2.1 rb.2.2.1 hCl hCR (c_L_parity l hst0 k M_45 S (nI 0) hA_49) mo_L_parity m_498 m_588 m_589 m_581 ⟨Nat.le_of_ble_eq_true rfl, Nat.le_of_ble_eq_true rfl⟩ rfl rfl (Nat.le_of_ble_eq_true rfl) ⟨Nat.le_of_ble_eq_true rfl, Nat.le_of_ble_eq_true rfl⟩ dL_errors_461 (vI_in (fun r_56 M_54 h_55 => ?_))
          refine v_widen (z' := (116, 736)) (Nat.le_of_ble_eq_true rfl) (Nat.le_of_ble_eq_true rfl) ?_
          obtain ⟨hr_57, hA_58, hF_59⟩ := pa_eq (e_parity1 hl (by omega) hp) h_55
          subst hr_57
          have hFr_60 := hFr_51.tr hF_59
          refine v_iconst X (v := nI 1) (by decide) dL_errors_464 ?_
          refine v_cneN X 478 (by omega) (by omega) dL_errors_465 (by decide) (fun q_61 => absurd rfl q_61) (fun _ => ?_)
          refine v_iload_n X 0 dL_errors_468 rfl ?_
          refine v_bipush X (v := nI 24) (by decide) dL_errors_469 ?_
          refine v_cgeN X 478 (by omega) (by omega) dL_errors_471 (by decide) (fun _ => ?_) (fun q_62 => absurd q_62 (by omega))
          refine v_iconst X (v := nI 0) (by decide) dL_errors_478 ?_
          refine v_callB X rb.2 hCl hCR (c_L_undone0 l hst0 k M_54 S hA_58) mo_L_undone m_582 m_640 m_641 m_581 ⟨Nat.le_of_ble_eq_true rfl, Nat.le_of_ble_eq_true rfl⟩ rfl rfl (Nat.le_of_ble_eq_true rfl) ⟨Nat.le_of_ble_eq_true rfl, Nat.le_of_ble_eq_true rfl⟩ dL_errors_479 (vI_in (fun r_65 M_63 h_64 => ?_))
          refine v_widen (z' := (117, 742)) (Nat.le_of_ble_eq_true rfl) (Nat.le_of_ble_eq_true rfl) ?_
          obtain ⟨hr_66, hA_67, hF_68⟩ := h_64
          subst hr_66
          have hFr_69 := hFr_60.tr hF_68
          refine v_ieqB X 489 dL_errors_482 (by decide) (fun q_70 => absurd q_70 (by simp)) (fun _ => ?_)
          refine v_widen (z' := (140, 900)) (Nat.le_of_ble_eq_true rfl) (Nat.le_of_ble_eq_true rfl) ?_
          exact B485  M_63  hA_67 hFr_69
      · have hp : xPar (cAt S.1 0) = false := by simpa using hp
        refine v_aload_n X 1 dL_errors_419 rfl ?_
        refine v_iconst X (v := nI 0) (by decide) dL_errors_420 ?_
        refine v_callL X rb.2.1 rb.2.2.1 hCl hCR (c_L_parity l hst0 k Mq S (nI 0) hAq) mo_L_parity m_498 m_588 m_589 m_581 ⟨Nat.le_of_ble_eq_true rfl, Nat.le_of_ble_eq_true rfl⟩ rfl rfl (Nat.le_of_ble_eq_true rfl) ⟨Nat.le_of_ble_eq_true rfl, Nat.le_of_ble_eq_true rfl⟩ dL_errors_421 (vI_in (fun r_73 M_71 h_72 => ?_))
        refine v_widen (z' := (111, 706)) (Nat.le_of_ble_eq_true rfl) (Nat.le_of_ble_eq_true rfl) ?_
        obtain ⟨hr_74, hA_75, hF_76⟩ := pa_eq (e_parity0 hl (by omega) hp) h_72
        subst hr_74
        have hFr_77 := hFq.tr hF_76
        refine v_iconst X (v := nI 1) (by decide) dL_errors_424 ?_
        refine v_cneN X 438 (by omega) (by omega) dL_errors_425 (by decide) (fun _ => ?_) (fun q_78 => absurd q_78 (by decide))
        refine v_iconst X (v := nI 0) (by decide) dL_errors_438 ?_
        refine v_aload_n X 1 dL_errors_439 rfl ?_
        refine v_iconst X (v := nI 0) (by decide) dL_errors_440 ?_
        refine v_iconst X (v := nI 0) (by decide) dL_errors_441 ?_
        refine v_callL X rb.2.1 rb.2.2.1 hCl hCR (c_L_sum l hst0 k M_71 S (nI 0) (nI 0) hA_75) mo_L_sum m_526 m_602 m_603 m_581 ⟨Nat.le_of_ble_eq_true rfl, Nat.le_of_ble_eq_true rfl⟩ rfl rfl (Nat.le_of_ble_eq_true rfl) ⟨Nat.le_of_ble_eq_true rfl, Nat.le_of_ble_eq_true rfl⟩ dL_errors_442 (vI_in (fun r_81 M_79 h_80 => ?_))
        refine v_widen (z' := (115, 730)) (Nat.le_of_ble_eq_true rfl) (Nat.le_of_ble_eq_true rfl) ?_
        obtain ⟨hr_82, hA_83, hF_84⟩ := pa_eq (e_sumF hl (by omega) (by omega) (fun q => by have := q.1; rw [hp] at this; cases this)) h_80
        subst hr_82
        have hFr_85 := hFr_77.tr hF_84
        refine v_bipush X (v := (-103)) (by decide) dL_errors_445 ?_
        refine v_icmp_eq X 454 dL_errors_447 (by decide) (fun _ => ?_) (fun q_86 => absurd rfl q_86)
        refine v_iconst X (v := nI 0) (by decide) dL_errors_454 ?_
        refine v_cneN X 489 (by omega) (by omega) dL_errors_455 (by decide) (fun q_87 => absurd rfl q_87) (fun _ => ?_)
        refine v_aload_n X 1 dL_errors_458 rfl ?_
        refine v_aload_n X 1 dL_errors_459 rfl ?_
        refine v_iconst X (v := nI 0) (by decide) dL_errors_460 ?_
        refine v_callL X rb.2.1 rb.2.2.1 hCl hCR (c_L_parity l hst0 k M_79 S (nI 0) hA_83) mo_L_parity m_498 m_588 m_589 m_581 ⟨Nat.le_of_ble_eq_true rfl, Nat.le_of_ble_eq_true rfl⟩ rfl rfl (Nat.le_of_ble_eq_true rfl) ⟨Nat.le_of_ble_eq_true rfl, Nat.le_of_ble_eq_true rfl⟩ dL_errors_461 (vI_in (fun r_90 M_88 h_89 => ?_))
        refine v_widen (z' := (116, 736)) (Nat.le_of_ble_eq_true rfl) (Nat.le_of_ble_eq_true rfl) ?_
        obtain ⟨hr_91, hA_92, hF_93⟩ := pa_eq (e_parity0 hl (by omega) hp) h_89
        subst hr_91
        have hFr_94 := hFr_85.tr hF_93
        refine v_iconst X (v := nI 1) (by decide) dL_errors_464 ?_
        refine v_cneN X 478 (by omega) (by omega) dL_errors_465 (by decide) (fun _ => ?_) (fun q_95 => absurd q_95 (by decide))
        refine v_iconst X (v := nI 0) (by decide) dL_errors_478 ?_
        refine v_callB X rb.2 hCl hCR (c_L_undone0 l hst0 k M_88 S hA_92) mo_L_undone m_582 m_640 m_641 m_581 ⟨Nat.le_of_ble_eq_true rfl, Nat.le_of_ble_eq_true rfl⟩ rfl rfl (Nat.le_of_ble_eq_true rfl) ⟨Nat.le_of_ble_eq_true rfl, Nat.le_of_ble_eq_true rfl⟩ dL_errors_479 (vI_in (fun r_98 M_96 h_97 => ?_))
        refine v_widen (z' := (117, 742)) (Nat.le_of_ble_eq_true rfl) (Nat.le_of_ble_eq_true rfl) ?_
        obtain ⟨hr_99, hA_100, hF_101⟩ := h_97
        subst hr_99
        have hFr_102 := hFr_94.tr hF_101
        refine v_ieqB X 489 dL_errors_482 (by decide) (fun q_103 => absurd q_103 (by simp)) (fun _ => ?_)
        refine v_widen (z' := (140, 900)) (Nat.le_of_ble_eq_true rfl) (Nat.le_of_ble_eq_true rfl) ?_
        exact B485  M_96  hA_100 hFr_102
  have B398 : ∀  (Mq : Mem), At k Mq S → Fr 0 93 M Mq → V C k 3 (100, 640) Mq 398 [(1, .int (nI S.1.length)), (0, .ref (ad k 0))] [] := by
    intro  Mq hAq hFq
    refine v_aload_n X 1 dL_errors_398 rfl ?_
    refine v_callV X hCl hCR (c_X7_isConsistent l k Mq S.1 S.2.1 S.2.2.1 S.2.2.2.1 S.2.2.2.2 hAq) cls7 hAq.obj (by omega) mo_X7_isConsistent m_418 m_635 m_636 m_637 m_21 (by decide) rfl rfl (Nat.le_of_ble_eq_true rfl) ⟨rfl, rfl⟩ ⟨Nat.le_of_ble_eq_true rfl, Nat.le_of_ble_eq_true rfl⟩ dL_errors_399 (vI_in (fun r_106 M_104 h_105 => ?_))
    obtain ⟨hr_107, hA_108, hF_109⟩ : r_106 = bI (elRun S.1).2.2 ∧ At k M_104 S ∧ Fr 0 93 Mq M_104 := h_105
    subst hr_107
    have hFr_110 := hFq.tr hF_109
    refine v_ineB X 415 dL_errors_402 (by decide) (fun hk1 => ?_) (fun hk2 => ?_)
    · refine v_widen (z' := (110, 700)) (Nat.le_of_ble_eq_true rfl) (Nat.le_of_ble_eq_true rfl) ?_
      exact B415  M_104  hA_108 hFr_110
    · refine v_aload_n X 1 dL_errors_405 rfl ?_
      refine v_iconst X (v := nI 0) (by decide) dL_errors_406 ?_
      refine v_callL X rb.2.1 rb.2.2.1 hCl hCR (c_L_row l hst0 k M_104 S (nI 0) hA_108) mo_L_row m_570 m_638 m_639 m_581 ⟨Nat.le_of_ble_eq_true rfl, Nat.le_of_ble_eq_true rfl⟩ rfl rfl (Nat.le_of_ble_eq_true rfl) ⟨Nat.le_of_ble_eq_true rfl, Nat.le_of_ble_eq_true rfl⟩ dL_errors_407 (vI_in (fun r_113 M_111 h_112 => ?_))
      refine v_widen (z' := (101, 646)) (Nat.le_of_ble_eq_true rfl) (Nat.le_of_ble_eq_true rfl) ?_
      obtain ⟨hr_114, hA_115, hF_116⟩ := pa_eq (e_rowF hk2) h_112
      subst hr_114
      have hFr_117 := hFr_110.tr hF_116
      refine v_bipush X (v := (-103)) (by decide) dL_errors_410 ?_
      refine v_icmp_ne X 489 dL_errors_412 (by decide) (fun q_118 => absurd rfl q_118) (fun _ => ?_)
      refine v_widen (z' := (110, 700)) (Nat.le_of_ble_eq_true rfl) (Nat.le_of_ble_eq_true rfl) ?_
      exact B415  M_111  hA_115 hFr_117
  have B379 : ∀  (Mq : Mem), At k Mq S → Fr 0 93 M Mq → V C k 3 (90, 580) Mq 379 [(1, .int (nI S.1.length)), (0, .ref (ad k 0))] [] := by
    intro  Mq hAq hFq
    refine v_aload_n X 1 dL_errors_379 rfl ?_
    refine v_callV X hCl hCR (c_X7_conflict l k Mq S.1 S.2.1 S.2.2.1 S.2.2.2.1 S.2.2.2.2 hAq) cls7 hAq.obj (by omega) mo_X7_conflict m_392 m_628 m_629 m_630 m_21 (by decide) rfl rfl (Nat.le_of_ble_eq_true rfl) ⟨rfl, rfl⟩ ⟨Nat.le_of_ble_eq_true rfl, Nat.le_of_ble_eq_true rfl⟩ dL_errors_380 (vI_in (fun r_121 M_119 h_120 => ?_))
    obtain ⟨hr_122, hA_123, hF_124⟩ : r_121 = oI (sCf S) ∧ At k M_119 S ∧ Fr 0 93 Mq M_119 := h_120
    subst hr_122
    have hFr_125 := hFq.tr hF_124
    refine v_bipush X (v := (-9)) (by decide) dL_errors_383 ?_
    refine v_icmp_eq X 398 dL_errors_385 (by decide) (fun hc3 => ?_) (fun hc4 => ?_)
    · refine v_widen (z' := (100, 640)) (Nat.le_of_ble_eq_true rfl) (Nat.le_of_ble_eq_true rfl) ?_
      exact B398  M_119  hA_123 hFr_125
    · refine v_aload_n X 1 dL_errors_388 rfl ?_
      refine v_iconst X (v := nI 0) (by decide) dL_errors_389 ?_
      refine v_callL X rb.2.1 rb.2.2.1 hCl hCR (c_L_decide l hst0 k M_119 S (nI 0) hA_123) mo_L_decide m_530 m_604 m_605 m_581 ⟨Nat.le_of_ble_eq_true rfl, Nat.le_of_ble_eq_true rfl⟩ rfl rfl (Nat.le_of_ble_eq_true rfl) ⟨Nat.le_of_ble_eq_true rfl, Nat.le_of_ble_eq_true rfl⟩ dL_errors_390 (vI_in (fun r_128 M_126 h_127 => ?_))
      refine v_widen (z' := (91, 586)) (Nat.le_of_ble_eq_true rfl) (Nat.le_of_ble_eq_true rfl) ?_
      obtain ⟨hr_129, hA_130, hF_131⟩ := pa_eq (e_decideF (fun q => hc4 (by rw [q]; rfl))) h_127
      subst hr_129
      have hFr_132 := hFr_125.tr hF_131
      refine v_bipush X (v := (-103)) (by decide) dL_errors_393 ?_
      refine v_icmp_ne X 489 dL_errors_395 (by decide) (fun q_133 => absurd rfl q_133) (fun _ => ?_)
      refine v_widen (z' := (100, 640)) (Nat.le_of_ble_eq_true rfl) (Nat.le_of_ble_eq_true rfl) ?_
      exact B398  M_126  hA_130 hFr_132
  have B361 : ∀  (Mq : Mem), (sCf S = none ∨ S.2.1.length = 0) → At k Mq S → Fr 0 93 M Mq → V C k 3 (80, 520) Mq 361 [(1, .int (nI S.1.length)), (0, .ref (ad k 0))] [] := by
    intro  Mq hor hAq hFq
    refine v_aload_n X 1 dL_errors_361 rfl ?_
    refine v_callL X rb.2.1 rb.2.2.1 hCl hCR (c_L_learn l hst0 k Mq S hAq) mo_L_learn m_538 m_631 m_632 m_581 ⟨Nat.le_of_ble_eq_true rfl, Nat.le_of_ble_eq_true rfl⟩ rfl rfl (Nat.le_of_ble_eq_true rfl) ⟨Nat.le_of_ble_eq_true rfl, Nat.le_of_ble_eq_true rfl⟩ dL_errors_362 (vI_in (fun r_136 M_134 h_135 => ?_))
    refine v_widen (z' := (82, 532)) (Nat.le_of_ble_eq_true rfl) (Nat.le_of_ble_eq_true rfl) ?_
    obtain ⟨hr_137, hA_138, hF_139⟩ := pa_eq (e_learnF hor) h_135
    subst hr_137
    have hFr_140 := hFq.tr hF_139
    refine v_bipush X (v := (-103)) (by decide) dL_errors_365 ?_
    refine v_icmp_ne X 489 dL_errors_367 (by decide) (fun q_141 => absurd rfl q_141) (fun _ => ?_)
    refine v_aload_n X 1 dL_errors_370 rfl ?_
    refine v_callL X rb.2.1 rb.2.2.1 hCl hCR (c_L_learned l hst0 k M_134 S hA_138) mo_L_learned m_558 m_633 m_634 m_581 ⟨Nat.le_of_ble_eq_true rfl, Nat.le_of_ble_eq_true rfl⟩ rfl rfl (Nat.le_of_ble_eq_true rfl) ⟨Nat.le_of_ble_eq_true rfl, Nat.le_of_ble_eq_true rfl⟩ dL_errors_371 (vI_in (fun r_144 M_142 h_143 => ?_))
    refine v_widen (z' := (83, 538)) (Nat.le_of_ble_eq_true rfl) (Nat.le_of_ble_eq_true rfl) ?_
    obtain ⟨hr_145, hA_146, hF_147⟩ := pa_eq (e_learnedF hor) h_143
    subst hr_145
    have hFr_148 := hFr_140.tr hF_147
    refine v_bipush X (v := (-103)) (by decide) dL_errors_374 ?_
    refine v_icmp_ne X 489 dL_errors_376 (by decide) (fun q_149 => absurd rfl q_149) (fun _ => ?_)
    refine v_widen (z' := (90, 580)) (Nat.le_of_ble_eq_true rfl) (Nat.le_of_ble_eq_true rfl) ?_
    exact B379  M_142  hA_146 hFr_148
  have B345 : ∀  (Mq : Mem), At k Mq S → Fr 0 93 M Mq → V C k 3 (70, 460) Mq 345 [(1, .int (nI S.1.length)), (0, .ref (ad k 0))] [] := by
    intro  Mq hAq hFq
    refine v_aload_n X 1 dL_errors_345 rfl ?_
    refine v_callV X hCl hCR (c_X7_conflict l k Mq S.1 S.2.1 S.2.2.1 S.2.2.2.1 S.2.2.2.2 hAq) cls7 hAq.obj (by omega) mo_X7_conflict m_392 m_628 m_629 m_630 m_21 (by decide) rfl rfl (Nat.le_of_ble_eq_true rfl) ⟨rfl, rfl⟩ ⟨Nat.le_of_ble_eq_true rfl, Nat.le_of_ble_eq_true rfl⟩ dL_errors_346 (vI_in (fun r_152 M_150 h_151 => ?_))
    obtain ⟨hr_153, hA_154, hF_155⟩ : r_152 = oI (sCf S) ∧ At k M_150 S ∧ Fr 0 93 Mq M_150 := h_151
    subst hr_153
    have hFr_156 := hFq.tr hF_155
    refine v_bipush X (v := (-9)) (by decide) dL_errors_349 ?_
    refine v_icmp_eq X 361 dL_errors_351 (by decide) (fun hc1 => ?_) (fun hc2 => ?_)
    · have hor : sCf S = none ∨ S.2.1.length = 0 := Or.inl ((oI_eq hcf).mp hc1)
      refine v_widen (z' := (80, 520)) (Nat.le_of_ble_eq_true rfl) (Nat.le_of_ble_eq_true rfl) ?_
      exact B361  M_150 hor hA_154 hFr_156
    · refine v_aload_n X 1 dL_errors_354 rfl ?_
      refine v_callV X hCl hCR (c_X7_level l k M_150 S.1 S.2.1 S.2.2.1 S.2.2.2.1 S.2.2.2.2 hA_154) cls7 hA_154.obj (by omega) mo_X7_level m_383 m_606 m_607 m_608 m_21 (by decide) rfl rfl (Nat.le_of_ble_eq_true rfl) ⟨rfl, rfl⟩ ⟨Nat.le_of_ble_eq_true rfl, Nat.le_of_ble_eq_true rfl⟩ dL_errors_355 (vI_in (fun r_159 M_157 h_158 => ?_))
      obtain ⟨hr_160, hA_161, hF_162⟩ : r_159 = nI S.2.1.length ∧ At k M_157 S ∧ Fr 0 93 M_150 M_157 := h_158
      subst hr_160
      have hFr_163 := hFr_156.tr hF_162
      refine v_igtN X 379 (by omega) dL_errors_358 (by decide) (fun hl1 => ?_) (fun hl2 => ?_)
      · refine v_widen (z' := (90, 580)) (Nat.le_of_ble_eq_true rfl) (Nat.le_of_ble_eq_true rfl) ?_
        exact B379  M_157  hA_161 hFr_163
      · have hor : sCf S = none ∨ S.2.1.length = 0 := Or.inr hl2
        refine v_widen (z' := (80, 520)) (Nat.le_of_ble_eq_true rfl) (Nat.le_of_ble_eq_true rfl) ?_
        exact B361  M_157 hor hA_161 hFr_163
  have B317 : ∀  (Mq : Mem), At k Mq S → Fr 0 93 M Mq → V C k 3 (60, 400) Mq 317 [(1, .int (nI S.1.length)), (0, .ref (ad k 0))] [] := by
    intro  Mq hAq hFq
    refine v_iload_n X 0 dL_errors_317 rfl ?_
    refine v_bipush X (v := nI 24) (by decide) dL_errors_318 ?_
    refine v_cltN X 345 (by omega) (by omega) dL_errors_320 (by decide) (fun hn2 => ?_) (fun hn3 => ?_)
    · refine v_widen (z' := (70, 460)) (Nat.le_of_ble_eq_true rfl) (Nat.le_of_ble_eq_true rfl) ?_
      exact B345  Mq  hAq hFq
    · refine v_aload_n X 1 dL_errors_323 rfl ?_
      refine v_iconst X (v := nI 1) (by decide) dL_errors_324 ?_
      refine v_iconst X (v := nI 0) (by decide) dL_errors_325 ?_
      refine v_callL X rb.2.1 rb.2.2.1 hCl hCR (c_L_clause l hst0 k Mq S (nI 1) (nI 0) hAq) mo_L_clause m_510 m_594 m_595 m_581 ⟨Nat.le_of_ble_eq_true rfl, Nat.le_of_ble_eq_true rfl⟩ rfl rfl (Nat.le_of_ble_eq_true rfl) ⟨Nat.le_of_ble_eq_true rfl, Nat.le_of_ble_eq_true rfl⟩ dL_errors_326 (vI_in (fun r_166 M_164 h_165 => ?_))
      refine v_widen (z' := (62, 412)) (Nat.le_of_ble_eq_true rfl) (Nat.le_of_ble_eq_true rfl) ?_
      obtain ⟨hr_167, hA_168, hF_169⟩ := pa_eq (e_clauseF (by omega)) h_165
      subst hr_167
      have hFr_170 := hFq.tr hF_169
      refine v_bipush X (v := (-103)) (by decide) dL_errors_329 ?_
      refine v_icmp_ne X 489 dL_errors_331 (by decide) (fun q_171 => absurd rfl q_171) (fun _ => ?_)
      refine v_aload_n X 1 dL_errors_334 rfl ?_
      refine v_iconst X (v := nI 1) (by decide) dL_errors_335 ?_
      refine v_iconst X (v := nI 0) (by decide) dL_errors_336 ?_
      refine v_callL X rb.2.1 rb.2.2.1 hCl hCR (c_L_sumOfBits l hst0 k M_164 S (nI 1) (nI 0) hA_168) mo_L_sumOfBits m_514 m_596 m_597 m_581 ⟨Nat.le_of_ble_eq_true rfl, Nat.le_of_ble_eq_true rfl⟩ rfl rfl (Nat.le_of_ble_eq_true rfl) ⟨Nat.le_of_ble_eq_true rfl, Nat.le_of_ble_eq_true rfl⟩ dL_errors_337 (vI_in (fun r_174 M_172 h_173 => ?_))
      refine v_widen (z' := (64, 424)) (Nat.le_of_ble_eq_true rfl) (Nat.le_of_ble_eq_true rfl) ?_
      obtain ⟨hr_175, hA_176, hF_177⟩ := pa_eq (e_bitsF (by omega)) h_173
      subst hr_175
      have hFr_178 := hFr_170.tr hF_177
      refine v_bipush X (v := (-103)) (by decide) dL_errors_340 ?_
      refine v_icmp_ne X 489 dL_errors_342 (by decide) (fun q_179 => absurd rfl q_179) (fun _ => ?_)
      refine v_widen (z' := (70, 460)) (Nat.le_of_ble_eq_true rfl) (Nat.le_of_ble_eq_true rfl) ?_
      exact B345  M_172  hA_176 hFr_178
  refine v_aload_n X 0 dL_errors_0 rfl ?_
  refine v_callV X hCl hCR (c_X7_constraintCount l k M S.1 S.2.1 S.2.2.1 S.2.2.2.1 S.2.2.2.2 hA) cls7 hA.obj (by omega) mo_X7_constraintCount m_302 m_583 m_584 m_585 m_21 (by decide) rfl rfl (Nat.le_of_ble_eq_true rfl) ⟨rfl, rfl⟩ ⟨Nat.le_of_ble_eq_true rfl, Nat.le_of_ble_eq_true rfl⟩ dL_errors_1 (vI_in (fun r_182 M_180 h_181 => ?_))
  obtain ⟨hr_183, hA_184, hF_185⟩ : r_182 = nI S.1.length ∧ At k M_180 S ∧ Fr 0 93 M M_180 := h_181
  subst hr_183
  have hFr_186 := Fr.rf.tr hF_185
  refine v_istore_n X [(1, .int (nI S.1.length)), (0, .ref (ad k 0))] dL_errors_4 (by decide) rfl ?_
  refine v_aload_n X 1 dL_errors_5 rfl ?_
  refine v_sipush X (v := nI 256) (by decide) dL_errors_6 ?_
  refine v_callL X rb.2.1 rb.2.2.1 hCl hCR (c_L_append l hst0 k M_180 S (nI 256) hA_184) mo_L_append m_484 m_586 m_587 m_581 ⟨Nat.le_of_ble_eq_true rfl, Nat.le_of_ble_eq_true rfl⟩ rfl rfl (Nat.le_of_ble_eq_true rfl) ⟨Nat.le_of_ble_eq_true rfl, Nat.le_of_ble_eq_true rfl⟩ dL_errors_9 (vI_in (fun r_189 M_187 h_188 => ?_))
  refine v_widen (z' := (1, 6)) (Nat.le_of_ble_eq_true rfl) (Nat.le_of_ble_eq_true rfl) ?_
  obtain ⟨hr_190, hA_191, hF_192⟩ := pa_eq (e_append0) h_188
  subst hr_190
  have hFr_193 := hFr_186.tr hF_192
  refine v_bipush X (v := (-102)) (by decide) dL_errors_12 ?_
  refine v_icmp_ne X 282 dL_errors_14 (by decide) (fun q_194 => absurd rfl q_194) (fun _ => ?_)
  refine v_aload_n X 1 dL_errors_17 rfl ?_
  refine v_iconst X (v := (-1)) (by decide) dL_errors_18 ?_
  refine v_callL X rb.2.1 rb.2.2.1 hCl hCR (c_L_append l hst0 k M_187 S (-1) hA_191) mo_L_append m_484 m_586 m_587 m_581 ⟨Nat.le_of_ble_eq_true rfl, Nat.le_of_ble_eq_true rfl⟩ rfl rfl (Nat.le_of_ble_eq_true rfl) ⟨Nat.le_of_ble_eq_true rfl, Nat.le_of_ble_eq_true rfl⟩ dL_errors_19 (vI_in (fun r_197 M_195 h_196 => ?_))
  refine v_widen (z' := (2, 12)) (Nat.le_of_ble_eq_true rfl) (Nat.le_of_ble_eq_true rfl) ?_
  obtain ⟨hr_198, hA_199, hF_200⟩ := pa_eq (e_append1) h_196
  subst hr_198
  have hFr_201 := hFr_193.tr hF_200
  refine v_bipush X (v := (-102)) (by decide) dL_errors_22 ?_
  refine v_icmp_ne X 282 dL_errors_24 (by decide) (fun q_202 => absurd rfl q_202) (fun _ => ?_)
  refine v_aload_n X 1 dL_errors_27 rfl ?_
  refine v_iload_n X 0 dL_errors_28 rfl ?_
  refine v_callL X rb.2.1 rb.2.2.1 hCl hCR (c_L_parity l hst0 k M_195 S (nI S.1.length) hA_199) mo_L_parity m_498 m_588 m_589 m_581 ⟨Nat.le_of_ble_eq_true rfl, Nat.le_of_ble_eq_true rfl⟩ rfl rfl (Nat.le_of_ble_eq_true rfl) ⟨Nat.le_of_ble_eq_true rfl, Nat.le_of_ble_eq_true rfl⟩ dL_errors_29 (vI_in (fun r_205 M_203 h_204 => ?_))
  refine v_widen (z' := (3, 18)) (Nat.le_of_ble_eq_true rfl) (Nat.le_of_ble_eq_true rfl) ?_
  obtain ⟨hr_206, hA_207, hF_208⟩ := pa_eq (e_parityN hl) h_204
  subst hr_206
  have hFr_209 := hFr_201.tr hF_208
  refine v_bipush X (v := (-101)) (by decide) dL_errors_32 ?_
  refine v_icmp_ne X 282 dL_errors_34 (by decide) (fun q_210 => absurd rfl q_210) (fun _ => ?_)
  refine v_aload_n X 1 dL_errors_37 rfl ?_
  refine v_iconst X (v := (-1)) (by decide) dL_errors_38 ?_
  refine v_callL X rb.2.1 rb.2.2.1 hCl hCR (c_L_first l hst0 k M_203 S (-1) hA_207) mo_L_first m_502 m_590 m_591 m_581 ⟨Nat.le_of_ble_eq_true rfl, Nat.le_of_ble_eq_true rfl⟩ rfl rfl (Nat.le_of_ble_eq_true rfl) ⟨Nat.le_of_ble_eq_true rfl, Nat.le_of_ble_eq_true rfl⟩ dL_errors_39 (vI_in (fun r_213 M_211 h_212 => ?_))
  refine v_widen (z' := (4, 24)) (Nat.le_of_ble_eq_true rfl) (Nat.le_of_ble_eq_true rfl) ?_
  obtain ⟨hr_214, hA_215, hF_216⟩ := pa_eq (e_first1) h_212
  subst hr_214
  have hFr_217 := hFr_209.tr hF_216
  refine v_bipush X (v := (-101)) (by decide) dL_errors_42 ?_
  refine v_icmp_ne X 282 dL_errors_44 (by decide) (fun q_218 => absurd rfl q_218) (fun _ => ?_)
  refine v_aload_n X 1 dL_errors_47 rfl ?_
  refine v_iload_n X 0 dL_errors_48 rfl ?_
  refine v_callL X rb.2.1 rb.2.2.1 hCl hCR (c_L_second l hst0 k M_211 S (nI S.1.length) hA_215) mo_L_second m_506 m_592 m_593 m_581 ⟨Nat.le_of_ble_eq_true rfl, Nat.le_of_ble_eq_true rfl⟩ rfl rfl (Nat.le_of_ble_eq_true rfl) ⟨Nat.le_of_ble_eq_true rfl, Nat.le_of_ble_eq_true rfl⟩ dL_errors_49 (vI_in (fun r_221 M_219 h_220 => ?_))
  refine v_widen (z' := (5, 30)) (Nat.le_of_ble_eq_true rfl) (Nat.le_of_ble_eq_true rfl) ?_
  obtain ⟨hr_222, hA_223, hF_224⟩ := pa_eq (e_secondN hl) h_220
  subst hr_222
  have hFr_225 := hFr_217.tr hF_224
  refine v_bipush X (v := (-101)) (by decide) dL_errors_52 ?_
  refine v_icmp_ne X 282 dL_errors_54 (by decide) (fun q_226 => absurd rfl q_226) (fun _ => ?_)
  refine v_aload_n X 1 dL_errors_57 rfl ?_
  refine v_sipush X (v := nI 256) (by decide) dL_errors_58 ?_
  refine v_iconst X (v := nI 0) (by decide) dL_errors_61 ?_
  refine v_callL X rb.2.1 rb.2.2.1 hCl hCR (c_L_clause l hst0 k M_219 S (nI 256) (nI 0) hA_223) mo_L_clause m_510 m_594 m_595 m_581 ⟨Nat.le_of_ble_eq_true rfl, Nat.le_of_ble_eq_true rfl⟩ rfl rfl (Nat.le_of_ble_eq_true rfl) ⟨Nat.le_of_ble_eq_true rfl, Nat.le_of_ble_eq_true rfl⟩ dL_errors_62 (vI_in (fun r_229 M_227 h_228 => ?_))
  refine v_widen (z' := (7, 42)) (Nat.le_of_ble_eq_true rfl) (Nat.le_of_ble_eq_true rfl) ?_
  obtain ⟨hr_230, hA_231, hF_232⟩ := pa_eq (e_clause0) h_228
  subst hr_230
  have hFr_233 := hFr_225.tr hF_232
  refine v_bipush X (v := (-102)) (by decide) dL_errors_65 ?_
  refine v_icmp_ne X 282 dL_errors_67 (by decide) (fun q_234 => absurd rfl q_234) (fun _ => ?_)
  refine v_aload_n X 1 dL_errors_70 rfl ?_
  refine v_iconst X (v := nI 3) (by decide) dL_errors_71 ?_
  refine v_iconst X (v := nI 2) (by decide) dL_errors_72 ?_
  refine v_callL X rb.2.1 rb.2.2.1 hCl hCR (c_L_clause l hst0 k M_227 S (nI 3) (nI 2) hA_231) mo_L_clause m_510 m_594 m_595 m_581 ⟨Nat.le_of_ble_eq_true rfl, Nat.le_of_ble_eq_true rfl⟩ rfl rfl (Nat.le_of_ble_eq_true rfl) ⟨Nat.le_of_ble_eq_true rfl, Nat.le_of_ble_eq_true rfl⟩ dL_errors_73 (vI_in (fun r_237 M_235 h_236 => ?_))
  refine v_widen (z' := (9, 54)) (Nat.le_of_ble_eq_true rfl) (Nat.le_of_ble_eq_true rfl) ?_
  obtain ⟨hr_238, hA_239, hF_240⟩ := pa_eq (e_clause1) h_236
  subst hr_238
  have hFr_241 := hFr_233.tr hF_240
  refine v_bipush X (v := (-102)) (by decide) dL_errors_76 ?_
  refine v_icmp_ne X 282 dL_errors_78 (by decide) (fun q_242 => absurd rfl q_242) (fun _ => ?_)
  refine v_aload_n X 1 dL_errors_81 rfl ?_
  refine v_iconst X (v := nI 1) (by decide) dL_errors_82 ?_
  refine v_iconst X (v := nI 2) (by decide) dL_errors_83 ?_
  refine v_callL X rb.2.1 rb.2.2.1 hCl hCR (c_L_sumOfBits l hst0 k M_235 S (nI 1) (nI 2) hA_239) mo_L_sumOfBits m_514 m_596 m_597 m_581 ⟨Nat.le_of_ble_eq_true rfl, Nat.le_of_ble_eq_true rfl⟩ rfl rfl (Nat.le_of_ble_eq_true rfl) ⟨Nat.le_of_ble_eq_true rfl, Nat.le_of_ble_eq_true rfl⟩ dL_errors_84 (vI_in (fun r_245 M_243 h_244 => ?_))
  refine v_widen (z' := (11, 66)) (Nat.le_of_ble_eq_true rfl) (Nat.le_of_ble_eq_true rfl) ?_
  obtain ⟨hr_246, hA_247, hF_248⟩ := pa_eq (e_bits0) h_244
  subst hr_246
  have hFr_249 := hFr_241.tr hF_248
  refine v_bipush X (v := (-102)) (by decide) dL_errors_87 ?_
  refine v_icmp_ne X 282 dL_errors_89 (by decide) (fun q_250 => absurd rfl q_250) (fun _ => ?_)
  refine v_aload_n X 1 dL_errors_92 rfl ?_
  refine v_iconst X (v := (-1)) (by decide) dL_errors_93 ?_
  refine v_iconst X (v := nI 0) (by decide) dL_errors_94 ?_
  refine v_callL X rb.2.1 rb.2.2.1 hCl hCR (c_L_sumOfBits l hst0 k M_243 S (-1) (nI 0) hA_247) mo_L_sumOfBits m_514 m_596 m_597 m_581 ⟨Nat.le_of_ble_eq_true rfl, Nat.le_of_ble_eq_true rfl⟩ rfl rfl (Nat.le_of_ble_eq_true rfl) ⟨Nat.le_of_ble_eq_true rfl, Nat.le_of_ble_eq_true rfl⟩ dL_errors_95 (vI_in (fun r_253 M_251 h_252 => ?_))
  refine v_widen (z' := (13, 78)) (Nat.le_of_ble_eq_true rfl) (Nat.le_of_ble_eq_true rfl) ?_
  obtain ⟨hr_254, hA_255, hF_256⟩ := pa_eq (e_bits1) h_252
  subst hr_254
  have hFr_257 := hFr_249.tr hF_256
  refine v_bipush X (v := (-102)) (by decide) dL_errors_98 ?_
  refine v_icmp_ne X 282 dL_errors_100 (by decide) (fun q_258 => absurd rfl q_258) (fun _ => ?_)
  refine v_aload_n X 1 dL_errors_103 rfl ?_
  refine v_iload_n X 0 dL_errors_104 rfl ?_
  refine v_callL X rb.2.1 rb.2.2.1 hCl hCR (c_L_remove l hst0 k M_251 S (nI S.1.length) hA_255) mo_L_remove m_518 m_598 m_599 m_581 ⟨Nat.le_of_ble_eq_true rfl, Nat.le_of_ble_eq_true rfl⟩ rfl rfl (Nat.le_of_ble_eq_true rfl) ⟨Nat.le_of_ble_eq_true rfl, Nat.le_of_ble_eq_true rfl⟩ dL_errors_105 (vI_in (fun r_261 M_259 h_260 => ?_))
  refine v_widen (z' := (14, 84)) (Nat.le_of_ble_eq_true rfl) (Nat.le_of_ble_eq_true rfl) ?_
  obtain ⟨hr_262, hA_263, hF_264⟩ := pa_eq (e_removeN hl) h_260
  subst hr_262
  have hFr_265 := hFr_257.tr hF_264
  refine v_bipush X (v := (-101)) (by decide) dL_errors_108 ?_
  refine v_icmp_ne X 282 dL_errors_110 (by decide) (fun q_266 => absurd rfl q_266) (fun _ => ?_)
  refine v_aload_n X 1 dL_errors_113 rfl ?_
  refine v_iload_n X 0 dL_errors_114 rfl ?_
  refine v_iload_n X 0 dL_errors_115 rfl ?_
  refine v_iconst X (v := nI 0) (by decide) dL_errors_116 ?_
  refine v_callL X rb.2.1 rb.2.2.1 hCl hCR (c_L_resolve l hst0 k M_259 S (nI S.1.length) (nI S.1.length) (nI 0) hA_263) mo_L_resolve m_522 m_600 m_601 m_581 ⟨Nat.le_of_ble_eq_true rfl, Nat.le_of_ble_eq_true rfl⟩ rfl rfl (Nat.le_of_ble_eq_true rfl) ⟨Nat.le_of_ble_eq_true rfl, Nat.le_of_ble_eq_true rfl⟩ dL_errors_117 (vI_in (fun r_269 M_267 h_268 => ?_))
  refine v_widen (z' := (19, 114)) (Nat.le_of_ble_eq_true rfl) (Nat.le_of_ble_eq_true rfl) ?_
  obtain ⟨hr_270, hA_271, hF_272⟩ := pa_eq (e_resolveN hl) h_268
  subst hr_270
  have hFr_273 := hFr_265.tr hF_272
  refine v_bipush X (v := (-101)) (by decide) dL_errors_120 ?_
  refine v_icmp_ne X 282 dL_errors_122 (by decide) (fun q_274 => absurd rfl q_274) (fun _ => ?_)
  refine v_aload_n X 1 dL_errors_125 rfl ?_
  refine v_iconst X (v := (-1)) (by decide) dL_errors_126 ?_
  refine v_iconst X (v := (-1)) (by decide) dL_errors_127 ?_
  refine v_callL X rb.2.1 rb.2.2.1 hCl hCR (c_L_sum l hst0 k M_267 S (-1) (-1) hA_271) mo_L_sum m_526 m_602 m_603 m_581 ⟨Nat.le_of_ble_eq_true rfl, Nat.le_of_ble_eq_true rfl⟩ rfl rfl (Nat.le_of_ble_eq_true rfl) ⟨Nat.le_of_ble_eq_true rfl, Nat.le_of_ble_eq_true rfl⟩ dL_errors_128 (vI_in (fun r_277 M_275 h_276 => ?_))
  refine v_widen (z' := (23, 138)) (Nat.le_of_ble_eq_true rfl) (Nat.le_of_ble_eq_true rfl) ?_
  obtain ⟨hr_278, hA_279, hF_280⟩ := pa_eq (e_sum1) h_276
  subst hr_278
  have hFr_281 := hFr_273.tr hF_280
  refine v_bipush X (v := (-101)) (by decide) dL_errors_131 ?_
  refine v_icmp_ne X 282 dL_errors_133 (by decide) (fun q_282 => absurd rfl q_282) (fun _ => ?_)
  refine v_aload_n X 1 dL_errors_136 rfl ?_
  refine v_bipush X (v := nI 16) (by decide) dL_errors_137 ?_
  refine v_callL X rb.2.1 rb.2.2.1 hCl hCR (c_L_decide l hst0 k M_275 S (nI 16) hA_279) mo_L_decide m_530 m_604 m_605 m_581 ⟨Nat.le_of_ble_eq_true rfl, Nat.le_of_ble_eq_true rfl⟩ rfl rfl (Nat.le_of_ble_eq_true rfl) ⟨Nat.le_of_ble_eq_true rfl, Nat.le_of_ble_eq_true rfl⟩ dL_errors_139 (vI_in (fun r_285 M_283 h_284 => ?_))
  refine v_widen (z' := (24, 144)) (Nat.le_of_ble_eq_true rfl) (Nat.le_of_ble_eq_true rfl) ?_
  obtain ⟨hr_286, hA_287, hF_288⟩ := pa_eq (e_decide16) h_284
  subst hr_286
  have hFr_289 := hFr_281.tr hF_288
  refine v_bipush X (v := (-101)) (by decide) dL_errors_142 ?_
  refine v_icmp_ne X 282 dL_errors_144 (by decide) (fun q_290 => absurd rfl q_290) (fun _ => ?_)
  refine v_aload_n X 1 dL_errors_147 rfl ?_
  refine v_aload_n X 1 dL_errors_148 rfl ?_
  refine v_callV X hCl hCR (c_X7_level l k M_283 S.1 S.2.1 S.2.2.1 S.2.2.2.1 S.2.2.2.2 hA_287) cls7 hA_287.obj (by omega) mo_X7_level m_383 m_606 m_607 m_608 m_21 (by decide) rfl rfl (Nat.le_of_ble_eq_true rfl) ⟨rfl, rfl⟩ ⟨Nat.le_of_ble_eq_true rfl, Nat.le_of_ble_eq_true rfl⟩ dL_errors_149 (vI_in (fun r_293 M_291 h_292 => ?_))
  obtain ⟨hr_294, hA_295, hF_296⟩ : r_293 = nI S.2.1.length ∧ At k M_291 S ∧ Fr 0 93 M_283 M_291 := h_292
  subst hr_294
  have hFr_297 := hFr_289.tr hF_296
  refine v_iconst X (v := nI 1) (by decide) dL_errors_152 ?_
  refine v_addN X dL_errors_153 ?_
  refine v_callL X rb.2.1 rb.2.2.1 hCl hCR (c_L_backtrack l hst0 k M_291 S (nI (S.2.1.length + 1)) hA_295) mo_L_backtrack m_534 m_609 m_610 m_581 ⟨Nat.le_of_ble_eq_true rfl, Nat.le_of_ble_eq_true rfl⟩ rfl rfl (Nat.le_of_ble_eq_true rfl) ⟨Nat.le_of_ble_eq_true rfl, Nat.le_of_ble_eq_true rfl⟩ dL_errors_154 (vI_in (fun r_300 M_298 h_299 => ?_))
  refine v_widen (z' := (25, 150)) (Nat.le_of_ble_eq_true rfl) (Nat.le_of_ble_eq_true rfl) ?_
  obtain ⟨hr_301, hA_302, hF_303⟩ := pa_eq (e_back1 hd) h_299
  subst hr_301
  have hFr_304 := hFr_297.tr hF_303
  refine v_bipush X (v := (-102)) (by decide) dL_errors_157 ?_
  refine v_icmp_ne X 282 dL_errors_159 (by decide) (fun q_305 => absurd rfl q_305) (fun _ => ?_)
  refine v_aload_n X 1 dL_errors_162 rfl ?_
  refine v_iconst X (v := (-1)) (by decide) dL_errors_163 ?_
  refine v_callL X rb.2.1 rb.2.2.1 hCl hCR (c_L_backtrack l hst0 k M_298 S (-1) hA_302) mo_L_backtrack m_534 m_609 m_610 m_581 ⟨Nat.le_of_ble_eq_true rfl, Nat.le_of_ble_eq_true rfl⟩ rfl rfl (Nat.le_of_ble_eq_true rfl) ⟨Nat.le_of_ble_eq_true rfl, Nat.le_of_ble_eq_true rfl⟩ dL_errors_164 (vI_in (fun r_308 M_306 h_307 => ?_))
  refine v_widen (z' := (26, 156)) (Nat.le_of_ble_eq_true rfl) (Nat.le_of_ble_eq_true rfl) ?_
  obtain ⟨hr_309, hA_310, hF_311⟩ := pa_eq (e_backm) h_307
  subst hr_309
  have hFr_312 := hFr_304.tr hF_311
  refine v_bipush X (v := (-102)) (by decide) dL_errors_167 ?_
  refine v_icmp_ne X 282 dL_errors_169 (by decide) (fun q_313 => absurd rfl q_313) (fun _ => ?_)
  refine v_aload_n X 1 dL_errors_172 rfl ?_
  refine v_bipush X (v := nI 8) (by decide) dL_errors_173 ?_
  refine v_callL X rb.2.1 rb.2.2.1 hCl hCR (c_L_value l hst0 k M_306 S (nI 8) hA_310) mo_L_value m_546 m_611 m_612 m_581 ⟨Nat.le_of_ble_eq_true rfl, Nat.le_of_ble_eq_true rfl⟩ rfl rfl (Nat.le_of_ble_eq_true rfl) ⟨Nat.le_of_ble_eq_true rfl, Nat.le_of_ble_eq_true rfl⟩ dL_errors_175 (vI_in (fun r_316 M_314 h_315 => ?_))
  refine v_widen (z' := (27, 162)) (Nat.le_of_ble_eq_true rfl) (Nat.le_of_ble_eq_true rfl) ?_
  obtain ⟨hr_317, hA_318, hF_319⟩ := pa_eq (e_value8) h_315
  subst hr_317
  have hFr_320 := hFr_312.tr hF_319
  refine v_bipush X (v := (-101)) (by decide) dL_errors_178 ?_
  refine v_icmp_ne X 282 dL_errors_180 (by decide) (fun q_321 => absurd rfl q_321) (fun _ => ?_)
  refine v_aload_n X 1 dL_errors_183 rfl ?_
  refine v_bipush X (v := nI 8) (by decide) dL_errors_184 ?_
  refine v_callL X rb.2.1 rb.2.2.1 hCl hCR (c_L_trail l hst0 k M_314 S (nI 8) hA_318) mo_L_trail m_550 m_613 m_614 m_581 ⟨Nat.le_of_ble_eq_true rfl, Nat.le_of_ble_eq_true rfl⟩ rfl rfl (Nat.le_of_ble_eq_true rfl) ⟨Nat.le_of_ble_eq_true rfl, Nat.le_of_ble_eq_true rfl⟩ dL_errors_186 (vI_in (fun r_324 M_322 h_323 => ?_))
  refine v_widen (z' := (28, 168)) (Nat.le_of_ble_eq_true rfl) (Nat.le_of_ble_eq_true rfl) ?_
  obtain ⟨hr_325, hA_326, hF_327⟩ := pa_eq (e_trail8 ht8) h_323
  subst hr_325
  have hFr_328 := hFr_320.tr hF_327
  refine v_bipush X (v := (-101)) (by decide) dL_errors_189 ?_
  refine v_icmp_ne X 282 dL_errors_191 (by decide) (fun q_329 => absurd rfl q_329) (fun _ => ?_)
  refine v_aload_n X 1 dL_errors_194 rfl ?_
  refine v_iconst X (v := (-1)) (by decide) dL_errors_195 ?_
  refine v_callL X rb.2.1 rb.2.2.1 hCl hCR (c_L_trail l hst0 k M_322 S (-1) hA_326) mo_L_trail m_550 m_613 m_614 m_581 ⟨Nat.le_of_ble_eq_true rfl, Nat.le_of_ble_eq_true rfl⟩ rfl rfl (Nat.le_of_ble_eq_true rfl) ⟨Nat.le_of_ble_eq_true rfl, Nat.le_of_ble_eq_true rfl⟩ dL_errors_196 (vI_in (fun r_332 M_330 h_331 => ?_))
  refine v_widen (z' := (29, 174)) (Nat.le_of_ble_eq_true rfl) (Nat.le_of_ble_eq_true rfl) ?_
  obtain ⟨hr_333, hA_334, hF_335⟩ := pa_eq (e_trailm) h_331
  subst hr_333
  have hFr_336 := hFr_328.tr hF_335
  refine v_bipush X (v := (-101)) (by decide) dL_errors_199 ?_
  refine v_icmp_ne X 282 dL_errors_201 (by decide) (fun q_337 => absurd rfl q_337) (fun _ => ?_)
  refine v_aload_n X 1 dL_errors_204 rfl ?_
  refine v_iconst X (v := (-1)) (by decide) dL_errors_205 ?_
  refine v_callL X rb.2.1 rb.2.2.1 hCl hCR (c_L_reason l hst0 k M_330 S (-1) hA_334) mo_L_reason m_554 m_615 m_616 m_581 ⟨Nat.le_of_ble_eq_true rfl, Nat.le_of_ble_eq_true rfl⟩ rfl rfl (Nat.le_of_ble_eq_true rfl) ⟨Nat.le_of_ble_eq_true rfl, Nat.le_of_ble_eq_true rfl⟩ dL_errors_206 (vI_in (fun r_340 M_338 h_339 => ?_))
  refine v_widen (z' := (30, 180)) (Nat.le_of_ble_eq_true rfl) (Nat.le_of_ble_eq_true rfl) ?_
  obtain ⟨hr_341, hA_342, hF_343⟩ := pa_eq (e_reasonm) h_339
  subst hr_341
  have hFr_344 := hFr_336.tr hF_343
  refine v_bipush X (v := (-101)) (by decide) dL_errors_209 ?_
  refine v_icmp_ne X 282 dL_errors_211 (by decide) (fun q_345 => absurd rfl q_345) (fun _ => ?_)
  refine v_aload_n X 1 dL_errors_214 rfl ?_
  refine v_iconst X (v := nI 1) (by decide) dL_errors_215 ?_
  refine v_iconst X (v := nI 1) (by decide) dL_errors_216 ?_
  refine v_callL X rb.2.1 rb.2.2.1 hCl hCR (c_L_clauseHolds l hst0 k M_338 S (nI 1) (nI 1) hA_342) mo_L_clauseHolds m_562 m_617 m_618 m_581 ⟨Nat.le_of_ble_eq_true rfl, Nat.le_of_ble_eq_true rfl⟩ rfl rfl (Nat.le_of_ble_eq_true rfl) ⟨Nat.le_of_ble_eq_true rfl, Nat.le_of_ble_eq_true rfl⟩ dL_errors_217 (vI_in (fun r_348 M_346 h_347 => ?_))
  refine v_widen (z' := (31, 186)) (Nat.le_of_ble_eq_true rfl) (Nat.le_of_ble_eq_true rfl) ?_
  obtain ⟨hr_349, hA_350, hF_351⟩ := pa_eq (e_ch1) h_347
  subst hr_349
  have hFr_352 := hFr_344.tr hF_351
  refine v_bipush X (v := (-102)) (by decide) dL_errors_220 ?_
  refine v_icmp_ne X 282 dL_errors_222 (by decide) (fun q_353 => absurd rfl q_353) (fun _ => ?_)
  refine v_aload_n X 1 dL_errors_225 rfl ?_
  refine v_iconst X (v := nI 0) (by decide) dL_errors_226 ?_
  refine v_iconst X (v := nI 2) (by decide) dL_errors_227 ?_
  refine v_callL X rb.2.1 rb.2.2.1 hCl hCR (c_L_parityHolds l hst0 k M_346 S (nI 0) (nI 2) hA_350) mo_L_parityHolds m_566 m_619 m_620 m_581 ⟨Nat.le_of_ble_eq_true rfl, Nat.le_of_ble_eq_true rfl⟩ rfl rfl (Nat.le_of_ble_eq_true rfl) ⟨Nat.le_of_ble_eq_true rfl, Nat.le_of_ble_eq_true rfl⟩ dL_errors_228 (vI_in (fun r_356 M_354 h_355 => ?_))
  refine v_widen (z' := (32, 192)) (Nat.le_of_ble_eq_true rfl) (Nat.le_of_ble_eq_true rfl) ?_
  obtain ⟨hr_357, hA_358, hF_359⟩ := pa_eq (e_ph1) h_355
  subst hr_357
  have hFr_360 := hFr_352.tr hF_359
  refine v_bipush X (v := (-102)) (by decide) dL_errors_231 ?_
  refine v_icmp_ne X 282 dL_errors_233 (by decide) (fun q_361 => absurd rfl q_361) (fun _ => ?_)
  refine v_aload_n X 1 dL_errors_236 rfl ?_
  refine v_iconst X (v := nI 2) (by decide) dL_errors_237 ?_
  refine v_callL X rb.2.1 rb.2.2.1 hCl hCR (c_L_save l hst0 k M_354 S (nI 2) hA_358) mo_L_save m_574 m_621 m_622 m_581 ⟨Nat.le_of_ble_eq_true rfl, Nat.le_of_ble_eq_true rfl⟩ rfl rfl (Nat.le_of_ble_eq_true rfl) ⟨Nat.le_of_ble_eq_true rfl, Nat.le_of_ble_eq_true rfl⟩ dL_errors_238 (vI_in (fun r_364 M_362 h_363 => ?_))
  refine v_widen (z' := (33, 198)) (Nat.le_of_ble_eq_true rfl) (Nat.le_of_ble_eq_true rfl) ?_
  obtain ⟨hr_365, hA_366, hF_367⟩ := pa_eq (e_save2) h_363
  subst hr_365
  have hFr_368 := hFr_360.tr hF_367
  refine v_bipush X (v := (-101)) (by decide) dL_errors_241 ?_
  refine v_icmp_ne X 282 dL_errors_243 (by decide) (fun q_369 => absurd rfl q_369) (fun _ => ?_)
  refine v_aload_n X 1 dL_errors_246 rfl ?_
  refine v_iconst X (v := (-1)) (by decide) dL_errors_247 ?_
  refine v_callL X rb.2.1 rb.2.2.1 hCl hCR (c_L_restore l hst0 k M_362 S (-1) hA_366) mo_L_restore m_578 m_623 m_624 m_581 ⟨Nat.le_of_ble_eq_true rfl, Nat.le_of_ble_eq_true rfl⟩ rfl rfl (Nat.le_of_ble_eq_true rfl) ⟨Nat.le_of_ble_eq_true rfl, Nat.le_of_ble_eq_true rfl⟩ dL_errors_248 (vI_in (fun r_372 M_370 h_371 => ?_))
  refine v_widen (z' := (35, 210)) (Nat.le_of_ble_eq_true rfl) (Nat.le_of_ble_eq_true rfl) ?_
  obtain ⟨hr_373, hA_374, hF_375⟩ := pa_eq (e_restm) h_371
  subst hr_373
  have hFr_376 := hFr_368.tr hF_375
  refine v_bipush X (v := (-101)) (by decide) dL_errors_251 ?_
  refine v_icmp_ne X 282 dL_errors_253 (by decide) (fun q_377 => absurd rfl q_377) (fun _ => ?_)
  refine v_aload_n X 1 dL_errors_256 rfl ?_
  refine v_iconst X (v := (-1)) (by decide) dL_errors_257 ?_
  refine v_callV X hCl hCR (c_X7_model l k M_370 S.1 S.2.1 S.2.2.1 S.2.2.2.1 S.2.2.2.2 (-1) hA_374) cls7 hA_374.obj (by omega) mo_X7_model m_404 m_625 m_626 m_627 m_21 (by decide) rfl rfl (Nat.le_of_ble_eq_true rfl) ⟨rfl, rfl⟩ ⟨Nat.le_of_ble_eq_true rfl, Nat.le_of_ble_eq_true rfl⟩ dL_errors_258 (vI_in (fun r_380 M_378 h_379 => ?_))
  obtain ⟨hr_381, hA_382, hF_383⟩ : r_380 = oI (nthF (isMod S.1) (-1) 256 0 0) ∧ At k M_378 S ∧ Fr 0 93 M_370 M_378 := h_379
  subst hr_381
  have hFr_384 := hFr_376.tr hF_383
  rw [mod_m1, oI_none]
  refine v_bipush X (v := (-9)) (by decide) dL_errors_261 ?_
  refine v_icmp_ne X 282 dL_errors_263 (by decide) (fun q_385 => absurd rfl q_385) (fun _ => ?_)
  refine v_aload_n X 1 dL_errors_266 rfl ?_
  refine v_sipush X (v := nI 256) (by decide) dL_errors_267 ?_
  refine v_callV X hCl hCR (c_X7_model l k M_378 S.1 S.2.1 S.2.2.1 S.2.2.2.1 S.2.2.2.2 (nI 256) hA_382) cls7 hA_382.obj (by omega) mo_X7_model m_404 m_625 m_626 m_627 m_21 (by decide) rfl rfl (Nat.le_of_ble_eq_true rfl) ⟨rfl, rfl⟩ ⟨Nat.le_of_ble_eq_true rfl, Nat.le_of_ble_eq_true rfl⟩ dL_errors_270 (vI_in (fun r_388 M_386 h_387 => ?_))
  obtain ⟨hr_389, hA_390, hF_391⟩ : r_388 = oI (nthF (isMod S.1) (nI 256) 256 0 0) ∧ At k M_386 S ∧ Fr 0 93 M_378 M_386 := h_387
  subst hr_389
  have hFr_392 := hFr_384.tr hF_391
  rw [mod_256, oI_none]
  refine v_bipush X (v := (-9)) (by decide) dL_errors_273 ?_
  refine v_icmp_ne X 282 dL_errors_275 (by decide) (fun q_393 => absurd rfl q_393) (fun _ => ?_)
  refine v_iconst X (v := nI 1) (by decide) dL_errors_278 ?_
  refine v_goto X 283 dL_errors_279 (by decide) ?_
  refine v_istore_n X [(2, .int (nI 1)), (1, .int (nI S.1.length)), (0, .ref (ad k 0))] dL_errors_283 (by decide) rfl ?_
  refine v_iload_n X 0 dL_errors_284 rfl ?_
  refine v_ieqN X 489 (by omega) dL_errors_285 (by decide) (fun q_394 => absurd q_394 (by decide)) (fun _ => ?_)
  refine v_iload_n X 1 dL_errors_288 rfl ?_
  refine v_ieqN X 317 (by omega) dL_errors_289 (by decide) (fun hn0 => ?_) (fun hn1 => ?_)
  · refine v_widen (z' := (60, 400)) (Nat.le_of_ble_eq_true rfl) (Nat.le_of_ble_eq_true rfl) ?_
    refine v_lv [1, 2] rfl ?_
    exact B317  M_386  hA_390 hFr_392
  · refine v_aload_n X 2 dL_errors_292 rfl ?_
    refine v_iconst X (v := nI 0) (by decide) dL_errors_293 ?_
    refine v_iconst X (v := nI 0) (by decide) dL_errors_294 ?_
    refine v_bipush X (v := nI 8) (by decide) dL_errors_295 ?_
    refine v_callL X rb.2.1 rb.2.2.1 hCl hCR (c_L_resolve l hst0 k M_386 S (nI 0) (nI 0) (nI 8) hA_390) mo_L_resolve m_522 m_600 m_601 m_581 ⟨Nat.le_of_ble_eq_true rfl, Nat.le_of_ble_eq_true rfl⟩ rfl rfl (Nat.le_of_ble_eq_true rfl) ⟨Nat.le_of_ble_eq_true rfl, Nat.le_of_ble_eq_true rfl⟩ dL_errors_297 (vI_in (fun r_397 M_395 h_396 => ?_))
    refine v_widen (z' := (40, 240)) (Nat.le_of_ble_eq_true rfl) (Nat.le_of_ble_eq_true rfl) ?_
    obtain ⟨hr_398, hA_399, hF_400⟩ := pa_eq (e_resolve8 hl) h_396
    subst hr_398
    have hFr_401 := hFr_392.tr hF_400
    refine v_bipush X (v := (-101)) (by decide) dL_errors_300 ?_
    refine v_icmp_ne X 489 dL_errors_302 (by decide) (fun q_402 => absurd rfl q_402) (fun _ => ?_)
    refine v_aload_n X 2 dL_errors_305 rfl ?_
    refine v_iconst X (v := nI 0) (by decide) dL_errors_306 ?_
    refine v_iconst X (v := nI 0) (by decide) dL_errors_307 ?_
    refine v_iconst X (v := nI 0) (by decide) dL_errors_308 ?_
    refine v_callL X rb.2.1 rb.2.2.1 hCl hCR (c_L_resolve l hst0 k M_395 S (nI 0) (nI 0) (nI 0) hA_399) mo_L_resolve m_522 m_600 m_601 m_581 ⟨Nat.le_of_ble_eq_true rfl, Nat.le_of_ble_eq_true rfl⟩ rfl rfl (Nat.le_of_ble_eq_true rfl) ⟨Nat.le_of_ble_eq_true rfl, Nat.le_of_ble_eq_true rfl⟩ dL_errors_309 (vI_in (fun r_405 M_403 h_404 => ?_))
    refine v_widen (z' := (45, 270)) (Nat.le_of_ble_eq_true rfl) (Nat.le_of_ble_eq_true rfl) ?_
    obtain ⟨hr_406, hA_407, hF_408⟩ := pa_eq (e_resolve0 hv.1.1 (by omega)) h_404
    subst hr_406
    have hFr_409 := hFr_401.tr hF_408
    refine v_bipush X (v := (-103)) (by decide) dL_errors_312 ?_
    refine v_icmp_ne X 489 dL_errors_314 (by decide) (fun q_410 => absurd rfl q_410) (fun _ => ?_)
    refine v_widen (z' := (60, 400)) (Nat.le_of_ble_eq_true rfl) (Nat.le_of_ble_eq_true rfl) ?_
    refine v_lv [1, 2] rfl ?_
    exact B317  M_403  hA_407 hFr_409
