set_option maxHeartbeats 4000000 in
set_option maxRecDepth 100000 in
theorem c_X3_copyInto (l : Launch) (k : KX) (M : Mem) (b b2 : Nat) (cs ds cs2 ds2 : List Nat) (hS : StAt k M b cs ds) (hS2 : StAt k M b2 cs2 ds2) (hap : b + 4 ≤ b2 ∨ b2 + 4 ≤ b) : CM l yX3_copyInto cX3_copyInto 2 none { frames := 2, cells := 0, slots := 0, locals := 44 } k [.ref (ad k b), .ref (ad k b2)] M (pV (fun M' => StAt k M' b cs2 ds2 ∧ Fr b 4 M M')) := by
  refine CM.of (by decide) (Nat.le_of_ble_eq_true rfl) (fun C X hCl hCR rq => ?_)
  show V C k 2 (0, 0) M 0 [(0, .ref (ad k b)), (1, .ref (ad k b2))] []
  have hN := hS.1
  refine v_aload_n X 0 dX3_copyInto_0 rfl ?_
  refine v_ifnull X dX3_copyInto_1 ?_
  refine v_aload_n X 1 dX3_copyInto_4 rfl ?_
  refine v_ifnull X dX3_copyInto_5 ?_
  refine v_aload_n X 0 dX3_copyInto_8 rfl ?_
  refine v_aload_n X 1 dX3_copyInto_9 rfl ?_
  refine v_callV X hCl hCR (c_X5_copyFrom l k M b b2 cs ds cs2 ds2 hS hS2 (by omega)) cls5 hS.obj (by omega) mo_X5_copyFrom m_137 m_142 m_143 m_144 m_133 (by decide) rfl rfl (Nat.le_of_ble_eq_true rfl) ⟨rfl, rfl⟩ ⟨by decide, by decide⟩ dX3_copyInto_10 (vV_in (fun M_1 hp_2 => ?_))
  obtain ⟨P_4, hfr_3⟩ := hp_2
  have P_5 : StAt k M_1 b2 cs2 ds2 := hS2.fr (fun i h1 h2 => hfr_3 i (by omega))
  exact v_vret X rq ⟨by decide, by decide⟩ dX3_copyInto_13 ⟨rfl, P_4, (fun i hi => by rw [hfr_3 i (by omega)])⟩
theorem fo_step {g h : Nat → Option Nat} {i : Nat} (hi : i < 13) (hh : ∀ j, j < 14 → h j = if j < i then g (j + 1) else g j) {x : Option Nat} (hx : x = g (i + 1) := by assumption) : ∀ j, j < 14 → va_up h i x j = if j < i + 1 then g (j + 1) else g j := by
  intro j hj
  by_cases e : j = i
  · subst e; rw [up_s, if_pos (by omega)]; exact hx
  · rw [up_n _ _ e, hh j hj]
    by_cases e2 : j < i
    · rw [if_pos e2, if_pos (by omega)]
    · rw [if_neg e2, if_neg (by omega)]
theorem fo_end {g h : Nat → Option Nat} {i : Nat} (hi : 13 ≤ i) (hh : ∀ j, j < 14 → h j = if j < i then g (j + 1) else g j) {x : Option Nat} (hx : x = g 0) : ∀ j, j < 14 → va_up h 13 x j = if j < 13 then g (j + 1) else g 0 := by
  intro j hj
  by_cases e : j = 13
  · subst e; rw [up_s, if_neg (by omega)]; exact hx
  · rw [up_n _ _ e, hh j hj, if_pos (by omega), if_pos (by omega)]
set_option maxHeartbeats 4000000 in
set_option maxRecDepth 100000 in
theorem c_X3_forgetOldest (l : Launch) (k : KX) (M : Mem) (n : Nat) (g : Nat → Option Nat) (p : Nat → Nat) (hN : 93 ≤ kN k) (F0 : M 13 = .inr (3, [.ref (ad k 14), .ref (ad k 15), .ref (ad k 16), .int (nI n)])) (F1 : M 14 = .inl (kS k, 14, .inr (.inr (.inr (.inr g))))) (hp : ∀ j, j < 14 → p j < 14) (hg : ∀ j, j < 14 → g j = some (ad k (29 + 4 * p j))) (hst : ∀ j, j < 14 → ∃ vs, M (29 + 4 * p j) = .inr (5, vs)) : CM l yX3_forgetOldest cX3_forgetOldest 3 none { frames := 0, cells := 0, slots := 0, locals := 0 } k [.ref (ad k 13)] M (pV (fun M' => (∃ h : Nat → Option Nat, M' 13 = .inr (3, [.ref (ad k 14), .ref (ad k 15), .ref (ad k 16), .int (nI 13)]) ∧ M' 14 = .inl (kS k, 14, .inr (.inr (.inr (.inr h)))) ∧ ∀ j, j < 14 → h j = if j < 13 then g (j + 1) else g 0) ∧ Fr 13 2 M M')) := by
  refine CM.of (by decide) (Nat.le_of_ble_eq_true rfl) (fun C X hCl hCR rq => ?_)
  show V C k 3 (0, 0) M 0 [(0, .ref (ad k 13))] []
  have L : ∀ (fu : Nat) (i : Nat) (h : Nat → Option Nat) (M1 : Mem), 13 - i < fu → (i ≤ 13) → (∀ j, j < 14 → h j = if j < i then g (j + 1) else g j) → (Fr 14 1 M M1) → M1 13 = .inr (3, [.ref (ad k 14), .ref (ad k 15), .ref (ad k 16), .int (nI n)]) → M1 14 = .inl (kS k, 14, .inr (.inr (.inr (.inr h)))) → V C k 3 (0, 0) M1 9 [(0, .ref (ad k 13)), (1, .ref (ad k (29 + 4 * p 0))), (2, .int (nI i))] [] := by
    intro fu
    induction fu with
    | zero => intro i h M1 hfu; exact absurd hfu (Nat.not_lt_zero _)
    | succ fu ih =>
      intro i h M1 hfu hi0 hh hfr G0 G1
      refine v_iload_n X 2 dX3_forgetOldest_9 rfl ?_
      refine v_bipush X (v := nI 13) (by decide) dX3_forgetOldest_10 ?_
      refine v_cgeN X 35 (by omega) (by omega) dX3_forgetOldest_12 (by decide) (fun c_1 => ?_) (fun c_1 => ?_)
      · refine v_aload_n X 0 dX3_forgetOldest_35 rfl ?_
        refine v_get X cls3 G0 (by omega) 0 (by decide) m_127 rfl rfl dX3_forgetOldest_36 ?_
        refine v_bipush X (v := nI 13) (by decide) dX3_forgetOldest_39 ?_
        refine v_aload_n X 1 dX3_forgetOldest_41 rfl ?_
        obtain ⟨vs, hvs⟩ := hst 0 (by omega)
        have hvs1 : M1 (29 + 4 * p 0) = .inr (5, vs) := by rw [hfr _ (by omega)]; exact hvs
        have hpi := hp 0 (by omega)
        refine v_aast X G1 (by omega) (by omega) (by decide) hvs1 (by omega) dX3_forgetOldest_42 (fun M_2 hM_3 => ?_)
        have F_4 : M_2 13 = .inr (3, [.ref (ad k 14), .ref (ad k 15), .ref (ad k 16), .int (nI n)]) := by rw [hM_3, mup_n (by omega)]; exact G0
        have F_5 : M_2 14 = .inl (kS k, 14, .inr (.inr (.inr (.inr (va_up h 13 (some (ad k (29 + 4 * p 0)))))))) := by rw [hM_3]; exact mup_s
        refine v_aload_n X 0 dX3_forgetOldest_43 rfl ?_
        refine v_bipush X (v := nI 13) (by decide) dX3_forgetOldest_44 ?_
        refine v_put X cls3 F_4 (by omega) 3 (by decide) m_131 rfl rfl rfl rfl (Nat.le_of_ble_eq_true rfl) dX3_forgetOldest_46 (fun M_6 hM_7 => ?_)
        have F_8 : M_6 13 = .inr (3, [.ref (ad k 14), .ref (ad k 15), .ref (ad k 16), .int (nI 13)]) := by rw [hM_7]; exact mup_s
        have F_9 : M_6 14 = .inl (kS k, 14, .inr (.inr (.inr (.inr (va_up h 13 (some (ad k (29 + 4 * p 0)))))))) := by rw [hM_7, mup_n (by omega)]; exact F_5
        exact v_vret X rq ⟨by decide, by decide⟩ dX3_forgetOldest_49 ⟨rfl, ⟨_, F_8, F_9, fo_end (by omega) hh (hg 0 (by omega)).symm⟩, (fun i hi => by rw [hM_7, mup_n (by omega), hM_3, mup_n (by omega)]; exact hfr i (by omega))⟩
      · have hi := c_1
        refine v_aload_n X 0 dX3_forgetOldest_15 rfl ?_
        refine v_get X cls3 G0 (by omega) 0 (by decide) m_127 rfl rfl dX3_forgetOldest_16 ?_
        refine v_iload_n X 2 dX3_forgetOldest_19 rfl ?_
        refine v_aload_n X 0 dX3_forgetOldest_20 rfl ?_
        refine v_get X cls3 G0 (by omega) 0 (by decide) m_127 rfl rfl dX3_forgetOldest_21 ?_
        refine v_iload_n X 2 dX3_forgetOldest_24 rfl ?_
        refine v_iconst X (v := nI 1) (by decide) dX3_forgetOldest_25 ?_
        refine v_addN X dX3_forgetOldest_26 ?_
        refine v_aald X (a := ad k (29 + 4 * p (i + 1))) G1 (by omega) (by omega) (by decide) ((hh (i + 1) (by omega)).trans (by rw [if_neg (by omega)]; exact hg (i + 1) (by omega))) dX3_forgetOldest_27 ?_
        obtain ⟨vs, hvs⟩ := hst (i + 1) (by omega)
        have hvs1 : M1 (29 + 4 * p (i + 1)) = .inr (5, vs) := by rw [hfr _ (by omega)]; exact hvs
        have hpi := hp (i + 1) (by omega)
        refine v_aast X G1 (by omega) (by omega) (by decide) hvs1 (by omega) dX3_forgetOldest_28 (fun M_10 hM_11 => ?_)
        have F_12 : M_10 13 = .inr (3, [.ref (ad k 14), .ref (ad k 15), .ref (ad k 16), .int (nI n)]) := by rw [hM_11, mup_n (by omega)]; exact G0
        have F_13 : M_10 14 = .inl (kS k, 14, .inr (.inr (.inr (.inr (va_up h i (some (ad k (29 + 4 * p (i + 1))))))))) := by rw [hM_11]; exact mup_s
        have hx : some (ad k (29 + 4 * p (i + 1))) = g (i + 1) := (hg (i + 1) (by omega)).symm
        refine v_iinc X (v := nI (i + 1)) 2 [(2, .int (nI (i + 1))), (0, .ref (ad k 13)), (1, .ref (ad k (29 + 4 * p 0)))] dX3_forgetOldest_29 rfl (nI_1 _) (by decide) rfl ?_
        refine v_goto X 9 dX3_forgetOldest_32 (by decide) ?_
        refine v_lv [1, 2, 0] rfl ?_
        exact ih (i + 1) (va_up h i (some (ad k (29 + 4 * p (i + 1))))) M_10 (by omega) (by omega) (fo_step hi hh) (fun i hi => by rw [hM_11, mup_n (by omega)]; exact hfr i hi) F_12 F_13
  refine v_aload_n X 0 dX3_forgetOldest_0 rfl ?_
  refine v_get X cls3 F0 (by omega) 0 (by decide) m_127 rfl rfl dX3_forgetOldest_1 ?_
  refine v_iconst X (v := nI 0) (by decide) dX3_forgetOldest_4 ?_
  refine v_aald X (a := ad k (29 + 4 * p 0)) F1 (by omega) (by omega) (by decide) (hg 0 (by omega)) dX3_forgetOldest_5 ?_
  refine v_astore_n X [(1, .ref (ad k (29 + 4 * p 0))), (0, .ref (ad k 13))] dX3_forgetOldest_6 (by decide) rfl ?_
  refine v_iconst X (v := nI 0) (by decide) dX3_forgetOldest_7 ?_
  refine v_istore_n X [(2, .int (nI 0)), (1, .ref (ad k (29 + 4 * p 0))), (0, .ref (ad k 13))] dX3_forgetOldest_8 (by decide) rfl ?_
  refine v_lv [2, 1, 0] rfl ?_
  exact L 14 0 g M (by omega) (by omega) (fun j hj => by rw [if_neg (by omega)]) Fr.rf F0 F1
