set_option maxHeartbeats 4000000 in
set_option maxRecDepth 100000 in
theorem c_X1_init (l : Launch) (k0 : KX) (M : Mem) (b : Nat) (hN0 : kN k0 = b + 1) (F_0 : M b = .inr (1, [.null, .int (nI 0)])) : CI l yX1_init cX1_init 1 { frames := 1, cells := 1, slots := 24, locals := 20 } k0 [.ref (ad k0 b)] M (fun k' M' => FmAt k' M' b [] ∧ kN k' = b + 2 ∧ ∀ i, i < b → M' i = M i) := by
  refine CI.of (by decide) rfl (Nat.le_of_ble_eq_true rfl) (fun C X hCl hCR ri => ?_)
  show V C k0 1 (0, 0) M 0 [(0, .ref (ad k0 b))] []
  obtain ⟨k, hk⟩ : ∃ k : KX, k = k0 := ⟨k0, rfl⟩
  have E : kext k0 k := by rw [hk]; exact kext.rf
  have hN : kN k = b + 1 := by rw [hk]; exact hN0
  rw [← hk] at X ⊢
  refine v_aload_n X 0 dX1_init_0 rfl ?_
  refine v_objInit X hCR m_45 (by decide) (Nat.le_of_ble_eq_true rfl) (Nat.le_of_ble_eq_true rfl) dX1_init_1 ?_
  refine v_aload_n X 0 dX1_init_4 rfl ?_
  refine v_bipush X (v := nI 24) (by decide) dX1_init_5 ?_
  refine v_newI X hCR (by decide) (by decide) m_4 ⟨Nat.le_of_ble_eq_true rfl, Nat.le_of_ble_eq_true rfl⟩ dX1_init_7 (fun k M_1 E1 hN1 hM_2 X => ?_)
  rw [hN] at hN1 hM_2
  rw [hN]
  have hN : kN k = b + 2 := by omega
  have F_3 : M_1 b = .inr (1, [.null, .int (nI 0)]) := by rw [hM_2, mup_n (by omega)]; exact F_0
  have F_4 : M_1 (b + 1) = .inl (kI k, 24, .inl (fun zq => nI ((fun _ => 0) zq))) := by rw [hM_2, mup_s, E1.I]
  refine v_cast (lv' := [(0, .ref (ad k b))]) (st' := [.ref (ad k (b + 1)), .ref (ad k b)]) (by rw [E1.at (i := b) (by omega)]) (by rw [E1.at (i := b) (by omega)]) ?_
  have E := E.tr E1
  refine v_putF X ri.2.1 cls1 F_3 (by omega) 0 (by decide) m_11 rfl rfl rfl rfl rfl (Nat.le_of_ble_eq_true rfl) dX1_init_9 (fun M_5 hM_6 => ?_)
  have F_7 : M_5 b = .inr (1, [.ref (ad k (b + 1)), .int (nI 0)]) := by rw [hM_6]; exact mup_s
  have F_8 : M_5 (b + 1) = .inl (kI k, 24, .inl (fun zq => nI ((fun _ => 0) zq))) := by rw [hM_6, mup_n (by omega)]; exact F_4
  refine v_aload_n X 0 dX1_init_12 rfl ?_
  refine v_iconst X (v := nI 0) (by decide) dX1_init_13 ?_
  refine v_put X cls1 F_7 (by omega) 1 (by decide) m_9 rfl rfl rfl rfl (Nat.le_of_ble_eq_true rfl) dX1_init_14 (fun M_9 hM_10 => ?_)
  have F_11 : M_9 b = .inr (1, [.ref (ad k (b + 1)), .int (nI 0)]) := by rw [hM_10]; exact mup_s
  have F_12 : M_9 (b + 1) = .inl (kI k, 24, .inl (fun zq => nI ((fun _ => 0) zq))) := by rw [hM_10, mup_n (by omega)]; exact F_8
  exact v_vretI X ri E ⟨Nat.le_of_ble_eq_true rfl, Nat.le_of_ble_eq_true rfl⟩ dX1_init_17 ⟨⟨by omega, by decide, _, F_11, F_12, fun j hj => absurd hj (Nat.not_lt_zero _)⟩, hN, (fun i hi => by rw [hM_10, mup_n (by omega), hM_6, mup_n (by omega), hM_2, mup_n (by omega)])⟩
set_option maxHeartbeats 4000000 in
set_option maxRecDepth 100000 in
theorem c_X5_init (l : Launch) (k0 : KX) (M : Mem) (b : Nat) (hN0 : kN k0 = b + 1) (F_0 : M b = .inr (5, [.null, .null, .int (nI 0)])) : CI l yX5_init cX5_init 1 { frames := 2, cells := 3, slots := 34, locals := 40 } k0 [.ref (ad k0 b)] M (fun k' M' => StAt k' M' b [] [] ∧ kN k' = b + 4 ∧ ∀ i, i < b → M' i = M i) := by
  refine CI.of (by decide) rfl (Nat.le_of_ble_eq_true rfl) (fun C X hCl hCR ri => ?_)
  show V C k0 1 (0, 0) M 0 [(0, .ref (ad k0 b))] []
  obtain ⟨k, hk⟩ : ∃ k : KX, k = k0 := ⟨k0, rfl⟩
  have E : kext k0 k := by rw [hk]; exact kext.rf
  have hN : kN k = b + 1 := by rw [hk]; exact hN0
  rw [← hk] at X ⊢
  refine v_aload_n X 0 dX5_init_0 rfl ?_
  refine v_objInit X hCR m_120 (by decide) (Nat.le_of_ble_eq_true rfl) (Nat.le_of_ble_eq_true rfl) dX5_init_1 ?_
  refine v_aload_n X 0 dX5_init_4 rfl ?_
  have hfs_1 : ∀ j, j < 2 → defaultValue (tyX1 j) = vp_V [.null, .int (nI 0)] j := by
    intro j hj
    have h : j = 0 ∨ j = 1 := by omega
    rcases h with rfl | rfl <;> rfl
  refine v_new X hCR cls1 hfs_1 m_121 m_71 m_15 ⟨Nat.le_of_ble_eq_true rfl, Nat.le_of_ble_eq_true rfl⟩ dX5_init_5 (fun k M_2 E1 hN1 hM_3 X => ?_)
  rw [hN] at hN1 hM_3
  rw [hN]
  have hN : kN k = b + 2 := by omega
  have F_4 : M_2 b = .inr (5, [.null, .null, .int (nI 0)]) := by rw [hM_3, mup_n (by omega)]; exact F_0
  have F_5 : M_2 (b + 1) = .inr (1, [.null, .int (nI 0)]) := by rw [hM_3, mup_s]
  refine v_cast (lv' := [(0, .ref (ad k b))]) (st' := [.ref (ad k (b + 1)), .ref (ad k b)]) (by rw [E1.at (i := b) (by omega)]) (by rw [E1.at (i := b) (by omega)]) ?_
  have E := E.tr E1
  refine v_dup X rfl dX5_init_8 ?_
  refine v_callIN X ri.2.2.1 hCl hCR (c_X1_init l k M_2 (b + 1) hN F_5) rfl mo_X1_init m_44 nw_9 m_76 m_15 (by decide) rfl rfl (Nat.le_of_ble_eq_true rfl) ⟨Nat.le_of_ble_eq_true rfl, Nat.le_of_ble_eq_true rfl⟩ dX5_init_9 (fun k M_6 E1 hp X => ?_)
  obtain ⟨hp_8, hN2, hf_7⟩ := hp
  have hN3 : kN k = b + 3 := by rw [hN2]
  have F_9 : M_6 b = .inr (5, [.null, .null, .int (nI 0)]) := by rw [hf_7 _ (by omega)]; exact F_4
  have hN : kN k = b + 3 := hN3
  refine v_cast (lv' := [(0, .ref (ad k b))]) (st' := [.ref (ad k (b + 1)), .ref (ad k b)]) (by rw [E1.at (i := b) (by omega)]) (by rw [E1.at (i := b + 1) (by omega), E1.at (i := b) (by omega)]) ?_
  have E := E.tr E1
  refine v_putF X ri.2.1 cls5 F_9 (by omega) 0 (by decide) m_122 rfl rfl rfl rfl rfl (Nat.le_of_ble_eq_true rfl) dX5_init_12 (fun M_10 hM_11 => ?_)
  have F_12 : M_10 b = .inr (5, [.ref (ad k (b + 1)), .null, .int (nI 0)]) := by rw [hM_11]; exact mup_s
  have P_13 : FmAt k M_10 (b + 1) [] := hp_8.fr (fun i h1 h2 => by rw [hM_11, mup_n (by omega)])
  refine v_aload_n X 0 dX5_init_15 rfl ?_
  refine v_bipush X (v := nI 8) (by decide) dX5_init_16 ?_
  refine v_newI X hCR (by decide) (by decide) m_4 ⟨Nat.le_of_ble_eq_true rfl, Nat.le_of_ble_eq_true rfl⟩ dX5_init_18 (fun k M_14 E1 hN1 hM_15 X => ?_)
  rw [hN] at hN1 hM_15
  rw [hN]
  have hN : kN k = b + 4 := by omega
  have F_16 : M_14 b = .inr (5, [.ref (ad k (b + 1)), .null, .int (nI 0)]) := by rw [hM_15, mup_n (by omega), E1.at (i := b + 1) (by omega)]; exact F_12
  have P_17 : FmAt k M_14 (b + 1) [] := P_13.ext E1 (fun i h1 h2 => by rw [hM_15, mup_n (by omega)])
  have F_18 : M_14 (b + 3) = .inl (kI k, 8, .inl (fun zq => nI ((fun _ => 0) zq))) := by rw [hM_15, mup_s, E1.I]
  refine v_cast (lv' := [(0, .ref (ad k b))]) (st' := [.ref (ad k (b + 3)), .ref (ad k b)]) (by rw [E1.at (i := b) (by omega)]) (by rw [E1.at (i := b) (by omega)]) ?_
  have E := E.tr E1
  refine v_putF X ri.2.1 cls5 F_16 (by omega) 1 (by decide) m_123 rfl rfl rfl rfl rfl (Nat.le_of_ble_eq_true rfl) dX5_init_20 (fun M_19 hM_20 => ?_)
  have F_21 : M_19 b = .inr (5, [.ref (ad k (b + 1)), .ref (ad k (b + 3)), .int (nI 0)]) := by rw [hM_20]; exact mup_s
  have F_22 : M_19 (b + 3) = .inl (kI k, 8, .inl (fun zq => nI ((fun _ => 0) zq))) := by rw [hM_20, mup_n (by omega)]; exact F_18
  have P_23 : FmAt k M_19 (b + 1) [] := P_17.fr (fun i h1 h2 => by rw [hM_20, mup_n (by omega)])
  refine v_aload_n X 0 dX5_init_23 rfl ?_
  refine v_iconst X (v := nI 0) (by decide) dX5_init_24 ?_
  refine v_put X cls5 F_21 (by omega) 2 (by decide) m_124 rfl rfl rfl rfl (Nat.le_of_ble_eq_true rfl) dX5_init_25 (fun M_24 hM_25 => ?_)
  have F_26 : M_24 b = .inr (5, [.ref (ad k (b + 1)), .ref (ad k (b + 3)), .int (nI 0)]) := by rw [hM_25]; exact mup_s
  have F_27 : M_24 (b + 3) = .inl (kI k, 8, .inl (fun zq => nI ((fun _ => 0) zq))) := by rw [hM_25, mup_n (by omega)]; exact F_22
  have P_28 : FmAt k M_24 (b + 1) [] := P_23.fr (fun i h1 h2 => by rw [hM_25, mup_n (by omega)])
  exact v_vretI X ri E ⟨Nat.le_of_ble_eq_true rfl, Nat.le_of_ble_eq_true rfl⟩ dX5_init_28 ⟨⟨by omega, P_28, by decide, _, F_26, F_27, fun j hj => absurd hj (Nat.not_lt_zero _)⟩, hN, (fun i hi => by rw [hM_25, mup_n (by omega), hM_20, mup_n (by omega), hM_15, mup_n (by omega), hM_11, mup_n (by omega), hf_7 _ (by omega), hM_3, mup_n (by omega)])⟩
set_option maxHeartbeats 4000000 in
set_option maxRecDepth 100000 in
theorem c_X6_init (l : Launch) (k0 : KX) (M : Mem) (b : Nat) (hN0 : kN k0 = b + 1) (F_0 : M b = .inr (6, [.null, .null, .null, .int (nI 0), .int (nI 0), .int (nI 0), .int (nI 0), .int (nI 0), .int (nI 0)])) : CI l yX6_init cX6_init 1 { frames := 1, cells := 3, slots := 24, locals := 20 } k0 [.ref (ad k0 b)] M (fun k' M' => TrAt k' M' b [] none ∧ kN k' = b + 4 ∧ ∀ i, i < b → M' i = M i) := by
  refine CI.of (by decide) rfl (Nat.le_of_ble_eq_true rfl) (fun C X hCl hCR ri => ?_)
  show V C k0 1 (0, 0) M 0 [(0, .ref (ad k0 b))] []
  obtain ⟨k, hk⟩ : ∃ k : KX, k = k0 := ⟨k0, rfl⟩
  have E : kext k0 k := by rw [hk]; exact kext.rf
  have hN : kN k = b + 1 := by rw [hk]; exact hN0
  rw [← hk] at X ⊢
  refine v_aload_n X 0 dX6_init_0 rfl ?_
  refine v_objInit X hCR m_186 (by decide) (Nat.le_of_ble_eq_true rfl) (Nat.le_of_ble_eq_true rfl) dX6_init_1 ?_
  refine v_aload_n X 0 dX6_init_4 rfl ?_
  refine v_bipush X (v := nI 8) (by decide) dX6_init_5 ?_
  refine v_newI X hCR (by decide) (by decide) m_4 ⟨Nat.le_of_ble_eq_true rfl, Nat.le_of_ble_eq_true rfl⟩ dX6_init_7 (fun k M_1 E1 hN1 hM_2 X => ?_)
  rw [hN] at hN1 hM_2
  rw [hN]
  have hN : kN k = b + 2 := by omega
  have F_3 : M_1 b = .inr (6, [.null, .null, .null, .int (nI 0), .int (nI 0), .int (nI 0), .int (nI 0), .int (nI 0), .int (nI 0)]) := by rw [hM_2, mup_n (by omega)]; exact F_0
  have F_4 : M_1 (b + 1) = .inl (kI k, 8, .inl (fun zq => nI ((fun _ => 0) zq))) := by rw [hM_2, mup_s, E1.I]
  refine v_cast (lv' := [(0, .ref (ad k b))]) (st' := [.ref (ad k (b + 1)), .ref (ad k b)]) (by rw [E1.at (i := b) (by omega)]) (by rw [E1.at (i := b) (by omega)]) ?_
  have E := E.tr E1
  refine v_putF X ri.2.1 cls6 F_3 (by omega) 0 (by decide) m_187 rfl rfl rfl rfl rfl (Nat.le_of_ble_eq_true rfl) dX6_init_9 (fun M_5 hM_6 => ?_)
  have F_7 : M_5 b = .inr (6, [.ref (ad k (b + 1)), .null, .null, .int (nI 0), .int (nI 0), .int (nI 0), .int (nI 0), .int (nI 0), .int (nI 0)]) := by rw [hM_6]; exact mup_s
  have F_8 : M_5 (b + 1) = .inl (kI k, 8, .inl (fun zq => nI ((fun _ => 0) zq))) := by rw [hM_6, mup_n (by omega)]; exact F_4
  refine v_aload_n X 0 dX6_init_12 rfl ?_
  refine v_bipush X (v := nI 8) (by decide) dX6_init_13 ?_
  refine v_newI X hCR (by decide) (by decide) m_4 ⟨Nat.le_of_ble_eq_true rfl, Nat.le_of_ble_eq_true rfl⟩ dX6_init_15 (fun k M_9 E1 hN1 hM_10 X => ?_)
  rw [hN] at hN1 hM_10
  rw [hN]
  have hN : kN k = b + 3 := by omega
  have F_11 : M_9 b = .inr (6, [.ref (ad k (b + 1)), .null, .null, .int (nI 0), .int (nI 0), .int (nI 0), .int (nI 0), .int (nI 0), .int (nI 0)]) := by rw [hM_10, mup_n (by omega), E1.at (i := b + 1) (by omega)]; exact F_7
  have F_12 : M_9 (b + 1) = .inl (kI k, 8, .inl (fun zq => nI ((fun _ => 0) zq))) := by rw [hM_10, mup_n (by omega), E1.I]; exact F_8
  have F_13 : M_9 (b + 2) = .inl (kI k, 8, .inl (fun zq => nI ((fun _ => 0) zq))) := by rw [hM_10, mup_s, E1.I]
  refine v_cast (lv' := [(0, .ref (ad k b))]) (st' := [.ref (ad k (b + 2)), .ref (ad k b)]) (by rw [E1.at (i := b) (by omega)]) (by rw [E1.at (i := b) (by omega)]) ?_
  have E := E.tr E1
  refine v_putF X ri.2.1 cls6 F_11 (by omega) 1 (by decide) m_188 rfl rfl rfl rfl rfl (Nat.le_of_ble_eq_true rfl) dX6_init_17 (fun M_14 hM_15 => ?_)
  have F_16 : M_14 b = .inr (6, [.ref (ad k (b + 1)), .ref (ad k (b + 2)), .null, .int (nI 0), .int (nI 0), .int (nI 0), .int (nI 0), .int (nI 0), .int (nI 0)]) := by rw [hM_15]; exact mup_s
  have F_17 : M_14 (b + 1) = .inl (kI k, 8, .inl (fun zq => nI ((fun _ => 0) zq))) := by rw [hM_15, mup_n (by omega)]; exact F_12
  have F_18 : M_14 (b + 2) = .inl (kI k, 8, .inl (fun zq => nI ((fun _ => 0) zq))) := by rw [hM_15, mup_n (by omega)]; exact F_13
  refine v_aload_n X 0 dX6_init_20 rfl ?_
  refine v_bipush X (v := nI 8) (by decide) dX6_init_21 ?_
  refine v_newI X hCR (by decide) (by decide) m_4 ⟨Nat.le_of_ble_eq_true rfl, Nat.le_of_ble_eq_true rfl⟩ dX6_init_23 (fun k M_19 E1 hN1 hM_20 X => ?_)
  rw [hN] at hN1 hM_20
  rw [hN]
  have hN : kN k = b + 4 := by omega
  have F_21 : M_19 b = .inr (6, [.ref (ad k (b + 1)), .ref (ad k (b + 2)), .null, .int (nI 0), .int (nI 0), .int (nI 0), .int (nI 0), .int (nI 0), .int (nI 0)]) := by rw [hM_20, mup_n (by omega), E1.at (i := b + 1) (by omega), E1.at (i := b + 2) (by omega)]; exact F_16
  have F_22 : M_19 (b + 1) = .inl (kI k, 8, .inl (fun zq => nI ((fun _ => 0) zq))) := by rw [hM_20, mup_n (by omega), E1.I]; exact F_17
  have F_23 : M_19 (b + 2) = .inl (kI k, 8, .inl (fun zq => nI ((fun _ => 0) zq))) := by rw [hM_20, mup_n (by omega), E1.I]; exact F_18
  have F_24 : M_19 (b + 3) = .inl (kI k, 8, .inl (fun zq => nI ((fun _ => 0) zq))) := by rw [hM_20, mup_s, E1.I]
  refine v_cast (lv' := [(0, .ref (ad k b))]) (st' := [.ref (ad k (b + 3)), .ref (ad k b)]) (by rw [E1.at (i := b) (by omega)]) (by rw [E1.at (i := b) (by omega)]) ?_
  have E := E.tr E1
  refine v_putF X ri.2.1 cls6 F_21 (by omega) 2 (by decide) m_189 rfl rfl rfl rfl rfl (Nat.le_of_ble_eq_true rfl) dX6_init_25 (fun M_25 hM_26 => ?_)
  have F_27 : M_25 b = .inr (6, [.ref (ad k (b + 1)), .ref (ad k (b + 2)), .ref (ad k (b + 3)), .int (nI 0), .int (nI 0), .int (nI 0), .int (nI 0), .int (nI 0), .int (nI 0)]) := by rw [hM_26]; exact mup_s
  have F_28 : M_25 (b + 1) = .inl (kI k, 8, .inl (fun zq => nI ((fun _ => 0) zq))) := by rw [hM_26, mup_n (by omega)]; exact F_22
  have F_29 : M_25 (b + 2) = .inl (kI k, 8, .inl (fun zq => nI ((fun _ => 0) zq))) := by rw [hM_26, mup_n (by omega)]; exact F_23
  have F_30 : M_25 (b + 3) = .inl (kI k, 8, .inl (fun zq => nI ((fun _ => 0) zq))) := by rw [hM_26, mup_n (by omega)]; exact F_24
  refine v_aload_n X 0 dX6_init_28 rfl ?_
  refine v_iconst X (v := nI 0) (by decide) dX6_init_29 ?_
  refine v_put X cls6 F_27 (by omega) 3 (by decide) m_190 rfl rfl rfl rfl (Nat.le_of_ble_eq_true rfl) dX6_init_30 (fun M_31 hM_32 => ?_)
  have F_33 : M_31 b = .inr (6, [.ref (ad k (b + 1)), .ref (ad k (b + 2)), .ref (ad k (b + 3)), .int (nI 0), .int (nI 0), .int (nI 0), .int (nI 0), .int (nI 0), .int (nI 0)]) := by rw [hM_32]; exact mup_s
  have F_34 : M_31 (b + 1) = .inl (kI k, 8, .inl (fun zq => nI ((fun _ => 0) zq))) := by rw [hM_32, mup_n (by omega)]; exact F_28
  have F_35 : M_31 (b + 2) = .inl (kI k, 8, .inl (fun zq => nI ((fun _ => 0) zq))) := by rw [hM_32, mup_n (by omega)]; exact F_29
  have F_36 : M_31 (b + 3) = .inl (kI k, 8, .inl (fun zq => nI ((fun _ => 0) zq))) := by rw [hM_32, mup_n (by omega)]; exact F_30
  refine v_aload_n X 0 dX6_init_33 rfl ?_
  refine v_iconst X (v := nI 0) (by decide) dX6_init_34 ?_
  refine v_put X cls6 F_33 (by omega) 4 (by decide) m_191 rfl rfl rfl rfl (Nat.le_of_ble_eq_true rfl) dX6_init_35 (fun M_37 hM_38 => ?_)
  have F_39 : M_37 b = .inr (6, [.ref (ad k (b + 1)), .ref (ad k (b + 2)), .ref (ad k (b + 3)), .int (nI 0), .int (nI 0), .int (nI 0), .int (nI 0), .int (nI 0), .int (nI 0)]) := by rw [hM_38]; exact mup_s
  have F_40 : M_37 (b + 1) = .inl (kI k, 8, .inl (fun zq => nI ((fun _ => 0) zq))) := by rw [hM_38, mup_n (by omega)]; exact F_34
  have F_41 : M_37 (b + 2) = .inl (kI k, 8, .inl (fun zq => nI ((fun _ => 0) zq))) := by rw [hM_38, mup_n (by omega)]; exact F_35
  have F_42 : M_37 (b + 3) = .inl (kI k, 8, .inl (fun zq => nI ((fun _ => 0) zq))) := by rw [hM_38, mup_n (by omega)]; exact F_36
  refine v_aload_n X 0 dX6_init_38 rfl ?_
  refine v_iconst X (v := nI 0) (by decide) dX6_init_39 ?_
  refine v_put X cls6 F_39 (by omega) 5 (by decide) m_192 rfl rfl rfl rfl (Nat.le_of_ble_eq_true rfl) dX6_init_40 (fun M_43 hM_44 => ?_)
  have F_45 : M_43 b = .inr (6, [.ref (ad k (b + 1)), .ref (ad k (b + 2)), .ref (ad k (b + 3)), .int (nI 0), .int (nI 0), .int (nI 0), .int (nI 0), .int (nI 0), .int (nI 0)]) := by rw [hM_44]; exact mup_s
  have F_46 : M_43 (b + 1) = .inl (kI k, 8, .inl (fun zq => nI ((fun _ => 0) zq))) := by rw [hM_44, mup_n (by omega)]; exact F_40
  have F_47 : M_43 (b + 2) = .inl (kI k, 8, .inl (fun zq => nI ((fun _ => 0) zq))) := by rw [hM_44, mup_n (by omega)]; exact F_41
  have F_48 : M_43 (b + 3) = .inl (kI k, 8, .inl (fun zq => nI ((fun _ => 0) zq))) := by rw [hM_44, mup_n (by omega)]; exact F_42
  refine v_aload_n X 0 dX6_init_43 rfl ?_
  refine v_iconst X (v := nI 0) (by decide) dX6_init_44 ?_
  refine v_put X cls6 F_45 (by omega) 6 (by decide) m_193 rfl rfl rfl rfl (Nat.le_of_ble_eq_true rfl) dX6_init_45 (fun M_49 hM_50 => ?_)
  have F_51 : M_49 b = .inr (6, [.ref (ad k (b + 1)), .ref (ad k (b + 2)), .ref (ad k (b + 3)), .int (nI 0), .int (nI 0), .int (nI 0), .int (nI 0), .int (nI 0), .int (nI 0)]) := by rw [hM_50]; exact mup_s
  have F_52 : M_49 (b + 1) = .inl (kI k, 8, .inl (fun zq => nI ((fun _ => 0) zq))) := by rw [hM_50, mup_n (by omega)]; exact F_46
  have F_53 : M_49 (b + 2) = .inl (kI k, 8, .inl (fun zq => nI ((fun _ => 0) zq))) := by rw [hM_50, mup_n (by omega)]; exact F_47
  have F_54 : M_49 (b + 3) = .inl (kI k, 8, .inl (fun zq => nI ((fun _ => 0) zq))) := by rw [hM_50, mup_n (by omega)]; exact F_48
  refine v_aload_n X 0 dX6_init_48 rfl ?_
  refine v_iconst X (v := nI 0) (by decide) dX6_init_49 ?_
  refine v_put X cls6 F_51 (by omega) 7 (by decide) m_194 rfl rfl rfl rfl (Nat.le_of_ble_eq_true rfl) dX6_init_50 (fun M_55 hM_56 => ?_)
  have F_57 : M_55 b = .inr (6, [.ref (ad k (b + 1)), .ref (ad k (b + 2)), .ref (ad k (b + 3)), .int (nI 0), .int (nI 0), .int (nI 0), .int (nI 0), .int (nI 0), .int (nI 0)]) := by rw [hM_56]; exact mup_s
  have F_58 : M_55 (b + 1) = .inl (kI k, 8, .inl (fun zq => nI ((fun _ => 0) zq))) := by rw [hM_56, mup_n (by omega)]; exact F_52
  have F_59 : M_55 (b + 2) = .inl (kI k, 8, .inl (fun zq => nI ((fun _ => 0) zq))) := by rw [hM_56, mup_n (by omega)]; exact F_53
  have F_60 : M_55 (b + 3) = .inl (kI k, 8, .inl (fun zq => nI ((fun _ => 0) zq))) := by rw [hM_56, mup_n (by omega)]; exact F_54
  refine v_aload_n X 0 dX6_init_53 rfl ?_
  refine v_bipush X (v := (-9)) (by decide) dX6_init_54 ?_
  refine v_top (show (Value.int ((-9)) : Value) = .int (oI none) from congrArg _ (rfl)) ?_
  refine v_put X cls6 F_57 (by omega) 8 (by decide) m_195 rfl rfl rfl rfl (Nat.le_of_ble_eq_true rfl) dX6_init_56 (fun M_61 hM_62 => ?_)
  have F_63 : M_61 b = .inr (6, [.ref (ad k (b + 1)), .ref (ad k (b + 2)), .ref (ad k (b + 3)), .int (nI 0), .int (nI 0), .int (nI 0), .int (nI 0), .int (nI 0), .int (oI none)]) := by rw [hM_62]; exact mup_s
  have F_64 : M_61 (b + 1) = .inl (kI k, 8, .inl (fun zq => nI ((fun _ => 0) zq))) := by rw [hM_62, mup_n (by omega)]; exact F_58
  have F_65 : M_61 (b + 2) = .inl (kI k, 8, .inl (fun zq => nI ((fun _ => 0) zq))) := by rw [hM_62, mup_n (by omega)]; exact F_59
  have F_66 : M_61 (b + 3) = .inl (kI k, 8, .inl (fun zq => nI ((fun _ => 0) zq))) := by rw [hM_62, mup_n (by omega)]; exact F_60
  have F9 : M_61 (b + 3) = .inl (kI k, 8, .inl (fun zq => oI ((fun _ => some 0 : Nat → Option Nat) zq))) := F_66
  exact v_vretI X ri E ⟨Nat.le_of_ble_eq_true rfl, Nat.le_of_ble_eq_true rfl⟩ dX6_init_59 ⟨⟨by omega, trivial, fun n h => (by cases h), _, _, _, F_63, F_64, F_65, F9, fun j hj => absurd hj (Nat.not_lt_zero _), fun v hv h => absurd h (by show ¬ (Nat.testBit 0 v = true); simp)⟩, hN, (fun i hi => by rw [hM_62, mup_n (by omega), hM_56, mup_n (by omega), hM_50, mup_n (by omega), hM_44, mup_n (by omega), hM_38, mup_n (by omega), hM_32, mup_n (by omega), hM_26, mup_n (by omega), hM_20, mup_n (by omega), hM_15, mup_n (by omega), hM_10, mup_n (by omega), hM_6, mup_n (by omega), hM_2, mup_n (by omega)])⟩
set_option maxHeartbeats 4000000 in
set_option maxRecDepth 100000 in
theorem c_X2_init (l : Launch) (k0 : KX) (M : Mem) (hN0 : kN k0 = 2) (F_0 : M 1 = .inr (2, [.null, .int (nI 0), .null, .int (nI 0), .int (nI 0), .int (nI 0)])) : CI l yX2_init cX2_init 1 { frames := 2, cells := 3, slots := 116, locals := 40 } k0 [.ref (ad k0 1)] M (fun k' M' => TxAt k' M' [] ∧ kN k' = 1 + 4 ∧ ∀ i, i < 1 → M' i = M i) := by
  refine CI.of (by decide) rfl (Nat.le_of_ble_eq_true rfl) (fun C X hCl hCR ri => ?_)
  show V C k0 1 (0, 0) M 0 [(0, .ref (ad k0 1))] []
  obtain ⟨k, hk⟩ : ∃ k : KX, k = k0 := ⟨k0, rfl⟩
  have E : kext k0 k := by rw [hk]; exact kext.rf
  have hN : kN k = 2 := by rw [hk]; exact hN0
  rw [← hk] at X ⊢
  refine v_aload_n X 0 dX2_init_0 rfl ?_
  refine v_objInit X hCR m_67 (by decide) (Nat.le_of_ble_eq_true rfl) (Nat.le_of_ble_eq_true rfl) dX2_init_1 ?_
  refine v_aload_n X 0 dX2_init_4 rfl ?_
  refine v_bipush X (v := nI 90) (by decide) dX2_init_5 ?_
  refine v_newI X hCR (by decide) (by decide) m_4 ⟨Nat.le_of_ble_eq_true rfl, Nat.le_of_ble_eq_true rfl⟩ dX2_init_7 (fun k M_1 E1 hN1 hM_2 X => ?_)
  rw [hN] at hN1 hM_2
  rw [hN]
  have hN : kN k = 3 := by omega
  have F_3 : M_1 1 = .inr (2, [.null, .int (nI 0), .null, .int (nI 0), .int (nI 0), .int (nI 0)]) := by rw [hM_2, mup_n (by omega)]; exact F_0
  have F_4 : M_1 2 = .inl (kI k, 90, .inl (fun zq => nI ((fun _ => 0) zq))) := by rw [hM_2, mup_s, E1.I]
  refine v_cast (lv' := [(0, .ref (ad k 1))]) (st' := [.ref (ad k 2), .ref (ad k 1)]) (by rw [E1.at (i := 1) (by omega)]) (by rw [E1.at (i := 1) (by omega)]) ?_
  have E := E.tr E1
  refine v_putF X ri.2.1 cls2 F_3 (by omega) 0 (by decide) m_68 rfl rfl rfl rfl rfl (Nat.le_of_ble_eq_true rfl) dX2_init_9 (fun M_5 hM_6 => ?_)
  have F_7 : M_5 1 = .inr (2, [.ref (ad k 2), .int (nI 0), .null, .int (nI 0), .int (nI 0), .int (nI 0)]) := by rw [hM_6]; exact mup_s
  have F_8 : M_5 2 = .inl (kI k, 90, .inl (fun zq => nI ((fun _ => 0) zq))) := by rw [hM_6, mup_n (by omega)]; exact F_4
  refine v_aload_n X 0 dX2_init_12 rfl ?_
  refine v_iconst X (v := nI 0) (by decide) dX2_init_13 ?_
  refine v_put X cls2 F_7 (by omega) 1 (by decide) m_69 rfl rfl rfl rfl (Nat.le_of_ble_eq_true rfl) dX2_init_14 (fun M_9 hM_10 => ?_)
  have F_11 : M_9 1 = .inr (2, [.ref (ad k 2), .int (nI 0), .null, .int (nI 0), .int (nI 0), .int (nI 0)]) := by rw [hM_10]; exact mup_s
  have F_12 : M_9 2 = .inl (kI k, 90, .inl (fun zq => nI ((fun _ => 0) zq))) := by rw [hM_10, mup_n (by omega)]; exact F_8
  refine v_aload_n X 0 dX2_init_17 rfl ?_
  have hfs_13 : ∀ j, j < 2 → defaultValue (tyX1 j) = vp_V [.null, .int (nI 0)] j := by
    intro j hj
    have h : j = 0 ∨ j = 1 := by omega
    rcases h with rfl | rfl <;> rfl
  refine v_new X hCR cls1 hfs_13 m_70 m_71 m_15 ⟨Nat.le_of_ble_eq_true rfl, Nat.le_of_ble_eq_true rfl⟩ dX2_init_18 (fun k M_14 E1 hN1 hM_15 X => ?_)
  rw [hN] at hN1 hM_15
  rw [hN]
  have hN : kN k = 4 := by omega
  have F_16 : M_14 1 = .inr (2, [.ref (ad k 2), .int (nI 0), .null, .int (nI 0), .int (nI 0), .int (nI 0)]) := by rw [hM_15, mup_n (by omega), E1.at (i := 2) (by omega)]; exact F_11
  have F_17 : M_14 2 = .inl (kI k, 90, .inl (fun zq => nI ((fun _ => 0) zq))) := by rw [hM_15, mup_n (by omega), E1.I]; exact F_12
  have F_18 : M_14 3 = .inr (1, [.null, .int (nI 0)]) := by rw [hM_15, mup_s]
  refine v_cast (lv' := [(0, .ref (ad k 1))]) (st' := [.ref (ad k 3), .ref (ad k 1)]) (by rw [E1.at (i := 1) (by omega)]) (by rw [E1.at (i := 1) (by omega)]) ?_
  have E := E.tr E1
  refine v_dup X rfl dX2_init_21 ?_
  refine v_callIN X ri.2.2.1 hCl hCR (c_X1_init l k M_14 3 hN F_18) rfl mo_X1_init m_44 nw_1 m_76 m_15 (by decide) rfl rfl (Nat.le_of_ble_eq_true rfl) ⟨Nat.le_of_ble_eq_true rfl, Nat.le_of_ble_eq_true rfl⟩ dX2_init_22 (fun k M_19 E1 hp X => ?_)
  obtain ⟨hp_21, hN2, hf_20⟩ := hp
  have hN3 : kN k = 5 := by rw [hN2]
  have F_22 : M_19 1 = .inr (2, [.ref (ad k 2), .int (nI 0), .null, .int (nI 0), .int (nI 0), .int (nI 0)]) := by rw [hf_20 _ (by omega), E1.at (i := 2) (by omega)]; exact F_16
  have F_23 : M_19 2 = .inl (kI k, 90, .inl (fun zq => nI ((fun _ => 0) zq))) := by rw [hf_20 _ (by omega), E1.I]; exact F_17
  have hN : kN k = 5 := hN3
  refine v_cast (lv' := [(0, .ref (ad k 1))]) (st' := [.ref (ad k 3), .ref (ad k 1)]) (by rw [E1.at (i := 1) (by omega)]) (by rw [E1.at (i := 3) (by omega), E1.at (i := 1) (by omega)]) ?_
  have E := E.tr E1
  refine v_putF X ri.2.1 cls2 F_22 (by omega) 2 (by decide) m_72 rfl rfl rfl rfl rfl (Nat.le_of_ble_eq_true rfl) dX2_init_25 (fun M_24 hM_25 => ?_)
  have F_26 : M_24 1 = .inr (2, [.ref (ad k 2), .int (nI 0), .ref (ad k 3), .int (nI 0), .int (nI 0), .int (nI 0)]) := by rw [hM_25]; exact mup_s
  have F_27 : M_24 2 = .inl (kI k, 90, .inl (fun zq => nI ((fun _ => 0) zq))) := by rw [hM_25, mup_n (by omega)]; exact F_23
  have P_28 : FmAt k M_24 3 [] := hp_21.fr (fun i h1 h2 => by rw [hM_25, mup_n (by omega)])
  refine v_aload_n X 0 dX2_init_28 rfl ?_
  refine v_iconst X (v := nI 0) (by decide) dX2_init_29 ?_
  refine v_put X cls2 F_26 (by omega) 3 (by decide) m_73 rfl rfl rfl rfl (Nat.le_of_ble_eq_true rfl) dX2_init_30 (fun M_29 hM_30 => ?_)
  have F_31 : M_29 1 = .inr (2, [.ref (ad k 2), .int (nI 0), .ref (ad k 3), .int (nI 0), .int (nI 0), .int (nI 0)]) := by rw [hM_30]; exact mup_s
  have F_32 : M_29 2 = .inl (kI k, 90, .inl (fun zq => nI ((fun _ => 0) zq))) := by rw [hM_30, mup_n (by omega)]; exact F_27
  have P_33 : FmAt k M_29 3 [] := P_28.fr (fun i h1 h2 => by rw [hM_30, mup_n (by omega)])
  refine v_aload_n X 0 dX2_init_33 rfl ?_
  refine v_iconst X (v := nI 0) (by decide) dX2_init_34 ?_
  refine v_put X cls2 F_31 (by omega) 4 (by decide) m_74 rfl rfl rfl rfl (Nat.le_of_ble_eq_true rfl) dX2_init_35 (fun M_34 hM_35 => ?_)
  have F_36 : M_34 1 = .inr (2, [.ref (ad k 2), .int (nI 0), .ref (ad k 3), .int (nI 0), .int (nI 0), .int (nI 0)]) := by rw [hM_35]; exact mup_s
  have F_37 : M_34 2 = .inl (kI k, 90, .inl (fun zq => nI ((fun _ => 0) zq))) := by rw [hM_35, mup_n (by omega)]; exact F_32
  have P_38 : FmAt k M_34 3 [] := P_33.fr (fun i h1 h2 => by rw [hM_35, mup_n (by omega)])
  refine v_aload_n X 0 dX2_init_38 rfl ?_
  refine v_iconst X (v := nI 0) (by decide) dX2_init_39 ?_
  refine v_put X cls2 F_36 (by omega) 5 (by decide) m_75 rfl rfl rfl rfl (Nat.le_of_ble_eq_true rfl) dX2_init_40 (fun M_39 hM_40 => ?_)
  have F_41 : M_39 1 = .inr (2, [.ref (ad k 2), .int (nI 0), .ref (ad k 3), .int (nI 0), .int (nI 0), .int (nI 0)]) := by rw [hM_40]; exact mup_s
  have F_42 : M_39 2 = .inl (kI k, 90, .inl (fun zq => nI ((fun _ => 0) zq))) := by rw [hM_40, mup_n (by omega)]; exact F_37
  have P_43 : FmAt k M_39 3 [] := P_38.fr (fun i h1 h2 => by rw [hM_40, mup_n (by omega)])
  exact v_vretI X ri E ⟨Nat.le_of_ble_eq_true rfl, Nat.le_of_ble_eq_true rfl⟩ dX2_init_43 ⟨⟨by decide, fun c h => absurd h List.not_mem_nil, ([], 0, 0, 0), _, ⟨by omega, F_41, P_43⟩, F_42, fun j hj => absurd hj (Nat.not_lt_zero _)⟩, hN, (fun i hi => by rw [hM_40, mup_n (by omega), hM_35, mup_n (by omega), hM_30, mup_n (by omega), hM_25, mup_n (by omega), hf_20 _ (by omega), hM_15, mup_n (by omega), hM_10, mup_n (by omega), hM_6, mup_n (by omega), hM_2, mup_n (by omega)])⟩
set_option maxHeartbeats 4000000 in
set_option maxRecDepth 100000 in
theorem c_X4_init (l : Launch) (k0 : KX) (M : Mem) (hN0 : kN k0 = 82) (F_0 : M 81 = .inr (4, [.null, .int (bI false)])) : CI l yX4_init cX4_init 1 { frames := 1, cells := 1, slots := 256, locals := 20 } k0 [.ref (ad k0 81)] M (fun k' M' => MoNew k' M' 81 ∧ kN k' = 81 + 2 ∧ ∀ i, i < 81 → M' i = M i) := by
  refine CI.of (by decide) rfl (Nat.le_of_ble_eq_true rfl) (fun C X hCl hCR ri => ?_)
  show V C k0 1 (0, 0) M 0 [(0, .ref (ad k0 81))] []
  obtain ⟨k, hk⟩ : ∃ k : KX, k = k0 := ⟨k0, rfl⟩
  have E : kext k0 k := by rw [hk]; exact kext.rf
  have hN : kN k = 82 := by rw [hk]; exact hN0
  rw [← hk] at X ⊢
  refine v_aload_n X 0 dX4_init_0 rfl ?_
  refine v_objInit X hCR m_162 (by decide) (Nat.le_of_ble_eq_true rfl) (Nat.le_of_ble_eq_true rfl) dX4_init_1 ?_
  refine v_aload_n X 0 dX4_init_4 rfl ?_
  refine v_sipush X (v := nI 256) (by decide) dX4_init_5 ?_
  refine v_newI X hCR (by decide) (by decide) m_4 ⟨Nat.le_of_ble_eq_true rfl, Nat.le_of_ble_eq_true rfl⟩ dX4_init_8 (fun k M_1 E1 hN1 hM_2 X => ?_)
  rw [hN] at hN1 hM_2
  rw [hN]
  have hN : kN k = 83 := by omega
  have F_3 : M_1 81 = .inr (4, [.null, .int (bI false)]) := by rw [hM_2, mup_n (by omega)]; exact F_0
  have F_4 : M_1 82 = .inl (kI k, 256, .inl (fun zq => nI ((fun _ => 0) zq))) := by rw [hM_2, mup_s, E1.I]
  refine v_cast (lv' := [(0, .ref (ad k 81))]) (st' := [.ref (ad k 82), .ref (ad k 81)]) (by rw [E1.at (i := 81) (by omega)]) (by rw [E1.at (i := 81) (by omega)]) ?_
  have E := E.tr E1
  refine v_putF X ri.2.1 cls4 F_3 (by omega) 0 (by decide) m_163 rfl rfl rfl rfl rfl (Nat.le_of_ble_eq_true rfl) dX4_init_10 (fun M_5 hM_6 => ?_)
  have F_7 : M_5 81 = .inr (4, [.ref (ad k 82), .int (bI false)]) := by rw [hM_6]; exact mup_s
  have F_8 : M_5 82 = .inl (kI k, 256, .inl (fun zq => nI ((fun _ => 0) zq))) := by rw [hM_6, mup_n (by omega)]; exact F_4
  refine v_aload_n X 0 dX4_init_13 rfl ?_
  refine v_iconst X (v := bI true) (by decide) dX4_init_14 ?_
  refine v_put X cls4 F_7 (by omega) 1 (by decide) m_164 rfl rfl (narZ _) (fitZ _) (Nat.le_of_ble_eq_true rfl) dX4_init_15 (fun M_9 hM_10 => ?_)
  have F_11 : M_9 81 = .inr (4, [.ref (ad k 82), .int (bI true)]) := by rw [hM_10]; exact mup_s
  have F_12 : M_9 82 = .inl (kI k, 256, .inl (fun zq => nI ((fun _ => 0) zq))) := by rw [hM_10, mup_n (by omega)]; exact F_8
  exact v_vretI X ri E ⟨Nat.le_of_ble_eq_true rfl, Nat.le_of_ble_eq_true rfl⟩ dX4_init_18 ⟨⟨by omega, _, F_11, F_12⟩, hN, (fun i hi => by rw [hM_10, mup_n (by omega), hM_6, mup_n (by omega), hM_2, mup_n (by omega)])⟩
set_option maxHeartbeats 4000000 in
set_option maxRecDepth 100000 in
theorem c_X0_init (l : Launch) (k0 : KX) (M : Mem) (hN0 : kN k0 = 84) (F_0 : M 83 = .inr (0, [.null, .int (nI 0), .int (bI false)])) : CI l yX0_init cX0_init 1 { frames := 1, cells := 1, slots := 8, locals := 20 } k0 [.ref (ad k0 83)] M (fun k' M' => ElNew k' M' 83 ∧ kN k' = 83 + 2 ∧ ∀ i, i < 83 → M' i = M i) := by
  refine CI.of (by decide) rfl (Nat.le_of_ble_eq_true rfl) (fun C X hCl hCR ri => ?_)
  show V C k0 1 (0, 0) M 0 [(0, .ref (ad k0 83))] []
  obtain ⟨k, hk⟩ : ∃ k : KX, k = k0 := ⟨k0, rfl⟩
  have E : kext k0 k := by rw [hk]; exact kext.rf
  have hN : kN k = 84 := by rw [hk]; exact hN0
  rw [← hk] at X ⊢
  refine v_aload_n X 0 dX0_init_0 rfl ?_
  refine v_objInit X hCR m_1 (by decide) (Nat.le_of_ble_eq_true rfl) (Nat.le_of_ble_eq_true rfl) dX0_init_1 ?_
  refine v_aload_n X 0 dX0_init_4 rfl ?_
  refine v_bipush X (v := nI 8) (by decide) dX0_init_5 ?_
  refine v_newI X hCR (by decide) (by decide) m_4 ⟨Nat.le_of_ble_eq_true rfl, Nat.le_of_ble_eq_true rfl⟩ dX0_init_7 (fun k M_1 E1 hN1 hM_2 X => ?_)
  rw [hN] at hN1 hM_2
  rw [hN]
  have hN : kN k = 85 := by omega
  have F_3 : M_1 83 = .inr (0, [.null, .int (nI 0), .int (bI false)]) := by rw [hM_2, mup_n (by omega)]; exact F_0
  have F_4 : M_1 84 = .inl (kI k, 8, .inl (fun zq => nI ((fun _ => 0) zq))) := by rw [hM_2, mup_s, E1.I]
  refine v_cast (lv' := [(0, .ref (ad k 83))]) (st' := [.ref (ad k 84), .ref (ad k 83)]) (by rw [E1.at (i := 83) (by omega)]) (by rw [E1.at (i := 83) (by omega)]) ?_
  have E := E.tr E1
  refine v_putF X ri.2.1 cls0 F_3 (by omega) 0 (by decide) m_5 rfl rfl rfl rfl rfl (Nat.le_of_ble_eq_true rfl) dX0_init_9 (fun M_5 hM_6 => ?_)
  have F_7 : M_5 83 = .inr (0, [.ref (ad k 84), .int (nI 0), .int (bI false)]) := by rw [hM_6]; exact mup_s
  have F_8 : M_5 84 = .inl (kI k, 8, .inl (fun zq => nI ((fun _ => 0) zq))) := by rw [hM_6, mup_n (by omega)]; exact F_4
  refine v_aload_n X 0 dX0_init_12 rfl ?_
  refine v_iconst X (v := nI 0) (by decide) dX0_init_13 ?_
  refine v_put X cls0 F_7 (by omega) 1 (by decide) m_6 rfl rfl rfl rfl (Nat.le_of_ble_eq_true rfl) dX0_init_14 (fun M_9 hM_10 => ?_)
  have F_11 : M_9 83 = .inr (0, [.ref (ad k 84), .int (nI 0), .int (bI false)]) := by rw [hM_10]; exact mup_s
  have F_12 : M_9 84 = .inl (kI k, 8, .inl (fun zq => nI ((fun _ => 0) zq))) := by rw [hM_10, mup_n (by omega)]; exact F_8
  refine v_aload_n X 0 dX0_init_17 rfl ?_
  refine v_iconst X (v := bI true) (by decide) dX0_init_18 ?_
  refine v_put X cls0 F_11 (by omega) 2 (by decide) m_7 rfl rfl (narZ _) (fitZ _) (Nat.le_of_ble_eq_true rfl) dX0_init_19 (fun M_13 hM_14 => ?_)
  have F_15 : M_13 83 = .inr (0, [.ref (ad k 84), .int (nI 0), .int (bI true)]) := by rw [hM_14]; exact mup_s
  have F_16 : M_13 84 = .inl (kI k, 8, .inl (fun zq => nI ((fun _ => 0) zq))) := by rw [hM_14, mup_n (by omega)]; exact F_12
  exact v_vretI X ri E ⟨Nat.le_of_ble_eq_true rfl, Nat.le_of_ble_eq_true rfl⟩ dX0_init_22 ⟨⟨by omega, _, F_15, F_16⟩, hN, (fun i hi => by rw [hM_14, mup_n (by omega), hM_10, mup_n (by omega), hM_6, mup_n (by omega), hM_2, mup_n (by omega)])⟩
set_option maxHeartbeats 4000000 in
set_option maxRecDepth 100000 in
theorem c_X3_init (l : Launch) (k0 : KX) (M : Mem) (hN0 : kN k0 = 14) (F_0 : M 13 = .inr (3, [.null, .null, .null, .int (nI 0)])) : CI l yX3_init cX3_init 2 { frames := 3, cells := 67, slots := 610, locals := 60 } k0 [.ref (ad k0 13)] M (fun k' M' => MeNew k' M' 13 ∧ kN k' = 13 + 68 ∧ ∀ i, i < 13 → M' i = M i) := by
  refine CI.of (by decide) rfl (Nat.le_of_ble_eq_true rfl) (fun C X hCl hCR ri => ?_)
  show V C k0 2 (0, 0) M 0 [(0, .ref (ad k0 13))] []
  obtain ⟨k, hk⟩ : ∃ k : KX, k = k0 := ⟨k0, rfl⟩
  have E : kext k0 k := by rw [hk]; exact kext.rf
  have hN : kN k = 14 := by rw [hk]; exact hN0
  rw [← hk] at X ⊢
  have L2 : ∀ (fu : Nat) (k : KX) (g1 g : Nat → Option Nat) (j : Nat) (Mq : Mem), 2 - j < fu → (OKc C k cX3_init RX3 2 none) → (kext k0 k) → (kN k = 73 + 4 * j) → (j ≤ 2) → (∀ i, i < 14 → g1 i = some (ad k (17 + 4 * i)) ∧ StAt k Mq (17 + 4 * i) [] []) → (∀ i, i < j → g i = some (ad k (73 + 4 * i)) ∧ StAt k Mq (73 + 4 * i) [] []) → (∀ i, i < 13 → Mq i = M i) → Mq 13 = .inr (3, [.ref (ad k 14), .ref (ad k 15), .ref (ad k 16), .int (nI 0)]) → Mq 14 = .inl (kS k, 14, .inr (.inr (.inr (.inr g1)))) → Mq 15 = .inl (kS k, 2, .inr (.inr (.inr (.inr g)))) → Mq 16 = .inl (kZ k, 2, .inl (fun zq => bI ((fun _ => false) zq))) → V C k 2 (59 + 4 * j, 536 + 37 * j) Mq 62 [(0, .ref (ad k 13)), (1, .int (nI j))] [] := by
    intro fu
    induction fu with
    | zero => intro k g1 g j Mq hfu; exact absurd hfu (Nat.not_lt_zero _)
    | succ fu ih =>
      intro k g1 g j Mq hfu X E hN hj hg1 hg hfr F13 F14 F15 F16
      refine v_iload_n X 1 dX3_init_62 rfl ?_
      refine v_iconst X (v := nI 2) (by decide) dX3_init_63 ?_
      refine v_cgeN X 86 (by omega) (by omega) dX3_init_64 (by decide) (fun c_1 => ?_) (fun c_1 => ?_)
      · have hj2 : j = 2 := by omega
        subst hj2
        exact v_vretI X ri E ⟨Nat.le_of_ble_eq_true rfl, Nat.le_of_ble_eq_true rfl⟩ dX3_init_86 ⟨⟨by omega, F13, F16, ⟨_, F14, hg1⟩, _, F15, hg⟩, by omega, hfr⟩
      · have EL : kext k k := kext.rf
        refine v_aload_n X 0 dX3_init_67 rfl ?_
        refine v_get X cls3 F13 (by omega) 1 (by decide) m_128 rfl rfl dX3_init_68 ?_
        refine v_iload_n X 1 dX3_init_71 rfl ?_
        have hfs_2 : ∀ j, j < 3 → defaultValue (tyX5 j) = vp_V [.null, .null, .int (nI 0)] j := by
          intro j hj
          have h : j = 0 ∨ j = 1 ∨ j = 2 := by omega
          rcases h with rfl | rfl | rfl <;> rfl
        refine v_new X hCR cls5 hfs_2 m_126 m_132 m_133 ⟨(show 59 + 4 * j + 1 ≤ 67 by omega), (show 536 + 37 * j + 3 ≤ 610 by omega)⟩ dX3_init_72 (fun k M_3 E1 hN1 hM_4 X => ?_)
        rw [hN] at hN1 hM_4
        rw [hN]
        have hN : kN k = 73 + 4 * j + 1 := by omega
        have F_5 : M_3 13 = .inr (3, [.ref (ad k 14), .ref (ad k 15), .ref (ad k 16), .int (nI 0)]) := by rw [hM_4, mup_n (by omega), E1.at (i := 14) (by omega), E1.at (i := 15) (by omega), E1.at (i := 16) (by omega)]; exact F13
        have F_6 : M_3 14 = .inl (kS k, 14, .inr (.inr (.inr (.inr g1)))) := by rw [hM_4, mup_n (by omega), E1.S]; exact F14
        have F_7 : M_3 15 = .inl (kS k, 2, .inr (.inr (.inr (.inr g)))) := by rw [hM_4, mup_n (by omega), E1.S]; exact F15
        have F_8 : M_3 16 = .inl (kZ k, 2, .inl (fun zq => bI ((fun _ => false) zq))) := by rw [hM_4, mup_n (by omega), E1.Z]; exact F16
        have F_9 : M_3 (73 + 4 * j) = .inr (5, [.null, .null, .int (nI 0)]) := by rw [hM_4, mup_s]
        refine v_cast (lv' := [(0, .ref (ad k 13)), (1, .int (nI j))]) (st' := [.ref (ad k (73 + 4 * j)), .int (nI j), .ref (ad k 15)]) (by rw [E1.at (i := 13) (by omega)]) (by rw [E1.at (i := 15) (by omega)]) ?_
        have E := E.tr E1
        have EL := EL.tr E1
        refine v_dup X rfl dX3_init_75 ?_
        refine v_callIN X ri.2.2.1 hCl hCR (c_X5_init l k M_3 (73 + 4 * j) hN F_9) rfl mo_X5_init m_119 nw_17 m_134 m_133 (by decide) rfl rfl (Nat.le_of_ble_eq_true rfl) ⟨(show 59 + 4 * j + 1 + 3 ≤ 67 by omega), (show 536 + 37 * j + 3 + 34 ≤ 610 by omega)⟩ dX3_init_76 (fun k M_10 E1 hp X => ?_)
        obtain ⟨hp_12, hN2, hf_11⟩ := hp
        have hN3 : kN k = 73 + 4 * j + 4 := by rw [hN2]
        have F_13 : M_10 13 = .inr (3, [.ref (ad k 14), .ref (ad k 15), .ref (ad k 16), .int (nI 0)]) := by rw [hf_11 _ (by omega), E1.at (i := 14) (by omega), E1.at (i := 15) (by omega), E1.at (i := 16) (by omega)]; exact F_5
        have F_14 : M_10 14 = .inl (kS k, 14, .inr (.inr (.inr (.inr g1)))) := by rw [hf_11 _ (by omega), E1.S]; exact F_6
        have F_15 : M_10 15 = .inl (kS k, 2, .inr (.inr (.inr (.inr g)))) := by rw [hf_11 _ (by omega), E1.S]; exact F_7
        have F_16 : M_10 16 = .inl (kZ k, 2, .inl (fun zq => bI ((fun _ => false) zq))) := by rw [hf_11 _ (by omega), E1.Z]; exact F_8
        have hN : kN k = 73 + 4 * j + 4 := hN3
        refine v_cast (lv' := [(0, .ref (ad k 13)), (1, .int (nI j))]) (st' := [.ref (ad k (73 + 4 * j)), .int (nI j), .ref (ad k 15)]) (by rw [E1.at (i := 13) (by omega)]) (by rw [E1.at (i := 73 + 4 * j) (by omega), E1.at (i := 15) (by omega)]) ?_
        have E := E.tr E1
        have EL := EL.tr E1
        obtain ⟨gg, hF5, _⟩ := hp_12.2.2.2
        refine v_aast X F_15 (by omega) (by omega) (by decide) hF5 (by omega) dX3_init_79 (fun M_17 hM_18 => ?_)
        have F_19 : M_17 13 = .inr (3, [.ref (ad k 14), .ref (ad k 15), .ref (ad k 16), .int (nI 0)]) := by rw [hM_18, mup_n (by omega)]; exact F_13
        have F_20 : M_17 14 = .inl (kS k, 14, .inr (.inr (.inr (.inr g1)))) := by rw [hM_18, mup_n (by omega)]; exact F_14
        have F_21 : M_17 15 = .inl (kS k, 2, .inr (.inr (.inr (.inr (va_up g j (some (ad k (73 + 4 * j)))))))) := by rw [hM_18]; exact mup_s
        have F_22 : M_17 16 = .inl (kZ k, 2, .inl (fun zq => bI ((fun _ => false) zq))) := by rw [hM_18, mup_n (by omega)]; exact F_16
        have P_23 : StAt k M_17 (73 + 4 * j) [] [] := hp_12.fr (fun i h1 h2 => by rw [hM_18, mup_n (by omega)])
        refine v_iinc X (v := nI (j + 1)) 1 [(1, .int (nI (j + 1))), (0, .ref (ad k 13))] dX3_init_80 rfl (nI_1 _) (by decide) rfl ?_
        refine v_goto X 62 dX3_init_83 (by decide) ?_
        refine v_widen (z' := (59 + 4 * (j + 1), 536 + 37 * (j + 1))) (show 59 + 4 * j + 4 ≤ 59 + 4 * (j + 1) by omega) (show 536 + 37 * j + 37 ≤ 536 + 37 * (j + 1) by omega) ?_
        refine v_lv [1, 0] rfl ?_
        exact ih k g1 (va_up g j (some (ad k (73 + 4 * j)))) (j + 1) M_17 (by omega) X E (by omega) (by omega) (mem_keep hg1 EL (by omega) (fun i hi1 hi => by rw [hM_18, mup_n (by omega), hf_11 _ (by omega), hM_4, mup_n (by omega)])) (mem_loop hg EL (by omega) (fun i hi1 hi => by rw [hM_18, mup_n (by omega), hf_11 _ (by omega), hM_4, mup_n (by omega)]) P_23) (fun i hi => by rw [hM_18, mup_n (by omega), hf_11 _ (by omega), hM_4, mup_n (by omega)]; exact hfr i hi) F_19 F_20 F_21 F_22
  have L1 : ∀ (fu : Nat) (k : KX) (g : Nat → Option Nat) (j : Nat) (Mq : Mem), 14 - j < fu → (OKc C k cX3_init RX3 2 none) → (kext k0 k) → (kN k = 17 + 4 * j) → (j ≤ 14) → (∀ i, i < j → g i = some (ad k (17 + 4 * i)) ∧ StAt k Mq (17 + 4 * i) [] []) → (∀ i, i < 13 → Mq i = M i) → Mq 13 = .inr (3, [.ref (ad k 14), .ref (ad k 15), .ref (ad k 16), .int (nI 0)]) → Mq 14 = .inl (kS k, 14, .inr (.inr (.inr (.inr g)))) → Mq 15 = .inl (kS k, 2, .inr (.inr (.inr (.inr ((fun _ => none)))))) → Mq 16 = .inl (kZ k, 2, .inl (fun zq => bI ((fun _ => false) zq))) → V C k 2 (3 + 4 * j, 18 + 37 * j) Mq 35 [(0, .ref (ad k 13)), (1, .int (nI j))] [] := by
    intro fu
    induction fu with
    | zero => intro k g j Mq hfu; exact absurd hfu (Nat.not_lt_zero _)
    | succ fu ih =>
      intro k g j Mq hfu X E hN hj hg hfr F13 F14 F15 F16
      refine v_iload_n X 1 dX3_init_35 rfl ?_
      refine v_bipush X (v := nI 14) (by decide) dX3_init_36 ?_
      refine v_cgeN X 60 (by omega) (by omega) dX3_init_38 (by decide) (fun c_24 => ?_) (fun c_24 => ?_)
      · have hj14 : j = 14 := by omega
        subst hj14
        refine v_iconst X (v := nI 0) (by decide) dX3_init_60 ?_
        refine v_istore_n X [(1, .int (nI 0)), (0, .ref (ad k 13))] dX3_init_61 (by decide) rfl ?_
        refine v_widen (z' := (59 + 4 * 0, 536 + 37 * 0)) (by decide) (by decide) ?_
        refine v_lv [1, 0] rfl ?_
        exact L2 3 k g ((fun _ => none)) 0 Mq (by omega) X E (by omega) (by omega) hg (fun i hi => absurd hi (Nat.not_lt_zero _)) hfr F13 F14 F15 F16
      · have EL : kext k k := kext.rf
        refine v_aload_n X 0 dX3_init_41 rfl ?_
        refine v_get X cls3 F13 (by omega) 0 (by decide) m_127 rfl rfl dX3_init_42 ?_
        refine v_iload_n X 1 dX3_init_45 rfl ?_
        have hfs_25 : ∀ j, j < 3 → defaultValue (tyX5 j) = vp_V [.null, .null, .int (nI 0)] j := by
          intro j hj
          have h : j = 0 ∨ j = 1 ∨ j = 2 := by omega
          rcases h with rfl | rfl | rfl <;> rfl
        refine v_new X hCR cls5 hfs_25 m_126 m_132 m_133 ⟨(show 3 + 4 * j + 1 ≤ 67 by omega), (show 18 + 37 * j + 3 ≤ 610 by omega)⟩ dX3_init_46 (fun k M_26 E1 hN1 hM_27 X => ?_)
        rw [hN] at hN1 hM_27
        rw [hN]
        have hN : kN k = 17 + 4 * j + 1 := by omega
        have F_28 : M_26 13 = .inr (3, [.ref (ad k 14), .ref (ad k 15), .ref (ad k 16), .int (nI 0)]) := by rw [hM_27, mup_n (by omega), E1.at (i := 14) (by omega), E1.at (i := 15) (by omega), E1.at (i := 16) (by omega)]; exact F13
        have F_29 : M_26 14 = .inl (kS k, 14, .inr (.inr (.inr (.inr g)))) := by rw [hM_27, mup_n (by omega), E1.S]; exact F14
        have F_30 : M_26 15 = .inl (kS k, 2, .inr (.inr (.inr (.inr ((fun _ => none)))))) := by rw [hM_27, mup_n (by omega), E1.S]; exact F15
        have F_31 : M_26 16 = .inl (kZ k, 2, .inl (fun zq => bI ((fun _ => false) zq))) := by rw [hM_27, mup_n (by omega), E1.Z]; exact F16
        have F_32 : M_26 (17 + 4 * j) = .inr (5, [.null, .null, .int (nI 0)]) := by rw [hM_27, mup_s]
        refine v_cast (lv' := [(0, .ref (ad k 13)), (1, .int (nI j))]) (st' := [.ref (ad k (17 + 4 * j)), .int (nI j), .ref (ad k 14)]) (by rw [E1.at (i := 13) (by omega)]) (by rw [E1.at (i := 14) (by omega)]) ?_
        have E := E.tr E1
        have EL := EL.tr E1
        refine v_dup X rfl dX3_init_49 ?_
        refine v_callIN X ri.2.2.1 hCl hCR (c_X5_init l k M_26 (17 + 4 * j) hN F_32) rfl mo_X5_init m_119 nw_17 m_134 m_133 (by decide) rfl rfl (Nat.le_of_ble_eq_true rfl) ⟨(show 3 + 4 * j + 1 + 3 ≤ 67 by omega), (show 18 + 37 * j + 3 + 34 ≤ 610 by omega)⟩ dX3_init_50 (fun k M_33 E1 hp X => ?_)
        obtain ⟨hp_35, hN2, hf_34⟩ := hp
        have hN3 : kN k = 17 + 4 * j + 4 := by rw [hN2]
        have F_36 : M_33 13 = .inr (3, [.ref (ad k 14), .ref (ad k 15), .ref (ad k 16), .int (nI 0)]) := by rw [hf_34 _ (by omega), E1.at (i := 14) (by omega), E1.at (i := 15) (by omega), E1.at (i := 16) (by omega)]; exact F_28
        have F_37 : M_33 14 = .inl (kS k, 14, .inr (.inr (.inr (.inr g)))) := by rw [hf_34 _ (by omega), E1.S]; exact F_29
        have F_38 : M_33 15 = .inl (kS k, 2, .inr (.inr (.inr (.inr ((fun _ => none)))))) := by rw [hf_34 _ (by omega), E1.S]; exact F_30
        have F_39 : M_33 16 = .inl (kZ k, 2, .inl (fun zq => bI ((fun _ => false) zq))) := by rw [hf_34 _ (by omega), E1.Z]; exact F_31
        have hN : kN k = 17 + 4 * j + 4 := hN3
        refine v_cast (lv' := [(0, .ref (ad k 13)), (1, .int (nI j))]) (st' := [.ref (ad k (17 + 4 * j)), .int (nI j), .ref (ad k 14)]) (by rw [E1.at (i := 13) (by omega)]) (by rw [E1.at (i := 17 + 4 * j) (by omega), E1.at (i := 14) (by omega)]) ?_
        have E := E.tr E1
        have EL := EL.tr E1
        obtain ⟨gg, hF5, _⟩ := hp_35.2.2.2
        refine v_aast X F_37 (by omega) (by omega) (by decide) hF5 (by omega) dX3_init_53 (fun M_40 hM_41 => ?_)
        have F_42 : M_40 13 = .inr (3, [.ref (ad k 14), .ref (ad k 15), .ref (ad k 16), .int (nI 0)]) := by rw [hM_41, mup_n (by omega)]; exact F_36
        have F_43 : M_40 14 = .inl (kS k, 14, .inr (.inr (.inr (.inr (va_up g j (some (ad k (17 + 4 * j)))))))) := by rw [hM_41]; exact mup_s
        have F_44 : M_40 15 = .inl (kS k, 2, .inr (.inr (.inr (.inr ((fun _ => none)))))) := by rw [hM_41, mup_n (by omega)]; exact F_38
        have F_45 : M_40 16 = .inl (kZ k, 2, .inl (fun zq => bI ((fun _ => false) zq))) := by rw [hM_41, mup_n (by omega)]; exact F_39
        have P_46 : StAt k M_40 (17 + 4 * j) [] [] := hp_35.fr (fun i h1 h2 => by rw [hM_41, mup_n (by omega)])
        refine v_iinc X (v := nI (j + 1)) 1 [(1, .int (nI (j + 1))), (0, .ref (ad k 13))] dX3_init_54 rfl (nI_1 _) (by decide) rfl ?_
        refine v_goto X 35 dX3_init_57 (by decide) ?_
        refine v_widen (z' := (3 + 4 * (j + 1), 18 + 37 * (j + 1))) (show 3 + 4 * j + 4 ≤ 3 + 4 * (j + 1) by omega) (show 18 + 37 * j + 37 ≤ 18 + 37 * (j + 1) by omega) ?_
        refine v_lv [1, 0] rfl ?_
        exact ih k (va_up g j (some (ad k (17 + 4 * j)))) (j + 1) M_40 (by omega) X E (by omega) (by omega) (mem_loop hg EL (by omega) (fun i hi1 hi => by rw [hM_41, mup_n (by omega), hf_34 _ (by omega), hM_27, mup_n (by omega)]) P_46) (fun i hi => by rw [hM_41, mup_n (by omega), hf_34 _ (by omega), hM_27, mup_n (by omega)]; exact hfr i hi) F_42 F_43 F_44 F_45
  refine v_aload_n X 0 dX3_init_0 rfl ?_
  refine v_objInit X hCR m_125 (by decide) (Nat.le_of_ble_eq_true rfl) (Nat.le_of_ble_eq_true rfl) dX3_init_1 ?_
  refine v_aload_n X 0 dX3_init_4 rfl ?_
  refine v_bipush X (v := nI 14) (by decide) dX3_init_5 ?_
  refine v_newS X hCR ri.2.2.1 (by decide) (by decide) m_126 ⟨Nat.le_of_ble_eq_true rfl, Nat.le_of_ble_eq_true rfl⟩ dX3_init_7 (fun k M_47 E1 hN1 hM_48 X => ?_)
  rw [hN] at hN1 hM_48
  rw [hN]
  have hN : kN k = 15 := by omega
  have F_49 : M_47 13 = .inr (3, [.null, .null, .null, .int (nI 0)]) := by rw [hM_48, mup_n (by omega)]; exact F_0
  have F_50 : M_47 14 = .inl (kS k, 14, .inr (.inr (.inr (.inr ((fun _ => none)))))) := by rw [hM_48, mup_s, E1.S]
  refine v_cast (lv' := [(0, .ref (ad k 13))]) (st' := [.ref (ad k 14), .ref (ad k 13)]) (by rw [E1.at (i := 13) (by omega)]) (by rw [E1.at (i := 13) (by omega)]) ?_
  have E := E.tr E1
  refine v_putF X ri.2.1 cls3 F_49 (by omega) 0 (by decide) m_127 rfl rfl rfl rfl rfl (Nat.le_of_ble_eq_true rfl) dX3_init_10 (fun M_51 hM_52 => ?_)
  have F_53 : M_51 13 = .inr (3, [.ref (ad k 14), .null, .null, .int (nI 0)]) := by rw [hM_52]; exact mup_s
  have F_54 : M_51 14 = .inl (kS k, 14, .inr (.inr (.inr (.inr ((fun _ => none)))))) := by rw [hM_52, mup_n (by omega)]; exact F_50
  refine v_aload_n X 0 dX3_init_13 rfl ?_
  refine v_iconst X (v := nI 2) (by decide) dX3_init_14 ?_
  refine v_newS X hCR ri.2.2.1 (by decide) (by decide) m_126 ⟨Nat.le_of_ble_eq_true rfl, Nat.le_of_ble_eq_true rfl⟩ dX3_init_15 (fun k M_55 E1 hN1 hM_56 X => ?_)
  rw [hN] at hN1 hM_56
  rw [hN]
  have hN : kN k = 16 := by omega
  have F_57 : M_55 13 = .inr (3, [.ref (ad k 14), .null, .null, .int (nI 0)]) := by rw [hM_56, mup_n (by omega), E1.at (i := 14) (by omega)]; exact F_53
  have F_58 : M_55 14 = .inl (kS k, 14, .inr (.inr (.inr (.inr ((fun _ => none)))))) := by rw [hM_56, mup_n (by omega), E1.S]; exact F_54
  have F_59 : M_55 15 = .inl (kS k, 2, .inr (.inr (.inr (.inr ((fun _ => none)))))) := by rw [hM_56, mup_s, E1.S]
  refine v_cast (lv' := [(0, .ref (ad k 13))]) (st' := [.ref (ad k 15), .ref (ad k 13)]) (by rw [E1.at (i := 13) (by omega)]) (by rw [E1.at (i := 13) (by omega)]) ?_
  have E := E.tr E1
  refine v_putF X ri.2.1 cls3 F_57 (by omega) 1 (by decide) m_128 rfl rfl rfl rfl rfl (Nat.le_of_ble_eq_true rfl) dX3_init_18 (fun M_60 hM_61 => ?_)
  have F_62 : M_60 13 = .inr (3, [.ref (ad k 14), .ref (ad k 15), .null, .int (nI 0)]) := by rw [hM_61]; exact mup_s
  have F_63 : M_60 14 = .inl (kS k, 14, .inr (.inr (.inr (.inr ((fun _ => none)))))) := by rw [hM_61, mup_n (by omega)]; exact F_58
  have F_64 : M_60 15 = .inl (kS k, 2, .inr (.inr (.inr (.inr ((fun _ => none)))))) := by rw [hM_61, mup_n (by omega)]; exact F_59
  refine v_aload_n X 0 dX3_init_21 rfl ?_
  refine v_iconst X (v := nI 2) (by decide) dX3_init_22 ?_
  refine v_newZ X hCR (by decide) (by decide) m_129 ⟨Nat.le_of_ble_eq_true rfl, Nat.le_of_ble_eq_true rfl⟩ dX3_init_23 (fun k M_65 E1 hN1 hM_66 X => ?_)
  rw [hN] at hN1 hM_66
  rw [hN]
  have hN : kN k = 17 := by omega
  have F_67 : M_65 13 = .inr (3, [.ref (ad k 14), .ref (ad k 15), .null, .int (nI 0)]) := by rw [hM_66, mup_n (by omega), E1.at (i := 14) (by omega), E1.at (i := 15) (by omega)]; exact F_62
  have F_68 : M_65 14 = .inl (kS k, 14, .inr (.inr (.inr (.inr ((fun _ => none)))))) := by rw [hM_66, mup_n (by omega), E1.S]; exact F_63
  have F_69 : M_65 15 = .inl (kS k, 2, .inr (.inr (.inr (.inr ((fun _ => none)))))) := by rw [hM_66, mup_n (by omega), E1.S]; exact F_64
  have F_70 : M_65 16 = .inl (kZ k, 2, .inl (fun zq => bI ((fun _ => false) zq))) := by rw [hM_66, mup_s, E1.Z]
  refine v_cast (lv' := [(0, .ref (ad k 13))]) (st' := [.ref (ad k 16), .ref (ad k 13)]) (by rw [E1.at (i := 13) (by omega)]) (by rw [E1.at (i := 13) (by omega)]) ?_
  have E := E.tr E1
  refine v_putF X ri.2.1 cls3 F_67 (by omega) 2 (by decide) m_130 rfl rfl rfl rfl rfl (Nat.le_of_ble_eq_true rfl) dX3_init_25 (fun M_71 hM_72 => ?_)
  have F_73 : M_71 13 = .inr (3, [.ref (ad k 14), .ref (ad k 15), .ref (ad k 16), .int (nI 0)]) := by rw [hM_72]; exact mup_s
  have F_74 : M_71 14 = .inl (kS k, 14, .inr (.inr (.inr (.inr ((fun _ => none)))))) := by rw [hM_72, mup_n (by omega)]; exact F_68
  have F_75 : M_71 15 = .inl (kS k, 2, .inr (.inr (.inr (.inr ((fun _ => none)))))) := by rw [hM_72, mup_n (by omega)]; exact F_69
  have F_76 : M_71 16 = .inl (kZ k, 2, .inl (fun zq => bI ((fun _ => false) zq))) := by rw [hM_72, mup_n (by omega)]; exact F_70
  refine v_aload_n X 0 dX3_init_28 rfl ?_
  refine v_iconst X (v := nI 0) (by decide) dX3_init_29 ?_
  refine v_put X cls3 F_73 (by omega) 3 (by decide) m_131 rfl rfl rfl rfl (Nat.le_of_ble_eq_true rfl) dX3_init_30 (fun M_77 hM_78 => ?_)
  have F_79 : M_77 13 = .inr (3, [.ref (ad k 14), .ref (ad k 15), .ref (ad k 16), .int (nI 0)]) := by rw [hM_78]; exact mup_s
  have F_80 : M_77 14 = .inl (kS k, 14, .inr (.inr (.inr (.inr ((fun _ => none)))))) := by rw [hM_78, mup_n (by omega)]; exact F_74
  have F_81 : M_77 15 = .inl (kS k, 2, .inr (.inr (.inr (.inr ((fun _ => none)))))) := by rw [hM_78, mup_n (by omega)]; exact F_75
  have F_82 : M_77 16 = .inl (kZ k, 2, .inl (fun zq => bI ((fun _ => false) zq))) := by rw [hM_78, mup_n (by omega)]; exact F_76
  refine v_iconst X (v := nI 0) (by decide) dX3_init_33 ?_
  refine v_istore_n X [(1, .int (nI 0)), (0, .ref (ad k 13))] dX3_init_34 (by decide) rfl ?_
  refine v_widen (z' := (3 + 4 * 0, 18 + 37 * 0)) (by decide) (by decide) ?_
  refine v_lv [1, 0] rfl ?_
  exact L1 15 k ((fun _ => none)) 0 M_77 (by omega) X E (by omega) (by omega) (fun i hi => absurd hi (Nat.not_lt_zero _)) (fun i hi => by rw [hM_78, mup_n (by omega), hM_72, mup_n (by omega), hM_66, mup_n (by omega), hM_61, mup_n (by omega), hM_56, mup_n (by omega), hM_52, mup_n (by omega), hM_48, mup_n (by omega)]) F_79 F_80 F_81 F_82
set_option maxHeartbeats 4000000 in
set_option maxRecDepth 100000 in
theorem c_X7_init (l : Launch) (k0 : KX) (M : Mem) (hN0 : kN k0 = 1) (F_0 : M 0 = .inr (7, [.null, .null, .null, .null, .null, .null, .null, .null])) : CI l yX7_init cX7_init 1 { frames := 4, cells := 92, slots := 1145, locals := 81 } k0 [.ref (ad k0 0)] M (fun k' M' => kN k' = 93 ∧ M' 0 = .inr (7, [.ref (ad k' 1), .ref (ad k' 5), .ref (ad k' 9), .ref (ad k' 13), .ref (ad k' 81), .ref (ad k' 83), .ref (ad k' 85), .ref (ad k' 89)]) ∧ TxAt k' M' [] ∧ StAt k' M' 5 [] [] ∧ TrAt k' M' 9 [] none ∧ MeNew k' M' 13 ∧ MoNew k' M' 81 ∧ ElNew k' M' 83 ∧ StAt k' M' 85 [] [] ∧ TrAt k' M' 89 [] none) := by
  refine CI.of (by decide) rfl (Nat.le_of_ble_eq_true rfl) (fun C X hCl hCR ri => ?_)
  show V C k0 1 (0, 0) M 0 [(0, .ref (ad k0 0))] []
  obtain ⟨k, hk⟩ : ∃ k : KX, k = k0 := ⟨k0, rfl⟩
  have E : kext k0 k := by rw [hk]; exact kext.rf
  have hN : kN k = 1 := by rw [hk]; exact hN0
  rw [← hk] at X ⊢
  refine v_aload_n X 0 dX7_init_0 rfl ?_
  refine v_objInit X hCR m_246 (by decide) (Nat.le_of_ble_eq_true rfl) (Nat.le_of_ble_eq_true rfl) dX7_init_1 ?_
  refine v_aload_n X 0 dX7_init_4 rfl ?_
  have hfs_1 : ∀ j, j < 6 → defaultValue (tyX2 j) = vp_V [.null, .int (nI 0), .null, .int (nI 0), .int (nI 0), .int (nI 0)] j := by
    intro j hj
    have h : j = 0 ∨ j = 1 ∨ j = 2 ∨ j = 3 ∨ j = 4 ∨ j = 5 := by omega
    rcases h with rfl | rfl | rfl | rfl | rfl | rfl <;> rfl
  refine v_new X hCR cls2 hfs_1 m_247 m_248 m_83 ⟨Nat.le_of_ble_eq_true rfl, Nat.le_of_ble_eq_true rfl⟩ dX7_init_5 (fun k M_2 E1 hN1 hM_3 X => ?_)
  rw [hN] at hN1 hM_3
  rw [hN]
  have hN : kN k = 2 := by omega
  have F_4 : M_2 0 = .inr (7, [.null, .null, .null, .null, .null, .null, .null, .null]) := by rw [hM_3, mup_n (by omega)]; exact F_0
  have F_5 : M_2 1 = .inr (2, [.null, .int (nI 0), .null, .int (nI 0), .int (nI 0), .int (nI 0)]) := by rw [hM_3, mup_s]
  refine v_cast (lv' := [(0, .ref (ad k 0))]) (st' := [.ref (ad k 1), .ref (ad k 0)]) (by rw [E1.at (i := 0) (by omega)]) (by rw [E1.at (i := 0) (by omega)]) ?_
  have E := E.tr E1
  refine v_dup X rfl dX7_init_8 ?_
  refine v_callIN X ri.2.2.1 hCl hCR (c_X2_init l k M_2 hN F_5) rfl mo_X2_init m_66 nw_0 m_266 m_83 (by decide) rfl rfl (Nat.le_of_ble_eq_true rfl) ⟨Nat.le_of_ble_eq_true rfl, Nat.le_of_ble_eq_true rfl⟩ dX7_init_9 (fun k M_6 E1 hp X => ?_)
  obtain ⟨hp_8, hN2, hf_7⟩ := hp
  have hN3 : kN k = 5 := by rw [hN2]
  have F_9 : M_6 0 = .inr (7, [.null, .null, .null, .null, .null, .null, .null, .null]) := by rw [hf_7 _ (by omega)]; exact F_4
  have hN : kN k = 5 := hN3
  refine v_cast (lv' := [(0, .ref (ad k 0))]) (st' := [.ref (ad k 1), .ref (ad k 0)]) (by rw [E1.at (i := 0) (by omega)]) (by rw [E1.at (i := 1) (by omega), E1.at (i := 0) (by omega)]) ?_
  have E := E.tr E1
  refine v_putF X ri.2.1 cls7 F_9 (by omega) 0 (by decide) m_249 rfl rfl rfl rfl rfl (Nat.le_of_ble_eq_true rfl) dX7_init_12 (fun M_10 hM_11 => ?_)
  have F_12 : M_10 0 = .inr (7, [.ref (ad k 1), .null, .null, .null, .null, .null, .null, .null]) := by rw [hM_11]; exact mup_s
  have P_13 : TxAt k M_10 ([])  := hp_8.fr (fun i h1 h2 => by rw [hM_11, mup_n (by omega)])
  refine v_aload_n X 0 dX7_init_15 rfl ?_
  have hfs_14 : ∀ j, j < 3 → defaultValue (tyX5 j) = vp_V [.null, .null, .int (nI 0)] j := by
    intro j hj
    have h : j = 0 ∨ j = 1 ∨ j = 2 := by omega
    rcases h with rfl | rfl | rfl <;> rfl
  refine v_new X hCR cls5 hfs_14 m_250 m_132 m_133 ⟨Nat.le_of_ble_eq_true rfl, Nat.le_of_ble_eq_true rfl⟩ dX7_init_16 (fun k M_15 E1 hN1 hM_16 X => ?_)
  rw [hN] at hN1 hM_16
  rw [hN]
  have hN : kN k = 6 := by omega
  have F_17 : M_15 0 = .inr (7, [.ref (ad k 1), .null, .null, .null, .null, .null, .null, .null]) := by rw [hM_16, mup_n (by omega), E1.at (i := 1) (by omega)]; exact F_12
  have P_18 : TxAt k M_15 ([])  := P_13.ext E1 (fun i h1 h2 => by rw [hM_16, mup_n (by omega)])
  have F_19 : M_15 5 = .inr (5, [.null, .null, .int (nI 0)]) := by rw [hM_16, mup_s]
  refine v_cast (lv' := [(0, .ref (ad k 0))]) (st' := [.ref (ad k 5), .ref (ad k 0)]) (by rw [E1.at (i := 0) (by omega)]) (by rw [E1.at (i := 0) (by omega)]) ?_
  have E := E.tr E1
  refine v_dup X rfl dX7_init_19 ?_
  refine v_callIN X ri.2.2.1 hCl hCR (c_X5_init l k M_15 5 hN F_19) rfl mo_X5_init m_119 nw_8 m_134 m_133 (by decide) rfl rfl (Nat.le_of_ble_eq_true rfl) ⟨Nat.le_of_ble_eq_true rfl, Nat.le_of_ble_eq_true rfl⟩ dX7_init_20 (fun k M_20 E1 hp X => ?_)
  obtain ⟨hp_22, hN2, hf_21⟩ := hp
  have hN3 : kN k = 9 := by rw [hN2]
  have F_23 : M_20 0 = .inr (7, [.ref (ad k 1), .null, .null, .null, .null, .null, .null, .null]) := by rw [hf_21 _ (by omega), E1.at (i := 1) (by omega)]; exact F_17
  have P_24 : TxAt k M_20 ([])  := P_18.ext E1 (fun i h1 h2 => by rw [hf_21 _ (by omega)])
  have hN : kN k = 9 := hN3
  refine v_cast (lv' := [(0, .ref (ad k 0))]) (st' := [.ref (ad k 5), .ref (ad k 0)]) (by rw [E1.at (i := 0) (by omega)]) (by rw [E1.at (i := 5) (by omega), E1.at (i := 0) (by omega)]) ?_
  have E := E.tr E1
  refine v_putF X ri.2.1 cls7 F_23 (by omega) 1 (by decide) m_251 rfl rfl rfl rfl rfl (Nat.le_of_ble_eq_true rfl) dX7_init_23 (fun M_25 hM_26 => ?_)
  have F_27 : M_25 0 = .inr (7, [.ref (ad k 1), .ref (ad k 5), .null, .null, .null, .null, .null, .null]) := by rw [hM_26]; exact mup_s
  have P_28 : TxAt k M_25 ([])  := P_24.fr (fun i h1 h2 => by rw [hM_26, mup_n (by omega)])
  have P_29 : StAt k M_25 5 [] [] := hp_22.fr (fun i h1 h2 => by rw [hM_26, mup_n (by omega)])
  refine v_aload_n X 0 dX7_init_26 rfl ?_
  have hfs_30 : ∀ j, j < 9 → defaultValue (tyX6 j) = vp_V [.null, .null, .null, .int (nI 0), .int (nI 0), .int (nI 0), .int (nI 0), .int (nI 0), .int (nI 0)] j := by
    intro j hj
    have h : j = 0 ∨ j = 1 ∨ j = 2 ∨ j = 3 ∨ j = 4 ∨ j = 5 ∨ j = 6 ∨ j = 7 ∨ j = 8 := by omega
    rcases h with rfl | rfl | rfl | rfl | rfl | rfl | rfl | rfl | rfl <;> rfl
  refine v_new X hCR cls6 hfs_30 m_252 m_253 m_204 ⟨Nat.le_of_ble_eq_true rfl, Nat.le_of_ble_eq_true rfl⟩ dX7_init_27 (fun k M_31 E1 hN1 hM_32 X => ?_)
  rw [hN] at hN1 hM_32
  rw [hN]
  have hN : kN k = 10 := by omega
  have F_33 : M_31 0 = .inr (7, [.ref (ad k 1), .ref (ad k 5), .null, .null, .null, .null, .null, .null]) := by rw [hM_32, mup_n (by omega), E1.at (i := 1) (by omega), E1.at (i := 5) (by omega)]; exact F_27
  have P_34 : TxAt k M_31 ([])  := P_28.ext E1 (fun i h1 h2 => by rw [hM_32, mup_n (by omega)])
  have P_35 : StAt k M_31 5 [] [] := P_29.ext E1 (fun i h1 h2 => by rw [hM_32, mup_n (by omega)])
  have F_36 : M_31 9 = .inr (6, [.null, .null, .null, .int (nI 0), .int (nI 0), .int (nI 0), .int (nI 0), .int (nI 0), .int (nI 0)]) := by rw [hM_32, mup_s]
  refine v_cast (lv' := [(0, .ref (ad k 0))]) (st' := [.ref (ad k 9), .ref (ad k 0)]) (by rw [E1.at (i := 0) (by omega)]) (by rw [E1.at (i := 0) (by omega)]) ?_
  have E := E.tr E1
  refine v_dup X rfl dX7_init_30 ?_
  refine v_callIN X ri.2.2.1 hCl hCR (c_X6_init l k M_31 9 hN F_36) rfl mo_X6_init m_185 nw_14 m_267 m_204 (by decide) rfl rfl (Nat.le_of_ble_eq_true rfl) ⟨Nat.le_of_ble_eq_true rfl, Nat.le_of_ble_eq_true rfl⟩ dX7_init_31 (fun k M_37 E1 hp X => ?_)
  obtain ⟨hp_39, hN2, hf_38⟩ := hp
  have hN3 : kN k = 13 := by rw [hN2]
  have F_40 : M_37 0 = .inr (7, [.ref (ad k 1), .ref (ad k 5), .null, .null, .null, .null, .null, .null]) := by rw [hf_38 _ (by omega), E1.at (i := 1) (by omega), E1.at (i := 5) (by omega)]; exact F_33
  have P_41 : TxAt k M_37 ([])  := P_34.ext E1 (fun i h1 h2 => by rw [hf_38 _ (by omega)])
  have P_42 : StAt k M_37 5 [] [] := P_35.ext E1 (fun i h1 h2 => by rw [hf_38 _ (by omega)])
  have hN : kN k = 13 := hN3
  refine v_cast (lv' := [(0, .ref (ad k 0))]) (st' := [.ref (ad k 9), .ref (ad k 0)]) (by rw [E1.at (i := 0) (by omega)]) (by rw [E1.at (i := 9) (by omega), E1.at (i := 0) (by omega)]) ?_
  have E := E.tr E1
  refine v_putF X ri.2.1 cls7 F_40 (by omega) 2 (by decide) m_254 rfl rfl rfl rfl rfl (Nat.le_of_ble_eq_true rfl) dX7_init_34 (fun M_43 hM_44 => ?_)
  have F_45 : M_43 0 = .inr (7, [.ref (ad k 1), .ref (ad k 5), .ref (ad k 9), .null, .null, .null, .null, .null]) := by rw [hM_44]; exact mup_s
  have P_46 : TxAt k M_43 ([])  := P_41.fr (fun i h1 h2 => by rw [hM_44, mup_n (by omega)])
  have P_47 : StAt k M_43 5 [] [] := P_42.fr (fun i h1 h2 => by rw [hM_44, mup_n (by omega)])
  have P_48 : TrAt k M_43 9 [] none := hp_39.fr (fun i h1 h2 => by rw [hM_44, mup_n (by omega)])
  refine v_aload_n X 0 dX7_init_37 rfl ?_
  have hfs_49 : ∀ j, j < 4 → defaultValue (tyX3 j) = vp_V [.null, .null, .null, .int (nI 0)] j := by
    intro j hj
    have h : j = 0 ∨ j = 1 ∨ j = 2 ∨ j = 3 := by omega
    rcases h with rfl | rfl | rfl | rfl <;> rfl
  refine v_new X hCR cls3 hfs_49 m_255 m_256 m_148 ⟨Nat.le_of_ble_eq_true rfl, Nat.le_of_ble_eq_true rfl⟩ dX7_init_38 (fun k M_50 E1 hN1 hM_51 X => ?_)
  rw [hN] at hN1 hM_51
  rw [hN]
  have hN : kN k = 14 := by omega
  have F_52 : M_50 0 = .inr (7, [.ref (ad k 1), .ref (ad k 5), .ref (ad k 9), .null, .null, .null, .null, .null]) := by rw [hM_51, mup_n (by omega), E1.at (i := 1) (by omega), E1.at (i := 5) (by omega), E1.at (i := 9) (by omega)]; exact F_45
  have P_53 : TxAt k M_50 ([])  := P_46.ext E1 (fun i h1 h2 => by rw [hM_51, mup_n (by omega)])
  have P_54 : StAt k M_50 5 [] [] := P_47.ext E1 (fun i h1 h2 => by rw [hM_51, mup_n (by omega)])
  have P_55 : TrAt k M_50 9 [] none := P_48.ext E1 (fun i h1 h2 => by rw [hM_51, mup_n (by omega)])
  have F_56 : M_50 13 = .inr (3, [.null, .null, .null, .int (nI 0)]) := by rw [hM_51, mup_s]
  refine v_cast (lv' := [(0, .ref (ad k 0))]) (st' := [.ref (ad k 13), .ref (ad k 0)]) (by rw [E1.at (i := 0) (by omega)]) (by rw [E1.at (i := 0) (by omega)]) ?_
  have E := E.tr E1
  refine v_dup X rfl dX7_init_41 ?_
  refine v_callI X ri.2.2.1 hCl hCR (c_X3_init l k M_50 hN F_56) rfl mo_X3_init m_135 m_268 m_269 m_148 (by decide) rfl rfl (Nat.le_of_ble_eq_true rfl) ⟨Nat.le_of_ble_eq_true rfl, Nat.le_of_ble_eq_true rfl⟩ dX7_init_42 (fun k M_57 E1 hp X => ?_)
  obtain ⟨hp_59, hN2, hf_58⟩ := hp
  have hN3 : kN k = 81 := by rw [hN2]
  have F_60 : M_57 0 = .inr (7, [.ref (ad k 1), .ref (ad k 5), .ref (ad k 9), .null, .null, .null, .null, .null]) := by rw [hf_58 _ (by omega), E1.at (i := 1) (by omega), E1.at (i := 5) (by omega), E1.at (i := 9) (by omega)]; exact F_52
  have P_61 : TxAt k M_57 ([])  := P_53.ext E1 (fun i h1 h2 => by rw [hf_58 _ (by omega)])
  have P_62 : StAt k M_57 5 [] [] := P_54.ext E1 (fun i h1 h2 => by rw [hf_58 _ (by omega)])
  have P_63 : TrAt k M_57 9 [] none := P_55.ext E1 (fun i h1 h2 => by rw [hf_58 _ (by omega)])
  have hN : kN k = 81 := hN3
  refine v_cast (lv' := [(0, .ref (ad k 0))]) (st' := [.ref (ad k 13), .ref (ad k 0)]) (by rw [E1.at (i := 0) (by omega)]) (by rw [E1.at (i := 13) (by omega), E1.at (i := 0) (by omega)]) ?_
  have E := E.tr E1
  refine v_putF X ri.2.1 cls7 F_60 (by omega) 3 (by decide) m_257 rfl rfl rfl rfl rfl (Nat.le_of_ble_eq_true rfl) dX7_init_45 (fun M_64 hM_65 => ?_)
  have F_66 : M_64 0 = .inr (7, [.ref (ad k 1), .ref (ad k 5), .ref (ad k 9), .ref (ad k 13), .null, .null, .null, .null]) := by rw [hM_65]; exact mup_s
  have P_67 : TxAt k M_64 ([])  := P_61.fr (fun i h1 h2 => by rw [hM_65, mup_n (by omega)])
  have P_68 : StAt k M_64 5 [] [] := P_62.fr (fun i h1 h2 => by rw [hM_65, mup_n (by omega)])
  have P_69 : TrAt k M_64 9 [] none := P_63.fr (fun i h1 h2 => by rw [hM_65, mup_n (by omega)])
  have P_70 : MeNew k M_64 13  := hp_59.fr (fun i h1 h2 => by rw [hM_65, mup_n (by omega)])
  refine v_aload_n X 0 dX7_init_48 rfl ?_
  have hfs_71 : ∀ j, j < 2 → defaultValue (tyX4 j) = vp_V [.null, .int (bI false)] j := by
    intro j hj
    have h : j = 0 ∨ j = 1 := by omega
    rcases h with rfl | rfl <;> rfl
  refine v_new X hCR cls4 hfs_71 m_258 m_259 m_169 ⟨Nat.le_of_ble_eq_true rfl, Nat.le_of_ble_eq_true rfl⟩ dX7_init_49 (fun k M_72 E1 hN1 hM_73 X => ?_)
  rw [hN] at hN1 hM_73
  rw [hN]
  have hN : kN k = 82 := by omega
  have F_74 : M_72 0 = .inr (7, [.ref (ad k 1), .ref (ad k 5), .ref (ad k 9), .ref (ad k 13), .null, .null, .null, .null]) := by rw [hM_73, mup_n (by omega), E1.at (i := 1) (by omega), E1.at (i := 5) (by omega), E1.at (i := 9) (by omega), E1.at (i := 13) (by omega)]; exact F_66
  have P_75 : TxAt k M_72 ([])  := P_67.ext E1 (fun i h1 h2 => by rw [hM_73, mup_n (by omega)])
  have P_76 : StAt k M_72 5 [] [] := P_68.ext E1 (fun i h1 h2 => by rw [hM_73, mup_n (by omega)])
  have P_77 : TrAt k M_72 9 [] none := P_69.ext E1 (fun i h1 h2 => by rw [hM_73, mup_n (by omega)])
  have P_78 : MeNew k M_72 13  := P_70.ext E1 (fun i h1 h2 => by rw [hM_73, mup_n (by omega)])
  have F_79 : M_72 81 = .inr (4, [.null, .int (bI false)]) := by rw [hM_73, mup_s]
  refine v_cast (lv' := [(0, .ref (ad k 0))]) (st' := [.ref (ad k 81), .ref (ad k 0)]) (by rw [E1.at (i := 0) (by omega)]) (by rw [E1.at (i := 0) (by omega)]) ?_
  have E := E.tr E1
  refine v_dup X rfl dX7_init_52 ?_
  refine v_callIN X ri.2.2.1 hCl hCR (c_X4_init l k M_72 hN F_79) rfl mo_X4_init m_161 nw_19 m_270 m_169 (by decide) rfl rfl (Nat.le_of_ble_eq_true rfl) ⟨Nat.le_of_ble_eq_true rfl, Nat.le_of_ble_eq_true rfl⟩ dX7_init_53 (fun k M_80 E1 hp X => ?_)
  obtain ⟨hp_82, hN2, hf_81⟩ := hp
  have hN3 : kN k = 83 := by rw [hN2]
  have F_83 : M_80 0 = .inr (7, [.ref (ad k 1), .ref (ad k 5), .ref (ad k 9), .ref (ad k 13), .null, .null, .null, .null]) := by rw [hf_81 _ (by omega), E1.at (i := 1) (by omega), E1.at (i := 5) (by omega), E1.at (i := 9) (by omega), E1.at (i := 13) (by omega)]; exact F_74
  have P_84 : TxAt k M_80 ([])  := P_75.ext E1 (fun i h1 h2 => by rw [hf_81 _ (by omega)])
  have P_85 : StAt k M_80 5 [] [] := P_76.ext E1 (fun i h1 h2 => by rw [hf_81 _ (by omega)])
  have P_86 : TrAt k M_80 9 [] none := P_77.ext E1 (fun i h1 h2 => by rw [hf_81 _ (by omega)])
  have P_87 : MeNew k M_80 13  := P_78.ext E1 (fun i h1 h2 => by rw [hf_81 _ (by omega)])
  have hN : kN k = 83 := hN3
  refine v_cast (lv' := [(0, .ref (ad k 0))]) (st' := [.ref (ad k 81), .ref (ad k 0)]) (by rw [E1.at (i := 0) (by omega)]) (by rw [E1.at (i := 81) (by omega), E1.at (i := 0) (by omega)]) ?_
  have E := E.tr E1
  refine v_putF X ri.2.1 cls7 F_83 (by omega) 4 (by decide) m_260 rfl rfl rfl rfl rfl (Nat.le_of_ble_eq_true rfl) dX7_init_56 (fun M_88 hM_89 => ?_)
  have F_90 : M_88 0 = .inr (7, [.ref (ad k 1), .ref (ad k 5), .ref (ad k 9), .ref (ad k 13), .ref (ad k 81), .null, .null, .null]) := by rw [hM_89]; exact mup_s
  have P_91 : TxAt k M_88 ([])  := P_84.fr (fun i h1 h2 => by rw [hM_89, mup_n (by omega)])
  have P_92 : StAt k M_88 5 [] [] := P_85.fr (fun i h1 h2 => by rw [hM_89, mup_n (by omega)])
  have P_93 : TrAt k M_88 9 [] none := P_86.fr (fun i h1 h2 => by rw [hM_89, mup_n (by omega)])
  have P_94 : MeNew k M_88 13  := P_87.fr (fun i h1 h2 => by rw [hM_89, mup_n (by omega)])
  have P_95 : MoNew k M_88 81  := hp_82.fr (fun i h1 h2 => by rw [hM_89, mup_n (by omega)])
  refine v_aload_n X 0 dX7_init_59 rfl ?_
  have hfs_96 : ∀ j, j < 3 → defaultValue (tyX0 j) = vp_V [.null, .int (nI 0), .int (bI false)] j := by
    intro j hj
    have h : j = 0 ∨ j = 1 ∨ j = 2 := by omega
    rcases h with rfl | rfl | rfl <;> rfl
  refine v_new X hCR cls0 hfs_96 m_261 m_262 m_38 ⟨Nat.le_of_ble_eq_true rfl, Nat.le_of_ble_eq_true rfl⟩ dX7_init_60 (fun k M_97 E1 hN1 hM_98 X => ?_)
  rw [hN] at hN1 hM_98
  rw [hN]
  have hN : kN k = 84 := by omega
  have F_99 : M_97 0 = .inr (7, [.ref (ad k 1), .ref (ad k 5), .ref (ad k 9), .ref (ad k 13), .ref (ad k 81), .null, .null, .null]) := by rw [hM_98, mup_n (by omega), E1.at (i := 1) (by omega), E1.at (i := 5) (by omega), E1.at (i := 9) (by omega), E1.at (i := 13) (by omega), E1.at (i := 81) (by omega)]; exact F_90
  have P_100 : TxAt k M_97 ([])  := P_91.ext E1 (fun i h1 h2 => by rw [hM_98, mup_n (by omega)])
  have P_101 : StAt k M_97 5 [] [] := P_92.ext E1 (fun i h1 h2 => by rw [hM_98, mup_n (by omega)])
  have P_102 : TrAt k M_97 9 [] none := P_93.ext E1 (fun i h1 h2 => by rw [hM_98, mup_n (by omega)])
  have P_103 : MeNew k M_97 13  := P_94.ext E1 (fun i h1 h2 => by rw [hM_98, mup_n (by omega)])
  have P_104 : MoNew k M_97 81  := P_95.ext E1 (fun i h1 h2 => by rw [hM_98, mup_n (by omega)])
  have F_105 : M_97 83 = .inr (0, [.null, .int (nI 0), .int (bI false)]) := by rw [hM_98, mup_s]
  refine v_cast (lv' := [(0, .ref (ad k 0))]) (st' := [.ref (ad k 83), .ref (ad k 0)]) (by rw [E1.at (i := 0) (by omega)]) (by rw [E1.at (i := 0) (by omega)]) ?_
  have E := E.tr E1
  refine v_dup X rfl dX7_init_63 ?_
  refine v_callIN X ri.2.2.1 hCl hCR (c_X0_init l k M_97 hN F_105) rfl mo_X0_init m_0 nw_21 m_271 m_38 (by decide) rfl rfl (Nat.le_of_ble_eq_true rfl) ⟨Nat.le_of_ble_eq_true rfl, Nat.le_of_ble_eq_true rfl⟩ dX7_init_64 (fun k M_106 E1 hp X => ?_)
  obtain ⟨hp_108, hN2, hf_107⟩ := hp
  have hN3 : kN k = 85 := by rw [hN2]
  have F_109 : M_106 0 = .inr (7, [.ref (ad k 1), .ref (ad k 5), .ref (ad k 9), .ref (ad k 13), .ref (ad k 81), .null, .null, .null]) := by rw [hf_107 _ (by omega), E1.at (i := 1) (by omega), E1.at (i := 5) (by omega), E1.at (i := 9) (by omega), E1.at (i := 13) (by omega), E1.at (i := 81) (by omega)]; exact F_99
  have P_110 : TxAt k M_106 ([])  := P_100.ext E1 (fun i h1 h2 => by rw [hf_107 _ (by omega)])
  have P_111 : StAt k M_106 5 [] [] := P_101.ext E1 (fun i h1 h2 => by rw [hf_107 _ (by omega)])
  have P_112 : TrAt k M_106 9 [] none := P_102.ext E1 (fun i h1 h2 => by rw [hf_107 _ (by omega)])
  have P_113 : MeNew k M_106 13  := P_103.ext E1 (fun i h1 h2 => by rw [hf_107 _ (by omega)])
  have P_114 : MoNew k M_106 81  := P_104.ext E1 (fun i h1 h2 => by rw [hf_107 _ (by omega)])
  have hN : kN k = 85 := hN3
  refine v_cast (lv' := [(0, .ref (ad k 0))]) (st' := [.ref (ad k 83), .ref (ad k 0)]) (by rw [E1.at (i := 0) (by omega)]) (by rw [E1.at (i := 83) (by omega), E1.at (i := 0) (by omega)]) ?_
  have E := E.tr E1
  refine v_putF X ri.2.1 cls7 F_109 (by omega) 5 (by decide) m_263 rfl rfl rfl rfl rfl (Nat.le_of_ble_eq_true rfl) dX7_init_67 (fun M_115 hM_116 => ?_)
  have F_117 : M_115 0 = .inr (7, [.ref (ad k 1), .ref (ad k 5), .ref (ad k 9), .ref (ad k 13), .ref (ad k 81), .ref (ad k 83), .null, .null]) := by rw [hM_116]; exact mup_s
  have P_118 : TxAt k M_115 ([])  := P_110.fr (fun i h1 h2 => by rw [hM_116, mup_n (by omega)])
  have P_119 : StAt k M_115 5 [] [] := P_111.fr (fun i h1 h2 => by rw [hM_116, mup_n (by omega)])
  have P_120 : TrAt k M_115 9 [] none := P_112.fr (fun i h1 h2 => by rw [hM_116, mup_n (by omega)])
  have P_121 : MeNew k M_115 13  := P_113.fr (fun i h1 h2 => by rw [hM_116, mup_n (by omega)])
  have P_122 : MoNew k M_115 81  := P_114.fr (fun i h1 h2 => by rw [hM_116, mup_n (by omega)])
  have P_123 : ElNew k M_115 83  := hp_108.fr (fun i h1 h2 => by rw [hM_116, mup_n (by omega)])
  refine v_aload_n X 0 dX7_init_70 rfl ?_
  have hfs_124 : ∀ j, j < 3 → defaultValue (tyX5 j) = vp_V [.null, .null, .int (nI 0)] j := by
    intro j hj
    have h : j = 0 ∨ j = 1 ∨ j = 2 := by omega
    rcases h with rfl | rfl | rfl <;> rfl
  refine v_new X hCR cls5 hfs_124 m_250 m_132 m_133 ⟨Nat.le_of_ble_eq_true rfl, Nat.le_of_ble_eq_true rfl⟩ dX7_init_71 (fun k M_125 E1 hN1 hM_126 X => ?_)
  rw [hN] at hN1 hM_126
  rw [hN]
  have hN : kN k = 86 := by omega
  have F_127 : M_125 0 = .inr (7, [.ref (ad k 1), .ref (ad k 5), .ref (ad k 9), .ref (ad k 13), .ref (ad k 81), .ref (ad k 83), .null, .null]) := by rw [hM_126, mup_n (by omega), E1.at (i := 1) (by omega), E1.at (i := 5) (by omega), E1.at (i := 9) (by omega), E1.at (i := 13) (by omega), E1.at (i := 81) (by omega), E1.at (i := 83) (by omega)]; exact F_117
  have P_128 : TxAt k M_125 ([])  := P_118.ext E1 (fun i h1 h2 => by rw [hM_126, mup_n (by omega)])
  have P_129 : StAt k M_125 5 [] [] := P_119.ext E1 (fun i h1 h2 => by rw [hM_126, mup_n (by omega)])
  have P_130 : TrAt k M_125 9 [] none := P_120.ext E1 (fun i h1 h2 => by rw [hM_126, mup_n (by omega)])
  have P_131 : MeNew k M_125 13  := P_121.ext E1 (fun i h1 h2 => by rw [hM_126, mup_n (by omega)])
  have P_132 : MoNew k M_125 81  := P_122.ext E1 (fun i h1 h2 => by rw [hM_126, mup_n (by omega)])
  have P_133 : ElNew k M_125 83  := P_123.ext E1 (fun i h1 h2 => by rw [hM_126, mup_n (by omega)])
  have F_134 : M_125 85 = .inr (5, [.null, .null, .int (nI 0)]) := by rw [hM_126, mup_s]
  refine v_cast (lv' := [(0, .ref (ad k 0))]) (st' := [.ref (ad k 85), .ref (ad k 0)]) (by rw [E1.at (i := 0) (by omega)]) (by rw [E1.at (i := 0) (by omega)]) ?_
  have E := E.tr E1
  refine v_dup X rfl dX7_init_74 ?_
  refine v_callIN X ri.2.2.1 hCl hCR (c_X5_init l k M_125 85 hN F_134) rfl mo_X5_init m_119 nw_8 m_134 m_133 (by decide) rfl rfl (Nat.le_of_ble_eq_true rfl) ⟨Nat.le_of_ble_eq_true rfl, Nat.le_of_ble_eq_true rfl⟩ dX7_init_75 (fun k M_135 E1 hp X => ?_)
  obtain ⟨hp_137, hN2, hf_136⟩ := hp
  have hN3 : kN k = 89 := by rw [hN2]
  have F_138 : M_135 0 = .inr (7, [.ref (ad k 1), .ref (ad k 5), .ref (ad k 9), .ref (ad k 13), .ref (ad k 81), .ref (ad k 83), .null, .null]) := by rw [hf_136 _ (by omega), E1.at (i := 1) (by omega), E1.at (i := 5) (by omega), E1.at (i := 9) (by omega), E1.at (i := 13) (by omega), E1.at (i := 81) (by omega), E1.at (i := 83) (by omega)]; exact F_127
  have P_139 : TxAt k M_135 ([])  := P_128.ext E1 (fun i h1 h2 => by rw [hf_136 _ (by omega)])
  have P_140 : StAt k M_135 5 [] [] := P_129.ext E1 (fun i h1 h2 => by rw [hf_136 _ (by omega)])
  have P_141 : TrAt k M_135 9 [] none := P_130.ext E1 (fun i h1 h2 => by rw [hf_136 _ (by omega)])
  have P_142 : MeNew k M_135 13  := P_131.ext E1 (fun i h1 h2 => by rw [hf_136 _ (by omega)])
  have P_143 : MoNew k M_135 81  := P_132.ext E1 (fun i h1 h2 => by rw [hf_136 _ (by omega)])
  have P_144 : ElNew k M_135 83  := P_133.ext E1 (fun i h1 h2 => by rw [hf_136 _ (by omega)])
  have hN : kN k = 89 := hN3
  refine v_cast (lv' := [(0, .ref (ad k 0))]) (st' := [.ref (ad k 85), .ref (ad k 0)]) (by rw [E1.at (i := 0) (by omega)]) (by rw [E1.at (i := 85) (by omega), E1.at (i := 0) (by omega)]) ?_
  have E := E.tr E1
  refine v_putF X ri.2.1 cls7 F_138 (by omega) 6 (by decide) m_264 rfl rfl rfl rfl rfl (Nat.le_of_ble_eq_true rfl) dX7_init_78 (fun M_145 hM_146 => ?_)
  have F_147 : M_145 0 = .inr (7, [.ref (ad k 1), .ref (ad k 5), .ref (ad k 9), .ref (ad k 13), .ref (ad k 81), .ref (ad k 83), .ref (ad k 85), .null]) := by rw [hM_146]; exact mup_s
  have P_148 : TxAt k M_145 ([])  := P_139.fr (fun i h1 h2 => by rw [hM_146, mup_n (by omega)])
  have P_149 : StAt k M_145 5 [] [] := P_140.fr (fun i h1 h2 => by rw [hM_146, mup_n (by omega)])
  have P_150 : TrAt k M_145 9 [] none := P_141.fr (fun i h1 h2 => by rw [hM_146, mup_n (by omega)])
  have P_151 : MeNew k M_145 13  := P_142.fr (fun i h1 h2 => by rw [hM_146, mup_n (by omega)])
  have P_152 : MoNew k M_145 81  := P_143.fr (fun i h1 h2 => by rw [hM_146, mup_n (by omega)])
  have P_153 : ElNew k M_145 83  := P_144.fr (fun i h1 h2 => by rw [hM_146, mup_n (by omega)])
  have P_154 : StAt k M_145 85 [] [] := hp_137.fr (fun i h1 h2 => by rw [hM_146, mup_n (by omega)])
  refine v_aload_n X 0 dX7_init_81 rfl ?_
  have hfs_155 : ∀ j, j < 9 → defaultValue (tyX6 j) = vp_V [.null, .null, .null, .int (nI 0), .int (nI 0), .int (nI 0), .int (nI 0), .int (nI 0), .int (nI 0)] j := by
    intro j hj
    have h : j = 0 ∨ j = 1 ∨ j = 2 ∨ j = 3 ∨ j = 4 ∨ j = 5 ∨ j = 6 ∨ j = 7 ∨ j = 8 := by omega
    rcases h with rfl | rfl | rfl | rfl | rfl | rfl | rfl | rfl | rfl <;> rfl
  refine v_new X hCR cls6 hfs_155 m_252 m_253 m_204 ⟨Nat.le_of_ble_eq_true rfl, Nat.le_of_ble_eq_true rfl⟩ dX7_init_82 (fun k M_156 E1 hN1 hM_157 X => ?_)
  rw [hN] at hN1 hM_157
  rw [hN]
  have hN : kN k = 90 := by omega
  have F_158 : M_156 0 = .inr (7, [.ref (ad k 1), .ref (ad k 5), .ref (ad k 9), .ref (ad k 13), .ref (ad k 81), .ref (ad k 83), .ref (ad k 85), .null]) := by rw [hM_157, mup_n (by omega), E1.at (i := 1) (by omega), E1.at (i := 5) (by omega), E1.at (i := 9) (by omega), E1.at (i := 13) (by omega), E1.at (i := 81) (by omega), E1.at (i := 83) (by omega), E1.at (i := 85) (by omega)]; exact F_147
  have P_159 : TxAt k M_156 ([])  := P_148.ext E1 (fun i h1 h2 => by rw [hM_157, mup_n (by omega)])
  have P_160 : StAt k M_156 5 [] [] := P_149.ext E1 (fun i h1 h2 => by rw [hM_157, mup_n (by omega)])
  have P_161 : TrAt k M_156 9 [] none := P_150.ext E1 (fun i h1 h2 => by rw [hM_157, mup_n (by omega)])
  have P_162 : MeNew k M_156 13  := P_151.ext E1 (fun i h1 h2 => by rw [hM_157, mup_n (by omega)])
  have P_163 : MoNew k M_156 81  := P_152.ext E1 (fun i h1 h2 => by rw [hM_157, mup_n (by omega)])
  have P_164 : ElNew k M_156 83  := P_153.ext E1 (fun i h1 h2 => by rw [hM_157, mup_n (by omega)])
  have P_165 : StAt k M_156 85 [] [] := P_154.ext E1 (fun i h1 h2 => by rw [hM_157, mup_n (by omega)])
  have F_166 : M_156 89 = .inr (6, [.null, .null, .null, .int (nI 0), .int (nI 0), .int (nI 0), .int (nI 0), .int (nI 0), .int (nI 0)]) := by rw [hM_157, mup_s]
  refine v_cast (lv' := [(0, .ref (ad k 0))]) (st' := [.ref (ad k 89), .ref (ad k 0)]) (by rw [E1.at (i := 0) (by omega)]) (by rw [E1.at (i := 0) (by omega)]) ?_
  have E := E.tr E1
  refine v_dup X rfl dX7_init_85 ?_
  refine v_callIN X ri.2.2.1 hCl hCR (c_X6_init l k M_156 89 hN F_166) rfl mo_X6_init m_185 nw_14 m_267 m_204 (by decide) rfl rfl (Nat.le_of_ble_eq_true rfl) ⟨Nat.le_of_ble_eq_true rfl, Nat.le_of_ble_eq_true rfl⟩ dX7_init_86 (fun k M_167 E1 hp X => ?_)
  obtain ⟨hp_169, hN2, hf_168⟩ := hp
  have hN3 : kN k = 93 := by rw [hN2]
  have F_170 : M_167 0 = .inr (7, [.ref (ad k 1), .ref (ad k 5), .ref (ad k 9), .ref (ad k 13), .ref (ad k 81), .ref (ad k 83), .ref (ad k 85), .null]) := by rw [hf_168 _ (by omega), E1.at (i := 1) (by omega), E1.at (i := 5) (by omega), E1.at (i := 9) (by omega), E1.at (i := 13) (by omega), E1.at (i := 81) (by omega), E1.at (i := 83) (by omega), E1.at (i := 85) (by omega)]; exact F_158
  have P_171 : TxAt k M_167 ([])  := P_159.ext E1 (fun i h1 h2 => by rw [hf_168 _ (by omega)])
  have P_172 : StAt k M_167 5 [] [] := P_160.ext E1 (fun i h1 h2 => by rw [hf_168 _ (by omega)])
  have P_173 : TrAt k M_167 9 [] none := P_161.ext E1 (fun i h1 h2 => by rw [hf_168 _ (by omega)])
  have P_174 : MeNew k M_167 13  := P_162.ext E1 (fun i h1 h2 => by rw [hf_168 _ (by omega)])
  have P_175 : MoNew k M_167 81  := P_163.ext E1 (fun i h1 h2 => by rw [hf_168 _ (by omega)])
  have P_176 : ElNew k M_167 83  := P_164.ext E1 (fun i h1 h2 => by rw [hf_168 _ (by omega)])
  have P_177 : StAt k M_167 85 [] [] := P_165.ext E1 (fun i h1 h2 => by rw [hf_168 _ (by omega)])
  have hN : kN k = 93 := hN3
  refine v_cast (lv' := [(0, .ref (ad k 0))]) (st' := [.ref (ad k 89), .ref (ad k 0)]) (by rw [E1.at (i := 0) (by omega)]) (by rw [E1.at (i := 89) (by omega), E1.at (i := 0) (by omega)]) ?_
  have E := E.tr E1
  refine v_putF X ri.2.1 cls7 F_170 (by omega) 7 (by decide) m_265 rfl rfl rfl rfl rfl (Nat.le_of_ble_eq_true rfl) dX7_init_89 (fun M_178 hM_179 => ?_)
  have F_180 : M_178 0 = .inr (7, [.ref (ad k 1), .ref (ad k 5), .ref (ad k 9), .ref (ad k 13), .ref (ad k 81), .ref (ad k 83), .ref (ad k 85), .ref (ad k 89)]) := by rw [hM_179]; exact mup_s
  have P_181 : TxAt k M_178 ([])  := P_171.fr (fun i h1 h2 => by rw [hM_179, mup_n (by omega)])
  have P_182 : StAt k M_178 5 [] [] := P_172.fr (fun i h1 h2 => by rw [hM_179, mup_n (by omega)])
  have P_183 : TrAt k M_178 9 [] none := P_173.fr (fun i h1 h2 => by rw [hM_179, mup_n (by omega)])
  have P_184 : MeNew k M_178 13  := P_174.fr (fun i h1 h2 => by rw [hM_179, mup_n (by omega)])
  have P_185 : MoNew k M_178 81  := P_175.fr (fun i h1 h2 => by rw [hM_179, mup_n (by omega)])
  have P_186 : ElNew k M_178 83  := P_176.fr (fun i h1 h2 => by rw [hM_179, mup_n (by omega)])
  have P_187 : StAt k M_178 85 [] [] := P_177.fr (fun i h1 h2 => by rw [hM_179, mup_n (by omega)])
  have P_188 : TrAt k M_178 89 [] none := hp_169.fr (fun i h1 h2 => by rw [hM_179, mup_n (by omega)])
  exact v_vretI X ri E ⟨Nat.le_of_ble_eq_true rfl, Nat.le_of_ble_eq_true rfl⟩ dX7_init_92 ⟨hN, F_180, P_181, P_182, P_183, P_184, P_185, P_186, P_187, P_188⟩
