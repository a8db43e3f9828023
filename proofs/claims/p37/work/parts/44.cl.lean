/-! the law's wrappers -/
theorem At.tlen {k : KX} {M : Mem} {S : SS} (h : At k M S) : (sTr S).length ≤ 8 := (build_ok h.vok.1.1.1 h.vok.1.2.1).1.le
set_option maxHeartbeats 4000000 in
set_option maxRecDepth 100000 in
theorem c_L_append (l : Launch) (hst0 : l.stackTraces = false) (k : KX) (M : Mem) (S : SS) (c : Int32) (hA : At k M S) : CL l yL_append cL_append 3 [(0, 5, 6, 15), (0, 5, 10, 17)] { frames := 7, cells := 1, slots := 6, locals := 111 } k [.ref (ad k 0), .int c] M (pI (PA k M (W_append S c))) := by
  refine CL.of (by decide) (Nat.le_of_ble_eq_true rfl) (fun C X hCl hCR rl => ?_)
  have hN := hA.N
  show V C k 3 (0, 0) M 0 [(0, .ref (ad k 0)), (1, .int c)] []
  refine v_aload_n X 0 dL_append_0 rfl ?_
  refine v_iload_n X 1 dL_append_1 rfl ?_
  refine vx_callV' X rl.2.1 hCl hCR (c_X7_append l hst0 k M S.1 S.2.1 S.2.2.1 S.2.2.2.1 S.2.2.2.2 c hA) cls7 hA.obj (by omega) mo_X7_append m_273 m_487 m_488 m_489 m_21 (by decide) rfl rfl (Nat.le_of_ble_eq_true rfl) ⟨by decide, by decide⟩ dL_append_2 (vI_in (fun r M1 hp => ?_)) (fun E M1 hx => ?_)
  · exact v_iret X rl.1 ⟨by decide, by decide⟩ rfl dL_append_5 ⟨_, rfl, n_append hp⟩
  · rcases x_append hx with ⟨hE, hP⟩ | ⟨hE, hP⟩
    · subst hE
      refine v_catch1 X rl.2.2.2 (by decide) (by decide) m_485 rl.2.1.iae (fun q => ?_)
      refine v_astore_n X [(2, .ref q), (0, .ref (ad k 0)), (1, .int c)] dL_append_6 (by decide) rfl ?_
      refine v_bipush X (v := (-102)) (by decide) dL_append_7 ?_
      exact v_iret X rl.1 ⟨by decide, by decide⟩ rfl dL_append_9 ⟨_, rfl, hP⟩
    · subst hE
      refine v_catch2 X rl.2.2.2 (by decide) (by decide) (by decide) m_485 m_486 rl.2.2.1.1 rl.2.1.ise (fun q => ?_)
      refine v_astore_n X [(2, .ref q), (0, .ref (ad k 0)), (1, .int c)] dL_append_10 (by decide) rfl ?_
      refine v_bipush X (v := (-103)) (by decide) dL_append_11 ?_
      exact v_iret X rl.1 ⟨by decide, by decide⟩ rfl dL_append_13 ⟨_, rfl, hP⟩
set_option maxHeartbeats 4000000 in
set_option maxRecDepth 100000 in
theorem c_L_loadText (l : Launch) (hst0 : l.stackTraces = false) (k : KX) (M : Mem) (S : SS) (hA : At k M S) : CL l yL_loadText cL_loadText 2 [(0, 4, 5, 17)] { frames := 7, cells := 1, slots := 6, locals := 155 } k [.ref (ad k 0)] M (pI (PA k M (W_loadText S))) := by
  refine CL.of (by decide) (Nat.le_of_ble_eq_true rfl) (fun C X hCl hCR rl => ?_)
  have hN := hA.N
  show V C k 2 (0, 0) M 0 [(0, .ref (ad k 0))] []
  refine v_aload_n X 0 dL_loadText_0 rfl ?_
  refine vx_callV' X rl.2.1 hCl hCR (c_X7_load l hst0 k M S.1 S.2.1 S.2.2.1 S.2.2.2.1 S.2.2.2.2 hA) cls7 hA.obj (by omega) mo_X7_load m_301 m_490 m_491 m_492 m_21 (by decide) rfl rfl (Nat.le_of_ble_eq_true rfl) ⟨by decide, by decide⟩ dL_loadText_1 (vI_in (fun r M1 hp => ?_)) (fun E M1 hx => ?_)
  · exact v_iret X rl.1 ⟨by decide, by decide⟩ rfl dL_loadText_4 ⟨_, rfl, n_loadText hp⟩
  · obtain ⟨hE, hP⟩ := x_loadText hx
    subst hE
    refine v_catch1 X rl.2.2.2 (by decide) (by decide) m_486 rl.2.1.ise (fun q => ?_)
    refine v_astore_n X [(1, .ref q), (0, .ref (ad k 0))] dL_loadText_5 (by decide) rfl ?_
    refine v_bipush X (v := (-103)) (by decide) dL_loadText_6 ?_
    exact v_iret X rl.1 ⟨by decide, by decide⟩ rfl dL_loadText_8 ⟨_, rfl, hP⟩
set_option maxHeartbeats 4000000 in
set_option maxRecDepth 100000 in
theorem c_L_parity (l : Launch) (hst0 : l.stackTraces = false) (k : KX) (M : Mem) (S : SS) (x : Int32) (hA : At k M S) : CL l yL_parity cL_parity 3 [(0, 13, 14, 27)] { frames := 8, cells := 1, slots := 6, locals := 132 } k [.ref (ad k 0), .int x] M (pI (PA k M (W_parity S x))) := by
  refine CL.of (by decide) (Nat.le_of_ble_eq_true rfl) (fun C X hCl hCR rl => ?_)
  have hN := hA.N
  show V C k 3 (0, 0) M 0 [(0, .ref (ad k 0)), (1, .int x)] []
  refine v_aload_n X 0 dL_parity_0 rfl ?_
  refine v_iload_n X 1 dL_parity_1 rfl ?_
  refine vx_callV' X rl.2.1 hCl hCR (c_X7_isParity l hst0 k M S.1 S.2.1 S.2.2.1 S.2.2.2.1 S.2.2.2.2 x hA) cls7 hA.obj (by omega) mo_X7_isParity m_307 m_495 m_496 m_497 m_21 (by decide) rfl rfl (Nat.le_of_ble_eq_true rfl) ⟨by decide, by decide⟩ dL_parity_2 (vI_in (fun r M1 hp => ?_)) (fun E M1 hx => ?_)
  · refine v_if_eq X 12 dL_parity_5 (by decide) (fun c_1 => ?_) (fun c_1 => ?_)
    · refine v_iconst X (v := nI 0) (by decide) dL_parity_12 ?_
      exact v_iret X rl.1 ⟨by decide, by decide⟩ rfl dL_parity_13 ⟨_, rfl, (n_parity hA.len hp).1 c_1⟩
    · refine v_iconst X (v := nI 1) (by decide) dL_parity_8 ?_
      refine v_goto X 13 dL_parity_9 (by decide) ?_
      exact v_iret X rl.1 ⟨by decide, by decide⟩ rfl dL_parity_13 ⟨_, rfl, (n_parity hA.len hp).2 c_1⟩
  · obtain ⟨hE, hP⟩ := x_parity hx
    subst hE
    refine v_catch1 X rl.2.2.2 (by decide) (by decide) m_494 rl.2.1.iob (fun q => ?_)
    refine v_astore_n X [(2, .ref q), (0, .ref (ad k 0)), (1, .int x)] dL_parity_14 (by decide) rfl ?_
    refine v_bipush X (v := (-101)) (by decide) dL_parity_15 ?_
    exact v_iret X rl.1 ⟨by decide, by decide⟩ rfl dL_parity_17 ⟨_, rfl, hP⟩
set_option maxHeartbeats 4000000 in
set_option maxRecDepth 100000 in
theorem c_L_first (l : Launch) (hst0 : l.stackTraces = false) (k : KX) (M : Mem) (S : SS) (x : Int32) (hA : At k M S) : CL l yL_first cL_first 3 [(0, 5, 6, 27)] { frames := 8, cells := 1, slots := 6, locals := 132 } k [.ref (ad k 0), .int x] M (pI (PA k M (W_first S x))) := by
  refine CL.of (by decide) (Nat.le_of_ble_eq_true rfl) (fun C X hCl hCR rl => ?_)
  have hN := hA.N
  show V C k 3 (0, 0) M 0 [(0, .ref (ad k 0)), (1, .int x)] []
  refine v_aload_n X 0 dL_first_0 rfl ?_
  refine v_iload_n X 1 dL_first_1 rfl ?_
  refine vx_callV' X rl.2.1 hCl hCR (c_X7_variables l hst0 k M S.1 S.2.1 S.2.2.1 S.2.2.2.1 S.2.2.2.2 x hA) cls7 hA.obj (by omega) mo_X7_variables m_313 m_499 m_500 m_501 m_21 (by decide) rfl rfl (Nat.le_of_ble_eq_true rfl) ⟨by decide, by decide⟩ dL_first_2 (vI_in (fun r M1 hp => ?_)) (fun E M1 hx => ?_)
  · exact v_iret X rl.1 ⟨by decide, by decide⟩ rfl dL_first_5 ⟨_, rfl, n_first hA.len hp⟩
  · obtain ⟨hE, hP⟩ := x_first hx
    subst hE
    refine v_catch1 X rl.2.2.2 (by decide) (by decide) m_494 rl.2.1.iob (fun q => ?_)
    refine v_astore_n X [(2, .ref q), (0, .ref (ad k 0)), (1, .int x)] dL_first_6 (by decide) rfl ?_
    refine v_bipush X (v := (-101)) (by decide) dL_first_7 ?_
    exact v_iret X rl.1 ⟨by decide, by decide⟩ rfl dL_first_9 ⟨_, rfl, hP⟩
set_option maxHeartbeats 4000000 in
set_option maxRecDepth 100000 in
theorem c_L_second (l : Launch) (hst0 : l.stackTraces = false) (k : KX) (M : Mem) (S : SS) (x : Int32) (hA : At k M S) : CL l yL_second cL_second 3 [(0, 5, 6, 27)] { frames := 8, cells := 1, slots := 6, locals := 132 } k [.ref (ad k 0), .int x] M (pI (PA k M (W_second S x))) := by
  refine CL.of (by decide) (Nat.le_of_ble_eq_true rfl) (fun C X hCl hCR rl => ?_)
  have hN := hA.N
  show V C k 3 (0, 0) M 0 [(0, .ref (ad k 0)), (1, .int x)] []
  refine v_aload_n X 0 dL_second_0 rfl ?_
  refine v_iload_n X 1 dL_second_1 rfl ?_
  refine vx_callV' X rl.2.1 hCl hCR (c_X7_negated l hst0 k M S.1 S.2.1 S.2.2.1 S.2.2.2.1 S.2.2.2.2 x hA) cls7 hA.obj (by omega) mo_X7_negated m_316 m_503 m_504 m_505 m_21 (by decide) rfl rfl (Nat.le_of_ble_eq_true rfl) ⟨by decide, by decide⟩ dL_second_2 (vI_in (fun r M1 hp => ?_)) (fun E M1 hx => ?_)
  · exact v_iret X rl.1 ⟨by decide, by decide⟩ rfl dL_second_5 ⟨_, rfl, n_second hA.len hp⟩
  · obtain ⟨hE, hP⟩ := x_second hx
    subst hE
    refine v_catch1 X rl.2.2.2 (by decide) (by decide) m_494 rl.2.1.iob (fun q => ?_)
    refine v_astore_n X [(2, .ref q), (0, .ref (ad k 0)), (1, .int x)] dL_second_6 (by decide) rfl ?_
    refine v_bipush X (v := (-101)) (by decide) dL_second_7 ?_
    exact v_iret X rl.1 ⟨by decide, by decide⟩ rfl dL_second_9 ⟨_, rfl, hP⟩
set_option maxHeartbeats 4000000 in
set_option maxRecDepth 100000 in
theorem c_L_clause (l : Launch) (hst0 : l.stackTraces = false) (k : KX) (M : Mem) (S : SS) (p n : Int32) (hA : At k M S) : CL l yL_clause cL_clause 4 [(0, 6, 7, 15), (0, 6, 11, 17)] { frames := 8, cells := 2, slots := 12, locals := 178 } k [.ref (ad k 0), .int p, .int n] M (pI (PA k M (W_clause S p n))) := by
  refine CL.of (by decide) (Nat.le_of_ble_eq_true rfl) (fun C X hCl hCR rl => ?_)
  have hN := hA.N
  show V C k 4 (0, 0) M 0 [(0, .ref (ad k 0)), (1, .int p), (2, .int n)] []
  refine v_aload_n X 0 dL_clause_0 rfl ?_
  refine v_iload_n X 1 dL_clause_1 rfl ?_
  refine v_iload_n X 2 dL_clause_2 rfl ?_
  refine vx_callV' X rl.2.1 hCl hCR (c_X7_addClause l hst0 k M S.1 S.2.1 S.2.2.1 S.2.2.2.1 S.2.2.2.2 p n hA) cls7 hA.obj (by omega) mo_X7_addClause m_339 m_507 m_508 m_509 m_21 (by decide) rfl rfl (Nat.le_of_ble_eq_true rfl) ⟨by decide, by decide⟩ dL_clause_3 (vI_in (fun r M1 hp => ?_)) (fun E M1 hx => ?_)
  · exact v_iret X rl.1 ⟨by decide, by decide⟩ rfl dL_clause_6 ⟨_, rfl, n_clause hp⟩
  · rcases x_clause hx with ⟨hE, hP⟩ | ⟨hE, hP⟩
    · subst hE
      refine v_catch1 X rl.2.2.2 (by decide) (by decide) m_485 rl.2.1.iae (fun q => ?_)
      refine v_astore_n X [(3, .ref q), (0, .ref (ad k 0)), (1, .int p), (2, .int n)] dL_clause_7 (by decide) rfl ?_
      refine v_bipush X (v := (-102)) (by decide) dL_clause_8 ?_
      exact v_iret X rl.1 ⟨by decide, by decide⟩ rfl dL_clause_10 ⟨_, rfl, hP⟩
    · subst hE
      refine v_catch2 X rl.2.2.2 (by decide) (by decide) (by decide) m_485 m_486 rl.2.2.1.1 rl.2.1.ise (fun q => ?_)
      refine v_astore_n X [(3, .ref q), (0, .ref (ad k 0)), (1, .int p), (2, .int n)] dL_clause_11 (by decide) rfl ?_
      refine v_bipush X (v := (-103)) (by decide) dL_clause_12 ?_
      exact v_iret X rl.1 ⟨by decide, by decide⟩ rfl dL_clause_14 ⟨_, rfl, hP⟩
set_option maxHeartbeats 4000000 in
set_option maxRecDepth 100000 in
theorem c_L_sumOfBits (l : Launch) (hst0 : l.stackTraces = false) (k : KX) (M : Mem) (S : SS) (m b : Int32) (hA : At k M S) : CL l yL_sumOfBits cL_sumOfBits 4 [(0, 6, 7, 15), (0, 6, 11, 17)] { frames := 8, cells := 2, slots := 12, locals := 178 } k [.ref (ad k 0), .int m, .int b] M (pI (PA k M (W_sumOfBits S m b))) := by
  refine CL.of (by decide) (Nat.le_of_ble_eq_true rfl) (fun C X hCl hCR rl => ?_)
  have hN := hA.N
  show V C k 4 (0, 0) M 0 [(0, .ref (ad k 0)), (1, .int m), (2, .int b)] []
  refine v_aload_n X 0 dL_sumOfBits_0 rfl ?_
  refine v_iload_n X 1 dL_sumOfBits_1 rfl ?_
  refine v_iload_n X 2 dL_sumOfBits_2 rfl ?_
  refine vx_callV' X rl.2.1 hCl hCR (c_X7_addParity l hst0 k M S.1 S.2.1 S.2.2.1 S.2.2.2.1 S.2.2.2.2 m b hA) cls7 hA.obj (by omega) mo_X7_addParity m_344 m_511 m_512 m_513 m_21 (by decide) rfl rfl (Nat.le_of_ble_eq_true rfl) ⟨by decide, by decide⟩ dL_sumOfBits_3 (vI_in (fun r M1 hp => ?_)) (fun E M1 hx => ?_)
  · exact v_iret X rl.1 ⟨by decide, by decide⟩ rfl dL_sumOfBits_6 ⟨_, rfl, n_sumOfBits hp⟩
  · rcases x_sumOfBits hx with ⟨hE, hP⟩ | ⟨hE, hP⟩
    · subst hE
      refine v_catch1 X rl.2.2.2 (by decide) (by decide) m_485 rl.2.1.iae (fun q => ?_)
      refine v_astore_n X [(3, .ref q), (0, .ref (ad k 0)), (1, .int m), (2, .int b)] dL_sumOfBits_7 (by decide) rfl ?_
      refine v_bipush X (v := (-102)) (by decide) dL_sumOfBits_8 ?_
      exact v_iret X rl.1 ⟨by decide, by decide⟩ rfl dL_sumOfBits_10 ⟨_, rfl, hP⟩
    · subst hE
      refine v_catch2 X rl.2.2.2 (by decide) (by decide) (by decide) m_485 m_486 rl.2.2.1.1 rl.2.1.ise (fun q => ?_)
      refine v_astore_n X [(3, .ref q), (0, .ref (ad k 0)), (1, .int m), (2, .int b)] dL_sumOfBits_11 (by decide) rfl ?_
      refine v_bipush X (v := (-103)) (by decide) dL_sumOfBits_12 ?_
      exact v_iret X rl.1 ⟨by decide, by decide⟩ rfl dL_sumOfBits_14 ⟨_, rfl, hP⟩
set_option maxHeartbeats 4000000 in
set_option maxRecDepth 100000 in
theorem c_L_remove (l : Launch) (hst0 : l.stackTraces = false) (k : KX) (M : Mem) (S : SS) (x : Int32) (hA : At k M S) : CL l yL_remove cL_remove 3 [(0, 5, 6, 27)] { frames := 8, cells := 1, slots := 6, locals := 156 } k [.ref (ad k 0), .int x] M (pI (PA k M (W_remove S x))) := by
  refine CL.of (by decide) (Nat.le_of_ble_eq_true rfl) (fun C X hCl hCR rl => ?_)
  have hN := hA.N
  show V C k 3 (0, 0) M 0 [(0, .ref (ad k 0)), (1, .int x)] []
  refine v_aload_n X 0 dL_remove_0 rfl ?_
  refine v_iload_n X 1 dL_remove_1 rfl ?_
  refine vx_callV' X rl.2.1 hCl hCR (c_X7_removeConstraint l hst0 k M S.1 S.2.1 S.2.2.1 S.2.2.2.1 S.2.2.2.2 x hA) cls7 hA.obj (by omega) mo_X7_removeConstraint m_348 m_515 m_516 m_517 m_21 (by decide) rfl rfl (Nat.le_of_ble_eq_true rfl) ⟨by decide, by decide⟩ dL_remove_2 (vI_in (fun r M1 hp => ?_)) (fun E M1 hx => ?_)
  · exact v_iret X rl.1 ⟨by decide, by decide⟩ rfl dL_remove_5 ⟨_, rfl, n_remove hA.len hp⟩
  · obtain ⟨hE, hP⟩ := x_remove hx
    subst hE
    refine v_catch1 X rl.2.2.2 (by decide) (by decide) m_494 rl.2.1.iob (fun q => ?_)
    refine v_astore_n X [(2, .ref q), (0, .ref (ad k 0)), (1, .int x)] dL_remove_6 (by decide) rfl ?_
    refine v_bipush X (v := (-101)) (by decide) dL_remove_7 ?_
    exact v_iret X rl.1 ⟨by decide, by decide⟩ rfl dL_remove_9 ⟨_, rfl, hP⟩
set_option maxHeartbeats 4000000 in
set_option maxRecDepth 100000 in
theorem c_L_resolve (l : Launch) (hst0 : l.stackTraces = false) (k : KX) (M : Mem) (S : SS) (x y w : Int32) (hA : At k M S) : CL l yL_resolve cL_resolve 5 [(0, 7, 8, 27), (0, 7, 13, 17)] { frames := 8, cells := 5, slots := 30, locals := 184 } k [.ref (ad k 0), .int x, .int y, .int w] M (pI (PA k M (W_resolve S x y w))) := by
  refine CL.of (by decide) (Nat.le_of_ble_eq_true rfl) (fun C X hCl hCR rl => ?_)
  have hN := hA.N
  show V C k 5 (0, 0) M 0 [(0, .ref (ad k 0)), (1, .int x), (2, .int y), (3, .int w)] []
  refine v_aload_n X 0 dL_resolve_0 rfl ?_
  refine v_iload_n X 1 dL_resolve_1 rfl ?_
  refine v_iload_n X 2 dL_resolve_2 rfl ?_
  refine v_iload_n X 3 dL_resolve_3 rfl ?_
  refine vx_callV' X rl.2.1 hCl hCR (c_X7_resolve l hst0 k M S.1 S.2.1 S.2.2.1 S.2.2.2.1 S.2.2.2.2 x y w hA) cls7 hA.obj (by omega) mo_X7_resolve m_353 m_519 m_520 m_521 m_21 (by decide) rfl rfl (Nat.le_of_ble_eq_true rfl) ⟨by decide, by decide⟩ dL_resolve_4 (vI_in (fun r M1 hp => ?_)) (fun E M1 hx => ?_)
  · exact v_iret X rl.1 ⟨by decide, by decide⟩ rfl dL_resolve_7 ⟨_, rfl, n_resolve hA.len hp⟩
  · rcases x_resolve hA.len hx with ⟨hE, hP⟩ | ⟨hE, hP⟩
    · subst hE
      refine v_catch1 X rl.2.2.2 (by decide) (by decide) m_494 rl.2.1.iob (fun q => ?_)
      refine v_astore X [(4, .ref q), (0, .ref (ad k 0)), (1, .int x), (2, .int y), (3, .int w)] dL_resolve_8 (by decide) rfl ?_
      refine v_bipush X (v := (-101)) (by decide) dL_resolve_10 ?_
      exact v_iret X rl.1 ⟨by decide, by decide⟩ rfl dL_resolve_12 ⟨_, rfl, hP⟩
    · subst hE
      refine v_catch2 X rl.2.2.2 (by decide) (by decide) (by decide) m_494 m_486 rl.2.2.1.2 rl.2.1.ise (fun q => ?_)
      refine v_astore X [(4, .ref q), (0, .ref (ad k 0)), (1, .int x), (2, .int y), (3, .int w)] dL_resolve_13 (by decide) rfl ?_
      refine v_bipush X (v := (-103)) (by decide) dL_resolve_15 ?_
      exact v_iret X rl.1 ⟨by decide, by decide⟩ rfl dL_resolve_17 ⟨_, rfl, hP⟩
set_option maxHeartbeats 4000000 in
set_option maxRecDepth 100000 in
theorem c_L_sum (l : Launch) (hst0 : l.stackTraces = false) (k : KX) (M : Mem) (S : SS) (x y : Int32) (hA : At k M S) : CL l yL_sum cL_sum 4 [(0, 6, 7, 27), (0, 6, 11, 17)] { frames := 8, cells := 4, slots := 24, locals := 182 } k [.ref (ad k 0), .int x, .int y] M (pI (PA k M (W_sum S x y))) := by
  refine CL.of (by decide) (Nat.le_of_ble_eq_true rfl) (fun C X hCl hCR rl => ?_)
  have hN := hA.N
  show V C k 4 (0, 0) M 0 [(0, .ref (ad k 0)), (1, .int x), (2, .int y)] []
  refine v_aload_n X 0 dL_sum_0 rfl ?_
  refine v_iload_n X 1 dL_sum_1 rfl ?_
  refine v_iload_n X 2 dL_sum_2 rfl ?_
  refine vx_callV' X rl.2.1 hCl hCR (c_X7_sum l hst0 k M S.1 S.2.1 S.2.2.1 S.2.2.2.1 S.2.2.2.2 x y hA) cls7 hA.obj (by omega) mo_X7_sum m_354 m_523 m_524 m_525 m_21 (by decide) rfl rfl (Nat.le_of_ble_eq_true rfl) ⟨by decide, by decide⟩ dL_sum_3 (vI_in (fun r M1 hp => ?_)) (fun E M1 hx => ?_)
  · exact v_iret X rl.1 ⟨by decide, by decide⟩ rfl dL_sum_6 ⟨_, rfl, n_sum hA.len hp⟩
  · rcases x_sum hA.len hx with ⟨hE, hP⟩ | ⟨hE, hP⟩
    · subst hE
      refine v_catch1 X rl.2.2.2 (by decide) (by decide) m_494 rl.2.1.iob (fun q => ?_)
      refine v_astore_n X [(3, .ref q), (0, .ref (ad k 0)), (1, .int x), (2, .int y)] dL_sum_7 (by decide) rfl ?_
      refine v_bipush X (v := (-101)) (by decide) dL_sum_8 ?_
      exact v_iret X rl.1 ⟨by decide, by decide⟩ rfl dL_sum_10 ⟨_, rfl, hP⟩
    · subst hE
      refine v_catch2 X rl.2.2.2 (by decide) (by decide) (by decide) m_494 m_486 rl.2.2.1.2 rl.2.1.ise (fun q => ?_)
      refine v_astore_n X [(3, .ref q), (0, .ref (ad k 0)), (1, .int x), (2, .int y)] dL_sum_11 (by decide) rfl ?_
      refine v_bipush X (v := (-103)) (by decide) dL_sum_12 ?_
      exact v_iret X rl.1 ⟨by decide, by decide⟩ rfl dL_sum_14 ⟨_, rfl, hP⟩
set_option maxHeartbeats 4000000 in
set_option maxRecDepth 100000 in
theorem c_L_decide (l : Launch) (hst0 : l.stackTraces = false) (k : KX) (M : Mem) (S : SS) (x : Int32) (hA : At k M S) : CL l yL_decide cL_decide 3 [(0, 5, 6, 27), (0, 5, 10, 17)] { frames := 7, cells := 1, slots := 6, locals := 156 } k [.ref (ad k 0), .int x] M (pI (PA k M (W_decide S x))) := by
  refine CL.of (by decide) (Nat.le_of_ble_eq_true rfl) (fun C X hCl hCR rl => ?_)
  have hN := hA.N
  show V C k 3 (0, 0) M 0 [(0, .ref (ad k 0)), (1, .int x)] []
  refine v_aload_n X 0 dL_decide_0 rfl ?_
  refine v_iload_n X 1 dL_decide_1 rfl ?_
  refine vx_callV' X rl.2.1 hCl hCR (c_X7_decide l hst0 k M S.1 S.2.1 S.2.2.1 S.2.2.2.1 S.2.2.2.2 x hA) cls7 hA.obj (by omega) mo_X7_decide m_360 m_527 m_528 m_529 m_21 (by decide) rfl rfl (Nat.le_of_ble_eq_true rfl) ⟨by decide, by decide⟩ dL_decide_2 (vI_in (fun r M1 hp => ?_)) (fun E M1 hx => ?_)
  · exact v_iret X rl.1 ⟨by decide, by decide⟩ rfl dL_decide_5 ⟨_, rfl, n_decide hp⟩
  · rcases x_decide hx with ⟨hE, hP⟩ | ⟨hE, hP⟩
    · subst hE
      refine v_catch1 X rl.2.2.2 (by decide) (by decide) m_494 rl.2.1.iob (fun q => ?_)
      refine v_astore_n X [(2, .ref q), (0, .ref (ad k 0)), (1, .int x)] dL_decide_6 (by decide) rfl ?_
      refine v_bipush X (v := (-101)) (by decide) dL_decide_7 ?_
      exact v_iret X rl.1 ⟨by decide, by decide⟩ rfl dL_decide_9 ⟨_, rfl, hP⟩
    · subst hE
      refine v_catch2 X rl.2.2.2 (by decide) (by decide) (by decide) m_494 m_486 rl.2.2.1.2 rl.2.1.ise (fun q => ?_)
      refine v_astore_n X [(2, .ref q), (0, .ref (ad k 0)), (1, .int x)] dL_decide_10 (by decide) rfl ?_
      refine v_bipush X (v := (-103)) (by decide) dL_decide_11 ?_
      exact v_iret X rl.1 ⟨by decide, by decide⟩ rfl dL_decide_13 ⟨_, rfl, hP⟩
set_option maxHeartbeats 4000000 in
set_option maxRecDepth 100000 in
theorem c_L_backtrack (l : Launch) (hst0 : l.stackTraces = false) (k : KX) (M : Mem) (S : SS) (x : Int32) (hA : At k M S) : CL l yL_backtrack cL_backtrack 3 [(0, 5, 6, 15)] { frames := 7, cells := 1, slots := 6, locals := 156 } k [.ref (ad k 0), .int x] M (pI (PA k M (W_backtrack S x))) := by
  refine CL.of (by decide) (Nat.le_of_ble_eq_true rfl) (fun C X hCl hCR rl => ?_)
  have hN := hA.N
  show V C k 3 (0, 0) M 0 [(0, .ref (ad k 0)), (1, .int x)] []
  refine v_aload_n X 0 dL_backtrack_0 rfl ?_
  refine v_iload_n X 1 dL_backtrack_1 rfl ?_
  refine vx_callV' X rl.2.1 hCl hCR (c_X7_backtrack l hst0 k M S.1 S.2.1 S.2.2.1 S.2.2.2.1 S.2.2.2.2 x hA) cls7 hA.obj (by omega) mo_X7_backtrack m_361 m_531 m_532 m_533 m_21 (by decide) rfl rfl (Nat.le_of_ble_eq_true rfl) ⟨by decide, by decide⟩ dL_backtrack_2 (vI_in (fun r M1 hp => ?_)) (fun E M1 hx => ?_)
  · exact v_iret X rl.1 ⟨by decide, by decide⟩ rfl dL_backtrack_5 ⟨_, rfl, n_backtrack hA.dlen hp⟩
  · obtain ⟨hE, hP⟩ := x_backtrack hx
    subst hE
    refine v_catch1 X rl.2.2.2 (by decide) (by decide) m_485 rl.2.1.iae (fun q => ?_)
    refine v_astore_n X [(2, .ref q), (0, .ref (ad k 0)), (1, .int x)] dL_backtrack_6 (by decide) rfl ?_
    refine v_bipush X (v := (-102)) (by decide) dL_backtrack_7 ?_
    exact v_iret X rl.1 ⟨by decide, by decide⟩ rfl dL_backtrack_9 ⟨_, rfl, hP⟩
set_option maxHeartbeats 4000000 in
set_option maxRecDepth 100000 in
theorem c_L_learn (l : Launch) (hst0 : l.stackTraces = false) (k : KX) (M : Mem) (S : SS) (hA : At k M S) : CL l yL_learn cL_learn 2 [(0, 4, 5, 17)] { frames := 8, cells := 2, slots := 12, locals := 156 } k [.ref (ad k 0)] M (pI (PA k M (W_learn S))) := by
  refine CL.of (by decide) (Nat.le_of_ble_eq_true rfl) (fun C X hCl hCR rl => ?_)
  have hN := hA.N
  show V C k 2 (0, 0) M 0 [(0, .ref (ad k 0))] []
  refine v_aload_n X 0 dL_learn_0 rfl ?_
  refine vx_callV' X rl.2.1 hCl hCR (c_X7_learn l hst0 k M S.1 S.2.1 S.2.2.1 S.2.2.2.1 S.2.2.2.2 hA) cls7 hA.obj (by omega) mo_X7_learn m_378 m_535 m_536 m_537 m_21 (by decide) rfl rfl (Nat.le_of_ble_eq_true rfl) ⟨by decide, by decide⟩ dL_learn_1 (vI_in (fun r M1 hp => ?_)) (fun E M1 hx => ?_)
  · exact v_iret X rl.1 ⟨by decide, by decide⟩ rfl dL_learn_4 ⟨_, rfl, n_learn hp⟩
  · obtain ⟨hE, hP⟩ := x_learn hx
    subst hE
    refine v_catch1 X rl.2.2.2 (by decide) (by decide) m_486 rl.2.1.ise (fun q => ?_)
    refine v_astore_n X [(1, .ref q), (0, .ref (ad k 0))] dL_learn_5 (by decide) rfl ?_
    refine v_bipush X (v := (-103)) (by decide) dL_learn_6 ?_
    exact v_iret X rl.1 ⟨by decide, by decide⟩ rfl dL_learn_8 ⟨_, rfl, hP⟩
set_option maxHeartbeats 4000000 in
set_option maxRecDepth 100000 in
theorem c_L_undo (l : Launch) (hst0 : l.stackTraces = false) (k : KX) (M : Mem) (S : SS) (hA : At k M S) : CL l yL_undo cL_undo 2 [(0, 4, 5, 17)] { frames := 7, cells := 1, slots := 6, locals := 155 } k [.ref (ad k 0)] M (pI (PA k M (W_undo S))) := by
  refine CL.of (by decide) (Nat.le_of_ble_eq_true rfl) (fun C X hCl hCR rl => ?_)
  have hN := hA.N
  show V C k 2 (0, 0) M 0 [(0, .ref (ad k 0))] []
  refine v_aload_n X 0 dL_undo_0 rfl ?_
  refine vx_callV' X rl.2.1 hCl hCR (c_X7_undo l hst0 k M S.1 S.2.1 S.2.2.1 S.2.2.2.1 S.2.2.2.2 hA) cls7 hA.obj (by omega) mo_X7_undo m_382 m_539 m_540 m_541 m_21 (by decide) rfl rfl (Nat.le_of_ble_eq_true rfl) ⟨by decide, by decide⟩ dL_undo_1 (vI_in (fun r M1 hp => ?_)) (fun E M1 hx => ?_)
  · exact v_iret X rl.1 ⟨by decide, by decide⟩ rfl dL_undo_4 ⟨_, rfl, n_undo hp⟩
  · obtain ⟨hE, hP⟩ := x_undo hx
    subst hE
    refine v_catch1 X rl.2.2.2 (by decide) (by decide) m_486 rl.2.1.ise (fun q => ?_)
    refine v_astore_n X [(1, .ref q), (0, .ref (ad k 0))] dL_undo_5 (by decide) rfl ?_
    refine v_bipush X (v := (-103)) (by decide) dL_undo_6 ?_
    exact v_iret X rl.1 ⟨by decide, by decide⟩ rfl dL_undo_8 ⟨_, rfl, hP⟩
set_option maxHeartbeats 4000000 in
set_option maxRecDepth 100000 in
theorem c_L_value (l : Launch) (hst0 : l.stackTraces = false) (k : KX) (M : Mem) (S : SS) (x : Int32) (hA : At k M S) : CL l yL_value cL_value 3 [(0, 5, 6, 27)] { frames := 8, cells := 1, slots := 6, locals := 131 } k [.ref (ad k 0), .int x] M (pI (PA k M (W_value S x))) := by
  refine CL.of (by decide) (Nat.le_of_ble_eq_true rfl) (fun C X hCl hCR rl => ?_)
  have hN := hA.N
  show V C k 3 (0, 0) M 0 [(0, .ref (ad k 0)), (1, .int x)] []
  refine v_aload_n X 0 dL_value_0 rfl ?_
  refine v_iload_n X 1 dL_value_1 rfl ?_
  refine vx_callV' X rl.2.1 hCl hCR (c_X7_value l hst0 k M S.1 S.2.1 S.2.2.1 S.2.2.2.1 S.2.2.2.2 x hA) cls7 hA.obj (by omega) mo_X7_value m_384 m_543 m_544 m_545 m_21 (by decide) rfl rfl (Nat.le_of_ble_eq_true rfl) ⟨by decide, by decide⟩ dL_value_2 (vI_in (fun r M1 hp => ?_)) (fun E M1 hx => ?_)
  · exact v_iret X rl.1 ⟨by decide, by decide⟩ rfl dL_value_5 ⟨_, rfl, n_value hp⟩
  · obtain ⟨hE, hP⟩ := x_value hx
    subst hE
    refine v_catch1 X rl.2.2.2 (by decide) (by decide) m_494 rl.2.1.iob (fun q => ?_)
    refine v_astore_n X [(2, .ref q), (0, .ref (ad k 0)), (1, .int x)] dL_value_6 (by decide) rfl ?_
    refine v_bipush X (v := (-101)) (by decide) dL_value_7 ?_
    exact v_iret X rl.1 ⟨by decide, by decide⟩ rfl dL_value_9 ⟨_, rfl, hP⟩
set_option maxHeartbeats 4000000 in
set_option maxRecDepth 100000 in
theorem c_L_trail (l : Launch) (hst0 : l.stackTraces = false) (k : KX) (M : Mem) (S : SS) (x : Int32) (hA : At k M S) : CL l yL_trail cL_trail 3 [(0, 5, 6, 27)] { frames := 7, cells := 1, slots := 6, locals := 111 } k [.ref (ad k 0), .int x] M (pI (PA k M (W_trail S x))) := by
  refine CL.of (by decide) (Nat.le_of_ble_eq_true rfl) (fun C X hCl hCR rl => ?_)
  have hN := hA.N
  show V C k 3 (0, 0) M 0 [(0, .ref (ad k 0)), (1, .int x)] []
  refine v_aload_n X 0 dL_trail_0 rfl ?_
  refine v_iload_n X 1 dL_trail_1 rfl ?_
  refine vx_callV' X rl.2.1 hCl hCR (c_X7_trailLiteral l hst0 k M S.1 S.2.1 S.2.2.1 S.2.2.2.1 S.2.2.2.2 x hA) cls7 hA.obj (by omega) mo_X7_trailLiteral m_386 m_547 m_548 m_549 m_21 (by decide) rfl rfl (Nat.le_of_ble_eq_true rfl) ⟨by decide, by decide⟩ dL_trail_2 (vI_in (fun r M1 hp => ?_)) (fun E M1 hx => ?_)
  · exact v_iret X rl.1 ⟨by decide, by decide⟩ rfl dL_trail_5 ⟨_, rfl, n_trail hA.tlen hp⟩
  · obtain ⟨hE, hP⟩ := x_trail hx
    subst hE
    refine v_catch1 X rl.2.2.2 (by decide) (by decide) m_494 rl.2.1.iob (fun q => ?_)
    refine v_astore_n X [(2, .ref q), (0, .ref (ad k 0)), (1, .int x)] dL_trail_6 (by decide) rfl ?_
    refine v_bipush X (v := (-101)) (by decide) dL_trail_7 ?_
    exact v_iret X rl.1 ⟨by decide, by decide⟩ rfl dL_trail_9 ⟨_, rfl, hP⟩
set_option maxHeartbeats 4000000 in
set_option maxRecDepth 100000 in
theorem c_L_reason (l : Launch) (hst0 : l.stackTraces = false) (k : KX) (M : Mem) (S : SS) (x : Int32) (hA : At k M S) : CL l yL_reason cL_reason 3 [(0, 5, 6, 27)] { frames := 8, cells := 1, slots := 6, locals := 131 } k [.ref (ad k 0), .int x] M (pI (PA k M (W_reason S x))) := by
  refine CL.of (by decide) (Nat.le_of_ble_eq_true rfl) (fun C X hCl hCR rl => ?_)
  have hN := hA.N
  show V C k 3 (0, 0) M 0 [(0, .ref (ad k 0)), (1, .int x)] []
  refine v_aload_n X 0 dL_reason_0 rfl ?_
  refine v_iload_n X 1 dL_reason_1 rfl ?_
  refine vx_callV' X rl.2.1 hCl hCR (c_X7_reason l hst0 k M S.1 S.2.1 S.2.2.1 S.2.2.2.1 S.2.2.2.2 x hA) cls7 hA.obj (by omega) mo_X7_reason m_390 m_551 m_552 m_553 m_21 (by decide) rfl rfl (Nat.le_of_ble_eq_true rfl) ⟨by decide, by decide⟩ dL_reason_2 (vI_in (fun r M1 hp => ?_)) (fun E M1 hx => ?_)
  · exact v_iret X rl.1 ⟨by decide, by decide⟩ rfl dL_reason_5 ⟨_, rfl, n_reason hp⟩
  · obtain ⟨hE, hP⟩ := x_reason hx
    subst hE
    refine v_catch1 X rl.2.2.2 (by decide) (by decide) m_494 rl.2.1.iob (fun q => ?_)
    refine v_astore_n X [(2, .ref q), (0, .ref (ad k 0)), (1, .int x)] dL_reason_6 (by decide) rfl ?_
    refine v_bipush X (v := (-101)) (by decide) dL_reason_7 ?_
    exact v_iret X rl.1 ⟨by decide, by decide⟩ rfl dL_reason_9 ⟨_, rfl, hP⟩
set_option maxHeartbeats 4000000 in
set_option maxRecDepth 100000 in
theorem c_L_learned (l : Launch) (hst0 : l.stackTraces = false) (k : KX) (M : Mem) (S : SS) (hA : At k M S) : CL l yL_learned cL_learned 2 [(0, 4, 5, 17)] { frames := 8, cells := 1, slots := 6, locals := 130 } k [.ref (ad k 0)] M (pI (PA k M (W_learned S))) := by
  refine CL.of (by decide) (Nat.le_of_ble_eq_true rfl) (fun C X hCl hCR rl => ?_)
  have hN := hA.N
  show V C k 2 (0, 0) M 0 [(0, .ref (ad k 0))] []
  refine v_aload_n X 0 dL_learned_0 rfl ?_
  refine vx_callV' X rl.2.1 hCl hCR (c_X7_learnedClause l hst0 k M S.1 S.2.1 S.2.2.1 S.2.2.2.1 S.2.2.2.2 hA) cls7 hA.obj (by omega) mo_X7_learnedClause m_393 m_555 m_556 m_557 m_21 (by decide) rfl rfl (Nat.le_of_ble_eq_true rfl) ⟨by decide, by decide⟩ dL_learned_1 (vI_in (fun r M1 hp => ?_)) (fun E M1 hx => ?_)
  · exact v_iret X rl.1 ⟨by decide, by decide⟩ rfl dL_learned_4 ⟨_, rfl, n_learned hp⟩
  · obtain ⟨hE, hP⟩ := x_learned hx
    subst hE
    refine v_catch1 X rl.2.2.2 (by decide) (by decide) m_486 rl.2.1.ise (fun q => ?_)
    refine v_astore_n X [(1, .ref q), (0, .ref (ad k 0))] dL_learned_5 (by decide) rfl ?_
    refine v_bipush X (v := (-103)) (by decide) dL_learned_6 ?_
    exact v_iret X rl.1 ⟨by decide, by decide⟩ rfl dL_learned_8 ⟨_, rfl, hP⟩
set_option maxHeartbeats 4000000 in
set_option maxRecDepth 100000 in
theorem c_L_clauseHolds (l : Launch) (hst0 : l.stackTraces = false) (k : KX) (M : Mem) (S : SS) (p n : Int32) (hA : At k M S) : CL l yL_clauseHolds cL_clauseHolds 4 [(0, 14, 15, 15)] { frames := 8, cells := 1, slots := 6, locals := 133 } k [.ref (ad k 0), .int p, .int n] M (pI (PA k M (W_clauseHolds S p n))) := by
  refine CL.of (by decide) (Nat.le_of_ble_eq_true rfl) (fun C X hCl hCR rl => ?_)
  have hN := hA.N
  show V C k 4 (0, 0) M 0 [(0, .ref (ad k 0)), (1, .int p), (2, .int n)] []
  refine v_aload_n X 0 dL_clauseHolds_0 rfl ?_
  refine v_iload_n X 1 dL_clauseHolds_1 rfl ?_
  refine v_iload_n X 2 dL_clauseHolds_2 rfl ?_
  refine vx_callV' X rl.2.1 hCl hCR (c_X7_impliesClause l hst0 k M S.1 S.2.1 S.2.2.1 S.2.2.2.1 S.2.2.2.2 p n hA) cls7 hA.obj (by omega) mo_X7_impliesClause m_408 m_559 m_560 m_561 m_21 (by decide) rfl rfl (Nat.le_of_ble_eq_true rfl) ⟨by decide, by decide⟩ dL_clauseHolds_3 (vI_in (fun r M1 hp => ?_)) (fun E M1 hx => ?_)
  · refine v_if_eq X 13 dL_clauseHolds_6 (by decide) (fun c_1 => ?_) (fun c_1 => ?_)
    · refine v_iconst X (v := nI 0) (by decide) dL_clauseHolds_13 ?_
      exact v_iret X rl.1 ⟨by decide, by decide⟩ rfl dL_clauseHolds_14 ⟨_, rfl, (n_clauseHolds hp).1 c_1⟩
    · refine v_iconst X (v := nI 1) (by decide) dL_clauseHolds_9 ?_
      refine v_goto X 14 dL_clauseHolds_10 (by decide) ?_
      exact v_iret X rl.1 ⟨by decide, by decide⟩ rfl dL_clauseHolds_14 ⟨_, rfl, (n_clauseHolds hp).2 c_1⟩
  · obtain ⟨hE, hP⟩ := x_clauseHolds hx
    subst hE
    refine v_catch1 X rl.2.2.2 (by decide) (by decide) m_485 rl.2.1.iae (fun q => ?_)
    refine v_astore_n X [(3, .ref q), (0, .ref (ad k 0)), (1, .int p), (2, .int n)] dL_clauseHolds_15 (by decide) rfl ?_
    refine v_bipush X (v := (-102)) (by decide) dL_clauseHolds_16 ?_
    exact v_iret X rl.1 ⟨by decide, by decide⟩ rfl dL_clauseHolds_18 ⟨_, rfl, hP⟩
set_option maxHeartbeats 4000000 in
set_option maxRecDepth 100000 in
theorem c_L_parityHolds (l : Launch) (hst0 : l.stackTraces = false) (k : KX) (M : Mem) (S : SS) (m b : Int32) (hA : At k M S) : CL l yL_parityHolds cL_parityHolds 4 [(0, 14, 15, 15)] { frames := 8, cells := 1, slots := 6, locals := 133 } k [.ref (ad k 0), .int m, .int b] M (pI (PA k M (W_parityHolds S m b))) := by
  refine CL.of (by decide) (Nat.le_of_ble_eq_true rfl) (fun C X hCl hCR rl => ?_)
  have hN := hA.N
  show V C k 4 (0, 0) M 0 [(0, .ref (ad k 0)), (1, .int m), (2, .int b)] []
  refine v_aload_n X 0 dL_parityHolds_0 rfl ?_
  refine v_iload_n X 1 dL_parityHolds_1 rfl ?_
  refine v_iload_n X 2 dL_parityHolds_2 rfl ?_
  refine vx_callV' X rl.2.1 hCl hCR (c_X7_impliesParity l hst0 k M S.1 S.2.1 S.2.2.1 S.2.2.2.1 S.2.2.2.2 m b hA) cls7 hA.obj (by omega) mo_X7_impliesParity m_409 m_563 m_564 m_565 m_21 (by decide) rfl rfl (Nat.le_of_ble_eq_true rfl) ⟨by decide, by decide⟩ dL_parityHolds_3 (vI_in (fun r M1 hp => ?_)) (fun E M1 hx => ?_)
  · refine v_if_eq X 13 dL_parityHolds_6 (by decide) (fun c_1 => ?_) (fun c_1 => ?_)
    · refine v_iconst X (v := nI 0) (by decide) dL_parityHolds_13 ?_
      exact v_iret X rl.1 ⟨by decide, by decide⟩ rfl dL_parityHolds_14 ⟨_, rfl, (n_parityHolds hp).1 c_1⟩
    · refine v_iconst X (v := nI 1) (by decide) dL_parityHolds_9 ?_
      refine v_goto X 14 dL_parityHolds_10 (by decide) ?_
      exact v_iret X rl.1 ⟨by decide, by decide⟩ rfl dL_parityHolds_14 ⟨_, rfl, (n_parityHolds hp).2 c_1⟩
  · obtain ⟨hE, hP⟩ := x_parityHolds hx
    subst hE
    refine v_catch1 X rl.2.2.2 (by decide) (by decide) m_485 rl.2.1.iae (fun q => ?_)
    refine v_astore_n X [(3, .ref q), (0, .ref (ad k 0)), (1, .int m), (2, .int b)] dL_parityHolds_15 (by decide) rfl ?_
    refine v_bipush X (v := (-102)) (by decide) dL_parityHolds_16 ?_
    exact v_iret X rl.1 ⟨by decide, by decide⟩ rfl dL_parityHolds_18 ⟨_, rfl, hP⟩
set_option maxHeartbeats 4000000 in
set_option maxRecDepth 100000 in
theorem c_L_row (l : Launch) (hst0 : l.stackTraces = false) (k : KX) (M : Mem) (S : SS) (x : Int32) (hA : At k M S) : CL l yL_row cL_row 3 [(0, 5, 6, 17)] { frames := 7, cells := 1, slots := 6, locals := 111 } k [.ref (ad k 0), .int x] M (pI (PA k M (W_row S x))) := by
  refine CL.of (by decide) (Nat.le_of_ble_eq_true rfl) (fun C X hCl hCR rl => ?_)
  have hN := hA.N
  show V C k 3 (0, 0) M 0 [(0, .ref (ad k 0)), (1, .int x)] []
  refine v_aload_n X 0 dL_row_0 rfl ?_
  refine v_iload_n X 1 dL_row_1 rfl ?_
  refine vx_callV' X rl.2.1 hCl hCR (c_X7_eliminatedRow l hst0 k M S.1 S.2.1 S.2.2.1 S.2.2.2.1 S.2.2.2.2 x hA) cls7 hA.obj (by omega) mo_X7_eliminatedRow m_422 m_567 m_568 m_569 m_21 (by decide) rfl rfl (Nat.le_of_ble_eq_true rfl) ⟨by decide, by decide⟩ dL_row_2 (vI_in (fun r M1 hp => ?_)) (fun E M1 hx => ?_)
  · exact v_iret X rl.1 ⟨by decide, by decide⟩ rfl dL_row_5 ⟨_, rfl, n_row hp⟩
  · obtain ⟨hE, hP⟩ := x_row hx
    subst hE
    refine v_catch1 X rl.2.2.2 (by decide) (by decide) m_486 rl.2.1.ise (fun q => ?_)
    refine v_astore_n X [(2, .ref q), (0, .ref (ad k 0)), (1, .int x)] dL_row_6 (by decide) rfl ?_
    refine v_bipush X (v := (-103)) (by decide) dL_row_7 ?_
    exact v_iret X rl.1 ⟨by decide, by decide⟩ rfl dL_row_9 ⟨_, rfl, hP⟩
set_option maxHeartbeats 4000000 in
set_option maxRecDepth 100000 in
theorem c_L_save (l : Launch) (hst0 : l.stackTraces = false) (k : KX) (M : Mem) (S : SS) (x : Int32) (hA : At k M S) : CL l yL_save cL_save 3 [(0, 5, 6, 27)] { frames := 8, cells := 1, slots := 6, locals := 131 } k [.ref (ad k 0), .int x] M (pI (PA k M (W_save S x))) := by
  refine CL.of (by decide) (Nat.le_of_ble_eq_true rfl) (fun C X hCl hCR rl => ?_)
  have hN := hA.N
  show V C k 3 (0, 0) M 0 [(0, .ref (ad k 0)), (1, .int x)] []
  refine v_aload_n X 0 dL_save_0 rfl ?_
  refine v_iload_n X 1 dL_save_1 rfl ?_
  refine vx_callV' X rl.2.1 hCl hCR (c_X7_save l hst0 k M S.1 S.2.1 S.2.2.1 S.2.2.2.1 S.2.2.2.2 x hA) cls7 hA.obj (by omega) mo_X7_save m_435 m_571 m_572 m_573 m_21 (by decide) rfl rfl (Nat.le_of_ble_eq_true rfl) ⟨by decide, by decide⟩ dL_save_2 (vI_in (fun r M1 hp => ?_)) (fun E M1 hx => ?_)
  · exact v_iret X rl.1 ⟨by decide, by decide⟩ rfl dL_save_5 ⟨_, rfl, n_save hp⟩
  · obtain ⟨hE, hP⟩ := x_save hx
    subst hE
    refine v_catch1 X rl.2.2.2 (by decide) (by decide) m_494 rl.2.1.iob (fun q => ?_)
    refine v_astore_n X [(2, .ref q), (0, .ref (ad k 0)), (1, .int x)] dL_save_6 (by decide) rfl ?_
    refine v_bipush X (v := (-101)) (by decide) dL_save_7 ?_
    exact v_iret X rl.1 ⟨by decide, by decide⟩ rfl dL_save_9 ⟨_, rfl, hP⟩
set_option maxHeartbeats 4000000 in
set_option maxRecDepth 100000 in
theorem c_L_restore (l : Launch) (hst0 : l.stackTraces = false) (k : KX) (M : Mem) (S : SS) (x : Int32) (hA : At k M S) : CL l yL_restore cL_restore 3 [(0, 5, 6, 27), (0, 5, 10, 17)] { frames := 8, cells := 2, slots := 12, locals := 156 } k [.ref (ad k 0), .int x] M (pI (PA k M (W_restore S x))) := by
  refine CL.of (by decide) (Nat.le_of_ble_eq_true rfl) (fun C X hCl hCR rl => ?_)
  have hN := hA.N
  show V C k 3 (0, 0) M 0 [(0, .ref (ad k 0)), (1, .int x)] []
  refine v_aload_n X 0 dL_restore_0 rfl ?_
  refine v_iload_n X 1 dL_restore_1 rfl ?_
  refine vx_callV' X rl.2.1 hCl hCR (c_X7_restore l hst0 k M S.1 S.2.1 S.2.2.1 S.2.2.2.1 S.2.2.2.2 x hA) cls7 hA.obj (by omega) mo_X7_restore m_440 m_575 m_576 m_577 m_21 (by decide) rfl rfl (Nat.le_of_ble_eq_true rfl) ⟨by decide, by decide⟩ dL_restore_2 (vI_in (fun r M1 hp => ?_)) (fun E M1 hx => ?_)
  · exact v_iret X rl.1 ⟨by decide, by decide⟩ rfl dL_restore_5 ⟨_, rfl, n_restore hp⟩
  · rcases x_restore hx with ⟨hE, hP⟩ | ⟨hE, hP⟩
    · subst hE
      refine v_catch1 X rl.2.2.2 (by decide) (by decide) m_494 rl.2.1.iob (fun q => ?_)
      refine v_astore_n X [(2, .ref q), (0, .ref (ad k 0)), (1, .int x)] dL_restore_6 (by decide) rfl ?_
      refine v_bipush X (v := (-101)) (by decide) dL_restore_7 ?_
      exact v_iret X rl.1 ⟨by decide, by decide⟩ rfl dL_restore_9 ⟨_, rfl, hP⟩
    · subst hE
      refine v_catch2 X rl.2.2.2 (by decide) (by decide) (by decide) m_494 m_486 rl.2.2.1.2 rl.2.1.ise (fun q => ?_)
      refine v_astore_n X [(2, .ref q), (0, .ref (ad k 0)), (1, .int x)] dL_restore_10 (by decide) rfl ?_
      refine v_bipush X (v := (-103)) (by decide) dL_restore_11 ?_
      exact v_iret X rl.1 ⟨by decide, by decide⟩ rfl dL_restore_13 ⟨_, rfl, hP⟩
