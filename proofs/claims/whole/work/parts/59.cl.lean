def PS_append (k : KX) (cs ds : List Nat) (mem : List SD) (sl : Nat → Option SD) (tx : List Nat) (c : Int32) (M : Mem) : Int32 → Mem → Prop := fun r M' => (∃ n, n < 256 ∧ c = nI n ∧ tx.length < 90 ∧ r = nI (tx.length + 1) ∧ SolAt k M' cs ds mem sl (tx ++ [n])) ∧ Fr 0 93 M M'
def PX_append (k : KX) (cs ds : List Nat) (mem : List SD) (sl : Nat → Option SD) (tx : List Nat) (c : Int32) (M : Mem) : String → Mem → Prop := fun E M' => ((E = xIAE ∧ inR c 255 = false) ∨ (E = xISE ∧ inR c 255 = true ∧ 90 ≤ tx.length)) ∧ SolAt k M' cs ds mem sl tx ∧ Fr 0 93 M M'
set_option maxHeartbeats 4000000 in
set_option maxRecDepth 100000 in
theorem c_L_append (l : Launch) (hst0 : l.stackTraces = false) (M : Mem) (g : Nat → Int64) (k : KX) (cs ds : List Nat) (mem : List SD) (sl : Nat → Option SD) (tx : List Nat) (c : Int32) (hN : 107 ≤ kN k) (hSol : SolAt k M cs ds mem sl tx) (F106 : M 106 = .inl (kJ k, 1, .inr (.inl g))) : CL l yL_append cL_append 4 [(0, 9, 12, 13), (0, 9, 15, 15)] { frames := 7, cells := 1, slots := 6, locals := 111 } k [.ref (ad k 0), .int c, .ref (ad k 106)] M (pI (WP2 k (PS_append k cs ds mem sl tx c M) (PX_append k cs ds mem sl tx c M) xIAE xISE)) := by
  refine CL.of (by decide) (Nat.le_of_ble_eq_true rfl) (fun C X hCl hCR rl => ?_)
  show V C k 4 (0, 0) M 0 [(0, .ref (ad k 0)), (1, .int c), (2, .ref (ad k 106))] []
  refine v_aload_n X 2 dL_append_0 rfl ?_
  refine v_iconst X (v := nI 0) (by decide) dL_append_1 ?_
  refine v_aload_n X 0 dL_append_2 rfl ?_
  refine v_iload_n X 1 dL_append_3 rfl ?_
  refine vx_callV' X rl.2.1 hCl hCR (c_X7_append l hst0 k M cs ds mem sl tx c hSol) cls7 hSol.obj (by omega) mo_X7_append m_273 m_635 m_636 m_637 m_21 (by decide) rfl rfl (Nat.le_of_ble_eq_true rfl) ⟨by decide, by decide⟩ dL_append_4 (vI_in (fun r M1 hp => ?_)) (fun E M1 hx => ?_)
  · have hfr : Fr 0 93 M M1 := hp.2
    have F1 : M1 106 = .inl (kJ k, 1, .inr (.inl g)) := by rw [hfr 106 (Or.inr (by omega))]; exact F106
    refine v_i2l X (v := (r).toInt64) rfl dL_append_7 ?_
    refine v_last X (j := 0) F1 (by omega) (by decide) (by decide) dL_append_8 (fun M_2 hM_1 => ?_)
    refine v_goto X 18 dL_append_9 (by decide) ?_
    refine v_iconst X (v := nI 0) (by decide) dL_append_18 ?_
    exact v_iret X rl.1 ⟨by decide, by decide⟩ rfl dL_append_19 ⟨_, rfl, Or.inl ⟨rfl, _, _, _, hp, hM_1, (updL0 _ _)⟩⟩
  · rcases hx.1 with ⟨hE, _⟩ | ⟨hE, _⟩
    · subst hE
      refine v_catch1 X rl.2.2.2 (by decide) (by decide) m_633 rl.2.1.iae (fun q => ?_)
      refine v_astore_n X [(3, .ref q), (0, .ref (ad k 0)), (1, .int c), (2, .ref (ad k 106))] dL_append_12 (by decide) rfl ?_
      refine v_iconst X (v := nI 1) (by decide) dL_append_13 ?_
      exact v_iret X rl.1 ⟨by decide, by decide⟩ rfl dL_append_14 ⟨_, rfl, Or.inr (Or.inl ⟨rfl, hx⟩)⟩
    · subst hE
      refine v_catch2 X rl.2.2.2 (by decide) (by decide) (by decide) m_633 m_634 rl.2.2.1.1 rl.2.1.ise (fun q => ?_)
      refine v_astore_n X [(3, .ref q), (0, .ref (ad k 0)), (1, .int c), (2, .ref (ad k 106))] dL_append_15 (by decide) rfl ?_
      refine v_iconst X (v := nI 2) (by decide) dL_append_16 ?_
      exact v_iret X rl.1 ⟨by decide, by decide⟩ rfl dL_append_17 ⟨_, rfl, Or.inr (Or.inr ⟨rfl, hx⟩)⟩
def PS_load (k : KX) (cs ds : List Nat) (mem : List SD) (sl : Nat → Option SD) (tx : List Nat) (M : Mem) : Int32 → Mem → Prop := fun r M' => ((rdText tx).1 = none ∧ r = nI (rdText tx).2.1.length ∧ SolAt k M' ((rdText tx).2.1) ([]) ([]) (fun _ => none) tx) ∧ Fr 0 93 M M'
def PX_load (k : KX) (cs ds : List Nat) (mem : List SD) (sl : Nat → Option SD) (tx : List Nat) (M : Mem) : String → Mem → Prop := fun E M' => (E = xISE ∧ (rdText tx).1 ≠ none) ∧ SolAt k M' cs ds mem sl tx ∧ Fr 0 93 M M'
set_option maxHeartbeats 4000000 in
set_option maxRecDepth 100000 in
theorem c_L_load (l : Launch) (hst0 : l.stackTraces = false) (M : Mem) (g : Nat → Int64) (k : KX) (cs ds : List Nat) (mem : List SD) (sl : Nat → Option SD) (tx : List Nat) (hN : 107 ≤ kN k) (hSol : SolAt k M cs ds mem sl tx) (F106 : M 106 = .inl (kJ k, 1, .inr (.inl g))) : CL l yL_load cL_load 3 [(0, 8, 11, 15)] { frames := 7, cells := 1, slots := 6, locals := 155 } k [.ref (ad k 0), .ref (ad k 106)] M (pI (WP1 k (PS_load k cs ds mem sl tx M) (PX_load k cs ds mem sl tx M) xISE)) := by
  refine CL.of (by decide) (Nat.le_of_ble_eq_true rfl) (fun C X hCl hCR rl => ?_)
  show V C k 3 (0, 0) M 0 [(0, .ref (ad k 0)), (1, .ref (ad k 106))] []
  refine v_aload_n X 1 dL_load_0 rfl ?_
  refine v_iconst X (v := nI 0) (by decide) dL_load_1 ?_
  refine v_aload_n X 0 dL_load_2 rfl ?_
  refine vx_callV' X rl.2.1 hCl hCR (c_X7_load l hst0 k M cs ds mem sl tx  hSol) cls7 hSol.obj (by omega) mo_X7_load m_301 m_638 m_639 m_640 m_21 (by decide) rfl rfl (Nat.le_of_ble_eq_true rfl) ⟨by decide, by decide⟩ dL_load_3 (vI_in (fun r M1 hp => ?_)) (fun E M1 hx => ?_)
  · have hfr : Fr 0 93 M M1 := hp.2
    have F1 : M1 106 = .inl (kJ k, 1, .inr (.inl g)) := by rw [hfr 106 (Or.inr (by omega))]; exact F106
    refine v_i2l X (v := (r).toInt64) rfl dL_load_6 ?_
    refine v_last X (j := 0) F1 (by omega) (by decide) (by decide) dL_load_7 (fun M_2 hM_1 => ?_)
    refine v_goto X 14 dL_load_8 (by decide) ?_
    refine v_iconst X (v := nI 0) (by decide) dL_load_14 ?_
    exact v_iret X rl.1 ⟨by decide, by decide⟩ rfl dL_load_15 ⟨_, rfl, Or.inl ⟨rfl, _, _, _, hp, hM_1, (updL0 _ _)⟩⟩
  · have hE := hx.1.1
    subst hE
    refine v_catch1 X rl.2.2.2 (by decide) (by decide) m_634 rl.2.1.ise (fun q => ?_)
    refine v_astore_n X [(2, .ref q), (0, .ref (ad k 0)), (1, .ref (ad k 106))] dL_load_11 (by decide) rfl ?_
    refine v_iconst X (v := nI 1) (by decide) dL_load_12 ?_
    exact v_iret X rl.1 ⟨by decide, by decide⟩ rfl dL_load_13 ⟨_, rfl, Or.inr ⟨rfl, hx⟩⟩
def PS_isParity (k : KX) (cs ds : List Nat) (mem : List SD) (sl : Nat → Option SD) (tx : List Nat) (x : Int32) (M : Mem) : Int32 → Mem → Prop := fun r M' => ((∃ j, j < cs.length ∧ x = nI j ∧ r = bI (xPar (cAt cs j)))) ∧ SolAt k M' cs ds mem sl tx ∧ Fr 0 93 M M'
def PX_isParity (k : KX) (cs ds : List Nat) (mem : List SD) (sl : Nat → Option SD) (tx : List Nat) (x : Int32) (M : Mem) : String → Mem → Prop := fun E M' => (E = xIOB ∧ inL x cs.length = false) ∧ SolAt k M' cs ds mem sl tx ∧ Fr 0 93 M M'
set_option maxHeartbeats 4000000 in
set_option maxRecDepth 100000 in
theorem c_L_isParity (l : Launch) (hst0 : l.stackTraces = false) (M : Mem) (g : Nat → Int64) (k : KX) (cs ds : List Nat) (mem : List SD) (sl : Nat → Option SD) (tx : List Nat) (x : Int32) (hN : 107 ≤ kN k) (hSol : SolAt k M cs ds mem sl tx) (F106 : M 106 = .inl (kJ k, 1, .inr (.inl g))) : CL l yL_isParity cL_isParity 4 [(0, 16, 19, 25)] { frames := 8, cells := 1, slots := 6, locals := 132 } k [.ref (ad k 0), .int x, .ref (ad k 106)] M (pI (WP1 k (PS_isParity k cs ds mem sl tx x M) (PX_isParity k cs ds mem sl tx x M) xIOB)) := by
  refine CL.of (by decide) (Nat.le_of_ble_eq_true rfl) (fun C X hCl hCR rl => ?_)
  show V C k 4 (0, 0) M 0 [(0, .ref (ad k 0)), (1, .int x), (2, .ref (ad k 106))] []
  refine v_aload_n X 2 dL_isParity_0 rfl ?_
  refine v_iconst X (v := nI 0) (by decide) dL_isParity_1 ?_
  refine v_aload_n X 0 dL_isParity_2 rfl ?_
  refine v_iload_n X 1 dL_isParity_3 rfl ?_
  refine vx_callV' X rl.2.1 hCl hCR (c_X7_isParity l hst0 k M cs ds mem sl tx x hSol) cls7 hSol.obj (by omega) mo_X7_isParity m_307 m_643 m_644 m_645 m_21 (by decide) rfl rfl (Nat.le_of_ble_eq_true rfl) ⟨by decide, by decide⟩ dL_isParity_4 (vI_in (fun r M1 hp => ?_)) (fun E M1 hx => ?_)
  · have hfr : Fr 0 93 M M1 := hp.2.2
    have F1 : M1 106 = .inl (kJ k, 1, .inr (.inl g)) := by rw [hfr 106 (Or.inr (by omega))]; exact F106
    have hb : ∃ b, r = bI b := by
      obtain ⟨⟨j, _, _, h⟩, _⟩ := hp
      exact ⟨_, h⟩
    refine v_if_eq X 14 dL_isParity_7 (by decide) (fun c_1 => ?_) (fun c_1 => ?_)
    · refine v_lconst X (v := 0) (by decide) dL_isParity_14 ?_
      refine v_last X (j := 0) F1 (by omega) (by decide) (by decide) dL_isParity_15 (fun M_3 hM_2 => ?_)
      refine v_goto X 22 dL_isParity_16 (by decide) ?_
      refine v_iconst X (v := nI 0) (by decide) dL_isParity_22 ?_
      exact v_iret X rl.1 ⟨by decide, by decide⟩ rfl dL_isParity_23 ⟨_, rfl, Or.inl ⟨rfl, _, _, _, hp, hM_2, ((updL0 _ _).trans (z_long c_1).symm)⟩⟩
    · refine v_lconst X (v := 1) (by decide) dL_isParity_10 ?_
      refine v_goto X 15 dL_isParity_11 (by decide) ?_
      refine v_last X (j := 0) F1 (by omega) (by decide) (by decide) dL_isParity_15 (fun M_5 hM_4 => ?_)
      refine v_goto X 22 dL_isParity_16 (by decide) ?_
      refine v_iconst X (v := nI 0) (by decide) dL_isParity_22 ?_
      exact v_iret X rl.1 ⟨by decide, by decide⟩ rfl dL_isParity_23 ⟨_, rfl, Or.inl ⟨rfl, _, _, _, hp, hM_4, ((updL0 _ _).trans (b_long hb c_1).symm)⟩⟩
  · have hE := hx.1.1
    subst hE
    refine v_catch1 X rl.2.2.2 (by decide) (by decide) m_642 rl.2.1.iob (fun q => ?_)
    refine v_astore_n X [(3, .ref q), (0, .ref (ad k 0)), (1, .int x), (2, .ref (ad k 106))] dL_isParity_19 (by decide) rfl ?_
    refine v_iconst X (v := nI 1) (by decide) dL_isParity_20 ?_
    exact v_iret X rl.1 ⟨by decide, by decide⟩ rfl dL_isParity_21 ⟨_, rfl, Or.inr ⟨rfl, hx⟩⟩
def PS_variables (k : KX) (cs ds : List Nat) (mem : List SD) (sl : Nat → Option SD) (tx : List Nat) (x : Int32) (M : Mem) : Int32 → Mem → Prop := fun r M' => ((∃ j, j < cs.length ∧ x = nI j ∧ r = nI (xFirst (cAt cs j)))) ∧ SolAt k M' cs ds mem sl tx ∧ Fr 0 93 M M'
def PX_variables (k : KX) (cs ds : List Nat) (mem : List SD) (sl : Nat → Option SD) (tx : List Nat) (x : Int32) (M : Mem) : String → Mem → Prop := fun E M' => (E = xIOB ∧ inL x cs.length = false) ∧ SolAt k M' cs ds mem sl tx ∧ Fr 0 93 M M'
set_option maxHeartbeats 4000000 in
set_option maxRecDepth 100000 in
theorem c_L_variables (l : Launch) (hst0 : l.stackTraces = false) (M : Mem) (g : Nat → Int64) (k : KX) (cs ds : List Nat) (mem : List SD) (sl : Nat → Option SD) (tx : List Nat) (x : Int32) (hN : 107 ≤ kN k) (hSol : SolAt k M cs ds mem sl tx) (F106 : M 106 = .inl (kJ k, 1, .inr (.inl g))) : CL l yL_variables cL_variables 4 [(0, 9, 12, 25)] { frames := 8, cells := 1, slots := 6, locals := 132 } k [.ref (ad k 0), .int x, .ref (ad k 106)] M (pI (WP1 k (PS_variables k cs ds mem sl tx x M) (PX_variables k cs ds mem sl tx x M) xIOB)) := by
  refine CL.of (by decide) (Nat.le_of_ble_eq_true rfl) (fun C X hCl hCR rl => ?_)
  show V C k 4 (0, 0) M 0 [(0, .ref (ad k 0)), (1, .int x), (2, .ref (ad k 106))] []
  refine v_aload_n X 2 dL_variables_0 rfl ?_
  refine v_iconst X (v := nI 0) (by decide) dL_variables_1 ?_
  refine v_aload_n X 0 dL_variables_2 rfl ?_
  refine v_iload_n X 1 dL_variables_3 rfl ?_
  refine vx_callV' X rl.2.1 hCl hCR (c_X7_variables l hst0 k M cs ds mem sl tx x hSol) cls7 hSol.obj (by omega) mo_X7_variables m_313 m_647 m_648 m_649 m_21 (by decide) rfl rfl (Nat.le_of_ble_eq_true rfl) ⟨by decide, by decide⟩ dL_variables_4 (vI_in (fun r M1 hp => ?_)) (fun E M1 hx => ?_)
  · have hfr : Fr 0 93 M M1 := hp.2.2
    have F1 : M1 106 = .inl (kJ k, 1, .inr (.inl g)) := by rw [hfr 106 (Or.inr (by omega))]; exact F106
    refine v_i2l X (v := (r).toInt64) rfl dL_variables_7 ?_
    refine v_last X (j := 0) F1 (by omega) (by decide) (by decide) dL_variables_8 (fun M_2 hM_1 => ?_)
    refine v_goto X 15 dL_variables_9 (by decide) ?_
    refine v_iconst X (v := nI 0) (by decide) dL_variables_15 ?_
    exact v_iret X rl.1 ⟨by decide, by decide⟩ rfl dL_variables_16 ⟨_, rfl, Or.inl ⟨rfl, _, _, _, hp, hM_1, (updL0 _ _)⟩⟩
  · have hE := hx.1.1
    subst hE
    refine v_catch1 X rl.2.2.2 (by decide) (by decide) m_642 rl.2.1.iob (fun q => ?_)
    refine v_astore_n X [(3, .ref q), (0, .ref (ad k 0)), (1, .int x), (2, .ref (ad k 106))] dL_variables_12 (by decide) rfl ?_
    refine v_iconst X (v := nI 1) (by decide) dL_variables_13 ?_
    exact v_iret X rl.1 ⟨by decide, by decide⟩ rfl dL_variables_14 ⟨_, rfl, Or.inr ⟨rfl, hx⟩⟩
def PS_negated (k : KX) (cs ds : List Nat) (mem : List SD) (sl : Nat → Option SD) (tx : List Nat) (x : Int32) (M : Mem) : Int32 → Mem → Prop := fun r M' => ((∃ j, j < cs.length ∧ x = nI j ∧ r = nI (xSecond (cAt cs j)))) ∧ SolAt k M' cs ds mem sl tx ∧ Fr 0 93 M M'
def PX_negated (k : KX) (cs ds : List Nat) (mem : List SD) (sl : Nat → Option SD) (tx : List Nat) (x : Int32) (M : Mem) : String → Mem → Prop := fun E M' => (E = xIOB ∧ inL x cs.length = false) ∧ SolAt k M' cs ds mem sl tx ∧ Fr 0 93 M M'
set_option maxHeartbeats 4000000 in
set_option maxRecDepth 100000 in
theorem c_L_negated (l : Launch) (hst0 : l.stackTraces = false) (M : Mem) (g : Nat → Int64) (k : KX) (cs ds : List Nat) (mem : List SD) (sl : Nat → Option SD) (tx : List Nat) (x : Int32) (hN : 107 ≤ kN k) (hSol : SolAt k M cs ds mem sl tx) (F106 : M 106 = .inl (kJ k, 1, .inr (.inl g))) : CL l yL_negated cL_negated 4 [(0, 9, 12, 25)] { frames := 8, cells := 1, slots := 6, locals := 132 } k [.ref (ad k 0), .int x, .ref (ad k 106)] M (pI (WP1 k (PS_negated k cs ds mem sl tx x M) (PX_negated k cs ds mem sl tx x M) xIOB)) := by
  refine CL.of (by decide) (Nat.le_of_ble_eq_true rfl) (fun C X hCl hCR rl => ?_)
  show V C k 4 (0, 0) M 0 [(0, .ref (ad k 0)), (1, .int x), (2, .ref (ad k 106))] []
  refine v_aload_n X 2 dL_negated_0 rfl ?_
  refine v_iconst X (v := nI 0) (by decide) dL_negated_1 ?_
  refine v_aload_n X 0 dL_negated_2 rfl ?_
  refine v_iload_n X 1 dL_negated_3 rfl ?_
  refine vx_callV' X rl.2.1 hCl hCR (c_X7_negated l hst0 k M cs ds mem sl tx x hSol) cls7 hSol.obj (by omega) mo_X7_negated m_316 m_651 m_652 m_653 m_21 (by decide) rfl rfl (Nat.le_of_ble_eq_true rfl) ⟨by decide, by decide⟩ dL_negated_4 (vI_in (fun r M1 hp => ?_)) (fun E M1 hx => ?_)
  · have hfr : Fr 0 93 M M1 := hp.2.2
    have F1 : M1 106 = .inl (kJ k, 1, .inr (.inl g)) := by rw [hfr 106 (Or.inr (by omega))]; exact F106
    refine v_i2l X (v := (r).toInt64) rfl dL_negated_7 ?_
    refine v_last X (j := 0) F1 (by omega) (by decide) (by decide) dL_negated_8 (fun M_2 hM_1 => ?_)
    refine v_goto X 15 dL_negated_9 (by decide) ?_
    refine v_iconst X (v := nI 0) (by decide) dL_negated_15 ?_
    exact v_iret X rl.1 ⟨by decide, by decide⟩ rfl dL_negated_16 ⟨_, rfl, Or.inl ⟨rfl, _, _, _, hp, hM_1, (updL0 _ _)⟩⟩
  · have hE := hx.1.1
    subst hE
    refine v_catch1 X rl.2.2.2 (by decide) (by decide) m_642 rl.2.1.iob (fun q => ?_)
    refine v_astore_n X [(3, .ref q), (0, .ref (ad k 0)), (1, .int x), (2, .ref (ad k 106))] dL_negated_12 (by decide) rfl ?_
    refine v_iconst X (v := nI 1) (by decide) dL_negated_13 ?_
    exact v_iret X rl.1 ⟨by decide, by decide⟩ rfl dL_negated_14 ⟨_, rfl, Or.inr ⟨rfl, hx⟩⟩
def PS_addClause (k : KX) (cs ds : List Nat) (mem : List SD) (sl : Nat → Option SD) (tx : List Nat) (p n : Int32) (M : Mem) : Int32 → Mem → Prop := fun r M' => (∃ p0 n0, p0 < 256 ∧ n0 < 256 ∧ p = nI p0 ∧ n = nI n0 ∧ p0 &&& n0 = 0 ∧ cs.length < 24 ∧ r = nI cs.length ∧ SolAt k M' (cs ++ [xClause p0 n0]) (sNew (cs ++ [xClause p0 n0]) ds) (remF mem (cs, ds)) sl tx) ∧ Fr 0 93 M M'
def PX_addClause (k : KX) (cs ds : List Nat) (mem : List SD) (sl : Nat → Option SD) (tx : List Nat) (p n : Int32) (M : Mem) : String → Mem → Prop := fun E M' => ((E = xIAE ∧ ¬ (inR p 255 = true ∧ inR n 255 = true ∧ p &&& n = 0)) ∨ (E = xISE ∧ (inR p 255 = true ∧ inR n 255 = true ∧ p &&& n = 0) ∧ 24 ≤ cs.length)) ∧ SolAt k M' cs ds mem sl tx ∧ Fr 0 93 M M'
set_option maxHeartbeats 4000000 in
set_option maxRecDepth 100000 in
theorem c_L_addClause (l : Launch) (hst0 : l.stackTraces = false) (M : Mem) (g : Nat → Int64) (k : KX) (cs ds : List Nat) (mem : List SD) (sl : Nat → Option SD) (tx : List Nat) (p n : Int32) (hN : 107 ≤ kN k) (hSol : SolAt k M cs ds mem sl tx) (F106 : M 106 = .inl (kJ k, 1, .inr (.inl g))) : CL l yL_addClause cL_addClause 5 [(0, 10, 13, 13), (0, 10, 17, 15)] { frames := 8, cells := 2, slots := 12, locals := 178 } k [.ref (ad k 0), .int p, .int n, .ref (ad k 106)] M (pI (WP2 k (PS_addClause k cs ds mem sl tx p n M) (PX_addClause k cs ds mem sl tx p n M) xIAE xISE)) := by
  refine CL.of (by decide) (Nat.le_of_ble_eq_true rfl) (fun C X hCl hCR rl => ?_)
  show V C k 5 (0, 0) M 0 [(0, .ref (ad k 0)), (1, .int p), (2, .int n), (3, .ref (ad k 106))] []
  refine v_aload_n X 3 dL_addClause_0 rfl ?_
  refine v_iconst X (v := nI 0) (by decide) dL_addClause_1 ?_
  refine v_aload_n X 0 dL_addClause_2 rfl ?_
  refine v_iload_n X 1 dL_addClause_3 rfl ?_
  refine v_iload_n X 2 dL_addClause_4 rfl ?_
  refine vx_callV' X rl.2.1 hCl hCR (c_X7_addClause l hst0 k M cs ds mem sl tx p n hSol) cls7 hSol.obj (by omega) mo_X7_addClause m_339 m_655 m_656 m_657 m_21 (by decide) rfl rfl (Nat.le_of_ble_eq_true rfl) ⟨by decide, by decide⟩ dL_addClause_5 (vI_in (fun r M1 hp => ?_)) (fun E M1 hx => ?_)
  · have hfr : Fr 0 93 M M1 := hp.2
    have F1 : M1 106 = .inl (kJ k, 1, .inr (.inl g)) := by rw [hfr 106 (Or.inr (by omega))]; exact F106
    refine v_i2l X (v := (r).toInt64) rfl dL_addClause_8 ?_
    refine v_last X (j := 0) F1 (by omega) (by decide) (by decide) dL_addClause_9 (fun M_2 hM_1 => ?_)
    refine v_goto X 21 dL_addClause_10 (by decide) ?_
    refine v_iconst X (v := nI 0) (by decide) dL_addClause_21 ?_
    exact v_iret X rl.1 ⟨by decide, by decide⟩ rfl dL_addClause_22 ⟨_, rfl, Or.inl ⟨rfl, _, _, _, hp, hM_1, (updL0 _ _)⟩⟩
  · rcases hx.1 with ⟨hE, _⟩ | ⟨hE, _⟩
    · subst hE
      refine v_catch1 X rl.2.2.2 (by decide) (by decide) m_633 rl.2.1.iae (fun q => ?_)
      refine v_astore X [(4, .ref q), (0, .ref (ad k 0)), (1, .int p), (2, .int n), (3, .ref (ad k 106))] dL_addClause_13 (by decide) rfl ?_
      refine v_iconst X (v := nI 1) (by decide) dL_addClause_15 ?_
      exact v_iret X rl.1 ⟨by decide, by decide⟩ rfl dL_addClause_16 ⟨_, rfl, Or.inr (Or.inl ⟨rfl, hx⟩)⟩
    · subst hE
      refine v_catch2 X rl.2.2.2 (by decide) (by decide) (by decide) m_633 m_634 rl.2.2.1.1 rl.2.1.ise (fun q => ?_)
      refine v_astore X [(4, .ref q), (0, .ref (ad k 0)), (1, .int p), (2, .int n), (3, .ref (ad k 106))] dL_addClause_17 (by decide) rfl ?_
      refine v_iconst X (v := nI 2) (by decide) dL_addClause_19 ?_
      exact v_iret X rl.1 ⟨by decide, by decide⟩ rfl dL_addClause_20 ⟨_, rfl, Or.inr (Or.inr ⟨rfl, hx⟩)⟩
def PS_addParity (k : KX) (cs ds : List Nat) (mem : List SD) (sl : Nat → Option SD) (tx : List Nat) (m b : Int32) (M : Mem) : Int32 → Mem → Prop := fun r M' => (∃ m0 b0, m0 < 256 ∧ b0 < 2 ∧ m = nI m0 ∧ b = nI b0 ∧ cs.length < 24 ∧ r = nI cs.length ∧ SolAt k M' (cs ++ [xParity m0 b0]) (sNew (cs ++ [xParity m0 b0]) ds) (remF mem (cs, ds)) sl tx) ∧ Fr 0 93 M M'
def PX_addParity (k : KX) (cs ds : List Nat) (mem : List SD) (sl : Nat → Option SD) (tx : List Nat) (m b : Int32) (M : Mem) : String → Mem → Prop := fun E M' => ((E = xIAE ∧ ¬ (inR m 255 = true ∧ inR b 1 = true)) ∨ (E = xISE ∧ (inR m 255 = true ∧ inR b 1 = true) ∧ 24 ≤ cs.length)) ∧ SolAt k M' cs ds mem sl tx ∧ Fr 0 93 M M'
set_option maxHeartbeats 4000000 in
set_option maxRecDepth 100000 in
theorem c_L_addParity (l : Launch) (hst0 : l.stackTraces = false) (M : Mem) (g : Nat → Int64) (k : KX) (cs ds : List Nat) (mem : List SD) (sl : Nat → Option SD) (tx : List Nat) (m b : Int32) (hN : 107 ≤ kN k) (hSol : SolAt k M cs ds mem sl tx) (F106 : M 106 = .inl (kJ k, 1, .inr (.inl g))) : CL l yL_addParity cL_addParity 5 [(0, 10, 13, 13), (0, 10, 17, 15)] { frames := 8, cells := 2, slots := 12, locals := 178 } k [.ref (ad k 0), .int m, .int b, .ref (ad k 106)] M (pI (WP2 k (PS_addParity k cs ds mem sl tx m b M) (PX_addParity k cs ds mem sl tx m b M) xIAE xISE)) := by
  refine CL.of (by decide) (Nat.le_of_ble_eq_true rfl) (fun C X hCl hCR rl => ?_)
  show V C k 5 (0, 0) M 0 [(0, .ref (ad k 0)), (1, .int m), (2, .int b), (3, .ref (ad k 106))] []
  refine v_aload_n X 3 dL_addParity_0 rfl ?_
  refine v_iconst X (v := nI 0) (by decide) dL_addParity_1 ?_
  refine v_aload_n X 0 dL_addParity_2 rfl ?_
  refine v_iload_n X 1 dL_addParity_3 rfl ?_
  refine v_iload_n X 2 dL_addParity_4 rfl ?_
  refine vx_callV' X rl.2.1 hCl hCR (c_X7_addParity l hst0 k M cs ds mem sl tx m b hSol) cls7 hSol.obj (by omega) mo_X7_addParity m_344 m_659 m_660 m_661 m_21 (by decide) rfl rfl (Nat.le_of_ble_eq_true rfl) ⟨by decide, by decide⟩ dL_addParity_5 (vI_in (fun r M1 hp => ?_)) (fun E M1 hx => ?_)
  · have hfr : Fr 0 93 M M1 := hp.2
    have F1 : M1 106 = .inl (kJ k, 1, .inr (.inl g)) := by rw [hfr 106 (Or.inr (by omega))]; exact F106
    refine v_i2l X (v := (r).toInt64) rfl dL_addParity_8 ?_
    refine v_last X (j := 0) F1 (by omega) (by decide) (by decide) dL_addParity_9 (fun M_2 hM_1 => ?_)
    refine v_goto X 21 dL_addParity_10 (by decide) ?_
    refine v_iconst X (v := nI 0) (by decide) dL_addParity_21 ?_
    exact v_iret X rl.1 ⟨by decide, by decide⟩ rfl dL_addParity_22 ⟨_, rfl, Or.inl ⟨rfl, _, _, _, hp, hM_1, (updL0 _ _)⟩⟩
  · rcases hx.1 with ⟨hE, _⟩ | ⟨hE, _⟩
    · subst hE
      refine v_catch1 X rl.2.2.2 (by decide) (by decide) m_633 rl.2.1.iae (fun q => ?_)
      refine v_astore X [(4, .ref q), (0, .ref (ad k 0)), (1, .int m), (2, .int b), (3, .ref (ad k 106))] dL_addParity_13 (by decide) rfl ?_
      refine v_iconst X (v := nI 1) (by decide) dL_addParity_15 ?_
      exact v_iret X rl.1 ⟨by decide, by decide⟩ rfl dL_addParity_16 ⟨_, rfl, Or.inr (Or.inl ⟨rfl, hx⟩)⟩
    · subst hE
      refine v_catch2 X rl.2.2.2 (by decide) (by decide) (by decide) m_633 m_634 rl.2.2.1.1 rl.2.1.ise (fun q => ?_)
      refine v_astore X [(4, .ref q), (0, .ref (ad k 0)), (1, .int m), (2, .int b), (3, .ref (ad k 106))] dL_addParity_17 (by decide) rfl ?_
      refine v_iconst X (v := nI 2) (by decide) dL_addParity_19 ?_
      exact v_iret X rl.1 ⟨by decide, by decide⟩ rfl dL_addParity_20 ⟨_, rfl, Or.inr (Or.inr ⟨rfl, hx⟩)⟩
def PS_removeConstraint (k : KX) (cs ds : List Nat) (mem : List SD) (sl : Nat → Option SD) (tx : List Nat) (x : Int32) (M : Mem) : Int32 → Mem → Prop := fun r M' => (∃ j, j < cs.length ∧ x = nI j ∧ r = nI (cs.length - 1) ∧ SolAt k M' (cs.eraseIdx j) (sNew (cs.eraseIdx j) ds) (remF mem (cs, ds)) sl tx) ∧ Fr 0 93 M M'
def PX_removeConstraint (k : KX) (cs ds : List Nat) (mem : List SD) (sl : Nat → Option SD) (tx : List Nat) (x : Int32) (M : Mem) : String → Mem → Prop := fun E M' => (E = xIOB ∧ inL x cs.length = false) ∧ SolAt k M' cs ds mem sl tx ∧ Fr 0 93 M M'
set_option maxHeartbeats 4000000 in
set_option maxRecDepth 100000 in
theorem c_L_removeConstraint (l : Launch) (hst0 : l.stackTraces = false) (M : Mem) (g : Nat → Int64) (k : KX) (cs ds : List Nat) (mem : List SD) (sl : Nat → Option SD) (tx : List Nat) (x : Int32) (hN : 107 ≤ kN k) (hSol : SolAt k M cs ds mem sl tx) (F106 : M 106 = .inl (kJ k, 1, .inr (.inl g))) : CL l yL_removeConstraint cL_removeConstraint 4 [(0, 9, 12, 25)] { frames := 8, cells := 1, slots := 6, locals := 156 } k [.ref (ad k 0), .int x, .ref (ad k 106)] M (pI (WP1 k (PS_removeConstraint k cs ds mem sl tx x M) (PX_removeConstraint k cs ds mem sl tx x M) xIOB)) := by
  refine CL.of (by decide) (Nat.le_of_ble_eq_true rfl) (fun C X hCl hCR rl => ?_)
  show V C k 4 (0, 0) M 0 [(0, .ref (ad k 0)), (1, .int x), (2, .ref (ad k 106))] []
  refine v_aload_n X 2 dL_removeConstraint_0 rfl ?_
  refine v_iconst X (v := nI 0) (by decide) dL_removeConstraint_1 ?_
  refine v_aload_n X 0 dL_removeConstraint_2 rfl ?_
  refine v_iload_n X 1 dL_removeConstraint_3 rfl ?_
  refine vx_callV' X rl.2.1 hCl hCR (c_X7_removeConstraint l hst0 k M cs ds mem sl tx x hSol) cls7 hSol.obj (by omega) mo_X7_removeConstraint m_348 m_663 m_664 m_665 m_21 (by decide) rfl rfl (Nat.le_of_ble_eq_true rfl) ⟨by decide, by decide⟩ dL_removeConstraint_4 (vI_in (fun r M1 hp => ?_)) (fun E M1 hx => ?_)
  · have hfr : Fr 0 93 M M1 := hp.2
    have F1 : M1 106 = .inl (kJ k, 1, .inr (.inl g)) := by rw [hfr 106 (Or.inr (by omega))]; exact F106
    refine v_i2l X (v := (r).toInt64) rfl dL_removeConstraint_7 ?_
    refine v_last X (j := 0) F1 (by omega) (by decide) (by decide) dL_removeConstraint_8 (fun M_2 hM_1 => ?_)
    refine v_goto X 15 dL_removeConstraint_9 (by decide) ?_
    refine v_iconst X (v := nI 0) (by decide) dL_removeConstraint_15 ?_
    exact v_iret X rl.1 ⟨by decide, by decide⟩ rfl dL_removeConstraint_16 ⟨_, rfl, Or.inl ⟨rfl, _, _, _, hp, hM_1, (updL0 _ _)⟩⟩
  · have hE := hx.1.1
    subst hE
    refine v_catch1 X rl.2.2.2 (by decide) (by decide) m_642 rl.2.1.iob (fun q => ?_)
    refine v_astore_n X [(3, .ref q), (0, .ref (ad k 0)), (1, .int x), (2, .ref (ad k 106))] dL_removeConstraint_12 (by decide) rfl ?_
    refine v_iconst X (v := nI 1) (by decide) dL_removeConstraint_13 ?_
    exact v_iret X rl.1 ⟨by decide, by decide⟩ rfl dL_removeConstraint_14 ⟨_, rfl, Or.inr ⟨rfl, hx⟩⟩
def PS_resolve (k : KX) (cs ds : List Nat) (mem : List SD) (sl : Nat → Option SD) (tx : List Nat) (x y w : Int32) (M : Mem) : Int32 → Mem → Prop := fun r M' => (∃ i j v, i < cs.length ∧ j < cs.length ∧ v < 8 ∧ x = nI i ∧ y = nI j ∧ w = nI v ∧ rsOK cs i j v ∧ r = nI cs.length ∧ SolAt k M' (cs ++ [xClause (rsP cs i j v) (rsN cs i j v)]) (sNew (cs ++ [xClause (rsP cs i j v) (rsN cs i j v)]) ds) (remF mem (cs, ds)) sl tx) ∧ Fr 0 93 M M'
def PX_resolve (k : KX) (cs ds : List Nat) (mem : List SD) (sl : Nat → Option SD) (tx : List Nat) (x y w : Int32) (M : Mem) : String → Mem → Prop := fun E M' => ((E = xIOB ∧ ¬ (inL x cs.length = true ∧ inL y cs.length = true ∧ inL w 8 = true)) ∨ (E = xISE ∧ ∃ i j v, i < cs.length ∧ j < cs.length ∧ v < 8 ∧ x = nI i ∧ y = nI j ∧ w = nI v ∧ ¬ rsOK cs i j v)) ∧ SolAt k M' cs ds mem sl tx ∧ Fr 0 93 M M'
set_option maxHeartbeats 4000000 in
set_option maxRecDepth 100000 in
theorem c_L_resolve (l : Launch) (hst0 : l.stackTraces = false) (M : Mem) (g : Nat → Int64) (k : KX) (cs ds : List Nat) (mem : List SD) (sl : Nat → Option SD) (tx : List Nat) (x y w : Int32) (hN : 107 ≤ kN k) (hSol : SolAt k M cs ds mem sl tx) (F106 : M 106 = .inl (kJ k, 1, .inr (.inl g))) : CL l yL_resolve cL_resolve 6 [(0, 12, 15, 25), (0, 12, 19, 15)] { frames := 8, cells := 5, slots := 30, locals := 184 } k [.ref (ad k 0), .int x, .int y, .int w, .ref (ad k 106)] M (pI (WP2 k (PS_resolve k cs ds mem sl tx x y w M) (PX_resolve k cs ds mem sl tx x y w M) xIOB xISE)) := by
  refine CL.of (by decide) (Nat.le_of_ble_eq_true rfl) (fun C X hCl hCR rl => ?_)
  show V C k 6 (0, 0) M 0 [(0, .ref (ad k 0)), (1, .int x), (2, .int y), (3, .int w), (4, .ref (ad k 106))] []
  refine v_aload X 4 dL_resolve_0 rfl ?_
  refine v_iconst X (v := nI 0) (by decide) dL_resolve_2 ?_
  refine v_aload_n X 0 dL_resolve_3 rfl ?_
  refine v_iload_n X 1 dL_resolve_4 rfl ?_
  refine v_iload_n X 2 dL_resolve_5 rfl ?_
  refine v_iload_n X 3 dL_resolve_6 rfl ?_
  refine vx_callV' X rl.2.1 hCl hCR (c_X7_resolve l hst0 k M cs ds mem sl tx x y w hSol) cls7 hSol.obj (by omega) mo_X7_resolve m_353 m_667 m_668 m_669 m_21 (by decide) rfl rfl (Nat.le_of_ble_eq_true rfl) ⟨by decide, by decide⟩ dL_resolve_7 (vI_in (fun r M1 hp => ?_)) (fun E M1 hx => ?_)
  · have hfr : Fr 0 93 M M1 := hp.2
    have F1 : M1 106 = .inl (kJ k, 1, .inr (.inl g)) := by rw [hfr 106 (Or.inr (by omega))]; exact F106
    refine v_i2l X (v := (r).toInt64) rfl dL_resolve_10 ?_
    refine v_last X (j := 0) F1 (by omega) (by decide) (by decide) dL_resolve_11 (fun M_2 hM_1 => ?_)
    refine v_goto X 23 dL_resolve_12 (by decide) ?_
    refine v_iconst X (v := nI 0) (by decide) dL_resolve_23 ?_
    exact v_iret X rl.1 ⟨by decide, by decide⟩ rfl dL_resolve_24 ⟨_, rfl, Or.inl ⟨rfl, _, _, _, hp, hM_1, (updL0 _ _)⟩⟩
  · rcases hx.1 with ⟨hE, _⟩ | ⟨hE, _⟩
    · subst hE
      refine v_catch1 X rl.2.2.2 (by decide) (by decide) m_642 rl.2.1.iob (fun q => ?_)
      refine v_astore X [(5, .ref q), (0, .ref (ad k 0)), (1, .int x), (2, .int y), (3, .int w), (4, .ref (ad k 106))] dL_resolve_15 (by decide) rfl ?_
      refine v_iconst X (v := nI 1) (by decide) dL_resolve_17 ?_
      exact v_iret X rl.1 ⟨by decide, by decide⟩ rfl dL_resolve_18 ⟨_, rfl, Or.inr (Or.inl ⟨rfl, hx⟩)⟩
    · subst hE
      refine v_catch2 X rl.2.2.2 (by decide) (by decide) (by decide) m_642 m_634 rl.2.2.1.2 rl.2.1.ise (fun q => ?_)
      refine v_astore X [(5, .ref q), (0, .ref (ad k 0)), (1, .int x), (2, .int y), (3, .int w), (4, .ref (ad k 106))] dL_resolve_19 (by decide) rfl ?_
      refine v_iconst X (v := nI 2) (by decide) dL_resolve_21 ?_
      exact v_iret X rl.1 ⟨by decide, by decide⟩ rfl dL_resolve_22 ⟨_, rfl, Or.inr (Or.inr ⟨rfl, hx⟩)⟩
def PS_sum (k : KX) (cs ds : List Nat) (mem : List SD) (sl : Nat → Option SD) (tx : List Nat) (x y : Int32) (M : Mem) : Int32 → Mem → Prop := fun r M' => (∃ i j, i < cs.length ∧ j < cs.length ∧ x = nI i ∧ y = nI j ∧ smOK cs i j ∧ r = nI cs.length ∧ SolAt k M' (cs ++ [xParity (xFirst (cAt cs i) ^^^ xFirst (cAt cs j)) (xSecond (cAt cs i) ^^^ xSecond (cAt cs j))]) (sNew (cs ++ [xParity (xFirst (cAt cs i) ^^^ xFirst (cAt cs j)) (xSecond (cAt cs i) ^^^ xSecond (cAt cs j))]) ds) (remF mem (cs, ds)) sl tx) ∧ Fr 0 93 M M'
def PX_sum (k : KX) (cs ds : List Nat) (mem : List SD) (sl : Nat → Option SD) (tx : List Nat) (x y : Int32) (M : Mem) : String → Mem → Prop := fun E M' => ((E = xIOB ∧ ¬ (inL x cs.length = true ∧ inL y cs.length = true)) ∨ (E = xISE ∧ ∃ i j, i < cs.length ∧ j < cs.length ∧ x = nI i ∧ y = nI j ∧ ¬ smOK cs i j)) ∧ SolAt k M' cs ds mem sl tx ∧ Fr 0 93 M M'
set_option maxHeartbeats 4000000 in
set_option maxRecDepth 100000 in
theorem c_L_sum (l : Launch) (hst0 : l.stackTraces = false) (M : Mem) (g : Nat → Int64) (k : KX) (cs ds : List Nat) (mem : List SD) (sl : Nat → Option SD) (tx : List Nat) (x y : Int32) (hN : 107 ≤ kN k) (hSol : SolAt k M cs ds mem sl tx) (F106 : M 106 = .inl (kJ k, 1, .inr (.inl g))) : CL l yL_sum cL_sum 5 [(0, 10, 13, 25), (0, 10, 17, 15)] { frames := 8, cells := 4, slots := 24, locals := 182 } k [.ref (ad k 0), .int x, .int y, .ref (ad k 106)] M (pI (WP2 k (PS_sum k cs ds mem sl tx x y M) (PX_sum k cs ds mem sl tx x y M) xIOB xISE)) := by
  refine CL.of (by decide) (Nat.le_of_ble_eq_true rfl) (fun C X hCl hCR rl => ?_)
  show V C k 5 (0, 0) M 0 [(0, .ref (ad k 0)), (1, .int x), (2, .int y), (3, .ref (ad k 106))] []
  refine v_aload_n X 3 dL_sum_0 rfl ?_
  refine v_iconst X (v := nI 0) (by decide) dL_sum_1 ?_
  refine v_aload_n X 0 dL_sum_2 rfl ?_
  refine v_iload_n X 1 dL_sum_3 rfl ?_
  refine v_iload_n X 2 dL_sum_4 rfl ?_
  refine vx_callV' X rl.2.1 hCl hCR (c_X7_sum l hst0 k M cs ds mem sl tx x y hSol) cls7 hSol.obj (by omega) mo_X7_sum m_354 m_671 m_672 m_673 m_21 (by decide) rfl rfl (Nat.le_of_ble_eq_true rfl) ⟨by decide, by decide⟩ dL_sum_5 (vI_in (fun r M1 hp => ?_)) (fun E M1 hx => ?_)
  · have hfr : Fr 0 93 M M1 := hp.2
    have F1 : M1 106 = .inl (kJ k, 1, .inr (.inl g)) := by rw [hfr 106 (Or.inr (by omega))]; exact F106
    refine v_i2l X (v := (r).toInt64) rfl dL_sum_8 ?_
    refine v_last X (j := 0) F1 (by omega) (by decide) (by decide) dL_sum_9 (fun M_2 hM_1 => ?_)
    refine v_goto X 21 dL_sum_10 (by decide) ?_
    refine v_iconst X (v := nI 0) (by decide) dL_sum_21 ?_
    exact v_iret X rl.1 ⟨by decide, by decide⟩ rfl dL_sum_22 ⟨_, rfl, Or.inl ⟨rfl, _, _, _, hp, hM_1, (updL0 _ _)⟩⟩
  · rcases hx.1 with ⟨hE, _⟩ | ⟨hE, _⟩
    · subst hE
      refine v_catch1 X rl.2.2.2 (by decide) (by decide) m_642 rl.2.1.iob (fun q => ?_)
      refine v_astore X [(4, .ref q), (0, .ref (ad k 0)), (1, .int x), (2, .int y), (3, .ref (ad k 106))] dL_sum_13 (by decide) rfl ?_
      refine v_iconst X (v := nI 1) (by decide) dL_sum_15 ?_
      exact v_iret X rl.1 ⟨by decide, by decide⟩ rfl dL_sum_16 ⟨_, rfl, Or.inr (Or.inl ⟨rfl, hx⟩)⟩
    · subst hE
      refine v_catch2 X rl.2.2.2 (by decide) (by decide) (by decide) m_642 m_634 rl.2.2.1.2 rl.2.1.ise (fun q => ?_)
      refine v_astore X [(4, .ref q), (0, .ref (ad k 0)), (1, .int x), (2, .int y), (3, .ref (ad k 106))] dL_sum_17 (by decide) rfl ?_
      refine v_iconst X (v := nI 2) (by decide) dL_sum_19 ?_
      exact v_iret X rl.1 ⟨by decide, by decide⟩ rfl dL_sum_20 ⟨_, rfl, Or.inr (Or.inr ⟨rfl, hx⟩)⟩
def PS_decide (k : KX) (cs ds : List Nat) (mem : List SD) (sl : Nat → Option SD) (tx : List Nat) (x : Int32) (M : Mem) : Int32 → Mem → Prop := fun r M' => (∃ d, d < 16 ∧ x = nI d ∧ (build cs ds).2 = none ∧ (tA (build cs ds).1).testBit (d / 2) = false ∧ r = nI (build cs (ds ++ [d])).1.length ∧ SolAt k M' cs (sNew cs (ds ++ [d])) (remF mem (cs, ds)) sl tx) ∧ Fr 0 93 M M'
def PX_decide (k : KX) (cs ds : List Nat) (mem : List SD) (sl : Nat → Option SD) (tx : List Nat) (x : Int32) (M : Mem) : String → Mem → Prop := fun E M' => ((E = xIOB ∧ inL x 16 = false) ∨ (E = xISE ∧ ∃ d, d < 16 ∧ x = nI d ∧ ((build cs ds).2 ≠ none ∨ (tA (build cs ds).1).testBit (d / 2) = true))) ∧ SolAt k M' cs ds mem sl tx ∧ Fr 0 93 M M'
set_option maxHeartbeats 4000000 in
set_option maxRecDepth 100000 in
theorem c_L_decide (l : Launch) (hst0 : l.stackTraces = false) (M : Mem) (g : Nat → Int64) (k : KX) (cs ds : List Nat) (mem : List SD) (sl : Nat → Option SD) (tx : List Nat) (x : Int32) (hN : 107 ≤ kN k) (hSol : SolAt k M cs ds mem sl tx) (F106 : M 106 = .inl (kJ k, 1, .inr (.inl g))) : CL l yL_decide cL_decide 4 [(0, 9, 12, 25), (0, 9, 15, 15)] { frames := 7, cells := 1, slots := 6, locals := 156 } k [.ref (ad k 0), .int x, .ref (ad k 106)] M (pI (WP2 k (PS_decide k cs ds mem sl tx x M) (PX_decide k cs ds mem sl tx x M) xIOB xISE)) := by
  refine CL.of (by decide) (Nat.le_of_ble_eq_true rfl) (fun C X hCl hCR rl => ?_)
  show V C k 4 (0, 0) M 0 [(0, .ref (ad k 0)), (1, .int x), (2, .ref (ad k 106))] []
  refine v_aload_n X 2 dL_decide_0 rfl ?_
  refine v_iconst X (v := nI 0) (by decide) dL_decide_1 ?_
  refine v_aload_n X 0 dL_decide_2 rfl ?_
  refine v_iload_n X 1 dL_decide_3 rfl ?_
  refine vx_callV' X rl.2.1 hCl hCR (c_X7_decide l hst0 k M cs ds mem sl tx x hSol) cls7 hSol.obj (by omega) mo_X7_decide m_360 m_675 m_676 m_677 m_21 (by decide) rfl rfl (Nat.le_of_ble_eq_true rfl) ⟨by decide, by decide⟩ dL_decide_4 (vI_in (fun r M1 hp => ?_)) (fun E M1 hx => ?_)
  · have hfr : Fr 0 93 M M1 := hp.2
    have F1 : M1 106 = .inl (kJ k, 1, .inr (.inl g)) := by rw [hfr 106 (Or.inr (by omega))]; exact F106
    refine v_i2l X (v := (r).toInt64) rfl dL_decide_7 ?_
    refine v_last X (j := 0) F1 (by omega) (by decide) (by decide) dL_decide_8 (fun M_2 hM_1 => ?_)
    refine v_goto X 18 dL_decide_9 (by decide) ?_
    refine v_iconst X (v := nI 0) (by decide) dL_decide_18 ?_
    exact v_iret X rl.1 ⟨by decide, by decide⟩ rfl dL_decide_19 ⟨_, rfl, Or.inl ⟨rfl, _, _, _, hp, hM_1, (updL0 _ _)⟩⟩
  · rcases hx.1 with ⟨hE, _⟩ | ⟨hE, _⟩
    · subst hE
      refine v_catch1 X rl.2.2.2 (by decide) (by decide) m_642 rl.2.1.iob (fun q => ?_)
      refine v_astore_n X [(3, .ref q), (0, .ref (ad k 0)), (1, .int x), (2, .ref (ad k 106))] dL_decide_12 (by decide) rfl ?_
      refine v_iconst X (v := nI 1) (by decide) dL_decide_13 ?_
      exact v_iret X rl.1 ⟨by decide, by decide⟩ rfl dL_decide_14 ⟨_, rfl, Or.inr (Or.inl ⟨rfl, hx⟩)⟩
    · subst hE
      refine v_catch2 X rl.2.2.2 (by decide) (by decide) (by decide) m_642 m_634 rl.2.2.1.2 rl.2.1.ise (fun q => ?_)
      refine v_astore_n X [(3, .ref q), (0, .ref (ad k 0)), (1, .int x), (2, .ref (ad k 106))] dL_decide_15 (by decide) rfl ?_
      refine v_iconst X (v := nI 2) (by decide) dL_decide_16 ?_
      exact v_iret X rl.1 ⟨by decide, by decide⟩ rfl dL_decide_17 ⟨_, rfl, Or.inr (Or.inr ⟨rfl, hx⟩)⟩
def PS_backtrack (k : KX) (cs ds : List Nat) (mem : List SD) (sl : Nat → Option SD) (tx : List Nat) (x : Int32) (M : Mem) : Int32 → Mem → Prop := fun r M' => (∃ n, n ≤ ds.length ∧ x = nI n ∧ r = nI (build cs (ds.take n)).1.length ∧ SolAt k M' cs (sNew cs (ds.take n)) (remF mem (cs, ds)) sl tx) ∧ Fr 0 93 M M'
def PX_backtrack (k : KX) (cs ds : List Nat) (mem : List SD) (sl : Nat → Option SD) (tx : List Nat) (x : Int32) (M : Mem) : String → Mem → Prop := fun E M' => (E = xIAE ∧ inR x ds.length = false) ∧ SolAt k M' cs ds mem sl tx ∧ Fr 0 93 M M'
set_option maxHeartbeats 4000000 in
set_option maxRecDepth 100000 in
theorem c_L_backtrack (l : Launch) (hst0 : l.stackTraces = false) (M : Mem) (g : Nat → Int64) (k : KX) (cs ds : List Nat) (mem : List SD) (sl : Nat → Option SD) (tx : List Nat) (x : Int32) (hN : 107 ≤ kN k) (hSol : SolAt k M cs ds mem sl tx) (F106 : M 106 = .inl (kJ k, 1, .inr (.inl g))) : CL l yL_backtrack cL_backtrack 4 [(0, 9, 12, 13)] { frames := 7, cells := 1, slots := 6, locals := 156 } k [.ref (ad k 0), .int x, .ref (ad k 106)] M (pI (WP1 k (PS_backtrack k cs ds mem sl tx x M) (PX_backtrack k cs ds mem sl tx x M) xIAE)) := by
  refine CL.of (by decide) (Nat.le_of_ble_eq_true rfl) (fun C X hCl hCR rl => ?_)
  show V C k 4 (0, 0) M 0 [(0, .ref (ad k 0)), (1, .int x), (2, .ref (ad k 106))] []
  refine v_aload_n X 2 dL_backtrack_0 rfl ?_
  refine v_iconst X (v := nI 0) (by decide) dL_backtrack_1 ?_
  refine v_aload_n X 0 dL_backtrack_2 rfl ?_
  refine v_iload_n X 1 dL_backtrack_3 rfl ?_
  refine vx_callV' X rl.2.1 hCl hCR (c_X7_backtrack l hst0 k M cs ds mem sl tx x hSol) cls7 hSol.obj (by omega) mo_X7_backtrack m_361 m_679 m_680 m_681 m_21 (by decide) rfl rfl (Nat.le_of_ble_eq_true rfl) ⟨by decide, by decide⟩ dL_backtrack_4 (vI_in (fun r M1 hp => ?_)) (fun E M1 hx => ?_)
  · have hfr : Fr 0 93 M M1 := hp.2
    have F1 : M1 106 = .inl (kJ k, 1, .inr (.inl g)) := by rw [hfr 106 (Or.inr (by omega))]; exact F106
    refine v_i2l X (v := (r).toInt64) rfl dL_backtrack_7 ?_
    refine v_last X (j := 0) F1 (by omega) (by decide) (by decide) dL_backtrack_8 (fun M_2 hM_1 => ?_)
    refine v_goto X 15 dL_backtrack_9 (by decide) ?_
    refine v_iconst X (v := nI 0) (by decide) dL_backtrack_15 ?_
    exact v_iret X rl.1 ⟨by decide, by decide⟩ rfl dL_backtrack_16 ⟨_, rfl, Or.inl ⟨rfl, _, _, _, hp, hM_1, (updL0 _ _)⟩⟩
  · have hE := hx.1.1
    subst hE
    refine v_catch1 X rl.2.2.2 (by decide) (by decide) m_633 rl.2.1.iae (fun q => ?_)
    refine v_astore_n X [(3, .ref q), (0, .ref (ad k 0)), (1, .int x), (2, .ref (ad k 106))] dL_backtrack_12 (by decide) rfl ?_
    refine v_iconst X (v := nI 1) (by decide) dL_backtrack_13 ?_
    exact v_iret X rl.1 ⟨by decide, by decide⟩ rfl dL_backtrack_14 ⟨_, rfl, Or.inr ⟨rfl, hx⟩⟩
def PS_learn (k : KX) (cs ds : List Nat) (mem : List SD) (sl : Nat → Option SD) (tx : List Nat) (M : Mem) : Int32 → Mem → Prop := fun r M' => (∃ q, (build cs ds).2 = some q ∧ ds.length ≠ 0 ∧ cs.length < 24 ∧ r = nI (bjLev (build cs ds).1 (lrnVars cs (build cs ds).1 q)) ∧ SolAt k M' ((cs ++ [falseCl (build cs ds).1 (lrnVars cs (build cs ds).1 q)])) (sNew (cs ++ [falseCl (build cs ds).1 (lrnVars cs (build cs ds).1 q)]) (ds.take (bjLev (build cs ds).1 (lrnVars cs (build cs ds).1 q)))) (remF mem (cs, ds)) sl tx) ∧ Fr 0 93 M M'
def PX_learn (k : KX) (cs ds : List Nat) (mem : List SD) (sl : Nat → Option SD) (tx : List Nat) (M : Mem) : String → Mem → Prop := fun E M' => (E = xISE ∧ ((build cs ds).2 = none ∨ ds.length = 0 ∨ 24 ≤ cs.length)) ∧ SolAt k M' cs ds mem sl tx ∧ Fr 0 93 M M'
set_option maxHeartbeats 4000000 in
set_option maxRecDepth 100000 in
theorem c_L_learn (l : Launch) (hst0 : l.stackTraces = false) (M : Mem) (g : Nat → Int64) (k : KX) (cs ds : List Nat) (mem : List SD) (sl : Nat → Option SD) (tx : List Nat) (hN : 107 ≤ kN k) (hSol : SolAt k M cs ds mem sl tx) (F106 : M 106 = .inl (kJ k, 1, .inr (.inl g))) : CL l yL_learn cL_learn 3 [(0, 8, 11, 15)] { frames := 8, cells := 2, slots := 12, locals := 156 } k [.ref (ad k 0), .ref (ad k 106)] M (pI (WP1 k (PS_learn k cs ds mem sl tx M) (PX_learn k cs ds mem sl tx M) xISE)) := by
  refine CL.of (by decide) (Nat.le_of_ble_eq_true rfl) (fun C X hCl hCR rl => ?_)
  show V C k 3 (0, 0) M 0 [(0, .ref (ad k 0)), (1, .ref (ad k 106))] []
  refine v_aload_n X 1 dL_learn_0 rfl ?_
  refine v_iconst X (v := nI 0) (by decide) dL_learn_1 ?_
  refine v_aload_n X 0 dL_learn_2 rfl ?_
  refine vx_callV' X rl.2.1 hCl hCR (c_X7_learn l hst0 k M cs ds mem sl tx  hSol) cls7 hSol.obj (by omega) mo_X7_learn m_378 m_683 m_684 m_685 m_21 (by decide) rfl rfl (Nat.le_of_ble_eq_true rfl) ⟨by decide, by decide⟩ dL_learn_3 (vI_in (fun r M1 hp => ?_)) (fun E M1 hx => ?_)
  · have hfr : Fr 0 93 M M1 := hp.2
    have F1 : M1 106 = .inl (kJ k, 1, .inr (.inl g)) := by rw [hfr 106 (Or.inr (by omega))]; exact F106
    refine v_i2l X (v := (r).toInt64) rfl dL_learn_6 ?_
    refine v_last X (j := 0) F1 (by omega) (by decide) (by decide) dL_learn_7 (fun M_2 hM_1 => ?_)
    refine v_goto X 14 dL_learn_8 (by decide) ?_
    refine v_iconst X (v := nI 0) (by decide) dL_learn_14 ?_
    exact v_iret X rl.1 ⟨by decide, by decide⟩ rfl dL_learn_15 ⟨_, rfl, Or.inl ⟨rfl, _, _, _, hp, hM_1, (updL0 _ _)⟩⟩
  · have hE := hx.1.1
    subst hE
    refine v_catch1 X rl.2.2.2 (by decide) (by decide) m_634 rl.2.1.ise (fun q => ?_)
    refine v_astore_n X [(2, .ref q), (0, .ref (ad k 0)), (1, .ref (ad k 106))] dL_learn_11 (by decide) rfl ?_
    refine v_iconst X (v := nI 1) (by decide) dL_learn_12 ?_
    exact v_iret X rl.1 ⟨by decide, by decide⟩ rfl dL_learn_13 ⟨_, rfl, Or.inr ⟨rfl, hx⟩⟩
def PS_undo (k : KX) (cs ds : List Nat) (mem : List SD) (sl : Nat → Option SD) (tx : List Nat) (M : Mem) : Int32 → Mem → Prop := fun r M' => (∃ (ini : List SD) (sd : SD), mem = ini ++ [sd] ∧ r = nI ini.length ∧ SolAt k M' sd.1 (sNew sd.1 sd.2) ini sl tx) ∧ Fr 0 93 M M'
def PX_undo (k : KX) (cs ds : List Nat) (mem : List SD) (sl : Nat → Option SD) (tx : List Nat) (M : Mem) : String → Mem → Prop := fun E M' => (E = xISE ∧ mem = []) ∧ SolAt k M' cs ds mem sl tx ∧ Fr 0 93 M M'
set_option maxHeartbeats 4000000 in
set_option maxRecDepth 100000 in
theorem c_L_undo (l : Launch) (hst0 : l.stackTraces = false) (M : Mem) (g : Nat → Int64) (k : KX) (cs ds : List Nat) (mem : List SD) (sl : Nat → Option SD) (tx : List Nat) (hN : 107 ≤ kN k) (hSol : SolAt k M cs ds mem sl tx) (F106 : M 106 = .inl (kJ k, 1, .inr (.inl g))) : CL l yL_undo cL_undo 3 [(0, 8, 11, 15)] { frames := 7, cells := 1, slots := 6, locals := 155 } k [.ref (ad k 0), .ref (ad k 106)] M (pI (WP1 k (PS_undo k cs ds mem sl tx M) (PX_undo k cs ds mem sl tx M) xISE)) := by
  refine CL.of (by decide) (Nat.le_of_ble_eq_true rfl) (fun C X hCl hCR rl => ?_)
  show V C k 3 (0, 0) M 0 [(0, .ref (ad k 0)), (1, .ref (ad k 106))] []
  refine v_aload_n X 1 dL_undo_0 rfl ?_
  refine v_iconst X (v := nI 0) (by decide) dL_undo_1 ?_
  refine v_aload_n X 0 dL_undo_2 rfl ?_
  refine vx_callV' X rl.2.1 hCl hCR (c_X7_undo l hst0 k M cs ds mem sl tx  hSol) cls7 hSol.obj (by omega) mo_X7_undo m_382 m_687 m_688 m_689 m_21 (by decide) rfl rfl (Nat.le_of_ble_eq_true rfl) ⟨by decide, by decide⟩ dL_undo_3 (vI_in (fun r M1 hp => ?_)) (fun E M1 hx => ?_)
  · have hfr : Fr 0 93 M M1 := hp.2
    have F1 : M1 106 = .inl (kJ k, 1, .inr (.inl g)) := by rw [hfr 106 (Or.inr (by omega))]; exact F106
    refine v_i2l X (v := (r).toInt64) rfl dL_undo_6 ?_
    refine v_last X (j := 0) F1 (by omega) (by decide) (by decide) dL_undo_7 (fun M_2 hM_1 => ?_)
    refine v_goto X 14 dL_undo_8 (by decide) ?_
    refine v_iconst X (v := nI 0) (by decide) dL_undo_14 ?_
    exact v_iret X rl.1 ⟨by decide, by decide⟩ rfl dL_undo_15 ⟨_, rfl, Or.inl ⟨rfl, _, _, _, hp, hM_1, (updL0 _ _)⟩⟩
  · have hE := hx.1.1
    subst hE
    refine v_catch1 X rl.2.2.2 (by decide) (by decide) m_634 rl.2.1.ise (fun q => ?_)
    refine v_astore_n X [(2, .ref q), (0, .ref (ad k 0)), (1, .ref (ad k 106))] dL_undo_11 (by decide) rfl ?_
    refine v_iconst X (v := nI 1) (by decide) dL_undo_12 ?_
    exact v_iret X rl.1 ⟨by decide, by decide⟩ rfl dL_undo_13 ⟨_, rfl, Or.inr ⟨rfl, hx⟩⟩
def PS_value (k : KX) (cs ds : List Nat) (mem : List SD) (sl : Nat → Option SD) (tx : List Nat) (x : Int32) (M : Mem) : Int32 → Mem → Prop := fun r M' => ((∃ v, v < 8 ∧ x = nI v ∧ r = nI (if (tA (build cs ds).1).testBit v then (if (tT (build cs ds).1).testBit v then 1 else 0) else 2))) ∧ SolAt k M' cs ds mem sl tx ∧ Fr 0 93 M M'
def PX_value (k : KX) (cs ds : List Nat) (mem : List SD) (sl : Nat → Option SD) (tx : List Nat) (x : Int32) (M : Mem) : String → Mem → Prop := fun E M' => (E = xIOB ∧ inL x 8 = false) ∧ SolAt k M' cs ds mem sl tx ∧ Fr 0 93 M M'
set_option maxHeartbeats 4000000 in
set_option maxRecDepth 100000 in
theorem c_L_value (l : Launch) (hst0 : l.stackTraces = false) (M : Mem) (g : Nat → Int64) (k : KX) (cs ds : List Nat) (mem : List SD) (sl : Nat → Option SD) (tx : List Nat) (x : Int32) (hN : 107 ≤ kN k) (hSol : SolAt k M cs ds mem sl tx) (F106 : M 106 = .inl (kJ k, 1, .inr (.inl g))) : CL l yL_value cL_value 4 [(0, 9, 12, 25)] { frames := 8, cells := 1, slots := 6, locals := 131 } k [.ref (ad k 0), .int x, .ref (ad k 106)] M (pI (WP1 k (PS_value k cs ds mem sl tx x M) (PX_value k cs ds mem sl tx x M) xIOB)) := by
  refine CL.of (by decide) (Nat.le_of_ble_eq_true rfl) (fun C X hCl hCR rl => ?_)
  show V C k 4 (0, 0) M 0 [(0, .ref (ad k 0)), (1, .int x), (2, .ref (ad k 106))] []
  refine v_aload_n X 2 dL_value_0 rfl ?_
  refine v_iconst X (v := nI 0) (by decide) dL_value_1 ?_
  refine v_aload_n X 0 dL_value_2 rfl ?_
  refine v_iload_n X 1 dL_value_3 rfl ?_
  refine vx_callV' X rl.2.1 hCl hCR (c_X7_value l hst0 k M cs ds mem sl tx x hSol) cls7 hSol.obj (by omega) mo_X7_value m_384 m_691 m_692 m_693 m_21 (by decide) rfl rfl (Nat.le_of_ble_eq_true rfl) ⟨by decide, by decide⟩ dL_value_4 (vI_in (fun r M1 hp => ?_)) (fun E M1 hx => ?_)
  · have hfr : Fr 0 93 M M1 := hp.2.2
    have F1 : M1 106 = .inl (kJ k, 1, .inr (.inl g)) := by rw [hfr 106 (Or.inr (by omega))]; exact F106
    refine v_i2l X (v := (r).toInt64) rfl dL_value_7 ?_
    refine v_last X (j := 0) F1 (by omega) (by decide) (by decide) dL_value_8 (fun M_2 hM_1 => ?_)
    refine v_goto X 15 dL_value_9 (by decide) ?_
    refine v_iconst X (v := nI 0) (by decide) dL_value_15 ?_
    exact v_iret X rl.1 ⟨by decide, by decide⟩ rfl dL_value_16 ⟨_, rfl, Or.inl ⟨rfl, _, _, _, hp, hM_1, (updL0 _ _)⟩⟩
  · have hE := hx.1.1
    subst hE
    refine v_catch1 X rl.2.2.2 (by decide) (by decide) m_642 rl.2.1.iob (fun q => ?_)
    refine v_astore_n X [(3, .ref q), (0, .ref (ad k 0)), (1, .int x), (2, .ref (ad k 106))] dL_value_12 (by decide) rfl ?_
    refine v_iconst X (v := nI 1) (by decide) dL_value_13 ?_
    exact v_iret X rl.1 ⟨by decide, by decide⟩ rfl dL_value_14 ⟨_, rfl, Or.inr ⟨rfl, hx⟩⟩
def PS_trailLiteral (k : KX) (cs ds : List Nat) (mem : List SD) (sl : Nat → Option SD) (tx : List Nat) (x : Int32) (M : Mem) : Int32 → Mem → Prop := fun r M' => ((∃ j, j < (build cs ds).1.length ∧ x = nI j ∧ r = nI (2 * tOrd (build cs ds).1 j + (if (tT (build cs ds).1).testBit (tOrd (build cs ds).1 j) then 0 else 1)))) ∧ SolAt k M' cs ds mem sl tx ∧ Fr 0 93 M M'
def PX_trailLiteral (k : KX) (cs ds : List Nat) (mem : List SD) (sl : Nat → Option SD) (tx : List Nat) (x : Int32) (M : Mem) : String → Mem → Prop := fun E M' => (E = xIOB ∧ inL x (build cs ds).1.length = false) ∧ SolAt k M' cs ds mem sl tx ∧ Fr 0 93 M M'
set_option maxHeartbeats 4000000 in
set_option maxRecDepth 100000 in
theorem c_L_trailLiteral (l : Launch) (hst0 : l.stackTraces = false) (M : Mem) (g : Nat → Int64) (k : KX) (cs ds : List Nat) (mem : List SD) (sl : Nat → Option SD) (tx : List Nat) (x : Int32) (hN : 107 ≤ kN k) (hSol : SolAt k M cs ds mem sl tx) (F106 : M 106 = .inl (kJ k, 1, .inr (.inl g))) : CL l yL_trailLiteral cL_trailLiteral 4 [(0, 9, 12, 25)] { frames := 7, cells := 1, slots := 6, locals := 111 } k [.ref (ad k 0), .int x, .ref (ad k 106)] M (pI (WP1 k (PS_trailLiteral k cs ds mem sl tx x M) (PX_trailLiteral k cs ds mem sl tx x M) xIOB)) := by
  refine CL.of (by decide) (Nat.le_of_ble_eq_true rfl) (fun C X hCl hCR rl => ?_)
  show V C k 4 (0, 0) M 0 [(0, .ref (ad k 0)), (1, .int x), (2, .ref (ad k 106))] []
  refine v_aload_n X 2 dL_trailLiteral_0 rfl ?_
  refine v_iconst X (v := nI 0) (by decide) dL_trailLiteral_1 ?_
  refine v_aload_n X 0 dL_trailLiteral_2 rfl ?_
  refine v_iload_n X 1 dL_trailLiteral_3 rfl ?_
  refine vx_callV' X rl.2.1 hCl hCR (c_X7_trailLiteral l hst0 k M cs ds mem sl tx x hSol) cls7 hSol.obj (by omega) mo_X7_trailLiteral m_386 m_695 m_696 m_697 m_21 (by decide) rfl rfl (Nat.le_of_ble_eq_true rfl) ⟨by decide, by decide⟩ dL_trailLiteral_4 (vI_in (fun r M1 hp => ?_)) (fun E M1 hx => ?_)
  · have hfr : Fr 0 93 M M1 := hp.2.2
    have F1 : M1 106 = .inl (kJ k, 1, .inr (.inl g)) := by rw [hfr 106 (Or.inr (by omega))]; exact F106
    refine v_i2l X (v := (r).toInt64) rfl dL_trailLiteral_7 ?_
    refine v_last X (j := 0) F1 (by omega) (by decide) (by decide) dL_trailLiteral_8 (fun M_2 hM_1 => ?_)
    refine v_goto X 15 dL_trailLiteral_9 (by decide) ?_
    refine v_iconst X (v := nI 0) (by decide) dL_trailLiteral_15 ?_
    exact v_iret X rl.1 ⟨by decide, by decide⟩ rfl dL_trailLiteral_16 ⟨_, rfl, Or.inl ⟨rfl, _, _, _, hp, hM_1, (updL0 _ _)⟩⟩
  · have hE := hx.1.1
    subst hE
    refine v_catch1 X rl.2.2.2 (by decide) (by decide) m_642 rl.2.1.iob (fun q => ?_)
    refine v_astore_n X [(3, .ref q), (0, .ref (ad k 0)), (1, .int x), (2, .ref (ad k 106))] dL_trailLiteral_12 (by decide) rfl ?_
    refine v_iconst X (v := nI 1) (by decide) dL_trailLiteral_13 ?_
    exact v_iret X rl.1 ⟨by decide, by decide⟩ rfl dL_trailLiteral_14 ⟨_, rfl, Or.inr ⟨rfl, hx⟩⟩
def PS_reason (k : KX) (cs ds : List Nat) (mem : List SD) (sl : Nat → Option SD) (tx : List Nat) (x : Int32) (M : Mem) : Int32 → Mem → Prop := fun r M' => ((∃ v, v < 8 ∧ x = nI v ∧ r = oI (tRsn (build cs ds).1 v))) ∧ SolAt k M' cs ds mem sl tx ∧ Fr 0 93 M M'
def PX_reason (k : KX) (cs ds : List Nat) (mem : List SD) (sl : Nat → Option SD) (tx : List Nat) (x : Int32) (M : Mem) : String → Mem → Prop := fun E M' => (E = xIOB ∧ inL x 8 = false) ∧ SolAt k M' cs ds mem sl tx ∧ Fr 0 93 M M'
set_option maxHeartbeats 4000000 in
set_option maxRecDepth 100000 in
theorem c_L_reason (l : Launch) (hst0 : l.stackTraces = false) (M : Mem) (g : Nat → Int64) (k : KX) (cs ds : List Nat) (mem : List SD) (sl : Nat → Option SD) (tx : List Nat) (x : Int32) (hN : 107 ≤ kN k) (hSol : SolAt k M cs ds mem sl tx) (F106 : M 106 = .inl (kJ k, 1, .inr (.inl g))) : CL l yL_reason cL_reason 4 [(0, 9, 12, 25)] { frames := 8, cells := 1, slots := 6, locals := 131 } k [.ref (ad k 0), .int x, .ref (ad k 106)] M (pI (WP1 k (PS_reason k cs ds mem sl tx x M) (PX_reason k cs ds mem sl tx x M) xIOB)) := by
  refine CL.of (by decide) (Nat.le_of_ble_eq_true rfl) (fun C X hCl hCR rl => ?_)
  show V C k 4 (0, 0) M 0 [(0, .ref (ad k 0)), (1, .int x), (2, .ref (ad k 106))] []
  refine v_aload_n X 2 dL_reason_0 rfl ?_
  refine v_iconst X (v := nI 0) (by decide) dL_reason_1 ?_
  refine v_aload_n X 0 dL_reason_2 rfl ?_
  refine v_iload_n X 1 dL_reason_3 rfl ?_
  refine vx_callV' X rl.2.1 hCl hCR (c_X7_reason l hst0 k M cs ds mem sl tx x hSol) cls7 hSol.obj (by omega) mo_X7_reason m_390 m_699 m_700 m_701 m_21 (by decide) rfl rfl (Nat.le_of_ble_eq_true rfl) ⟨by decide, by decide⟩ dL_reason_4 (vI_in (fun r M1 hp => ?_)) (fun E M1 hx => ?_)
  · have hfr : Fr 0 93 M M1 := hp.2.2
    have F1 : M1 106 = .inl (kJ k, 1, .inr (.inl g)) := by rw [hfr 106 (Or.inr (by omega))]; exact F106
    refine v_i2l X (v := (r).toInt64) rfl dL_reason_7 ?_
    refine v_last X (j := 0) F1 (by omega) (by decide) (by decide) dL_reason_8 (fun M_2 hM_1 => ?_)
    refine v_goto X 15 dL_reason_9 (by decide) ?_
    refine v_iconst X (v := nI 0) (by decide) dL_reason_15 ?_
    exact v_iret X rl.1 ⟨by decide, by decide⟩ rfl dL_reason_16 ⟨_, rfl, Or.inl ⟨rfl, _, _, _, hp, hM_1, (updL0 _ _)⟩⟩
  · have hE := hx.1.1
    subst hE
    refine v_catch1 X rl.2.2.2 (by decide) (by decide) m_642 rl.2.1.iob (fun q => ?_)
    refine v_astore_n X [(3, .ref q), (0, .ref (ad k 0)), (1, .int x), (2, .ref (ad k 106))] dL_reason_12 (by decide) rfl ?_
    refine v_iconst X (v := nI 1) (by decide) dL_reason_13 ?_
    exact v_iret X rl.1 ⟨by decide, by decide⟩ rfl dL_reason_14 ⟨_, rfl, Or.inr ⟨rfl, hx⟩⟩
def PS_learnedClause (k : KX) (cs ds : List Nat) (mem : List SD) (sl : Nat → Option SD) (tx : List Nat) (M : Mem) : Int32 → Mem → Prop := fun r M' => ((∃ q, (build cs ds).2 = some q ∧ ds.length ≠ 0 ∧ r = nI (falseCl (build cs ds).1 (lrnVars cs (build cs ds).1 q)))) ∧ SolAt k M' cs ds mem sl tx ∧ Fr 0 93 M M'
def PX_learnedClause (k : KX) (cs ds : List Nat) (mem : List SD) (sl : Nat → Option SD) (tx : List Nat) (M : Mem) : String → Mem → Prop := fun E M' => (E = xISE ∧ ((build cs ds).2 = none ∨ ds.length = 0)) ∧ SolAt k M' cs ds mem sl tx ∧ Fr 0 93 M M'
set_option maxHeartbeats 4000000 in
set_option maxRecDepth 100000 in
theorem c_L_learnedClause (l : Launch) (hst0 : l.stackTraces = false) (M : Mem) (g : Nat → Int64) (k : KX) (cs ds : List Nat) (mem : List SD) (sl : Nat → Option SD) (tx : List Nat) (hN : 107 ≤ kN k) (hSol : SolAt k M cs ds mem sl tx) (F106 : M 106 = .inl (kJ k, 1, .inr (.inl g))) : CL l yL_learnedClause cL_learnedClause 3 [(0, 8, 11, 15)] { frames := 8, cells := 1, slots := 6, locals := 130 } k [.ref (ad k 0), .ref (ad k 106)] M (pI (WP1 k (PS_learnedClause k cs ds mem sl tx M) (PX_learnedClause k cs ds mem sl tx M) xISE)) := by
  refine CL.of (by decide) (Nat.le_of_ble_eq_true rfl) (fun C X hCl hCR rl => ?_)
  show V C k 3 (0, 0) M 0 [(0, .ref (ad k 0)), (1, .ref (ad k 106))] []
  refine v_aload_n X 1 dL_learnedClause_0 rfl ?_
  refine v_iconst X (v := nI 0) (by decide) dL_learnedClause_1 ?_
  refine v_aload_n X 0 dL_learnedClause_2 rfl ?_
  refine vx_callV' X rl.2.1 hCl hCR (c_X7_learnedClause l hst0 k M cs ds mem sl tx  hSol) cls7 hSol.obj (by omega) mo_X7_learnedClause m_393 m_703 m_704 m_705 m_21 (by decide) rfl rfl (Nat.le_of_ble_eq_true rfl) ⟨by decide, by decide⟩ dL_learnedClause_3 (vI_in (fun r M1 hp => ?_)) (fun E M1 hx => ?_)
  · have hfr : Fr 0 93 M M1 := hp.2.2
    have F1 : M1 106 = .inl (kJ k, 1, .inr (.inl g)) := by rw [hfr 106 (Or.inr (by omega))]; exact F106
    refine v_i2l X (v := (r).toInt64) rfl dL_learnedClause_6 ?_
    refine v_last X (j := 0) F1 (by omega) (by decide) (by decide) dL_learnedClause_7 (fun M_2 hM_1 => ?_)
    refine v_goto X 14 dL_learnedClause_8 (by decide) ?_
    refine v_iconst X (v := nI 0) (by decide) dL_learnedClause_14 ?_
    exact v_iret X rl.1 ⟨by decide, by decide⟩ rfl dL_learnedClause_15 ⟨_, rfl, Or.inl ⟨rfl, _, _, _, hp, hM_1, (updL0 _ _)⟩⟩
  · have hE := hx.1.1
    subst hE
    refine v_catch1 X rl.2.2.2 (by decide) (by decide) m_634 rl.2.1.ise (fun q => ?_)
    refine v_astore_n X [(2, .ref q), (0, .ref (ad k 0)), (1, .ref (ad k 106))] dL_learnedClause_11 (by decide) rfl ?_
    refine v_iconst X (v := nI 1) (by decide) dL_learnedClause_12 ?_
    exact v_iret X rl.1 ⟨by decide, by decide⟩ rfl dL_learnedClause_13 ⟨_, rfl, Or.inr ⟨rfl, hx⟩⟩
def PS_impliesClause (k : KX) (cs ds : List Nat) (mem : List SD) (sl : Nat → Option SD) (tx : List Nat) (p n : Int32) (M : Mem) : Int32 → Mem → Prop := fun r M' => ((∃ p0 n0, p0 < 256 ∧ n0 < 256 ∧ p = nI p0 ∧ n = nI n0 ∧ p0 &&& n0 = 0 ∧ r = bI (allS cs (xClause p0 n0)))) ∧ SolAt k M' cs ds mem sl tx ∧ Fr 0 93 M M'
def PX_impliesClause (k : KX) (cs ds : List Nat) (mem : List SD) (sl : Nat → Option SD) (tx : List Nat) (p n : Int32) (M : Mem) : String → Mem → Prop := fun E M' => (E = xIAE ∧ ¬ (inR p 255 = true ∧ inR n 255 = true ∧ p &&& n = 0)) ∧ SolAt k M' cs ds mem sl tx ∧ Fr 0 93 M M'
set_option maxHeartbeats 4000000 in
set_option maxRecDepth 100000 in
theorem c_L_impliesClause (l : Launch) (hst0 : l.stackTraces = false) (M : Mem) (g : Nat → Int64) (k : KX) (cs ds : List Nat) (mem : List SD) (sl : Nat → Option SD) (tx : List Nat) (p n : Int32) (hN : 107 ≤ kN k) (hSol : SolAt k M cs ds mem sl tx) (F106 : M 106 = .inl (kJ k, 1, .inr (.inl g))) : CL l yL_impliesClause cL_impliesClause 5 [(0, 17, 20, 13)] { frames := 8, cells := 1, slots := 6, locals := 133 } k [.ref (ad k 0), .int p, .int n, .ref (ad k 106)] M (pI (WP1 k (PS_impliesClause k cs ds mem sl tx p n M) (PX_impliesClause k cs ds mem sl tx p n M) xIAE)) := by
  refine CL.of (by decide) (Nat.le_of_ble_eq_true rfl) (fun C X hCl hCR rl => ?_)
  show V C k 5 (0, 0) M 0 [(0, .ref (ad k 0)), (1, .int p), (2, .int n), (3, .ref (ad k 106))] []
  refine v_aload_n X 3 dL_impliesClause_0 rfl ?_
  refine v_iconst X (v := nI 0) (by decide) dL_impliesClause_1 ?_
  refine v_aload_n X 0 dL_impliesClause_2 rfl ?_
  refine v_iload_n X 1 dL_impliesClause_3 rfl ?_
  refine v_iload_n X 2 dL_impliesClause_4 rfl ?_
  refine vx_callV' X rl.2.1 hCl hCR (c_X7_impliesClause l hst0 k M cs ds mem sl tx p n hSol) cls7 hSol.obj (by omega) mo_X7_impliesClause m_408 m_707 m_708 m_709 m_21 (by decide) rfl rfl (Nat.le_of_ble_eq_true rfl) ⟨by decide, by decide⟩ dL_impliesClause_5 (vI_in (fun r M1 hp => ?_)) (fun E M1 hx => ?_)
  · have hfr : Fr 0 93 M M1 := hp.2.2
    have F1 : M1 106 = .inl (kJ k, 1, .inr (.inl g)) := by rw [hfr 106 (Or.inr (by omega))]; exact F106
    have hb : ∃ b, r = bI b := by
      obtain ⟨⟨p0, n0, _, _, _, _, _, h⟩, _⟩ := hp
      exact ⟨_, h⟩
    refine v_if_eq X 15 dL_impliesClause_8 (by decide) (fun c_1 => ?_) (fun c_1 => ?_)
    · refine v_lconst X (v := 0) (by decide) dL_impliesClause_15 ?_
      refine v_last X (j := 0) F1 (by omega) (by decide) (by decide) dL_impliesClause_16 (fun M_3 hM_2 => ?_)
      refine v_goto X 24 dL_impliesClause_17 (by decide) ?_
      refine v_iconst X (v := nI 0) (by decide) dL_impliesClause_24 ?_
      exact v_iret X rl.1 ⟨by decide, by decide⟩ rfl dL_impliesClause_25 ⟨_, rfl, Or.inl ⟨rfl, _, _, _, hp, hM_2, ((updL0 _ _).trans (z_long c_1).symm)⟩⟩
    · refine v_lconst X (v := 1) (by decide) dL_impliesClause_11 ?_
      refine v_goto X 16 dL_impliesClause_12 (by decide) ?_
      refine v_last X (j := 0) F1 (by omega) (by decide) (by decide) dL_impliesClause_16 (fun M_5 hM_4 => ?_)
      refine v_goto X 24 dL_impliesClause_17 (by decide) ?_
      refine v_iconst X (v := nI 0) (by decide) dL_impliesClause_24 ?_
      exact v_iret X rl.1 ⟨by decide, by decide⟩ rfl dL_impliesClause_25 ⟨_, rfl, Or.inl ⟨rfl, _, _, _, hp, hM_4, ((updL0 _ _).trans (b_long hb c_1).symm)⟩⟩
  · have hE := hx.1.1
    subst hE
    refine v_catch1 X rl.2.2.2 (by decide) (by decide) m_633 rl.2.1.iae (fun q => ?_)
    refine v_astore X [(4, .ref q), (0, .ref (ad k 0)), (1, .int p), (2, .int n), (3, .ref (ad k 106))] dL_impliesClause_20 (by decide) rfl ?_
    refine v_iconst X (v := nI 1) (by decide) dL_impliesClause_22 ?_
    exact v_iret X rl.1 ⟨by decide, by decide⟩ rfl dL_impliesClause_23 ⟨_, rfl, Or.inr ⟨rfl, hx⟩⟩
def PS_impliesParity (k : KX) (cs ds : List Nat) (mem : List SD) (sl : Nat → Option SD) (tx : List Nat) (m b : Int32) (M : Mem) : Int32 → Mem → Prop := fun r M' => ((∃ m0 b0, m0 < 256 ∧ b0 < 2 ∧ m = nI m0 ∧ b = nI b0 ∧ r = bI (allS cs (xParity m0 b0)))) ∧ SolAt k M' cs ds mem sl tx ∧ Fr 0 93 M M'
def PX_impliesParity (k : KX) (cs ds : List Nat) (mem : List SD) (sl : Nat → Option SD) (tx : List Nat) (m b : Int32) (M : Mem) : String → Mem → Prop := fun E M' => (E = xIAE ∧ ¬ (inR m 255 = true ∧ inR b 1 = true)) ∧ SolAt k M' cs ds mem sl tx ∧ Fr 0 93 M M'
set_option maxHeartbeats 4000000 in
set_option maxRecDepth 100000 in
theorem c_L_impliesParity (l : Launch) (hst0 : l.stackTraces = false) (M : Mem) (g : Nat → Int64) (k : KX) (cs ds : List Nat) (mem : List SD) (sl : Nat → Option SD) (tx : List Nat) (m b : Int32) (hN : 107 ≤ kN k) (hSol : SolAt k M cs ds mem sl tx) (F106 : M 106 = .inl (kJ k, 1, .inr (.inl g))) : CL l yL_impliesParity cL_impliesParity 5 [(0, 17, 20, 13)] { frames := 8, cells := 1, slots := 6, locals := 133 } k [.ref (ad k 0), .int m, .int b, .ref (ad k 106)] M (pI (WP1 k (PS_impliesParity k cs ds mem sl tx m b M) (PX_impliesParity k cs ds mem sl tx m b M) xIAE)) := by
  refine CL.of (by decide) (Nat.le_of_ble_eq_true rfl) (fun C X hCl hCR rl => ?_)
  show V C k 5 (0, 0) M 0 [(0, .ref (ad k 0)), (1, .int m), (2, .int b), (3, .ref (ad k 106))] []
  refine v_aload_n X 3 dL_impliesParity_0 rfl ?_
  refine v_iconst X (v := nI 0) (by decide) dL_impliesParity_1 ?_
  refine v_aload_n X 0 dL_impliesParity_2 rfl ?_
  refine v_iload_n X 1 dL_impliesParity_3 rfl ?_
  refine v_iload_n X 2 dL_impliesParity_4 rfl ?_
  refine vx_callV' X rl.2.1 hCl hCR (c_X7_impliesParity l hst0 k M cs ds mem sl tx m b hSol) cls7 hSol.obj (by omega) mo_X7_impliesParity m_409 m_711 m_712 m_713 m_21 (by decide) rfl rfl (Nat.le_of_ble_eq_true rfl) ⟨by decide, by decide⟩ dL_impliesParity_5 (vI_in (fun r M1 hp => ?_)) (fun E M1 hx => ?_)
  · have hfr : Fr 0 93 M M1 := hp.2.2
    have F1 : M1 106 = .inl (kJ k, 1, .inr (.inl g)) := by rw [hfr 106 (Or.inr (by omega))]; exact F106
    have hb : ∃ b, r = bI b := by
      obtain ⟨⟨m0, b0, _, _, _, _, h⟩, _⟩ := hp
      exact ⟨_, h⟩
    refine v_if_eq X 15 dL_impliesParity_8 (by decide) (fun c_1 => ?_) (fun c_1 => ?_)
    · refine v_lconst X (v := 0) (by decide) dL_impliesParity_15 ?_
      refine v_last X (j := 0) F1 (by omega) (by decide) (by decide) dL_impliesParity_16 (fun M_3 hM_2 => ?_)
      refine v_goto X 24 dL_impliesParity_17 (by decide) ?_
      refine v_iconst X (v := nI 0) (by decide) dL_impliesParity_24 ?_
      exact v_iret X rl.1 ⟨by decide, by decide⟩ rfl dL_impliesParity_25 ⟨_, rfl, Or.inl ⟨rfl, _, _, _, hp, hM_2, ((updL0 _ _).trans (z_long c_1).symm)⟩⟩
    · refine v_lconst X (v := 1) (by decide) dL_impliesParity_11 ?_
      refine v_goto X 16 dL_impliesParity_12 (by decide) ?_
      refine v_last X (j := 0) F1 (by omega) (by decide) (by decide) dL_impliesParity_16 (fun M_5 hM_4 => ?_)
      refine v_goto X 24 dL_impliesParity_17 (by decide) ?_
      refine v_iconst X (v := nI 0) (by decide) dL_impliesParity_24 ?_
      exact v_iret X rl.1 ⟨by decide, by decide⟩ rfl dL_impliesParity_25 ⟨_, rfl, Or.inl ⟨rfl, _, _, _, hp, hM_4, ((updL0 _ _).trans (b_long hb c_1).symm)⟩⟩
  · have hE := hx.1.1
    subst hE
    refine v_catch1 X rl.2.2.2 (by decide) (by decide) m_633 rl.2.1.iae (fun q => ?_)
    refine v_astore X [(4, .ref q), (0, .ref (ad k 0)), (1, .int m), (2, .int b), (3, .ref (ad k 106))] dL_impliesParity_20 (by decide) rfl ?_
    refine v_iconst X (v := nI 1) (by decide) dL_impliesParity_22 ?_
    exact v_iret X rl.1 ⟨by decide, by decide⟩ rfl dL_impliesParity_23 ⟨_, rfl, Or.inr ⟨rfl, hx⟩⟩
def PS_eliminatedRow (k : KX) (cs ds : List Nat) (mem : List SD) (sl : Nat → Option SD) (tx : List Nat) (x : Int32) (M : Mem) : Int32 → Mem → Prop := fun r M' => ((elRun cs).2.2 = true ∧ r = oI (rowF (elRun cs) x)) ∧ SolAt k M' cs ds mem sl tx ∧ Fr 0 93 M M'
def PX_eliminatedRow (k : KX) (cs ds : List Nat) (mem : List SD) (sl : Nat → Option SD) (tx : List Nat) (x : Int32) (M : Mem) : String → Mem → Prop := fun E M' => (E = xISE ∧ (elRun cs).2.2 = false) ∧ SolAt k M' cs ds mem sl tx ∧ Fr 0 93 M M'
set_option maxHeartbeats 4000000 in
set_option maxRecDepth 100000 in
theorem c_L_eliminatedRow (l : Launch) (hst0 : l.stackTraces = false) (M : Mem) (g : Nat → Int64) (k : KX) (cs ds : List Nat) (mem : List SD) (sl : Nat → Option SD) (tx : List Nat) (x : Int32) (hN : 107 ≤ kN k) (hSol : SolAt k M cs ds mem sl tx) (F106 : M 106 = .inl (kJ k, 1, .inr (.inl g))) : CL l yL_eliminatedRow cL_eliminatedRow 4 [(0, 9, 12, 15)] { frames := 7, cells := 1, slots := 6, locals := 111 } k [.ref (ad k 0), .int x, .ref (ad k 106)] M (pI (WP1 k (PS_eliminatedRow k cs ds mem sl tx x M) (PX_eliminatedRow k cs ds mem sl tx x M) xISE)) := by
  refine CL.of (by decide) (Nat.le_of_ble_eq_true rfl) (fun C X hCl hCR rl => ?_)
  show V C k 4 (0, 0) M 0 [(0, .ref (ad k 0)), (1, .int x), (2, .ref (ad k 106))] []
  refine v_aload_n X 2 dL_eliminatedRow_0 rfl ?_
  refine v_iconst X (v := nI 0) (by decide) dL_eliminatedRow_1 ?_
  refine v_aload_n X 0 dL_eliminatedRow_2 rfl ?_
  refine v_iload_n X 1 dL_eliminatedRow_3 rfl ?_
  refine vx_callV' X rl.2.1 hCl hCR (c_X7_eliminatedRow l hst0 k M cs ds mem sl tx x hSol) cls7 hSol.obj (by omega) mo_X7_eliminatedRow m_422 m_715 m_716 m_717 m_21 (by decide) rfl rfl (Nat.le_of_ble_eq_true rfl) ⟨by decide, by decide⟩ dL_eliminatedRow_4 (vI_in (fun r M1 hp => ?_)) (fun E M1 hx => ?_)
  · have hfr : Fr 0 93 M M1 := hp.2.2
    have F1 : M1 106 = .inl (kJ k, 1, .inr (.inl g)) := by rw [hfr 106 (Or.inr (by omega))]; exact F106
    refine v_i2l X (v := (r).toInt64) rfl dL_eliminatedRow_7 ?_
    refine v_last X (j := 0) F1 (by omega) (by decide) (by decide) dL_eliminatedRow_8 (fun M_2 hM_1 => ?_)
    refine v_goto X 15 dL_eliminatedRow_9 (by decide) ?_
    refine v_iconst X (v := nI 0) (by decide) dL_eliminatedRow_15 ?_
    exact v_iret X rl.1 ⟨by decide, by decide⟩ rfl dL_eliminatedRow_16 ⟨_, rfl, Or.inl ⟨rfl, _, _, _, hp, hM_1, (updL0 _ _)⟩⟩
  · have hE := hx.1.1
    subst hE
    refine v_catch1 X rl.2.2.2 (by decide) (by decide) m_634 rl.2.1.ise (fun q => ?_)
    refine v_astore_n X [(3, .ref q), (0, .ref (ad k 0)), (1, .int x), (2, .ref (ad k 106))] dL_eliminatedRow_12 (by decide) rfl ?_
    refine v_iconst X (v := nI 1) (by decide) dL_eliminatedRow_13 ?_
    exact v_iret X rl.1 ⟨by decide, by decide⟩ rfl dL_eliminatedRow_14 ⟨_, rfl, Or.inr ⟨rfl, hx⟩⟩
def PS_save (k : KX) (cs ds : List Nat) (mem : List SD) (sl : Nat → Option SD) (tx : List Nat) (x : Int32) (M : Mem) : Int32 → Mem → Prop := fun r M' => (∃ j, j < 2 ∧ x = nI j ∧ r = nI cs.length ∧ SolAt k M' cs ds mem (va_up sl j (some (cs, ds))) tx) ∧ Fr 0 93 M M'
def PX_save (k : KX) (cs ds : List Nat) (mem : List SD) (sl : Nat → Option SD) (tx : List Nat) (x : Int32) (M : Mem) : String → Mem → Prop := fun E M' => (E = xIOB ∧ inL x 2 = false) ∧ SolAt k M' cs ds mem sl tx ∧ Fr 0 93 M M'
set_option maxHeartbeats 4000000 in
set_option maxRecDepth 100000 in
theorem c_L_save (l : Launch) (hst0 : l.stackTraces = false) (M : Mem) (g : Nat → Int64) (k : KX) (cs ds : List Nat) (mem : List SD) (sl : Nat → Option SD) (tx : List Nat) (x : Int32) (hN : 107 ≤ kN k) (hSol : SolAt k M cs ds mem sl tx) (F106 : M 106 = .inl (kJ k, 1, .inr (.inl g))) : CL l yL_save cL_save 4 [(0, 9, 12, 25)] { frames := 8, cells := 1, slots := 6, locals := 131 } k [.ref (ad k 0), .int x, .ref (ad k 106)] M (pI (WP1 k (PS_save k cs ds mem sl tx x M) (PX_save k cs ds mem sl tx x M) xIOB)) := by
  refine CL.of (by decide) (Nat.le_of_ble_eq_true rfl) (fun C X hCl hCR rl => ?_)
  show V C k 4 (0, 0) M 0 [(0, .ref (ad k 0)), (1, .int x), (2, .ref (ad k 106))] []
  refine v_aload_n X 2 dL_save_0 rfl ?_
  refine v_iconst X (v := nI 0) (by decide) dL_save_1 ?_
  refine v_aload_n X 0 dL_save_2 rfl ?_
  refine v_iload_n X 1 dL_save_3 rfl ?_
  refine vx_callV' X rl.2.1 hCl hCR (c_X7_save l hst0 k M cs ds mem sl tx x hSol) cls7 hSol.obj (by omega) mo_X7_save m_435 m_719 m_720 m_721 m_21 (by decide) rfl rfl (Nat.le_of_ble_eq_true rfl) ⟨by decide, by decide⟩ dL_save_4 (vI_in (fun r M1 hp => ?_)) (fun E M1 hx => ?_)
  · have hfr : Fr 0 93 M M1 := hp.2
    have F1 : M1 106 = .inl (kJ k, 1, .inr (.inl g)) := by rw [hfr 106 (Or.inr (by omega))]; exact F106
    refine v_i2l X (v := (r).toInt64) rfl dL_save_7 ?_
    refine v_last X (j := 0) F1 (by omega) (by decide) (by decide) dL_save_8 (fun M_2 hM_1 => ?_)
    refine v_goto X 15 dL_save_9 (by decide) ?_
    refine v_iconst X (v := nI 0) (by decide) dL_save_15 ?_
    exact v_iret X rl.1 ⟨by decide, by decide⟩ rfl dL_save_16 ⟨_, rfl, Or.inl ⟨rfl, _, _, _, hp, hM_1, (updL0 _ _)⟩⟩
  · have hE := hx.1.1
    subst hE
    refine v_catch1 X rl.2.2.2 (by decide) (by decide) m_642 rl.2.1.iob (fun q => ?_)
    refine v_astore_n X [(3, .ref q), (0, .ref (ad k 0)), (1, .int x), (2, .ref (ad k 106))] dL_save_12 (by decide) rfl ?_
    refine v_iconst X (v := nI 1) (by decide) dL_save_13 ?_
    exact v_iret X rl.1 ⟨by decide, by decide⟩ rfl dL_save_14 ⟨_, rfl, Or.inr ⟨rfl, hx⟩⟩
def PS_restore (k : KX) (cs ds : List Nat) (mem : List SD) (sl : Nat → Option SD) (tx : List Nat) (x : Int32) (M : Mem) : Int32 → Mem → Prop := fun r M' => (∃ (j : Nat) (sd : SD), j < 2 ∧ x = nI j ∧ sl j = some sd ∧ r = nI sd.1.length ∧ SolAt k M' sd.1 (sNew sd.1 sd.2) ([]) sl tx) ∧ Fr 0 93 M M'
def PX_restore (k : KX) (cs ds : List Nat) (mem : List SD) (sl : Nat → Option SD) (tx : List Nat) (x : Int32) (M : Mem) : String → Mem → Prop := fun E M' => ((E = xIOB ∧ inL x 2 = false) ∨ (E = xISE ∧ ∃ j, j < 2 ∧ x = nI j ∧ sl j = none)) ∧ SolAt k M' cs ds mem sl tx ∧ Fr 0 93 M M'
set_option maxHeartbeats 4000000 in
set_option maxRecDepth 100000 in
theorem c_L_restore (l : Launch) (hst0 : l.stackTraces = false) (M : Mem) (g : Nat → Int64) (k : KX) (cs ds : List Nat) (mem : List SD) (sl : Nat → Option SD) (tx : List Nat) (x : Int32) (hN : 107 ≤ kN k) (hSol : SolAt k M cs ds mem sl tx) (F106 : M 106 = .inl (kJ k, 1, .inr (.inl g))) : CL l yL_restore cL_restore 4 [(0, 9, 12, 25), (0, 9, 15, 15)] { frames := 8, cells := 2, slots := 12, locals := 156 } k [.ref (ad k 0), .int x, .ref (ad k 106)] M (pI (WP2 k (PS_restore k cs ds mem sl tx x M) (PX_restore k cs ds mem sl tx x M) xIOB xISE)) := by
  refine CL.of (by decide) (Nat.le_of_ble_eq_true rfl) (fun C X hCl hCR rl => ?_)
  show V C k 4 (0, 0) M 0 [(0, .ref (ad k 0)), (1, .int x), (2, .ref (ad k 106))] []
  refine v_aload_n X 2 dL_restore_0 rfl ?_
  refine v_iconst X (v := nI 0) (by decide) dL_restore_1 ?_
  refine v_aload_n X 0 dL_restore_2 rfl ?_
  refine v_iload_n X 1 dL_restore_3 rfl ?_
  refine vx_callV' X rl.2.1 hCl hCR (c_X7_restore l hst0 k M cs ds mem sl tx x hSol) cls7 hSol.obj (by omega) mo_X7_restore m_440 m_723 m_724 m_725 m_21 (by decide) rfl rfl (Nat.le_of_ble_eq_true rfl) ⟨by decide, by decide⟩ dL_restore_4 (vI_in (fun r M1 hp => ?_)) (fun E M1 hx => ?_)
  · have hfr : Fr 0 93 M M1 := hp.2
    have F1 : M1 106 = .inl (kJ k, 1, .inr (.inl g)) := by rw [hfr 106 (Or.inr (by omega))]; exact F106
    refine v_i2l X (v := (r).toInt64) rfl dL_restore_7 ?_
    refine v_last X (j := 0) F1 (by omega) (by decide) (by decide) dL_restore_8 (fun M_2 hM_1 => ?_)
    refine v_goto X 18 dL_restore_9 (by decide) ?_
    refine v_iconst X (v := nI 0) (by decide) dL_restore_18 ?_
    exact v_iret X rl.1 ⟨by decide, by decide⟩ rfl dL_restore_19 ⟨_, rfl, Or.inl ⟨rfl, _, _, _, hp, hM_1, (updL0 _ _)⟩⟩
  · rcases hx.1 with ⟨hE, _⟩ | ⟨hE, _⟩
    · subst hE
      refine v_catch1 X rl.2.2.2 (by decide) (by decide) m_642 rl.2.1.iob (fun q => ?_)
      refine v_astore_n X [(3, .ref q), (0, .ref (ad k 0)), (1, .int x), (2, .ref (ad k 106))] dL_restore_12 (by decide) rfl ?_
      refine v_iconst X (v := nI 1) (by decide) dL_restore_13 ?_
      exact v_iret X rl.1 ⟨by decide, by decide⟩ rfl dL_restore_14 ⟨_, rfl, Or.inr (Or.inl ⟨rfl, hx⟩)⟩
    · subst hE
      refine v_catch2 X rl.2.2.2 (by decide) (by decide) (by decide) m_642 m_634 rl.2.2.1.2 rl.2.1.ise (fun q => ?_)
      refine v_astore_n X [(3, .ref q), (0, .ref (ad k 0)), (1, .int x), (2, .ref (ad k 106))] dL_restore_15 (by decide) rfl ?_
      refine v_iconst X (v := nI 2) (by decide) dL_restore_16 ?_
      exact v_iret X rl.1 ⟨by decide, by decide⟩ rfl dL_restore_17 ⟨_, rfl, Or.inr (Or.inr ⟨rfl, hx⟩)⟩
