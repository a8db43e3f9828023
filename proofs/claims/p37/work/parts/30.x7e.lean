theorem and1_f {a v : Nat} : (a &&& 1 <<< v = 0) ↔ a.testBit v = false := by
  constructor
  · intro h
    have := congrArg (fun x => x.testBit v) h
    simp only [Nat.testBit_and, bit1, Nat.zero_testBit, decide_true, Bool.and_true] at this
    exact this
  · intro h
    refine and_zero (fun i h1 h2 => ?_)
    rw [bit1] at h2
    rw [← of_decide_eq_true h2, h] at h1; cases h1
theorem and1_t {a v : Nat} : (a &&& 1 <<< v ≠ 0) ↔ a.testBit v = true := by
  rw [Ne, and1_f]; simp
def rsP (cs : List Nat) (i j v : Nat) : Nat := mdiff (xFirst (cAt cs i) ||| xFirst (cAt cs j)) (1 <<< v)
def rsN (cs : List Nat) (i j v : Nat) : Nat := mdiff (xSecond (cAt cs i) ||| xSecond (cAt cs j)) (1 <<< v)
/-- may be resolved -/
def rsOK (cs : List Nat) (i j v : Nat) : Prop := xPar (cAt cs i) = false ∧ xPar (cAt cs j) = false ∧ (xFirst (cAt cs i)).testBit v = true ∧ (xSecond (cAt cs j)).testBit v = true ∧ rsP cs i j v &&& rsN cs i j v = 0 ∧ cs.length < 24
def smOK (cs : List Nat) (i j : Nat) : Prop := xPar (cAt cs i) = true ∧ xPar (cAt cs j) = true ∧ cs.length < 24
theorem rsP_lt {cs : List Nat} {i j v : Nat} : rsP cs i j v < 256 := mdiff_lt (or_lt256 (xFirst_lt _) (xFirst_lt _))
theorem rsN_lt {cs : List Nat} {i j v : Nat} : rsN cs i j v < 256 := mdiff_lt (or_lt256 (xSecond_lt _) (xSecond_lt _))
theorem xSec2 {cs : List Nat} (h : csOK cs) {j : Nat} (hj : j < cs.length) (hp : xPar (cAt cs j) = true) : xSecond (cAt cs j) < 2 := (h.2 _ (cAt_mem hj)).2.1 hp
set_option maxHeartbeats 4000000 in
set_option maxRecDepth 100000 in
theorem c_X7_resolve (l : Launch) (hst0 : l.stackTraces = false) (k : KX) (M : Mem) (cs ds : List Nat) (mem : List SD) (sl : Nat → Option SD) (tx : List Nat) (x y w : Int32) (hSol : SolAt k M cs ds mem sl tx) : CX l yX7_resolve cX7_resolve 9 ((some .int)) { frames := 7, cells := 5, slots := 30, locals := 156 } k [.ref (ad k 0), .int x, .int y, .int w] M (pI (fun r M' => (∃ i j v, i < cs.length ∧ j < cs.length ∧ v < 8 ∧ x = nI i ∧ y = nI j ∧ w = nI v ∧ rsOK cs i j v ∧ r = nI cs.length ∧ SolAt k M' (cs ++ [xClause (rsP cs i j v) (rsN cs i j v)]) (sNew (cs ++ [xClause (rsP cs i j v) (rsN cs i j v)]) ds) (remF mem (cs, ds)) sl tx) ∧ Fr 0 93 M M')) (fun E M' => ((E = xIOB ∧ ¬ (inL x cs.length = true ∧ inL y cs.length = true ∧ inL w 8 = true)) ∨ (E = xISE ∧ ∃ i j v, i < cs.length ∧ j < cs.length ∧ v < 8 ∧ x = nI i ∧ y = nI j ∧ w = nI v ∧ ¬ rsOK cs i j v)) ∧ SolAt k M' cs ds mem sl tx ∧ Fr 0 93 M M') := by
  refine CX.of (by decide) (Nat.le_of_ble_eq_true rfl) (fun C X hCl hCR rx => ?_)
  have rq := rx.q
  have hst : (C_l C).stackTraces = false := by rw [hCl]; exact hst0
  show V C k 9 (0, 0) M 0 [(0, .ref (ad k 0)), (1, .int x), (2, .int y), (3, .int w)] []
  obtain ⟨hN, F0, hTx, hS, hT, hMe, hMo, hEl, ⟨cs2, ds2, hS2⟩, ⟨tr2, cf2, hT2⟩, hV⟩ := id hSol
  have ho2 : csOK cs := hV.1.1
  have hds : ∀ d ∈ ds, d < 16 := hV.1.2.1
  have hlc : cs.length ≤ 24 := ho2.1
  have hld : ds.length ≤ 8 := hV.1.2.2
  have hok := cAt_ok ho2
  have hTL := hV.2.1
  refine v_aload_n X 0 dX7_resolve_0 rfl ?_
  refine v_iload_n X 1 dX7_resolve_1 rfl ?_
  refine vx_callV' X rx.2.1 hCl hCR (c_X7_requireConstraint l hst0 k M cs ds x hN F0 hS) cls7 ⟨_, F0⟩ (by omega) mo_X7_requireConstraint m_303 m_308 m_309 m_310 m_21 (by decide) rfl rfl (Nat.le_of_ble_eq_true rfl) ⟨by decide, by decide⟩ dX7_resolve_2 (vV_in (fun M_1 hp_2 => ?_)) (fun E M_4 hx => v_out X rx ⟨by decide, by decide⟩ (⟨Or.inl ⟨hx.1, fun q => by have := q.1; rw [hx.2.1] at this; cases this⟩, (by obtain ⟨-, -, rfl⟩ := hx; exact hSol), (by obtain ⟨-, -, rfl⟩ := hx; exact Fr.rf)⟩))
  obtain ⟨rfl, hq_3⟩ := hp_2
  have hq1 := hq_3
  refine v_aload_n X 0 dX7_resolve_5 rfl ?_
  refine v_iload_n X 2 dX7_resolve_6 rfl ?_
  refine vx_callV' X rx.2.1 hCl hCR (c_X7_requireConstraint l hst0 k M cs ds y hN F0 hS) cls7 ⟨_, F0⟩ (by omega) mo_X7_requireConstraint m_303 m_308 m_309 m_310 m_21 (by decide) rfl rfl (Nat.le_of_ble_eq_true rfl) ⟨by decide, by decide⟩ dX7_resolve_7 (vV_in (fun M_5 hp_6 => ?_)) (fun E M_8 hx => v_out X rx ⟨by decide, by decide⟩ (⟨Or.inl ⟨hx.1, fun q => by have := q.2.1; rw [hx.2.1] at this; cases this⟩, (by obtain ⟨-, -, rfl⟩ := hx; exact hSol), (by obtain ⟨-, -, rfl⟩ := hx; exact Fr.rf)⟩))
  obtain ⟨rfl, hq_7⟩ := hp_6
  have hq2 := hq_7
  refine v_iload_n X 3 dX7_resolve_10 rfl ?_
  refine vx_callS' X rx.2.1 hCl hCR (c_X7_requireVariable l hst0 k M w) mo_X7_requireVariable m_349 m_351 m_352 m_21 (by decide) rfl rfl (Nat.le_of_ble_eq_true rfl) ⟨by decide, by decide⟩ dX7_resolve_11 (vV_in (fun M_9 hp_10 => ?_)) (fun E M_12 hx => v_out X rx ⟨by decide, by decide⟩ (⟨Or.inl ⟨hx.1, fun q => by have := q.2.2; rw [hx.2.1] at this; cases this⟩, (by obtain ⟨-, -, rfl⟩ := hx; exact hSol), (by obtain ⟨-, -, rfl⟩ := hx; exact Fr.rf)⟩))
  obtain ⟨rfl, hq_11⟩ := hp_10
  have hq3 := hq_11
  obtain ⟨i, hi, rfl⟩ := inL_of (by omega) hq1
  obtain ⟨j, hj, rfl⟩ := inL_of (by omega) hq2
  obtain ⟨v, hv, rfl⟩ := inL_of (by omega) hq3
  have hoi := hok i
  have hoj := hok j
  refine v_aload_n X 0 dX7_resolve_14 rfl ?_
  refine v_get X cls7 F0 (by omega) 1 (by decide) m_251 rfl rfl dX7_resolve_15 ?_
  obtain ⟨hN_13, hF_14, hl_15, g_16, F0_17, F3_18, hg_19⟩ := id hS
  refine v_getN X cls5 F0_17 (by omega) 0 (by decide) nw_11 rfl rfl dX7_resolve_18 ?_
  refine v_iload_n X 1 dX7_resolve_21 rfl ?_
  refine v_callV X hCl hCR (c_X1_codeAtN l k M 6 cs i hF_14 (by omega)) cls1 hF_14.obj (by omega) mo_X1_codeAt m_10 m_311 m_32 m_33 m_15 (by decide) rfl rfl (Nat.le_of_ble_eq_true rfl) ⟨rfl, rfl⟩ ⟨by decide, by decide⟩ dX7_resolve_22 (vP_in ?_)
  refine v_istore X [(4, .int (nI (cAt cs i))), (0, .ref (ad k 0)), (1, .int (nI i)), (2, .int (nI j)), (3, .int (nI v))] dX7_resolve_25 (by decide) rfl ?_
  refine v_aload_n X 1 dX7_resolve_27 rfl ?_
  refine v_get X cls7 F0 (by omega) 1 (by decide) m_251 rfl rfl dX7_resolve_28 ?_
  refine v_getN X cls5 F0_17 (by omega) 0 (by decide) nw_11 rfl rfl dX7_resolve_31 ?_
  refine v_iload_n X 3 dX7_resolve_34 rfl ?_
  refine v_callV X hCl hCR (c_X1_codeAtN l k M 6 cs j hF_14 (by omega)) cls1 hF_14.obj (by omega) mo_X1_codeAt m_10 m_311 m_32 m_33 m_15 (by decide) rfl rfl (Nat.le_of_ble_eq_true rfl) ⟨rfl, rfl⟩ ⟨by decide, by decide⟩ dX7_resolve_35 (vP_in ?_)
  refine v_istore X [(5, .int (nI (cAt cs j))), (4, .int (nI (cAt cs i))), (0, .ref (ad k 0)), (1, .int (nI i)), (2, .int (nI j)), (3, .int (nI v))] dX7_resolve_38 (by decide) rfl ?_
  refine v_iload X 1 dX7_resolve_40 rfl ?_
  refine v_callS X hCl hCR (c_X7_isParityCode l k M (cAt cs i) (by omega)) mo_X7_isParityCode m_16 m_312 m_34 m_21 (by decide) rfl rfl (Nat.le_of_ble_eq_true rfl) ⟨rfl, rfl⟩ ⟨by decide, by decide⟩ dX7_resolve_42 (vP_in ?_)
  refine v_ineB X 56 dX7_resolve_45 (by decide) (fun c_20 => ?_) (fun c_20 => ?_)
  · have hno : ¬ rsOK cs i j v := fun q => by have := q.1; simp_all
    exact v_throwS X rx hCR hst rfl (Or.inr (Or.inl rfl)) m_276 m_277 (List.mem_of_getElem? (i := 9) rfl) inE1 bad72 ot72 dX7_resolve_56 dX7_resolve_59 dX7_resolve_60 dX7_resolve_62 dX7_resolve_65 (by decide) (Nat.le_of_ble_eq_true rfl) (by decide) (by decide) ⟨Or.inr ⟨rfl, i, j, v, hi, hj, hv, rfl, rfl, rfl, hno⟩, hSol, Fr.rf⟩
  · have h45 := c_20
    refine v_iload X 0 dX7_resolve_48 rfl ?_
    refine v_callS X hCl hCR (c_X7_isParityCode l k M (cAt cs j) (by omega)) mo_X7_isParityCode m_16 m_312 m_34 m_21 (by decide) rfl rfl (Nat.le_of_ble_eq_true rfl) ⟨rfl, rfl⟩ ⟨by decide, by decide⟩ dX7_resolve_50 (vP_in ?_)
    refine v_ieqB X 66 dX7_resolve_53 (by decide) (fun c_21 => ?_) (fun c_21 => ?_)
    · have h53 := c_21
      refine v_iconst X (v := nI 1) (by decide) dX7_resolve_66 ?_
      refine v_iload_n X 5 dX7_resolve_67 rfl ?_
      refine v_shlN X (by omega) dX7_resolve_68 ?_
      refine v_istore X [(6, .int (nI (1 <<< v))), (5, .int (nI (cAt cs j))), (4, .int (nI (cAt cs i))), (0, .ref (ad k 0)), (1, .int (nI i)), (2, .int (nI j)), (3, .int (nI v))] dX7_resolve_69 (by decide) rfl ?_
      refine v_iload X 2 dX7_resolve_71 rfl ?_
      refine v_callS X hCl hCR (c_X7_firstPart l k M (cAt cs i)) mo_X7_firstPart m_22 m_314 m_27 m_21 (by decide) rfl rfl (Nat.le_of_ble_eq_true rfl) ⟨rfl, rfl⟩ ⟨by decide, by decide⟩ dX7_resolve_73 (vP_in ?_)
      refine v_iload X 0 dX7_resolve_76 rfl ?_
      refine v_andN X dX7_resolve_78 ?_
      refine v_ieqN X 93 (by have := xFirst_lt (cAt cs i); exact and_ltl (by omega)) dX7_resolve_79 (by decide) (fun c_22 => ?_) (fun c_22 => ?_)
      · have hno : ¬ rsOK cs i j v := fun q => by have := q.2.2.1; rw [and1_f.mp c_22] at this; cases this
        exact v_throwS X rx hCR hst rfl (Or.inr (Or.inl rfl)) m_276 m_277 (List.mem_of_getElem? (i := 10) rfl) inE1 bad72 ot72 dX7_resolve_93 dX7_resolve_96 dX7_resolve_97 dX7_resolve_99 dX7_resolve_102 (by decide) (Nat.le_of_ble_eq_true rfl) (by decide) (by decide) ⟨Or.inr ⟨rfl, i, j, v, hi, hj, hv, rfl, rfl, rfl, hno⟩, hSol, Fr.rf⟩
      · have h79 := and1_t.mp c_22
        refine v_iload X 1 dX7_resolve_82 rfl ?_
        refine v_callS X hCl hCR (c_X7_secondPart l k M (cAt cs j) (by omega)) mo_X7_secondPart m_315 m_317 m_318 m_21 (by decide) rfl rfl (Nat.le_of_ble_eq_true rfl) ⟨rfl, rfl⟩ ⟨by decide, by decide⟩ dX7_resolve_84 (vP_in ?_)
        refine v_iload X 0 dX7_resolve_87 rfl ?_
        refine v_andN X dX7_resolve_89 ?_
        refine v_ineN X 103 (by have := xSecond_lt (cAt cs j); exact and_ltl (by omega)) dX7_resolve_90 (by decide) (fun c_23 => ?_) (fun c_23 => ?_)
        · have h90 := and1_t.mp c_23
          refine v_iload X 2 dX7_resolve_103 rfl ?_
          refine v_callS X hCl hCR (c_X7_firstPart l k M (cAt cs i)) mo_X7_firstPart m_22 m_314 m_27 m_21 (by decide) rfl rfl (Nat.le_of_ble_eq_true rfl) ⟨rfl, rfl⟩ ⟨by decide, by decide⟩ dX7_resolve_105 (vP_in ?_)
          refine v_iload X 1 dX7_resolve_108 rfl ?_
          refine v_callS X hCl hCR (c_X7_firstPart l k M (cAt cs j)) mo_X7_firstPart m_22 m_314 m_27 m_21 (by decide) rfl rfl (Nat.le_of_ble_eq_true rfl) ⟨rfl, rfl⟩ ⟨by decide, by decide⟩ dX7_resolve_110 (vP_in ?_)
          refine v_orN X dX7_resolve_113 ?_
          refine v_iload X 0 dX7_resolve_114 rfl ?_
          refine v_iconst X (v := nI 4294967295) (by decide) dX7_resolve_116 ?_
          refine v_xorN X dX7_resolve_117 ?_
          refine v_andN X dX7_resolve_118 ?_
          refine v_istore X [(7, .int (nI (((xFirst (cAt cs i)) ||| (xFirst (cAt cs j))) &&& ((1 <<< v) ^^^ 4294967295)))), (6, .int (nI (1 <<< v))), (5, .int (nI (cAt cs j))), (4, .int (nI (cAt cs i))), (0, .ref (ad k 0)), (1, .int (nI i)), (2, .int (nI j)), (3, .int (nI v))] dX7_resolve_119 (by decide) rfl ?_
          refine v_iload X 3 dX7_resolve_121 rfl ?_
          refine v_callS X hCl hCR (c_X7_secondPart l k M (cAt cs i) (by omega)) mo_X7_secondPart m_315 m_317 m_318 m_21 (by decide) rfl rfl (Nat.le_of_ble_eq_true rfl) ⟨rfl, rfl⟩ ⟨by decide, by decide⟩ dX7_resolve_123 (vP_in ?_)
          refine v_iload X 2 dX7_resolve_126 rfl ?_
          refine v_callS X hCl hCR (c_X7_secondPart l k M (cAt cs j) (by omega)) mo_X7_secondPart m_315 m_317 m_318 m_21 (by decide) rfl rfl (Nat.le_of_ble_eq_true rfl) ⟨rfl, rfl⟩ ⟨by decide, by decide⟩ dX7_resolve_128 (vP_in ?_)
          refine v_orN X dX7_resolve_131 ?_
          refine v_iload X 1 dX7_resolve_132 rfl ?_
          refine v_iconst X (v := nI 4294967295) (by decide) dX7_resolve_134 ?_
          refine v_xorN X dX7_resolve_135 ?_
          refine v_andN X dX7_resolve_136 ?_
          refine v_istore X [(8, .int (nI (((xSecond (cAt cs i)) ||| (xSecond (cAt cs j))) &&& ((1 <<< v) ^^^ 4294967295)))), (7, .int (nI (((xFirst (cAt cs i)) ||| (xFirst (cAt cs j))) &&& ((1 <<< v) ^^^ 4294967295)))), (6, .int (nI (1 <<< v))), (5, .int (nI (cAt cs j))), (4, .int (nI (cAt cs i))), (0, .ref (ad k 0)), (1, .int (nI i)), (2, .int (nI j)), (3, .int (nI v))] dX7_resolve_137 (by decide) rfl ?_
          refine v_iload X 1 dX7_resolve_139 rfl ?_
          refine v_iload X 0 dX7_resolve_141 rfl ?_
          refine v_andN X dX7_resolve_143 ?_
          refine v_ieqN X 157 (by have := rsP_lt (cs := cs) (i := i) (j := j) (v := v); exact and_ltl (show rsP cs i j v < 2 ^ 31 by omega)) dX7_resolve_144 (by decide) (fun c_24 => ?_) (fun c_24 => ?_)
          · have h144 : rsP cs i j v &&& rsN cs i j v = 0 := c_24
            refine v_aload_n X 5 dX7_resolve_157 rfl ?_
            refine vx_callV' X rx.2.1 hCl hCR (c_X7_requireRoom l hst0 k M cs ds hN F0 hS) cls7 ⟨_, F0⟩ (by omega) mo_X7_requireRoom m_323 m_332 m_333 m_334 m_21 (by decide) rfl rfl (Nat.le_of_ble_eq_true rfl) ⟨by decide, by decide⟩ dX7_resolve_158 (vV_in (fun M_25 hp_26 => ?_)) (fun E M_28 hx => v_out X rx ⟨by decide, by decide⟩ (⟨Or.inr ⟨hx.1, i, j, v, hi, hj, hv, rfl, rfl, rfl, fun q => absurd q.2.2.2.2.2 (by have := hx.2.1; omega)⟩, (by obtain ⟨-, -, rfl⟩ := hx; exact hSol), (by obtain ⟨-, -, rfl⟩ := hx; exact Fr.rf)⟩))
            obtain ⟨rfl, hq_27⟩ := hp_26
            have hr := hq_27
            refine v_aload_n X 5 dX7_resolve_161 rfl ?_
            refine v_iload X 1 dX7_resolve_162 rfl ?_
            refine v_iload X 0 dX7_resolve_164 rfl ?_
            refine v_callS X hCl hCR (c_X7_clauseCode l k M (((xFirst (cAt cs i)) ||| (xFirst (cAt cs j))) &&& ((1 <<< v) ^^^ 4294967295)) (((xSecond (cAt cs i)) ||| (xSecond (cAt cs j))) &&& ((1 <<< v) ^^^ 4294967295))) mo_X7_clauseCode m_89 m_335 m_107 m_21 (by decide) rfl rfl (Nat.le_of_ble_eq_true rfl) ⟨rfl, rfl⟩ ⟨by decide, by decide⟩ dX7_resolve_166 (vP_in ?_)
            refine v_callV X hCl hCR (c_X7_addConstraint l k M cs ds mem sl tx (xClause (((xFirst (cAt cs i)) ||| (xFirst (cAt cs j))) &&& ((1 <<< v) ^^^ 4294967295)) (((xSecond (cAt cs i)) ||| (xSecond (cAt cs j))) &&& ((1 <<< v) ^^^ 4294967295))) hSol (xOK_clause rsP_lt rsN_lt h144) hr) cls7 ⟨_, F0⟩ (by omega) mo_X7_addConstraint m_329 m_336 m_337 m_338 m_21 (by decide) rfl rfl (Nat.le_of_ble_eq_true rfl) ⟨rfl, rfl⟩ ⟨by decide, by decide⟩ dX7_resolve_169 (vI_in (fun r_31 M_29 hac => ?_))
            exact v_iret X rq ⟨by decide, by decide⟩ rfl dX7_resolve_172 ⟨_, rfl, ⟨i, j, v, hi, hj, hv, rfl, rfl, rfl, ⟨h45, h53, h79, h90, h144, hr⟩, hac.1, hac.2.1⟩, hac.2.2⟩
          · have hno : ¬ rsOK cs i j v := fun q => by exact c_24 q.2.2.2.2.1
            exact v_throwS X rx hCR hst rfl (Or.inr (Or.inl rfl)) m_276 m_277 (List.mem_of_getElem? (i := 11) rfl) inE1 bad72 ot72 dX7_resolve_147 dX7_resolve_150 dX7_resolve_151 dX7_resolve_153 dX7_resolve_156 (by decide) (Nat.le_of_ble_eq_true rfl) (by decide) (by decide) ⟨Or.inr ⟨rfl, i, j, v, hi, hj, hv, rfl, rfl, rfl, hno⟩, hSol, Fr.rf⟩
        · have hno : ¬ rsOK cs i j v := fun q => by have := q.2.2.2.1; rw [and1_f.mp c_23] at this; cases this
          exact v_throwS X rx hCR hst rfl (Or.inr (Or.inl rfl)) m_276 m_277 (List.mem_of_getElem? (i := 10) rfl) inE1 bad72 ot72 dX7_resolve_93 dX7_resolve_96 dX7_resolve_97 dX7_resolve_99 dX7_resolve_102 (by decide) (Nat.le_of_ble_eq_true rfl) (by decide) (by decide) ⟨Or.inr ⟨rfl, i, j, v, hi, hj, hv, rfl, rfl, rfl, hno⟩, hSol, Fr.rf⟩
    · have hno : ¬ rsOK cs i j v := fun q => by have := q.2.1; simp_all
      exact v_throwS X rx hCR hst rfl (Or.inr (Or.inl rfl)) m_276 m_277 (List.mem_of_getElem? (i := 9) rfl) inE1 bad72 ot72 dX7_resolve_56 dX7_resolve_59 dX7_resolve_60 dX7_resolve_62 dX7_resolve_65 (by decide) (Nat.le_of_ble_eq_true rfl) (by decide) (by decide) ⟨Or.inr ⟨rfl, i, j, v, hi, hj, hv, rfl, rfl, rfl, hno⟩, hSol, Fr.rf⟩
set_option maxHeartbeats 4000000 in
set_option maxRecDepth 100000 in
theorem c_X7_sum (l : Launch) (hst0 : l.stackTraces = false) (k : KX) (M : Mem) (cs ds : List Nat) (mem : List SD) (sl : Nat → Option SD) (tx : List Nat) (x y : Int32) (hSol : SolAt k M cs ds mem sl tx) : CX l yX7_sum cX7_sum 7 ((some .int)) { frames := 7, cells := 4, slots := 24, locals := 156 } k [.ref (ad k 0), .int x, .int y] M (pI (fun r M' => (∃ i j, i < cs.length ∧ j < cs.length ∧ x = nI i ∧ y = nI j ∧ smOK cs i j ∧ r = nI cs.length ∧ SolAt k M' (cs ++ [xParity (xFirst (cAt cs i) ^^^ xFirst (cAt cs j)) (xSecond (cAt cs i) ^^^ xSecond (cAt cs j))]) (sNew (cs ++ [xParity (xFirst (cAt cs i) ^^^ xFirst (cAt cs j)) (xSecond (cAt cs i) ^^^ xSecond (cAt cs j))]) ds) (remF mem (cs, ds)) sl tx) ∧ Fr 0 93 M M')) (fun E M' => ((E = xIOB ∧ ¬ (inL x cs.length = true ∧ inL y cs.length = true)) ∨ (E = xISE ∧ ∃ i j, i < cs.length ∧ j < cs.length ∧ x = nI i ∧ y = nI j ∧ ¬ smOK cs i j)) ∧ SolAt k M' cs ds mem sl tx ∧ Fr 0 93 M M') := by
  refine CX.of (by decide) (Nat.le_of_ble_eq_true rfl) (fun C X hCl hCR rx => ?_)
  have rq := rx.q
  have hst : (C_l C).stackTraces = false := by rw [hCl]; exact hst0
  show V C k 7 (0, 0) M 0 [(0, .ref (ad k 0)), (1, .int x), (2, .int y)] []
  obtain ⟨hN, F0, hTx, hS, hT, hMe, hMo, hEl, ⟨cs2, ds2, hS2⟩, ⟨tr2, cf2, hT2⟩, hV⟩ := id hSol
  have ho2 : csOK cs := hV.1.1
  have hds : ∀ d ∈ ds, d < 16 := hV.1.2.1
  have hlc : cs.length ≤ 24 := ho2.1
  have hld : ds.length ≤ 8 := hV.1.2.2
  have hok := cAt_ok ho2
  have hTL := hV.2.1
  refine v_aload_n X 0 dX7_sum_0 rfl ?_
  refine v_iload_n X 1 dX7_sum_1 rfl ?_
  refine vx_callV' X rx.2.1 hCl hCR (c_X7_requireConstraint l hst0 k M cs ds x hN F0 hS) cls7 ⟨_, F0⟩ (by omega) mo_X7_requireConstraint m_303 m_308 m_309 m_310 m_21 (by decide) rfl rfl (Nat.le_of_ble_eq_true rfl) ⟨by decide, by decide⟩ dX7_sum_2 (vV_in (fun M_1 hp_2 => ?_)) (fun E M_4 hx => v_out X rx ⟨by decide, by decide⟩ (⟨Or.inl ⟨hx.1, fun q => by have := q.1; rw [hx.2.1] at this; cases this⟩, (by obtain ⟨-, -, rfl⟩ := hx; exact hSol), (by obtain ⟨-, -, rfl⟩ := hx; exact Fr.rf)⟩))
  obtain ⟨rfl, hq_3⟩ := hp_2
  have hq1 := hq_3
  refine v_aload_n X 0 dX7_sum_5 rfl ?_
  refine v_iload_n X 2 dX7_sum_6 rfl ?_
  refine vx_callV' X rx.2.1 hCl hCR (c_X7_requireConstraint l hst0 k M cs ds y hN F0 hS) cls7 ⟨_, F0⟩ (by omega) mo_X7_requireConstraint m_303 m_308 m_309 m_310 m_21 (by decide) rfl rfl (Nat.le_of_ble_eq_true rfl) ⟨by decide, by decide⟩ dX7_sum_7 (vV_in (fun M_5 hp_6 => ?_)) (fun E M_8 hx => v_out X rx ⟨by decide, by decide⟩ (⟨Or.inl ⟨hx.1, fun q => by have := q.2; rw [hx.2.1] at this; cases this⟩, (by obtain ⟨-, -, rfl⟩ := hx; exact hSol), (by obtain ⟨-, -, rfl⟩ := hx; exact Fr.rf)⟩))
  obtain ⟨rfl, hq_7⟩ := hp_6
  have hq2 := hq_7
  obtain ⟨i, hi, rfl⟩ := inL_of (by omega) hq1
  obtain ⟨j, hj, rfl⟩ := inL_of (by omega) hq2
  have hoi := hok i
  have hoj := hok j
  refine v_aload_n X 0 dX7_sum_10 rfl ?_
  refine v_get X cls7 F0 (by omega) 1 (by decide) m_251 rfl rfl dX7_sum_11 ?_
  obtain ⟨hN_9, hF_10, hl_11, g_12, F0_13, F3_14, hg_15⟩ := id hS
  refine v_getN X cls5 F0_13 (by omega) 0 (by decide) nw_11 rfl rfl dX7_sum_14 ?_
  refine v_iload_n X 1 dX7_sum_17 rfl ?_
  refine v_callV X hCl hCR (c_X1_codeAtN l k M 6 cs i hF_10 (by omega)) cls1 hF_10.obj (by omega) mo_X1_codeAt m_10 m_311 m_32 m_33 m_15 (by decide) rfl rfl (Nat.le_of_ble_eq_true rfl) ⟨rfl, rfl⟩ ⟨by decide, by decide⟩ dX7_sum_18 (vP_in ?_)
  refine v_istore_n X [(3, .int (nI (cAt cs i))), (0, .ref (ad k 0)), (1, .int (nI i)), (2, .int (nI j))] dX7_sum_21 (by decide) rfl ?_
  refine v_aload_n X 1 dX7_sum_22 rfl ?_
  refine v_get X cls7 F0 (by omega) 1 (by decide) m_251 rfl rfl dX7_sum_23 ?_
  refine v_getN X cls5 F0_13 (by omega) 0 (by decide) nw_11 rfl rfl dX7_sum_26 ?_
  refine v_iload_n X 3 dX7_sum_29 rfl ?_
  refine v_callV X hCl hCR (c_X1_codeAtN l k M 6 cs j hF_10 (by omega)) cls1 hF_10.obj (by omega) mo_X1_codeAt m_10 m_311 m_32 m_33 m_15 (by decide) rfl rfl (Nat.le_of_ble_eq_true rfl) ⟨rfl, rfl⟩ ⟨by decide, by decide⟩ dX7_sum_30 (vP_in ?_)
  refine v_istore X [(4, .int (nI (cAt cs j))), (3, .int (nI (cAt cs i))), (0, .ref (ad k 0)), (1, .int (nI i)), (2, .int (nI j))] dX7_sum_33 (by decide) rfl ?_
  refine v_iload_n X 1 dX7_sum_35 rfl ?_
  refine v_callS X hCl hCR (c_X7_isParityCode l k M (cAt cs i) (by omega)) mo_X7_isParityCode m_16 m_312 m_34 m_21 (by decide) rfl rfl (Nat.le_of_ble_eq_true rfl) ⟨rfl, rfl⟩ ⟨by decide, by decide⟩ dX7_sum_36 (vP_in ?_)
  refine v_ieqB X 50 dX7_sum_39 (by decide) (fun c_16 => ?_) (fun c_16 => ?_)
  · have hno : ¬ smOK cs i j := fun q => by have := q.1; simp_all
    exact v_throwS X rx hCR hst rfl (Or.inr (Or.inl rfl)) m_276 m_277 (List.mem_of_getElem? (i := 12) rfl) inE1 bad72 ot72 dX7_sum_50 dX7_sum_53 dX7_sum_54 dX7_sum_56 dX7_sum_59 (by decide) (Nat.le_of_ble_eq_true rfl) (by decide) (by decide) ⟨Or.inr ⟨rfl, i, j, hi, hj, rfl, rfl, hno⟩, hSol, Fr.rf⟩
  · have h39 := c_16
    refine v_iload X 0 dX7_sum_42 rfl ?_
    refine v_callS X hCl hCR (c_X7_isParityCode l k M (cAt cs j) (by omega)) mo_X7_isParityCode m_16 m_312 m_34 m_21 (by decide) rfl rfl (Nat.le_of_ble_eq_true rfl) ⟨rfl, rfl⟩ ⟨by decide, by decide⟩ dX7_sum_44 (vP_in ?_)
    refine v_ineB X 60 dX7_sum_47 (by decide) (fun c_17 => ?_) (fun c_17 => ?_)
    · have h47 := c_17
      refine v_aload_n X 2 dX7_sum_60 rfl ?_
      refine vx_callV' X rx.2.1 hCl hCR (c_X7_requireRoom l hst0 k M cs ds hN F0 hS) cls7 ⟨_, F0⟩ (by omega) mo_X7_requireRoom m_323 m_332 m_333 m_334 m_21 (by decide) rfl rfl (Nat.le_of_ble_eq_true rfl) ⟨by decide, by decide⟩ dX7_sum_61 (vV_in (fun M_18 hp_19 => ?_)) (fun E M_21 hx => v_out X rx ⟨by decide, by decide⟩ (⟨Or.inr ⟨hx.1, i, j, hi, hj, rfl, rfl, fun q => absurd q.2.2 (by have := hx.2.1; omega)⟩, (by obtain ⟨-, -, rfl⟩ := hx; exact hSol), (by obtain ⟨-, -, rfl⟩ := hx; exact Fr.rf)⟩))
      obtain ⟨rfl, hq_20⟩ := hp_19
      have hr := hq_20
      have hx1 : (xFirst (cAt cs i) ^^^ xFirst (cAt cs j)) < 256 := Nat.xor_lt_two_pow (n := 8) (xFirst_lt _) (xFirst_lt _)
      have hx2 : (xSecond (cAt cs i) ^^^ xSecond (cAt cs j)) < 2 := Nat.xor_lt_two_pow (n := 1) (xSec2 ho2 hi h39) (xSec2 ho2 hj h47)
      refine v_iload_n X 1 dX7_sum_64 rfl ?_
      refine v_callS X hCl hCR (c_X7_firstPart l k M (cAt cs i)) mo_X7_firstPart m_22 m_314 m_27 m_21 (by decide) rfl rfl (Nat.le_of_ble_eq_true rfl) ⟨rfl, rfl⟩ ⟨by decide, by decide⟩ dX7_sum_65 (vP_in ?_)
      refine v_iload X 0 dX7_sum_68 rfl ?_
      refine v_callS X hCl hCR (c_X7_firstPart l k M (cAt cs j)) mo_X7_firstPart m_22 m_314 m_27 m_21 (by decide) rfl rfl (Nat.le_of_ble_eq_true rfl) ⟨rfl, rfl⟩ ⟨by decide, by decide⟩ dX7_sum_70 (vP_in ?_)
      refine v_xorN X dX7_sum_73 ?_
      refine v_istore X [(5, .int (nI ((xFirst (cAt cs i)) ^^^ (xFirst (cAt cs j))))), (4, .int (nI (cAt cs j))), (3, .int (nI (cAt cs i))), (0, .ref (ad k 0)), (1, .int (nI i)), (2, .int (nI j))] dX7_sum_74 (by decide) rfl ?_
      refine v_iload_n X 2 dX7_sum_76 rfl ?_
      refine v_callS X hCl hCR (c_X7_secondPart l k M (cAt cs i) (by omega)) mo_X7_secondPart m_315 m_317 m_318 m_21 (by decide) rfl rfl (Nat.le_of_ble_eq_true rfl) ⟨rfl, rfl⟩ ⟨by decide, by decide⟩ dX7_sum_77 (vP_in ?_)
      refine v_iload X 1 dX7_sum_80 rfl ?_
      refine v_callS X hCl hCR (c_X7_secondPart l k M (cAt cs j) (by omega)) mo_X7_secondPart m_315 m_317 m_318 m_21 (by decide) rfl rfl (Nat.le_of_ble_eq_true rfl) ⟨rfl, rfl⟩ ⟨by decide, by decide⟩ dX7_sum_82 (vP_in ?_)
      refine v_xorN X dX7_sum_85 ?_
      refine v_istore X [(6, .int (nI ((xSecond (cAt cs i)) ^^^ (xSecond (cAt cs j))))), (5, .int (nI ((xFirst (cAt cs i)) ^^^ (xFirst (cAt cs j))))), (4, .int (nI (cAt cs j))), (3, .int (nI (cAt cs i))), (0, .ref (ad k 0)), (1, .int (nI i)), (2, .int (nI j))] dX7_sum_86 (by decide) rfl ?_
      refine v_aload_n X 4 dX7_sum_88 rfl ?_
      refine v_iload X 1 dX7_sum_89 rfl ?_
      refine v_iload X 0 dX7_sum_91 rfl ?_
      refine v_callS X hCl hCR (c_X7_parityCode l k M ((xFirst (cAt cs i)) ^^^ (xFirst (cAt cs j))) ((xSecond (cAt cs i)) ^^^ (xSecond (cAt cs j)))) mo_X7_parityCode m_98 m_343 m_99 m_21 (by decide) rfl rfl (Nat.le_of_ble_eq_true rfl) ⟨rfl, rfl⟩ ⟨by decide, by decide⟩ dX7_sum_93 (vP_in ?_)
      refine v_callV X hCl hCR (c_X7_addConstraint l k M cs ds mem sl tx (xParity ((xFirst (cAt cs i)) ^^^ (xFirst (cAt cs j))) ((xSecond (cAt cs i)) ^^^ (xSecond (cAt cs j)))) hSol (xOK_parity hx1 hx2) hr) cls7 ⟨_, F0⟩ (by omega) mo_X7_addConstraint m_329 m_336 m_337 m_338 m_21 (by decide) rfl rfl (Nat.le_of_ble_eq_true rfl) ⟨rfl, rfl⟩ ⟨by decide, by decide⟩ dX7_sum_96 (vI_in (fun r_24 M_22 hac => ?_))
      exact v_iret X rq ⟨by decide, by decide⟩ rfl dX7_sum_99 ⟨_, rfl, ⟨i, j, hi, hj, rfl, rfl, ⟨h39, h47, hr⟩, hac.1, hac.2.1⟩, hac.2.2⟩
    · have hno : ¬ smOK cs i j := fun q => by have := q.2.1; simp_all
      exact v_throwS X rx hCR hst rfl (Or.inr (Or.inl rfl)) m_276 m_277 (List.mem_of_getElem? (i := 12) rfl) inE1 bad72 ot72 dX7_sum_50 dX7_sum_53 dX7_sum_54 dX7_sum_56 dX7_sum_59 (by decide) (Nat.le_of_ble_eq_true rfl) (by decide) (by decide) ⟨Or.inr ⟨rfl, i, j, hi, hj, rfl, rfl, hno⟩, hSol, Fr.rf⟩
