set_option maxHeartbeats 4000000 in
set_option maxRecDepth 100000 in
theorem c_X8_solve (l : Launch) (k : KX) (M : Mem) (w : Nat) (cs ds : List Nat) (mem : List SD) (sl : Nat → Option SD) (tx : List Nat) (hRef : RefAt k M w cs ds mem sl tx) : CM l yX8_solve cX8_solve 2 ((some .int)) { frames := 6, cells := 0, slots := 0, locals := 139 } k [.ref (ad k 93)] M (pI (fun r M' => (r = solveF 25 0 cs (sNew cs []) ∧ RefAt k M' 0 cs ds mem sl tx) ∧ FrR M M')) := by
  refine CM.of (by decide) (Nat.le_of_ble_eq_true rfl) (fun C X hCl hCR rq => ?_)
  show V C k 2 (0, 0) M 0 [(0, .ref (ad k 93))] []
  obtain ⟨hN, hV, htx9, htxc, nx, lp, ln, sp, lc, so, nw, tl, di, kp, ik, sc, rd, li, F93, F94, F95, F96, F97, F98, hT, F103, F104, F105, hR, hD, hK, hS⟩ := id hRef
  have ho2 : csOK cs := hV.1.1
  have hds : ∀ d ∈ ds, d < 16 := hV.1.2.1
  have hlc : cs.length ≤ 24 := ho2.1
  have hld : ds.length ≤ 8 := hV.1.2.2
  have hok := cAt_ok ho2
  have hr := hR.c
  have hTk := hT.2.1
  have hTA := hTk.A
  have hTT := hTk.T
  have hTl := hTk.le
  have htL : tL (build cs ds).1 = ds.length := hV.2.1
  have hcf : ∀ n, (build cs ds).2 = some n → n < 24 := fun n hn => by have := (build_ok hlc hds).2 n hn; omega
  have hsn : sNew cs ds = ds := by unfold sNew; rw [htL, List.take_length]
  refine v_aload_n X 0 dX8_solve_0 rfl ?_
  refine v_iconst X (v := nI 0) (by decide) dX8_solve_1 ?_
  refine v_put X cls8 F93 (by omega) 0 (by decide) m_457 rfl rfl rfl rfl (Nat.le_of_ble_eq_true rfl) dX8_solve_2 (fun M_1 hM_2 => ?_)
  have F_3 : M_1 93 = RO k 0 mem.length nx (tA ((build cs ds).1)) (tT ((build cs ds).1)) (((build cs ds).1).length) ((tL (build cs ds).1)) ((build cs ds).2) lp ln tx.length sp lc so := by rw [hM_2]; exact mup_s
  have F_4 : M_1 94 = IR k 82 nw := by rw [hM_2, mup_n (by omega)]; exact F94
  have F_5 : M_1 95 = IR k 82 tl := by rw [hM_2, mup_n (by omega)]; exact F95
  have F_6 : M_1 96 = IR k 1148 di := by rw [hM_2, mup_n (by omega)]; exact F96
  have F_7 : M_1 97 = IR k 164 kp := by rw [hM_2, mup_n (by omega)]; exact F97
  have F_8 : M_1 98 = .inl (kZ k, 2, .inl (fun zq => bI (ik zq))) := by rw [hM_2, mup_n (by omega)]; exact F98
  have F_9 : M_1 103 = IR k 90 sc := by rw [hM_2, mup_n (by omega)]; exact F103
  have F_10 : M_1 104 = IR k 82 rd := by rw [hM_2, mup_n (by omega)]; exact F104
  have F_11 : M_1 105 = IR k 24 li := by rw [hM_2, mup_n (by omega)]; exact F105
  have P_12 : RtAt k M_1 (build cs ds).1 := hT.fr (fun i h1 h2 => by rw [hM_2, mup_n (by omega)])
  refine v_aload_n X 0 dX8_solve_5 rfl ?_
  refine v_callV X hCl hCR (c_X8_solved l k M_1 0 cs ds mem sl tx nx lp ln sp lc so nw tl (by omega) hV F_3 F_4 F_5 P_12 hR) cls8 ⟨_, F_3⟩ (by omega) mo_X8_solved m_623 m_624 m_625 m_626 m_465 (by decide) rfl rfl (Nat.le_of_ble_eq_true rfl) ⟨rfl, rfl⟩ ⟨by decide, by decide⟩ dX8_solve_6 (vI_in (fun r_13 M_14 hp_15 => ?_))
  obtain ⟨he_17, ⟨as_21, ts_22, tz_23, lv_24, cf_25, lp_26, ln_27, tr_28, f_29, F_18, F_19, T_20⟩, hfr_16⟩ := hp_15
  subst he_17
  have F_30 : M_14 94 = IR k 82 nw := by rw [hfr_16 94 (by omega) (by omega) (by omega)]; exact F_4
  have F_31 : M_14 96 = IR k 1148 di := by rw [hfr_16 96 (by omega) (by omega) (by omega)]; exact F_6
  have F_32 : M_14 97 = IR k 164 kp := by rw [hfr_16 97 (by omega) (by omega) (by omega)]; exact F_7
  have F_33 : M_14 98 = .inl (kZ k, 2, .inl (fun zq => bI (ik zq))) := by rw [hfr_16 98 (by omega) (by omega) (by omega)]; exact F_8
  have F_34 : M_14 103 = IR k 90 sc := by rw [hfr_16 103 (by omega) (by omega) (by omega)]; exact F_9
  have F_35 : M_14 104 = IR k 82 rd := by rw [hfr_16 104 (by omega) (by omega) (by omega)]; exact F_10
  have F_36 : M_14 105 = IR k 24 li := by rw [hfr_16 105 (by omega) (by omega) (by omega)]; exact F_11
  refine v_istore_n X [(1, .int ((solveF 25 0 cs (sNew cs [])))), (0, .ref (ad k 93))] dX8_solve_9 (by decide) rfl ?_
  refine v_aload_n X 1 dX8_solve_10 rfl ?_
  refine v_aload_n X 1 dX8_solve_11 rfl ?_
  refine v_get X cls8 F_18 (by omega) 1 (by decide) m_443 rfl rfl dX8_solve_12 ?_
  refine v_callV X hCl hCR (c_X8_build l k M_14 0 mem.length nx as_21 ts_22 tz_23 lv_24 cf_25 lp_26 ln_27 tx.length sp lc so tr_28 94 nw cs ds (by omega) F_18 T_20 (by omega) F_30 hR ho2 hds hld) cls8 ⟨_, F_18⟩ (by omega) mo_X8_build m_494 m_499 m_500 m_501 m_465 (by decide) rfl rfl (Nat.le_of_ble_eq_true rfl) ⟨rfl, rfl⟩ ⟨by decide, by decide⟩ dX8_solve_15 (vV_in (fun M_37 hp_38 => ?_))
  obtain ⟨F_40, T_41, ⟨g_42, F_43, hrow_44⟩, hfr_39⟩ := hp_38
  have F_45 : M_37 96 = IR k 1148 di := by rw [hfr_39 96 (by omega) (by omega) (by omega)]; exact F_31
  have F_46 : M_37 97 = IR k 164 kp := by rw [hfr_39 97 (by omega) (by omega) (by omega)]; exact F_32
  have F_47 : M_37 98 = .inl (kZ k, 2, .inl (fun zq => bI (ik zq))) := by rw [hfr_39 98 (by omega) (by omega) (by omega)]; exact F_33
  have F_48 : M_37 103 = IR k 90 sc := by rw [hfr_39 103 (by omega) (by omega) (by omega)]; exact F_34
  have F_49 : M_37 104 = IR k 82 rd := by rw [hfr_39 104 (by omega) (by omega) (by omega)]; exact F_35
  have F_50 : M_37 105 = IR k 24 li := by rw [hfr_39 105 (by omega) (by omega) (by omega)]; exact F_36
  have F_51 : M_37 95 = IR k 82 f_29 := by rw [hfr_39 95 (by omega) (by omega) (by omega)]; exact F_19
  refine v_iload_n X 0 dX8_solve_18 rfl ?_
  exact v_iret X rq ⟨by decide, by decide⟩ rfl dX8_solve_19 ⟨_, rfl, ⟨rfl, ⟨hN, hV, htx9, htxc, nx, lp_26, ln_27, sp, lc, so, g_42, f_29, di, kp, ik, sc, rd, li, F_40, F_43, F_51, F_45, F_46, F_47, T_41, F_48, F_49, F_50, (by rw [hsn] at hrow_44; exact hrow_44), hD, hK, hS⟩⟩, (fun i hi => by rw [hfr_39 i (by omega) (by omega) (by omega), hfr_16 i (by omega) (by omega) (by omega), hM_2, mup_n (by omega)])⟩
set_option maxHeartbeats 4000000 in
set_option maxRecDepth 100000 in
theorem c_X8_eliminate (l : Launch) (k : KX) (M : Mem) (rf ac nx as ts tz lv : Nat) (cf : Option Nat) (lp ln sz sp lc : Nat) (so : Bool) (nw li : Nat → Nat) (cs : List Nat) (hN : 107 ≤ kN k) (F0 : M 93 = RO k rf ac nx as ts tz lv cf lp ln sz sp lc so) (F1 : M 94 = IR k 82 nw) (F2 : M 105 = IR k 24 li) (hr : csRow nw cs) (ho2 : csOK cs) : CM l yX8_eliminate cX8_eliminate 5 none { frames := 2, cells := 0, slots := 0, locals := 42 } k [.ref (ad k 93)] M (pV (fun M' => (∃ (li2 : Nat → Nat) (n2 : Nat) (so2 : Bool), M' 93 = RO k rf ac nx as ts tz lv cf lp ln sz sp n2 so2 ∧ M' 105 = IR k 24 li2 ∧ LinE cs cs.length li2 n2 so2) ∧ ∀ i, i ≠ 93 → i ≠ 105 → M' i = M i)) := by
  refine CM.of (by decide) (Nat.le_of_ble_eq_true rfl) (fun C X hCl hCR rq => ?_)
  show V C k 5 (0, 0) M 0 [(0, .ref (ad k 93))] []
  have hlc := ho2.1
  have O : ∀ (fu : Nat) (i : Nat) (li : Nat → Nat) (n : Nat) (so2 : Bool) (M1 : Mem), cs.length - i < fu → (i ≤ cs.length) → (LinE cs i li n so2) → (∀ x, x ≠ 93 → x ≠ 105 → M1 x = M x) → M1 93 = RO k rf ac nx as ts tz lv cf lp ln sz sp n so2 → M1 94 = IR k 82 nw → M1 105 = IR k 24 li → V C k 5 (0, 0) M1 12 [(0, .ref (ad k 93)), (1, .int (nI i))] [] := by
    intro fu
    induction fu with
    | zero => intro i li n so2 M1 hfu; exact absurd hfu (Nat.not_lt_zero _)
    | succ fu ihO =>
      intro i li n so2 M1 hfu hi hE hfr G0 G1 G2
      refine v_iload_n X 1 dX8_eliminate_12 rfl ?_
      refine v_aload_n X 0 dX8_eliminate_13 rfl ?_
      refine v_get X cls8 G0 (by omega) 1 (by decide) m_443 rfl rfl dX8_eliminate_14 ?_
      refine v_iconst X (v := nI 0) (by decide) dX8_eliminate_17 ?_
      refine v_iald X nI G1 (by omega) (by omega) (by decide) dX8_eliminate_18 ?_
      refine v_top (show (Value.int (nI (nw 0)) : Value) = .int (nI cs.length) from congrArg _ (congrArg nI hr.1)) ?_
      refine v_cgeN X 251 (by omega) (by omega) dX8_eliminate_19 (by decide) (fun c_1 => ?_) (fun c_1 => ?_)
      · exact v_vret X rq ⟨by decide, by decide⟩ dX8_eliminate_251 ⟨rfl, ⟨li, n, so2, G0, G2, (by rw [show cs.length = i by omega]; exact hE)⟩, hfr⟩
      · have hic := c_1
        have hri := hr.2 i hic
        have hri1 := hri.lt
        have hxi := ho2.2 _ (cAt_mem hic)
        have hxl := elX_lt hxi
        obtain ⟨hE1, hE2, hE3, pv, hL⟩ := id hE
        have hnB := (elF_B (cAt_ok ho2) i).2
        have hes := elF_s ho2 hic
        have hstep : ∀ {l2 n2 s2}, LinE cs (i + 1) l2 n2 s2 ↔ (n2 = (insF (elF cs i) (redF (elF cs i).1 8 (elX (cAt cs i)))).2.1 ∧ s2 = (insF (elF cs i) (redF (elF cs i).1 8 (elX (cAt cs i)))).2.2 ∧ RedP (insF (elF cs i) (redF (elF cs i).1 8 (elX (cAt cs i)))).1 ∧ ∃ pv, LinP (insF (elF cs i) (redF (elF cs i).1 8 (elX (cAt cs i)))).1 l2 n2 pv) := by intro l2 n2 s2; unfold LinE; rw [hes]
        refine v_aload_n X 0 dX8_eliminate_22 rfl ?_
        refine v_get X cls8 G0 (by omega) 1 (by decide) m_443 rfl rfl dX8_eliminate_23 ?_
        refine v_iconst X (v := nI 1) (by decide) dX8_eliminate_26 ?_
        refine v_iload_n X 1 dX8_eliminate_27 rfl ?_
        refine v_addN X dX8_eliminate_28 ?_
        refine v_iald X nI G1 (by omega) (by omega) (by decide) dX8_eliminate_29 ?_
        refine v_iconst X (v := nI 1) (by decide) dX8_eliminate_30 ?_
        refine v_cneN X 60 (by omega) (by omega) dX8_eliminate_31 (by decide) (fun c_2 => ?_) (fun c_2 => ?_)
        · have hp31 : xPar (cAt cs i) = false := hri.p0.mp c_2
          refine v_iconst X (v := nI 0) (by decide) dX8_eliminate_60 ?_
          refine v_top (show (Value.int (nI 0) : Value) = .int (nI ((elX (cAt cs i)))) from congrArg _ (by unfold elX; rw [if_neg (by simp [hp31])])) ?_
          refine v_istore_n X [(2, .int (nI ((elX (cAt cs i))))), (0, .ref (ad k 93)), (1, .int (nI i))] dX8_eliminate_61 (by decide) rfl ?_
          refine v_iconst X (v := nI 0) (by decide) dX8_eliminate_62 ?_
          refine v_istore_n X [(3, .int (nI 0)), (2, .int (nI ((elX (cAt cs i))))), (0, .ref (ad k 93)), (1, .int (nI i))] dX8_eliminate_63 (by decide) rfl ?_
          have R : ∀ (fu : Nat) (j : Nat), n - j < fu → (j ≤ n) → V C k 5 (0, 0) M1 64 [(0, .ref (ad k 93)), (1, .int (nI i)), (2, .int (nI ((redF (elF cs i).1 (bb pv j) (elX (cAt cs i)))))), (3, .int (nI j))] [] := by
            intro fu
            induction fu with
            | zero => intro j hfu; exact absurd hfu (Nat.not_lt_zero _)
            | succ fu ihR =>
              intro j hfu hj 
              refine v_iload_n X 3 dX8_eliminate_64 rfl ?_
              refine v_aload_n X 0 dX8_eliminate_65 rfl ?_
              refine v_get X cls8 G0 (by omega) 24 (by decide) m_615 rfl rfl dX8_eliminate_66 ?_
              refine v_cgeN X 107 (by omega) (by omega) dX8_eliminate_69 (by decide) (fun c_3 => ?_) (fun c_3 => ?_)
              · have hjn : j = n := by omega
                obtain ⟨y, hyd⟩ : ∃ y, y = (redF (elF cs i).1 (bb pv j) (elX (cAt cs i))) := ⟨_, rfl⟩
                rw [← hyd]
                have hyr : redF (elF cs i).1 8 (elX (cAt cs i)) = y := by rw [hyd, hjn]; exact hL.red_end
                have hy : y < 512 := by rw [← hyr]; exact red_lt hE3 hxl 8 (by omega)
                have hyc : ∀ w, w < 8 → (elF cs i).1 w ≠ 0 → y.testBit w = false := fun w hw h0 => by rw [← hyr]; exact red_clear hE3 8 (by omega) w hw h0
                rw [hyr] at hstep
                refine v_iload_n X 2 dX8_eliminate_107 rfl ?_
                refine v_sipush X (v := nI 256) (by decide) dX8_eliminate_108 ?_
                refine v_cneN X 122 (by omega) (by omega) dX8_eliminate_111 (by decide) (fun c_4 => ?_) (fun c_4 => ?_)
                · have h256 := c_4
                  refine v_iload_n X 2 dX8_eliminate_122 rfl ?_
                  refine v_ieqN X 245 (by omega) dX8_eliminate_123 (by decide) (fun c_5 => ?_) (fun c_5 => ?_)
                  · have hy0 : y = 0 := c_5
                    have hln : lowO (xFirst y) = none := by rw [hy0]; decide
                    refine v_iinc X (v := nI (i + 1)) 1 [(1, .int (nI (i + 1))), (0, .ref (ad k 93)), (2, .int (nI y)), (3, .int (nI j))] dX8_eliminate_245 rfl (nI_1 _) (by decide) rfl ?_
                    refine v_goto X 12 dX8_eliminate_248 (by decide) ?_
                    refine v_lv [1, 0] rfl ?_
                    exact ihO (i + 1) li n so2 M1 (by omega) (by omega) (hstep.mpr ⟨by rw [insF_none hln]; exact hE1, by rw [insF_none hln]; exact (by rw [decide_eq_true hy0, Bool.and_true]; exact hE2), by rw [insF_none hln]; exact hE3, pv, by rw [insF_none hln]; exact hL⟩) hfr G0 G1 G2
                  · have hy0 := c_5
                    obtain ⟨p0, hlp⟩ := Option.isSome_iff_exists.mp (low_row y hy hy0 h256)
                    have hlo : lowO y = some p0 := by rw [← lowO_xF]; exact hlp
                    have hp08 := (lowO_inv hlo).1
                    refine v_iload_n X 2 dX8_eliminate_126 rfl ?_
                    refine v_callS X hCl hCR (c_X8_lowest l k M1 y p0 (by omega) hlo) mo_X8_lowest m_462 m_485 m_486 m_465 (by decide) rfl rfl (Nat.le_of_ble_eq_true rfl) ⟨rfl, rfl⟩ ⟨by decide, by decide⟩ dX8_eliminate_127 (vP_in ?_)
                    refine v_istore_n X [(3, .int (nI p0)), (0, .ref (ad k 93)), (1, .int (nI i)), (2, .int (nI y))] dX8_eliminate_130 (by decide) rfl ?_
                    refine v_iconst X (v := nI 0) (by decide) dX8_eliminate_131 ?_
                    refine v_istore X [(4, .int (nI 0)), (3, .int (nI p0)), (0, .ref (ad k 93)), (1, .int (nI i)), (2, .int (nI y))] dX8_eliminate_132 (by decide) rfl ?_
                    have P : ∀ (fu : Nat) (q : Nat) (l2 : Nat → Nat) (M2 : Mem), n - q < fu → (q ≤ n) → (∀ x, x < q → l2 x = subF (elF cs i).1 p0 y (pv x)) → (∀ x, q ≤ x → x < n → l2 x = li x) → (∀ x, x ≠ 93 → x ≠ 105 → M2 x = M x) → M2 105 = IR k 24 l2 → M2 93 = RO k rf ac nx as ts tz lv cf lp ln sz sp n so2 → M2 94 = IR k 82 nw → V C k 5 (0, 0) M2 134 [(0, .ref (ad k 93)), (1, .int (nI i)), (2, .int (nI y)), (3, .int (nI p0)), (4, .int (nI q))] [] := by
                      intro fu
                      induction fu with
                      | zero => intro q l2 M2 hfu; exact absurd hfu (Nat.not_lt_zero _)
                      | succ fu ihP =>
                        intro q l2 M2 hfu hq hl1 hl2 hfr2 G2 G0 G1
                        refine v_iload X 4 dX8_eliminate_134 rfl ?_
                        refine v_aload_n X 0 dX8_eliminate_136 rfl ?_
                        refine v_get X cls8 G0 (by omega) 24 (by decide) m_615 rfl rfl dX8_eliminate_137 ?_
                        refine v_cgeN X 178 (by omega) (by omega) dX8_eliminate_140 (by decide) (fun c_6 => ?_) (fun c_6 => ?_)
                        · have hI0 : InsP (elF cs i).1 l2 n pv y p0 n := InsP.start (fun x hx => hl1 x (by omega))
                          refine v_aload_n X 0 dX8_eliminate_178 rfl ?_
                          refine v_get X cls8 G0 (by omega) 24 (by decide) m_615 rfl rfl dX8_eliminate_179 ?_
                          refine v_istore X [(4, .int (nI n)), (0, .ref (ad k 93)), (1, .int (nI i)), (2, .int (nI y)), (3, .int (nI p0))] dX8_eliminate_182 (by decide) rfl ?_
                          have Q : ∀ (fu : Nat) (a : Nat) (l3 : Nat → Nat) (M3 : Mem), a < fu → (a ≤ n) → (InsP (elF cs i).1 l3 n pv y p0 a) → (∀ x, x ≠ 93 → x ≠ 105 → M3 x = M x) → M3 105 = IR k 24 l3 → M3 93 = RO k rf ac nx as ts tz lv cf lp ln sz sp n so2 → M3 94 = IR k 82 nw → V C k 5 (0, 0) M3 184 [(0, .ref (ad k 93)), (1, .int (nI i)), (2, .int (nI y)), (3, .int (nI p0)), (4, .int (nI a))] [] := by
                            intro fu
                            induction fu with
                            | zero => intro a l3 M3 hfu; exact absurd hfu (Nat.not_lt_zero _)
                            | succ fu ihQ =>
                              intro a l3 M3 hfu han hI hfr3 G2 G0 G1
                              refine v_iload X 4 dX8_eliminate_184 rfl ?_
                              refine v_ileN X 227 (by omega) dX8_eliminate_186 (by decide) (fun c_7 => ?_) (fun c_7 => ?_)
                              · have hae : a = 0 ∨ pv (a - 1) ≤ p0 := Or.inl c_7
                                refine v_aload_n X 0 dX8_eliminate_227 rfl ?_
                                refine v_get X cls8 G0 (by omega) 23 (by decide) m_455 rfl rfl dX8_eliminate_228 ?_
                                refine v_iload X 4 dX8_eliminate_231 rfl ?_
                                refine v_iload_n X 2 dX8_eliminate_233 rfl ?_
                                refine v_iast X nI y G2 (by omega) (by omega) (by decide) dX8_eliminate_234 (fun M_8 hM_9 => ?_)
                                have F_11 : M_8 105 = IR k 24 (va_up l3 a y) := by rw [hM_9]; exact mup_s
                                have F_12 : M_8 93 = RO k rf ac nx as ts tz lv cf lp ln sz sp n so2 := by rw [hM_9, mup_n (by omega)]; exact G0
                                have F_13 : M_8 94 = IR k 82 nw := by rw [hM_9, mup_n (by omega)]; exact G1
                                refine v_aload_n X 0 dX8_eliminate_235 rfl ?_
                                refine v_dup X rfl dX8_eliminate_236 ?_
                                refine v_get X cls8 F_12 (by omega) 24 (by decide) m_615 rfl rfl dX8_eliminate_237 ?_
                                refine v_iconst X (v := nI 1) (by decide) dX8_eliminate_240 ?_
                                refine v_addN X dX8_eliminate_241 ?_
                                refine v_put X cls8 F_12 (by omega) 24 (by decide) m_615 rfl rfl rfl rfl (Nat.le_of_ble_eq_true rfl) dX8_eliminate_242 (fun M_14 hM_15 => ?_)
                                have F_16 : M_14 105 = IR k 24 (va_up l3 a y) := by rw [hM_15, mup_n (by omega)]; exact F_11
                                have F_17 : M_14 93 = RO k rf ac nx as ts tz lv cf lp ln sz sp (n + 1) so2 := by rw [hM_15]; exact mup_s
                                have F_18 : M_14 94 = IR k 82 nw := by rw [hM_15, mup_n (by omega)]; exact F_13
                                refine v_iinc X (v := nI (i + 1)) 1 [(1, .int (nI (i + 1))), (0, .ref (ad k 93)), (2, .int (nI y)), (3, .int (nI p0)), (4, .int (nI a))] dX8_eliminate_245 rfl (nI_1 _) (by decide) rfl ?_
                                refine v_goto X 12 dX8_eliminate_248 (by decide) ?_
                                refine v_lv [1, 0] rfl ?_
                                exact ihO (i + 1) (va_up l3 a y) (n + 1) so2 M_14 (by omega) (by omega) (hstep.mpr ⟨by rw [insF_some hlp]; exact congrArg (· + 1) hE1, by rw [insF_some hlp]; exact hE2, by rw [insF_some hlp]; exact ins_red hE3 hy hyc hlo, _, by rw [insF_some hlp]; exact hI.end_ hL hE3 hyc hlo hae⟩) (fun x hx1 hx2 => by rw [hM_15, mup_n (by omega), hM_9, mup_n (by omega)]; exact hfr3 x hx1 hx2) F_17 F_18 F_16
                              · have ha0 := c_7
                                obtain ⟨pa1, pa2, pa3⟩ := hL.1 (a - 1) (by omega)
                                have hla : l3 (a - 1) = subF (elF cs i).1 p0 y (pv (a - 1)) := hI.2.1 (a - 1) (by omega)
                                have hir := ins_red hE3 hy hyc hlo (pv (a - 1)) pa1
                                have hane : pv (a - 1) ≠ p0 := fun w => by have := hyc _ pa1 pa2; rw [w, (lowO_inv hlo).2.1] at this; cases this
                                rw [up_n _ _ hane] at hir
                                have hsn : subF (elF cs i).1 p0 y (pv (a - 1)) ≠ 0 := fun w => by have := sub_ne (p0 := p0) hE3 hyc pa1 pa2; rw [w, Nat.zero_testBit] at this; cases this
                                have hlowa := lowO_eq pa1 (hir.2 hsn).1 (hir.2 hsn).2.1
                                have hral := hir.1
                                refine v_aload_n X 0 dX8_eliminate_189 rfl ?_
                                refine v_get X cls8 G0 (by omega) 23 (by decide) m_455 rfl rfl dX8_eliminate_190 ?_
                                refine v_iload X 4 dX8_eliminate_193 rfl ?_
                                refine v_iconst X (v := nI 1) (by decide) dX8_eliminate_195 ?_
                                refine v_subN X (by omega) dX8_eliminate_196 ?_
                                refine v_iald X nI G2 (by omega) (by omega) (by decide) dX8_eliminate_197 ?_
                                refine v_callS X hCl hCR (c_X8_lowest l k M3 (l3 (a - 1)) (pv (a - 1)) (by rw [hla]; omega) (by rw [hla]; exact hlowa)) mo_X8_lowest m_462 m_485 m_486 m_465 (by decide) rfl rfl (Nat.le_of_ble_eq_true rfl) ⟨rfl, rfl⟩ ⟨by decide, by decide⟩ dX8_eliminate_198 (vP_in ?_)
                                refine v_iload_n X 3 dX8_eliminate_201 rfl ?_
                                refine v_cleN X 227 (by omega) (by omega) dX8_eliminate_202 (by decide) (fun c_19 => ?_) (fun c_19 => ?_)
                                · have hae : a = 0 ∨ pv (a - 1) ≤ p0 := Or.inr c_19
                                  refine v_aload_n X 0 dX8_eliminate_227 rfl ?_
                                  refine v_get X cls8 G0 (by omega) 23 (by decide) m_455 rfl rfl dX8_eliminate_228 ?_
                                  refine v_iload X 4 dX8_eliminate_231 rfl ?_
                                  refine v_iload_n X 2 dX8_eliminate_233 rfl ?_
                                  refine v_iast X nI y G2 (by omega) (by omega) (by decide) dX8_eliminate_234 (fun M_20 hM_21 => ?_)
                                  have F_23 : M_20 105 = IR k 24 (va_up l3 a y) := by rw [hM_21]; exact mup_s
                                  have F_24 : M_20 93 = RO k rf ac nx as ts tz lv cf lp ln sz sp n so2 := by rw [hM_21, mup_n (by omega)]; exact G0
                                  have F_25 : M_20 94 = IR k 82 nw := by rw [hM_21, mup_n (by omega)]; exact G1
                                  refine v_aload_n X 0 dX8_eliminate_235 rfl ?_
                                  refine v_dup X rfl dX8_eliminate_236 ?_
                                  refine v_get X cls8 F_24 (by omega) 24 (by decide) m_615 rfl rfl dX8_eliminate_237 ?_
                                  refine v_iconst X (v := nI 1) (by decide) dX8_eliminate_240 ?_
                                  refine v_addN X dX8_eliminate_241 ?_
                                  refine v_put X cls8 F_24 (by omega) 24 (by decide) m_615 rfl rfl rfl rfl (Nat.le_of_ble_eq_true rfl) dX8_eliminate_242 (fun M_26 hM_27 => ?_)
                                  have F_28 : M_26 105 = IR k 24 (va_up l3 a y) := by rw [hM_27, mup_n (by omega)]; exact F_23
                                  have F_29 : M_26 93 = RO k rf ac nx as ts tz lv cf lp ln sz sp (n + 1) so2 := by rw [hM_27]; exact mup_s
                                  have F_30 : M_26 94 = IR k 82 nw := by rw [hM_27, mup_n (by omega)]; exact F_25
                                  refine v_iinc X (v := nI (i + 1)) 1 [(1, .int (nI (i + 1))), (0, .ref (ad k 93)), (2, .int (nI y)), (3, .int (nI p0)), (4, .int (nI a))] dX8_eliminate_245 rfl (nI_1 _) (by decide) rfl ?_
                                  refine v_goto X 12 dX8_eliminate_248 (by decide) ?_
                                  refine v_lv [1, 0] rfl ?_
                                  exact ihO (i + 1) (va_up l3 a y) (n + 1) so2 M_26 (by omega) (by omega) (hstep.mpr ⟨by rw [insF_some hlp]; exact congrArg (· + 1) hE1, by rw [insF_some hlp]; exact hE2, by rw [insF_some hlp]; exact ins_red hE3 hy hyc hlo, _, by rw [insF_some hlp]; exact hI.end_ hL hE3 hyc hlo hae⟩) (fun x hx1 hx2 => by rw [hM_27, mup_n (by omega), hM_21, mup_n (by omega)]; exact hfr3 x hx1 hx2) F_29 F_30 F_28
                                · have hgt := c_19
                                  refine v_aload_n X 0 dX8_eliminate_205 rfl ?_
                                  refine v_get X cls8 G0 (by omega) 23 (by decide) m_455 rfl rfl dX8_eliminate_206 ?_
                                  refine v_iload X 4 dX8_eliminate_209 rfl ?_
                                  refine v_aload_n X 0 dX8_eliminate_211 rfl ?_
                                  refine v_get X cls8 G0 (by omega) 23 (by decide) m_455 rfl rfl dX8_eliminate_212 ?_
                                  refine v_iload X 4 dX8_eliminate_215 rfl ?_
                                  refine v_iconst X (v := nI 1) (by decide) dX8_eliminate_217 ?_
                                  refine v_subN X (by omega) dX8_eliminate_218 ?_
                                  refine v_iald X nI G2 (by omega) (by omega) (by decide) dX8_eliminate_219 ?_
                                  refine v_iast X nI (l3 (a - 1)) G2 (by omega) (by omega) (by decide) dX8_eliminate_220 (fun M_31 hM_32 => ?_)
                                  have F_34 : M_31 105 = IR k 24 (va_up l3 a (l3 (a - 1))) := by rw [hM_32]; exact mup_s
                                  have F_35 : M_31 93 = RO k rf ac nx as ts tz lv cf lp ln sz sp n so2 := by rw [hM_32, mup_n (by omega)]; exact G0
                                  have F_36 : M_31 94 = IR k 82 nw := by rw [hM_32, mup_n (by omega)]; exact G1
                                  refine v_iinc X (v := nI (a - 1)) 4 [(4, .int (nI (a - 1))), (0, .ref (ad k 93)), (1, .int (nI i)), (2, .int (nI y)), (3, .int (nI p0))] dX8_eliminate_221 rfl (nI_dec (by omega)) (by decide) rfl ?_
                                  refine v_goto X 184 dX8_eliminate_224 (by decide) ?_
                                  refine v_lv [1, 2, 3, 4, 0] rfl ?_
                                  exact ihQ (a - 1) (va_up l3 a (l3 (a - 1))) M_31 (by omega) (by omega) (hI.step ha0 hgt) (fun x hx1 hx2 => by rw [hM_32, mup_n (by omega)]; exact hfr3 x hx1 hx2) F_34 F_35 F_36
                          refine v_lv [1, 2, 3, 4, 0] rfl ?_
                          exact Q (n + 1) n l2 M2 (by omega) (Nat.le_refl _) hI0 hfr2 G2 G0 G1
                        · have hqn := c_6
                          obtain ⟨pq1, pq2, pq3⟩ := hL.1 q hqn
                          have hlq : l2 q = (elF cs i).1 (pv q) := (hl2 q (Nat.le_refl _) hqn).trans pq3
                          have hrl := (hE3 (pv q) pq1).1
                          refine v_aload_n X 0 dX8_eliminate_143 rfl ?_
                          refine v_get X cls8 G0 (by omega) 23 (by decide) m_455 rfl rfl dX8_eliminate_144 ?_
                          refine v_iload X 4 dX8_eliminate_147 rfl ?_
                          refine v_dup2 X rfl rfl dX8_eliminate_149 ?_
                          refine v_iald X nI G2 (by omega) (by omega) (by decide) dX8_eliminate_150 ?_
                          refine v_aload_n X 0 dX8_eliminate_151 rfl ?_
                          refine v_get X cls8 G0 (by omega) 23 (by decide) m_455 rfl rfl dX8_eliminate_152 ?_
                          refine v_iload X 4 dX8_eliminate_155 rfl ?_
                          refine v_iald X nI G2 (by omega) (by omega) (by decide) dX8_eliminate_157 ?_
                          refine v_iload_n X 3 dX8_eliminate_158 rfl ?_
                          refine v_callS X hCl hCR (c_X8_has l k M2 (l2 q) p0 (by rw [hlq]; omega) (by omega)) mo_X8_has m_460 m_463 m_464 m_465 (by decide) rfl rfl (Nat.le_of_ble_eq_true rfl) ⟨rfl, rfl⟩ ⟨by decide, by decide⟩ dX8_eliminate_159 (vP_in ?_)
                          refine v_ieqB X 169 dX8_eliminate_162 (by decide) (fun c_37 => ?_) (fun c_37 => ?_)
                          · have h162 := c_37
                            refine v_iconst X (v := nI 0) (by decide) dX8_eliminate_169 ?_
                            refine v_xorN X dX8_eliminate_170 ?_
                            refine v_top (show (Value.int (nI ((l2 q) ^^^ 0)) : Value) = .int (nI (subF (elF cs i).1 p0 y (pv q))) from congrArg _ (congrArg nI (by rw [Nat.xor_zero, hlq]; rw [hlq] at h162; exact (if_neg (by simp [h162])).symm))) ?_
                            refine v_iast X nI (subF (elF cs i).1 p0 y (pv q)) G2 (by omega) (by omega) (by decide) dX8_eliminate_171 (fun M_38 hM_39 => ?_)
                            have F_41 : M_38 105 = IR k 24 (va_up l2 q (subF (elF cs i).1 p0 y (pv q))) := by rw [hM_39]; exact mup_s
                            have F_42 : M_38 93 = RO k rf ac nx as ts tz lv cf lp ln sz sp n so2 := by rw [hM_39, mup_n (by omega)]; exact G0
                            have F_43 : M_38 94 = IR k 82 nw := by rw [hM_39, mup_n (by omega)]; exact G1
                            refine v_iinc X (v := nI (q + 1)) 4 [(4, .int (nI (q + 1))), (0, .ref (ad k 93)), (1, .int (nI i)), (2, .int (nI y)), (3, .int (nI p0))] dX8_eliminate_172 rfl (nI_1 _) (by decide) rfl ?_
                            refine v_goto X 134 dX8_eliminate_175 (by decide) ?_
                            refine v_lv [1, 2, 3, 4, 0] rfl ?_
                            exact ihP (q + 1) (va_up l2 q (subF (elF cs i).1 p0 y (pv q))) M_38 (by omega) (by omega) (fun x hx => by by_cases e : x = q; (rw [e, up_s]); (rw [up_n _ _ e]; exact hl1 x (by omega))) (fun x hx hxn => by rw [up_n _ _ (by omega)]; exact hl2 x (by omega) hxn) (fun x hx1 hx2 => by rw [hM_39, mup_n (by omega)]; exact hfr2 x hx1 hx2) F_41 F_42 F_43
                          · have h162 := c_37
                            refine v_iload_n X 2 dX8_eliminate_165 rfl ?_
                            refine v_goto X 170 dX8_eliminate_166 (by decide) ?_
                            refine v_xorN X dX8_eliminate_170 ?_
                            refine v_top (show (Value.int (nI ((l2 q) ^^^ y)) : Value) = .int (nI (subF (elF cs i).1 p0 y (pv q))) from congrArg _ (congrArg nI (by rw [hlq]; rw [hlq] at h162; exact (if_pos h162).symm))) ?_
                            refine v_iast X nI (subF (elF cs i).1 p0 y (pv q)) G2 (by omega) (by omega) (by decide) dX8_eliminate_171 (fun M_44 hM_45 => ?_)
                            have F_47 : M_44 105 = IR k 24 (va_up l2 q (subF (elF cs i).1 p0 y (pv q))) := by rw [hM_45]; exact mup_s
                            have F_48 : M_44 93 = RO k rf ac nx as ts tz lv cf lp ln sz sp n so2 := by rw [hM_45, mup_n (by omega)]; exact G0
                            have F_49 : M_44 94 = IR k 82 nw := by rw [hM_45, mup_n (by omega)]; exact G1
                            refine v_iinc X (v := nI (q + 1)) 4 [(4, .int (nI (q + 1))), (0, .ref (ad k 93)), (1, .int (nI i)), (2, .int (nI y)), (3, .int (nI p0))] dX8_eliminate_172 rfl (nI_1 _) (by decide) rfl ?_
                            refine v_goto X 134 dX8_eliminate_175 (by decide) ?_
                            refine v_lv [1, 2, 3, 4, 0] rfl ?_
                            exact ihP (q + 1) (va_up l2 q (subF (elF cs i).1 p0 y (pv q))) M_44 (by omega) (by omega) (fun x hx => by by_cases e : x = q; (rw [e, up_s]); (rw [up_n _ _ e]; exact hl1 x (by omega))) (fun x hx hxn => by rw [up_n _ _ (by omega)]; exact hl2 x (by omega) hxn) (fun x hx1 hx2 => by rw [hM_45, mup_n (by omega)]; exact hfr2 x hx1 hx2) F_47 F_48 F_49
                    refine v_lv [2, 3, 4, 1, 0] rfl ?_
                    exact P (n + 1) 0 li M1 (by omega) (by omega) (fun x hx => absurd hx (Nat.not_lt_zero _)) (fun x _ _ => rfl) hfr G2 G0 G1
                · have h256 : y = 256 := c_4
                  have hln : lowO (xFirst y) = none := by rw [h256]; decide
                  have hy0 : y ≠ 0 := by omega
                  refine v_aload_n X 0 dX8_eliminate_114 rfl ?_
                  refine v_iconst X (v := bI false) (by decide) dX8_eliminate_115 ?_
                  refine v_put X cls8 G0 (by omega) 25 (by decide) m_616 rfl rfl (narZ _) (fitZ _) (Nat.le_of_ble_eq_true rfl) dX8_eliminate_116 (fun M_50 hM_51 => ?_)
                  have F_52 : M_50 93 = RO k rf ac nx as ts tz lv cf lp ln sz sp n false := by rw [hM_51]; exact mup_s
                  have F_53 : M_50 94 = IR k 82 nw := by rw [hM_51, mup_n (by omega)]; exact G1
                  have F_54 : M_50 105 = IR k 24 li := by rw [hM_51, mup_n (by omega)]; exact G2
                  refine v_goto X 245 dX8_eliminate_119 (by decide) ?_
                  refine v_iinc X (v := nI (i + 1)) 1 [(1, .int (nI (i + 1))), (0, .ref (ad k 93)), (2, .int (nI y)), (3, .int (nI j))] dX8_eliminate_245 rfl (nI_1 _) (by decide) rfl ?_
                  refine v_goto X 12 dX8_eliminate_248 (by decide) ?_
                  refine v_lv [1, 0] rfl ?_
                  exact ihO (i + 1) li n false M_50 (by omega) (by omega) (hstep.mpr ⟨by rw [insF_none hln]; exact hE1, by rw [insF_none hln]; exact (by rw [decide_eq_false hy0, Bool.and_false]), by rw [insF_none hln]; exact hE3, pv, by rw [insF_none hln]; exact hL⟩) (fun x hx1 hx2 => by rw [hM_51, mup_n (by omega)]; exact hfr x hx1 hx2) F_52 F_53 F_54
              · have hjn := c_3
                obtain ⟨pj1, pj2, pj3⟩ := hL.1 j hjn
                have hlow := hL.low hE3 hjn
                have hrl := (hE3 (pv j) pj1).1
                have hbj : bb pv j ≤ 8 := by
                  cases j with
                  | zero => exact Nat.zero_le _
                  | succ j => have := (hL.1 j (by omega)).1; show pv j + 1 ≤ 8; omega
                have hrd := red_lt hE3 hxl (bb pv j) hbj
                have hrs := hL.red (x := (elX (cAt cs i))) hjn
                refine v_iload_n X 2 dX8_eliminate_72 rfl ?_
                refine v_iload_n X 2 dX8_eliminate_73 rfl ?_
                refine v_aload_n X 0 dX8_eliminate_74 rfl ?_
                refine v_get X cls8 G0 (by omega) 23 (by decide) m_455 rfl rfl dX8_eliminate_75 ?_
                refine v_iload_n X 3 dX8_eliminate_78 rfl ?_
                refine v_iald X nI G2 (by omega) (by omega) (by decide) dX8_eliminate_79 ?_
                refine v_callS X hCl hCR (c_X8_lowest l k M1 (li j) (pv j) (by rw [pj3]; omega) (by rw [pj3]; exact hlow)) mo_X8_lowest m_462 m_485 m_486 m_465 (by decide) rfl rfl (Nat.le_of_ble_eq_true rfl) ⟨rfl, rfl⟩ ⟨by decide, by decide⟩ dX8_eliminate_80 (vP_in ?_)
                refine v_callS X hCl hCR (c_X8_has l k M1 ((redF (elF cs i).1 (bb pv j) (elX (cAt cs i)))) (pv j) (by omega) (by omega)) mo_X8_has m_460 m_463 m_464 m_465 (by decide) rfl rfl (Nat.le_of_ble_eq_true rfl) ⟨rfl, rfl⟩ ⟨by decide, by decide⟩ dX8_eliminate_83 (vP_in ?_)
                refine v_ieqB X 98 dX8_eliminate_86 (by decide) (fun c_55 => ?_) (fun c_55 => ?_)
                · have h86 := c_55
                  refine v_iconst X (v := nI 0) (by decide) dX8_eliminate_98 ?_
                  refine v_xorN X dX8_eliminate_99 ?_
                  refine v_top (show (Value.int (nI (((redF (elF cs i).1 (bb pv j) (elX (cAt cs i)))) ^^^ 0)) : Value) = .int (nI (redF (elF cs i).1 (bb pv (j + 1)) (elX (cAt cs i)))) from congrArg _ (congrArg nI (by rw [hrs, if_neg (by simp [h86]), Nat.xor_zero]))) ?_
                  refine v_istore_n X [(2, .int (nI (redF (elF cs i).1 (bb pv (j + 1)) (elX (cAt cs i))))), (0, .ref (ad k 93)), (1, .int (nI i)), (3, .int (nI j))] dX8_eliminate_100 (by decide) rfl ?_
                  refine v_iinc X (v := nI (j + 1)) 3 [(3, .int (nI (j + 1))), (2, .int (nI (redF (elF cs i).1 (bb pv (j + 1)) (elX (cAt cs i))))), (0, .ref (ad k 93)), (1, .int (nI i))] dX8_eliminate_101 rfl (nI_1 _) (by decide) rfl ?_
                  refine v_goto X 64 dX8_eliminate_104 (by decide) ?_
                  refine v_lv [2, 3, 1, 0] rfl ?_
                  exact ihR (j + 1) (by omega) (by omega)
                · have h86 := c_55
                  refine v_aload_n X 0 dX8_eliminate_89 rfl ?_
                  refine v_get X cls8 G0 (by omega) 23 (by decide) m_455 rfl rfl dX8_eliminate_90 ?_
                  refine v_iload_n X 3 dX8_eliminate_93 rfl ?_
                  refine v_iald X nI G2 (by omega) (by omega) (by decide) dX8_eliminate_94 ?_
                  refine v_goto X 99 dX8_eliminate_95 (by decide) ?_
                  refine v_xorN X dX8_eliminate_99 ?_
                  refine v_top (show (Value.int (nI (((redF (elF cs i).1 (bb pv j) (elX (cAt cs i)))) ^^^ (li j))) : Value) = .int (nI (redF (elF cs i).1 (bb pv (j + 1)) (elX (cAt cs i)))) from congrArg _ (congrArg nI (by rw [hrs, if_pos h86]))) ?_
                  refine v_istore_n X [(2, .int (nI (redF (elF cs i).1 (bb pv (j + 1)) (elX (cAt cs i))))), (0, .ref (ad k 93)), (1, .int (nI i)), (3, .int (nI j))] dX8_eliminate_100 (by decide) rfl ?_
                  refine v_iinc X (v := nI (j + 1)) 3 [(3, .int (nI (j + 1))), (2, .int (nI (redF (elF cs i).1 (bb pv (j + 1)) (elX (cAt cs i))))), (0, .ref (ad k 93)), (1, .int (nI i))] dX8_eliminate_101 rfl (nI_1 _) (by decide) rfl ?_
                  refine v_goto X 64 dX8_eliminate_104 (by decide) ?_
                  refine v_lv [2, 3, 1, 0] rfl ?_
                  exact ihR (j + 1) (by omega) (by omega)
          refine v_lv [2, 3, 1, 0] rfl ?_
          exact R (n + 1) 0 (by omega) (by omega)
        · have hp31 : xPar (cAt cs i) = true := hri.p1.mp c_2
          refine v_sipush X (v := nI 256) (by decide) dX8_eliminate_34 ?_
          refine v_aload_n X 0 dX8_eliminate_37 rfl ?_
          refine v_get X cls8 G0 (by omega) 1 (by decide) m_443 rfl rfl dX8_eliminate_38 ?_
          refine v_bipush X (v := nI 49) (by decide) dX8_eliminate_41 ?_
          refine v_iload_n X 1 dX8_eliminate_43 rfl ?_
          refine v_addN X dX8_eliminate_44 ?_
          refine v_iald X nI G1 (by omega) (by omega) (by decide) dX8_eliminate_45 ?_
          refine v_mulN X dX8_eliminate_46 ?_
          refine v_aload_n X 0 dX8_eliminate_47 rfl ?_
          refine v_get X cls8 G0 (by omega) 1 (by decide) m_443 rfl rfl dX8_eliminate_48 ?_
          refine v_bipush X (v := nI 25) (by decide) dX8_eliminate_51 ?_
          refine v_iload_n X 1 dX8_eliminate_53 rfl ?_
          refine v_addN X dX8_eliminate_54 ?_
          refine v_iald X nI G1 (by omega) (by omega) (by decide) dX8_eliminate_55 ?_
          refine v_addN X dX8_eliminate_56 ?_
          refine v_goto X 61 dX8_eliminate_57 (by decide) ?_
          refine v_top (show (Value.int (nI ((256 * (nw (49 + i))) + (nw (25 + i)))) : Value) = .int (nI ((elX (cAt cs i)))) from congrArg _ (by unfold elX; rw [if_pos hp31, hri.2.2.1, hri.2.1])) ?_
          refine v_istore_n X [(2, .int (nI ((elX (cAt cs i))))), (0, .ref (ad k 93)), (1, .int (nI i))] dX8_eliminate_61 (by decide) rfl ?_
          refine v_iconst X (v := nI 0) (by decide) dX8_eliminate_62 ?_
          refine v_istore_n X [(3, .int (nI 0)), (2, .int (nI ((elX (cAt cs i))))), (0, .ref (ad k 93)), (1, .int (nI i))] dX8_eliminate_63 (by decide) rfl ?_
          have R : ∀ (fu : Nat) (j : Nat), n - j < fu → (j ≤ n) → V C k 5 (0, 0) M1 64 [(0, .ref (ad k 93)), (1, .int (nI i)), (2, .int (nI ((redF (elF cs i).1 (bb pv j) (elX (cAt cs i)))))), (3, .int (nI j))] [] := by
            intro fu
            induction fu with
            | zero => intro j hfu; exact absurd hfu (Nat.not_lt_zero _)
            | succ fu ihR =>
              intro j hfu hj 
              refine v_iload_n X 3 dX8_eliminate_64 rfl ?_
              refine v_aload_n X 0 dX8_eliminate_65 rfl ?_
              refine v_get X cls8 G0 (by omega) 24 (by decide) m_615 rfl rfl dX8_eliminate_66 ?_
              refine v_cgeN X 107 (by omega) (by omega) dX8_eliminate_69 (by decide) (fun c_56 => ?_) (fun c_56 => ?_)
              · have hjn : j = n := by omega
                obtain ⟨y, hyd⟩ : ∃ y, y = (redF (elF cs i).1 (bb pv j) (elX (cAt cs i))) := ⟨_, rfl⟩
                rw [← hyd]
                have hyr : redF (elF cs i).1 8 (elX (cAt cs i)) = y := by rw [hyd, hjn]; exact hL.red_end
                have hy : y < 512 := by rw [← hyr]; exact red_lt hE3 hxl 8 (by omega)
                have hyc : ∀ w, w < 8 → (elF cs i).1 w ≠ 0 → y.testBit w = false := fun w hw h0 => by rw [← hyr]; exact red_clear hE3 8 (by omega) w hw h0
                rw [hyr] at hstep
                refine v_iload_n X 2 dX8_eliminate_107 rfl ?_
                refine v_sipush X (v := nI 256) (by decide) dX8_eliminate_108 ?_
                refine v_cneN X 122 (by omega) (by omega) dX8_eliminate_111 (by decide) (fun c_57 => ?_) (fun c_57 => ?_)
                · have h256 := c_57
                  refine v_iload_n X 2 dX8_eliminate_122 rfl ?_
                  refine v_ieqN X 245 (by omega) dX8_eliminate_123 (by decide) (fun c_58 => ?_) (fun c_58 => ?_)
                  · have hy0 : y = 0 := c_58
                    have hln : lowO (xFirst y) = none := by rw [hy0]; decide
                    refine v_iinc X (v := nI (i + 1)) 1 [(1, .int (nI (i + 1))), (0, .ref (ad k 93)), (2, .int (nI y)), (3, .int (nI j))] dX8_eliminate_245 rfl (nI_1 _) (by decide) rfl ?_
                    refine v_goto X 12 dX8_eliminate_248 (by decide) ?_
                    refine v_lv [1, 0] rfl ?_
                    exact ihO (i + 1) li n so2 M1 (by omega) (by omega) (hstep.mpr ⟨by rw [insF_none hln]; exact hE1, by rw [insF_none hln]; exact (by rw [decide_eq_true hy0, Bool.and_true]; exact hE2), by rw [insF_none hln]; exact hE3, pv, by rw [insF_none hln]; exact hL⟩) hfr G0 G1 G2
                  · have hy0 := c_58
                    obtain ⟨p0, hlp⟩ := Option.isSome_iff_exists.mp (low_row y hy hy0 h256)
                    have hlo : lowO y = some p0 := by rw [← lowO_xF]; exact hlp
                    have hp08 := (lowO_inv hlo).1
                    refine v_iload_n X 2 dX8_eliminate_126 rfl ?_
                    refine v_callS X hCl hCR (c_X8_lowest l k M1 y p0 (by omega) hlo) mo_X8_lowest m_462 m_485 m_486 m_465 (by decide) rfl rfl (Nat.le_of_ble_eq_true rfl) ⟨rfl, rfl⟩ ⟨by decide, by decide⟩ dX8_eliminate_127 (vP_in ?_)
                    refine v_istore_n X [(3, .int (nI p0)), (0, .ref (ad k 93)), (1, .int (nI i)), (2, .int (nI y))] dX8_eliminate_130 (by decide) rfl ?_
                    refine v_iconst X (v := nI 0) (by decide) dX8_eliminate_131 ?_
                    refine v_istore X [(4, .int (nI 0)), (3, .int (nI p0)), (0, .ref (ad k 93)), (1, .int (nI i)), (2, .int (nI y))] dX8_eliminate_132 (by decide) rfl ?_
                    have P : ∀ (fu : Nat) (q : Nat) (l2 : Nat → Nat) (M2 : Mem), n - q < fu → (q ≤ n) → (∀ x, x < q → l2 x = subF (elF cs i).1 p0 y (pv x)) → (∀ x, q ≤ x → x < n → l2 x = li x) → (∀ x, x ≠ 93 → x ≠ 105 → M2 x = M x) → M2 105 = IR k 24 l2 → M2 93 = RO k rf ac nx as ts tz lv cf lp ln sz sp n so2 → M2 94 = IR k 82 nw → V C k 5 (0, 0) M2 134 [(0, .ref (ad k 93)), (1, .int (nI i)), (2, .int (nI y)), (3, .int (nI p0)), (4, .int (nI q))] [] := by
                      intro fu
                      induction fu with
                      | zero => intro q l2 M2 hfu; exact absurd hfu (Nat.not_lt_zero _)
                      | succ fu ihP =>
                        intro q l2 M2 hfu hq hl1 hl2 hfr2 G2 G0 G1
                        refine v_iload X 4 dX8_eliminate_134 rfl ?_
                        refine v_aload_n X 0 dX8_eliminate_136 rfl ?_
                        refine v_get X cls8 G0 (by omega) 24 (by decide) m_615 rfl rfl dX8_eliminate_137 ?_
                        refine v_cgeN X 178 (by omega) (by omega) dX8_eliminate_140 (by decide) (fun c_59 => ?_) (fun c_59 => ?_)
                        · have hI0 : InsP (elF cs i).1 l2 n pv y p0 n := InsP.start (fun x hx => hl1 x (by omega))
                          refine v_aload_n X 0 dX8_eliminate_178 rfl ?_
                          refine v_get X cls8 G0 (by omega) 24 (by decide) m_615 rfl rfl dX8_eliminate_179 ?_
                          refine v_istore X [(4, .int (nI n)), (0, .ref (ad k 93)), (1, .int (nI i)), (2, .int (nI y)), (3, .int (nI p0))] dX8_eliminate_182 (by decide) rfl ?_
                          have Q : ∀ (fu : Nat) (a : Nat) (l3 : Nat → Nat) (M3 : Mem), a < fu → (a ≤ n) → (InsP (elF cs i).1 l3 n pv y p0 a) → (∀ x, x ≠ 93 → x ≠ 105 → M3 x = M x) → M3 105 = IR k 24 l3 → M3 93 = RO k rf ac nx as ts tz lv cf lp ln sz sp n so2 → M3 94 = IR k 82 nw → V C k 5 (0, 0) M3 184 [(0, .ref (ad k 93)), (1, .int (nI i)), (2, .int (nI y)), (3, .int (nI p0)), (4, .int (nI a))] [] := by
                            intro fu
                            induction fu with
                            | zero => intro a l3 M3 hfu; exact absurd hfu (Nat.not_lt_zero _)
                            | succ fu ihQ =>
                              intro a l3 M3 hfu han hI hfr3 G2 G0 G1
                              refine v_iload X 4 dX8_eliminate_184 rfl ?_
                              refine v_ileN X 227 (by omega) dX8_eliminate_186 (by decide) (fun c_60 => ?_) (fun c_60 => ?_)
                              · have hae : a = 0 ∨ pv (a - 1) ≤ p0 := Or.inl c_60
                                refine v_aload_n X 0 dX8_eliminate_227 rfl ?_
                                refine v_get X cls8 G0 (by omega) 23 (by decide) m_455 rfl rfl dX8_eliminate_228 ?_
                                refine v_iload X 4 dX8_eliminate_231 rfl ?_
                                refine v_iload_n X 2 dX8_eliminate_233 rfl ?_
                                refine v_iast X nI y G2 (by omega) (by omega) (by decide) dX8_eliminate_234 (fun M_61 hM_62 => ?_)
                                have F_64 : M_61 105 = IR k 24 (va_up l3 a y) := by rw [hM_62]; exact mup_s
                                have F_65 : M_61 93 = RO k rf ac nx as ts tz lv cf lp ln sz sp n so2 := by rw [hM_62, mup_n (by omega)]; exact G0
                                have F_66 : M_61 94 = IR k 82 nw := by rw [hM_62, mup_n (by omega)]; exact G1
                                refine v_aload_n X 0 dX8_eliminate_235 rfl ?_
                                refine v_dup X rfl dX8_eliminate_236 ?_
                                refine v_get X cls8 F_65 (by omega) 24 (by decide) m_615 rfl rfl dX8_eliminate_237 ?_
                                refine v_iconst X (v := nI 1) (by decide) dX8_eliminate_240 ?_
                                refine v_addN X dX8_eliminate_241 ?_
                                refine v_put X cls8 F_65 (by omega) 24 (by decide) m_615 rfl rfl rfl rfl (Nat.le_of_ble_eq_true rfl) dX8_eliminate_242 (fun M_67 hM_68 => ?_)
                                have F_69 : M_67 105 = IR k 24 (va_up l3 a y) := by rw [hM_68, mup_n (by omega)]; exact F_64
                                have F_70 : M_67 93 = RO k rf ac nx as ts tz lv cf lp ln sz sp (n + 1) so2 := by rw [hM_68]; exact mup_s
                                have F_71 : M_67 94 = IR k 82 nw := by rw [hM_68, mup_n (by omega)]; exact F_66
                                refine v_iinc X (v := nI (i + 1)) 1 [(1, .int (nI (i + 1))), (0, .ref (ad k 93)), (2, .int (nI y)), (3, .int (nI p0)), (4, .int (nI a))] dX8_eliminate_245 rfl (nI_1 _) (by decide) rfl ?_
                                refine v_goto X 12 dX8_eliminate_248 (by decide) ?_
                                refine v_lv [1, 0] rfl ?_
                                exact ihO (i + 1) (va_up l3 a y) (n + 1) so2 M_67 (by omega) (by omega) (hstep.mpr ⟨by rw [insF_some hlp]; exact congrArg (· + 1) hE1, by rw [insF_some hlp]; exact hE2, by rw [insF_some hlp]; exact ins_red hE3 hy hyc hlo, _, by rw [insF_some hlp]; exact hI.end_ hL hE3 hyc hlo hae⟩) (fun x hx1 hx2 => by rw [hM_68, mup_n (by omega), hM_62, mup_n (by omega)]; exact hfr3 x hx1 hx2) F_70 F_71 F_69
                              · have ha0 := c_60
                                obtain ⟨pa1, pa2, pa3⟩ := hL.1 (a - 1) (by omega)
                                have hla : l3 (a - 1) = subF (elF cs i).1 p0 y (pv (a - 1)) := hI.2.1 (a - 1) (by omega)
                                have hir := ins_red hE3 hy hyc hlo (pv (a - 1)) pa1
                                have hane : pv (a - 1) ≠ p0 := fun w => by have := hyc _ pa1 pa2; rw [w, (lowO_inv hlo).2.1] at this; cases this
                                rw [up_n _ _ hane] at hir
                                have hsn : subF (elF cs i).1 p0 y (pv (a - 1)) ≠ 0 := fun w => by have := sub_ne (p0 := p0) hE3 hyc pa1 pa2; rw [w, Nat.zero_testBit] at this; cases this
                                have hlowa := lowO_eq pa1 (hir.2 hsn).1 (hir.2 hsn).2.1
                                have hral := hir.1
                                refine v_aload_n X 0 dX8_eliminate_189 rfl ?_
                                refine v_get X cls8 G0 (by omega) 23 (by decide) m_455 rfl rfl dX8_eliminate_190 ?_
                                refine v_iload X 4 dX8_eliminate_193 rfl ?_
                                refine v_iconst X (v := nI 1) (by decide) dX8_eliminate_195 ?_
                                refine v_subN X (by omega) dX8_eliminate_196 ?_
                                refine v_iald X nI G2 (by omega) (by omega) (by decide) dX8_eliminate_197 ?_
                                refine v_callS X hCl hCR (c_X8_lowest l k M3 (l3 (a - 1)) (pv (a - 1)) (by rw [hla]; omega) (by rw [hla]; exact hlowa)) mo_X8_lowest m_462 m_485 m_486 m_465 (by decide) rfl rfl (Nat.le_of_ble_eq_true rfl) ⟨rfl, rfl⟩ ⟨by decide, by decide⟩ dX8_eliminate_198 (vP_in ?_)
                                refine v_iload_n X 3 dX8_eliminate_201 rfl ?_
                                refine v_cleN X 227 (by omega) (by omega) dX8_eliminate_202 (by decide) (fun c_72 => ?_) (fun c_72 => ?_)
                                · have hae : a = 0 ∨ pv (a - 1) ≤ p0 := Or.inr c_72
                                  refine v_aload_n X 0 dX8_eliminate_227 rfl ?_
                                  refine v_get X cls8 G0 (by omega) 23 (by decide) m_455 rfl rfl dX8_eliminate_228 ?_
                                  refine v_iload X 4 dX8_eliminate_231 rfl ?_
                                  refine v_iload_n X 2 dX8_eliminate_233 rfl ?_
                                  refine v_iast X nI y G2 (by omega) (by omega) (by decide) dX8_eliminate_234 (fun M_73 hM_74 => ?_)
                                  have F_76 : M_73 105 = IR k 24 (va_up l3 a y) := by rw [hM_74]; exact mup_s
                                  have F_77 : M_73 93 = RO k rf ac nx as ts tz lv cf lp ln sz sp n so2 := by rw [hM_74, mup_n (by omega)]; exact G0
                                  have F_78 : M_73 94 = IR k 82 nw := by rw [hM_74, mup_n (by omega)]; exact G1
                                  refine v_aload_n X 0 dX8_eliminate_235 rfl ?_
                                  refine v_dup X rfl dX8_eliminate_236 ?_
                                  refine v_get X cls8 F_77 (by omega) 24 (by decide) m_615 rfl rfl dX8_eliminate_237 ?_
                                  refine v_iconst X (v := nI 1) (by decide) dX8_eliminate_240 ?_
                                  refine v_addN X dX8_eliminate_241 ?_
                                  refine v_put X cls8 F_77 (by omega) 24 (by decide) m_615 rfl rfl rfl rfl (Nat.le_of_ble_eq_true rfl) dX8_eliminate_242 (fun M_79 hM_80 => ?_)
                                  have F_81 : M_79 105 = IR k 24 (va_up l3 a y) := by rw [hM_80, mup_n (by omega)]; exact F_76
                                  have F_82 : M_79 93 = RO k rf ac nx as ts tz lv cf lp ln sz sp (n + 1) so2 := by rw [hM_80]; exact mup_s
                                  have F_83 : M_79 94 = IR k 82 nw := by rw [hM_80, mup_n (by omega)]; exact F_78
                                  refine v_iinc X (v := nI (i + 1)) 1 [(1, .int (nI (i + 1))), (0, .ref (ad k 93)), (2, .int (nI y)), (3, .int (nI p0)), (4, .int (nI a))] dX8_eliminate_245 rfl (nI_1 _) (by decide) rfl ?_
                                  refine v_goto X 12 dX8_eliminate_248 (by decide) ?_
                                  refine v_lv [1, 0] rfl ?_
                                  exact ihO (i + 1) (va_up l3 a y) (n + 1) so2 M_79 (by omega) (by omega) (hstep.mpr ⟨by rw [insF_some hlp]; exact congrArg (· + 1) hE1, by rw [insF_some hlp]; exact hE2, by rw [insF_some hlp]; exact ins_red hE3 hy hyc hlo, _, by rw [insF_some hlp]; exact hI.end_ hL hE3 hyc hlo hae⟩) (fun x hx1 hx2 => by rw [hM_80, mup_n (by omega), hM_74, mup_n (by omega)]; exact hfr3 x hx1 hx2) F_82 F_83 F_81
                                · have hgt := c_72
                                  refine v_aload_n X 0 dX8_eliminate_205 rfl ?_
                                  refine v_get X cls8 G0 (by omega) 23 (by decide) m_455 rfl rfl dX8_eliminate_206 ?_
                                  refine v_iload X 4 dX8_eliminate_209 rfl ?_
                                  refine v_aload_n X 0 dX8_eliminate_211 rfl ?_
                                  refine v_get X cls8 G0 (by omega) 23 (by decide) m_455 rfl rfl dX8_eliminate_212 ?_
                                  refine v_iload X 4 dX8_eliminate_215 rfl ?_
                                  refine v_iconst X (v := nI 1) (by decide) dX8_eliminate_217 ?_
                                  refine v_subN X (by omega) dX8_eliminate_218 ?_
                                  refine v_iald X nI G2 (by omega) (by omega) (by decide) dX8_eliminate_219 ?_
                                  refine v_iast X nI (l3 (a - 1)) G2 (by omega) (by omega) (by decide) dX8_eliminate_220 (fun M_84 hM_85 => ?_)
                                  have F_87 : M_84 105 = IR k 24 (va_up l3 a (l3 (a - 1))) := by rw [hM_85]; exact mup_s
                                  have F_88 : M_84 93 = RO k rf ac nx as ts tz lv cf lp ln sz sp n so2 := by rw [hM_85, mup_n (by omega)]; exact G0
                                  have F_89 : M_84 94 = IR k 82 nw := by rw [hM_85, mup_n (by omega)]; exact G1
                                  refine v_iinc X (v := nI (a - 1)) 4 [(4, .int (nI (a - 1))), (0, .ref (ad k 93)), (1, .int (nI i)), (2, .int (nI y)), (3, .int (nI p0))] dX8_eliminate_221 rfl (nI_dec (by omega)) (by decide) rfl ?_
                                  refine v_goto X 184 dX8_eliminate_224 (by decide) ?_
                                  refine v_lv [1, 2, 3, 4, 0] rfl ?_
                                  exact ihQ (a - 1) (va_up l3 a (l3 (a - 1))) M_84 (by omega) (by omega) (hI.step ha0 hgt) (fun x hx1 hx2 => by rw [hM_85, mup_n (by omega)]; exact hfr3 x hx1 hx2) F_87 F_88 F_89
                          refine v_lv [1, 2, 3, 4, 0] rfl ?_
                          exact Q (n + 1) n l2 M2 (by omega) (Nat.le_refl _) hI0 hfr2 G2 G0 G1
                        · have hqn := c_59
                          obtain ⟨pq1, pq2, pq3⟩ := hL.1 q hqn
                          have hlq : l2 q = (elF cs i).1 (pv q) := (hl2 q (Nat.le_refl _) hqn).trans pq3
                          have hrl := (hE3 (pv q) pq1).1
                          refine v_aload_n X 0 dX8_eliminate_143 rfl ?_
                          refine v_get X cls8 G0 (by omega) 23 (by decide) m_455 rfl rfl dX8_eliminate_144 ?_
                          refine v_iload X 4 dX8_eliminate_147 rfl ?_
                          refine v_dup2 X rfl rfl dX8_eliminate_149 ?_
                          refine v_iald X nI G2 (by omega) (by omega) (by decide) dX8_eliminate_150 ?_
                          refine v_aload_n X 0 dX8_eliminate_151 rfl ?_
                          refine v_get X cls8 G0 (by omega) 23 (by decide) m_455 rfl rfl dX8_eliminate_152 ?_
                          refine v_iload X 4 dX8_eliminate_155 rfl ?_
                          refine v_iald X nI G2 (by omega) (by omega) (by decide) dX8_eliminate_157 ?_
                          refine v_iload_n X 3 dX8_eliminate_158 rfl ?_
                          refine v_callS X hCl hCR (c_X8_has l k M2 (l2 q) p0 (by rw [hlq]; omega) (by omega)) mo_X8_has m_460 m_463 m_464 m_465 (by decide) rfl rfl (Nat.le_of_ble_eq_true rfl) ⟨rfl, rfl⟩ ⟨by decide, by decide⟩ dX8_eliminate_159 (vP_in ?_)
                          refine v_ieqB X 169 dX8_eliminate_162 (by decide) (fun c_90 => ?_) (fun c_90 => ?_)
                          · have h162 := c_90
                            refine v_iconst X (v := nI 0) (by decide) dX8_eliminate_169 ?_
                            refine v_xorN X dX8_eliminate_170 ?_
                            refine v_top (show (Value.int (nI ((l2 q) ^^^ 0)) : Value) = .int (nI (subF (elF cs i).1 p0 y (pv q))) from congrArg _ (congrArg nI (by rw [Nat.xor_zero, hlq]; rw [hlq] at h162; exact (if_neg (by simp [h162])).symm))) ?_
                            refine v_iast X nI (subF (elF cs i).1 p0 y (pv q)) G2 (by omega) (by omega) (by decide) dX8_eliminate_171 (fun M_91 hM_92 => ?_)
                            have F_94 : M_91 105 = IR k 24 (va_up l2 q (subF (elF cs i).1 p0 y (pv q))) := by rw [hM_92]; exact mup_s
                            have F_95 : M_91 93 = RO k rf ac nx as ts tz lv cf lp ln sz sp n so2 := by rw [hM_92, mup_n (by omega)]; exact G0
                            have F_96 : M_91 94 = IR k 82 nw := by rw [hM_92, mup_n (by omega)]; exact G1
                            refine v_iinc X (v := nI (q + 1)) 4 [(4, .int (nI (q + 1))), (0, .ref (ad k 93)), (1, .int (nI i)), (2, .int (nI y)), (3, .int (nI p0))] dX8_eliminate_172 rfl (nI_1 _) (by decide) rfl ?_
                            refine v_goto X 134 dX8_eliminate_175 (by decide) ?_
                            refine v_lv [1, 2, 3, 4, 0] rfl ?_
                            exact ihP (q + 1) (va_up l2 q (subF (elF cs i).1 p0 y (pv q))) M_91 (by omega) (by omega) (fun x hx => by by_cases e : x = q; (rw [e, up_s]); (rw [up_n _ _ e]; exact hl1 x (by omega))) (fun x hx hxn => by rw [up_n _ _ (by omega)]; exact hl2 x (by omega) hxn) (fun x hx1 hx2 => by rw [hM_92, mup_n (by omega)]; exact hfr2 x hx1 hx2) F_94 F_95 F_96
                          · have h162 := c_90
                            refine v_iload_n X 2 dX8_eliminate_165 rfl ?_
                            refine v_goto X 170 dX8_eliminate_166 (by decide) ?_
                            refine v_xorN X dX8_eliminate_170 ?_
                            refine v_top (show (Value.int (nI ((l2 q) ^^^ y)) : Value) = .int (nI (subF (elF cs i).1 p0 y (pv q))) from congrArg _ (congrArg nI (by rw [hlq]; rw [hlq] at h162; exact (if_pos h162).symm))) ?_
                            refine v_iast X nI (subF (elF cs i).1 p0 y (pv q)) G2 (by omega) (by omega) (by decide) dX8_eliminate_171 (fun M_97 hM_98 => ?_)
                            have F_100 : M_97 105 = IR k 24 (va_up l2 q (subF (elF cs i).1 p0 y (pv q))) := by rw [hM_98]; exact mup_s
                            have F_101 : M_97 93 = RO k rf ac nx as ts tz lv cf lp ln sz sp n so2 := by rw [hM_98, mup_n (by omega)]; exact G0
                            have F_102 : M_97 94 = IR k 82 nw := by rw [hM_98, mup_n (by omega)]; exact G1
                            refine v_iinc X (v := nI (q + 1)) 4 [(4, .int (nI (q + 1))), (0, .ref (ad k 93)), (1, .int (nI i)), (2, .int (nI y)), (3, .int (nI p0))] dX8_eliminate_172 rfl (nI_1 _) (by decide) rfl ?_
                            refine v_goto X 134 dX8_eliminate_175 (by decide) ?_
                            refine v_lv [1, 2, 3, 4, 0] rfl ?_
                            exact ihP (q + 1) (va_up l2 q (subF (elF cs i).1 p0 y (pv q))) M_97 (by omega) (by omega) (fun x hx => by by_cases e : x = q; (rw [e, up_s]); (rw [up_n _ _ e]; exact hl1 x (by omega))) (fun x hx hxn => by rw [up_n _ _ (by omega)]; exact hl2 x (by omega) hxn) (fun x hx1 hx2 => by rw [hM_98, mup_n (by omega)]; exact hfr2 x hx1 hx2) F_100 F_101 F_102
                    refine v_lv [2, 3, 4, 1, 0] rfl ?_
                    exact P (n + 1) 0 li M1 (by omega) (by omega) (fun x hx => absurd hx (Nat.not_lt_zero _)) (fun x _ _ => rfl) hfr G2 G0 G1
                · have h256 : y = 256 := c_57
                  have hln : lowO (xFirst y) = none := by rw [h256]; decide
                  have hy0 : y ≠ 0 := by omega
                  refine v_aload_n X 0 dX8_eliminate_114 rfl ?_
                  refine v_iconst X (v := bI false) (by decide) dX8_eliminate_115 ?_
                  refine v_put X cls8 G0 (by omega) 25 (by decide) m_616 rfl rfl (narZ _) (fitZ _) (Nat.le_of_ble_eq_true rfl) dX8_eliminate_116 (fun M_103 hM_104 => ?_)
                  have F_105 : M_103 93 = RO k rf ac nx as ts tz lv cf lp ln sz sp n false := by rw [hM_104]; exact mup_s
                  have F_106 : M_103 94 = IR k 82 nw := by rw [hM_104, mup_n (by omega)]; exact G1
                  have F_107 : M_103 105 = IR k 24 li := by rw [hM_104, mup_n (by omega)]; exact G2
                  refine v_goto X 245 dX8_eliminate_119 (by decide) ?_
                  refine v_iinc X (v := nI (i + 1)) 1 [(1, .int (nI (i + 1))), (0, .ref (ad k 93)), (2, .int (nI y)), (3, .int (nI j))] dX8_eliminate_245 rfl (nI_1 _) (by decide) rfl ?_
                  refine v_goto X 12 dX8_eliminate_248 (by decide) ?_
                  refine v_lv [1, 0] rfl ?_
                  exact ihO (i + 1) li n false M_103 (by omega) (by omega) (hstep.mpr ⟨by rw [insF_none hln]; exact hE1, by rw [insF_none hln]; exact (by rw [decide_eq_false hy0, Bool.and_false]), by rw [insF_none hln]; exact hE3, pv, by rw [insF_none hln]; exact hL⟩) (fun x hx1 hx2 => by rw [hM_104, mup_n (by omega)]; exact hfr x hx1 hx2) F_105 F_106 F_107
              · have hjn := c_56
                obtain ⟨pj1, pj2, pj3⟩ := hL.1 j hjn
                have hlow := hL.low hE3 hjn
                have hrl := (hE3 (pv j) pj1).1
                have hbj : bb pv j ≤ 8 := by
                  cases j with
                  | zero => exact Nat.zero_le _
                  | succ j => have := (hL.1 j (by omega)).1; show pv j + 1 ≤ 8; omega
                have hrd := red_lt hE3 hxl (bb pv j) hbj
                have hrs := hL.red (x := (elX (cAt cs i))) hjn
                refine v_iload_n X 2 dX8_eliminate_72 rfl ?_
                refine v_iload_n X 2 dX8_eliminate_73 rfl ?_
                refine v_aload_n X 0 dX8_eliminate_74 rfl ?_
                refine v_get X cls8 G0 (by omega) 23 (by decide) m_455 rfl rfl dX8_eliminate_75 ?_
                refine v_iload_n X 3 dX8_eliminate_78 rfl ?_
                refine v_iald X nI G2 (by omega) (by omega) (by decide) dX8_eliminate_79 ?_
                refine v_callS X hCl hCR (c_X8_lowest l k M1 (li j) (pv j) (by rw [pj3]; omega) (by rw [pj3]; exact hlow)) mo_X8_lowest m_462 m_485 m_486 m_465 (by decide) rfl rfl (Nat.le_of_ble_eq_true rfl) ⟨rfl, rfl⟩ ⟨by decide, by decide⟩ dX8_eliminate_80 (vP_in ?_)
                refine v_callS X hCl hCR (c_X8_has l k M1 ((redF (elF cs i).1 (bb pv j) (elX (cAt cs i)))) (pv j) (by omega) (by omega)) mo_X8_has m_460 m_463 m_464 m_465 (by decide) rfl rfl (Nat.le_of_ble_eq_true rfl) ⟨rfl, rfl⟩ ⟨by decide, by decide⟩ dX8_eliminate_83 (vP_in ?_)
                refine v_ieqB X 98 dX8_eliminate_86 (by decide) (fun c_108 => ?_) (fun c_108 => ?_)
                · have h86 := c_108
                  refine v_iconst X (v := nI 0) (by decide) dX8_eliminate_98 ?_
                  refine v_xorN X dX8_eliminate_99 ?_
                  refine v_top (show (Value.int (nI (((redF (elF cs i).1 (bb pv j) (elX (cAt cs i)))) ^^^ 0)) : Value) = .int (nI (redF (elF cs i).1 (bb pv (j + 1)) (elX (cAt cs i)))) from congrArg _ (congrArg nI (by rw [hrs, if_neg (by simp [h86]), Nat.xor_zero]))) ?_
                  refine v_istore_n X [(2, .int (nI (redF (elF cs i).1 (bb pv (j + 1)) (elX (cAt cs i))))), (0, .ref (ad k 93)), (1, .int (nI i)), (3, .int (nI j))] dX8_eliminate_100 (by decide) rfl ?_
                  refine v_iinc X (v := nI (j + 1)) 3 [(3, .int (nI (j + 1))), (2, .int (nI (redF (elF cs i).1 (bb pv (j + 1)) (elX (cAt cs i))))), (0, .ref (ad k 93)), (1, .int (nI i))] dX8_eliminate_101 rfl (nI_1 _) (by decide) rfl ?_
                  refine v_goto X 64 dX8_eliminate_104 (by decide) ?_
                  refine v_lv [2, 3, 1, 0] rfl ?_
                  exact ihR (j + 1) (by omega) (by omega)
                · have h86 := c_108
                  refine v_aload_n X 0 dX8_eliminate_89 rfl ?_
                  refine v_get X cls8 G0 (by omega) 23 (by decide) m_455 rfl rfl dX8_eliminate_90 ?_
                  refine v_iload_n X 3 dX8_eliminate_93 rfl ?_
                  refine v_iald X nI G2 (by omega) (by omega) (by decide) dX8_eliminate_94 ?_
                  refine v_goto X 99 dX8_eliminate_95 (by decide) ?_
                  refine v_xorN X dX8_eliminate_99 ?_
                  refine v_top (show (Value.int (nI (((redF (elF cs i).1 (bb pv j) (elX (cAt cs i)))) ^^^ (li j))) : Value) = .int (nI (redF (elF cs i).1 (bb pv (j + 1)) (elX (cAt cs i)))) from congrArg _ (congrArg nI (by rw [hrs, if_pos h86]))) ?_
                  refine v_istore_n X [(2, .int (nI (redF (elF cs i).1 (bb pv (j + 1)) (elX (cAt cs i))))), (0, .ref (ad k 93)), (1, .int (nI i)), (3, .int (nI j))] dX8_eliminate_100 (by decide) rfl ?_
                  refine v_iinc X (v := nI (j + 1)) 3 [(3, .int (nI (j + 1))), (2, .int (nI (redF (elF cs i).1 (bb pv (j + 1)) (elX (cAt cs i))))), (0, .ref (ad k 93)), (1, .int (nI i))] dX8_eliminate_101 rfl (nI_1 _) (by decide) rfl ?_
                  refine v_goto X 64 dX8_eliminate_104 (by decide) ?_
                  refine v_lv [2, 3, 1, 0] rfl ?_
                  exact ihR (j + 1) (by omega) (by omega)
          refine v_lv [2, 3, 1, 0] rfl ?_
          exact R (n + 1) 0 (by omega) (by omega)
  refine v_aload_n X 0 dX8_eliminate_0 rfl ?_
  refine v_iconst X (v := nI 0) (by decide) dX8_eliminate_1 ?_
  refine v_put X cls8 F0 (by omega) 24 (by decide) m_615 rfl rfl rfl rfl (Nat.le_of_ble_eq_true rfl) dX8_eliminate_2 (fun M_109 hM_110 => ?_)
  have F_111 : M_109 93 = RO k rf ac nx as ts tz lv cf lp ln sz sp 0 so := by rw [hM_110]; exact mup_s
  have F_112 : M_109 94 = IR k 82 nw := by rw [hM_110, mup_n (by omega)]; exact F1
  have F_113 : M_109 105 = IR k 24 li := by rw [hM_110, mup_n (by omega)]; exact F2
  refine v_aload_n X 0 dX8_eliminate_5 rfl ?_
  refine v_iconst X (v := bI true) (by decide) dX8_eliminate_6 ?_
  refine v_put X cls8 F_111 (by omega) 25 (by decide) m_616 rfl rfl (narZ _) (fitZ _) (Nat.le_of_ble_eq_true rfl) dX8_eliminate_7 (fun M_114 hM_115 => ?_)
  have F_116 : M_114 93 = RO k rf ac nx as ts tz lv cf lp ln sz sp 0 true := by rw [hM_115]; exact mup_s
  have F_117 : M_114 94 = IR k 82 nw := by rw [hM_115, mup_n (by omega)]; exact F_112
  have F_118 : M_114 105 = IR k 24 li := by rw [hM_115, mup_n (by omega)]; exact F_113
  refine v_iconst X (v := nI 0) (by decide) dX8_eliminate_10 ?_
  refine v_istore_n X [(1, .int (nI 0)), (0, .ref (ad k 93))] dX8_eliminate_11 (by decide) rfl ?_
  refine v_lv [1, 0] rfl ?_
  exact O (cs.length + 1) 0 li 0 true M_114 (by omega) (by omega) (LinE.zero cs li) (fun x hx1 hx2 => by rw [hM_115, mup_n (by omega), hM_110, mup_n (by omega)]) F_116 F_117 F_118
set_option maxHeartbeats 4000000 in
set_option maxRecDepth 100000 in
theorem c_X8_rank (l : Launch) (k : KX) (M : Mem) (w : Nat) (cs ds : List Nat) (mem : List SD) (sl : Nat → Option SD) (tx : List Nat) (hRef : RefAt k M w cs ds mem sl tx) : CM l yX8_rank cX8_rank 1 ((some .int)) { frames := 3, cells := 0, slots := 0, locals := 66 } k [.ref (ad k 93)] M (pI (fun r M' => (r = nI (elRun cs).2.1 ∧ RefAt k M' 0 cs ds mem sl tx) ∧ FrR M M')) := by
  refine CM.of (by decide) (Nat.le_of_ble_eq_true rfl) (fun C X hCl hCR rq => ?_)
  show V C k 1 (0, 0) M 0 [(0, .ref (ad k 93))] []
  obtain ⟨hN, hV, htx9, htxc, nx, lp, ln, sp, lc, so, nw, tl, di, kp, ik, sc, rd, li, F93, F94, F95, F96, F97, F98, hT, F103, F104, F105, hR, hD, hK, hS⟩ := id hRef
  have ho2 : csOK cs := hV.1.1
  have hds : ∀ d ∈ ds, d < 16 := hV.1.2.1
  have hlc : cs.length ≤ 24 := ho2.1
  have hld : ds.length ≤ 8 := hV.1.2.2
  have hok := cAt_ok ho2
  have hr := hR.c
  have hTk := hT.2.1
  have hTA := hTk.A
  have hTT := hTk.T
  have hTl := hTk.le
  have htL : tL (build cs ds).1 = ds.length := hV.2.1
  have hcf : ∀ n, (build cs ds).2 = some n → n < 24 := fun n hn => by have := (build_ok hlc hds).2 n hn; omega
  refine v_aload_n X 0 dX8_rank_0 rfl ?_
  refine v_iconst X (v := nI 0) (by decide) dX8_rank_1 ?_
  refine v_put X cls8 F93 (by omega) 0 (by decide) m_457 rfl rfl rfl rfl (Nat.le_of_ble_eq_true rfl) dX8_rank_2 (fun M_1 hM_2 => ?_)
  have F_3 : M_1 93 = RO k 0 mem.length nx (tA ((build cs ds).1)) (tT ((build cs ds).1)) (((build cs ds).1).length) ((tL (build cs ds).1)) ((build cs ds).2) lp ln tx.length sp lc so := by rw [hM_2]; exact mup_s
  have F_4 : M_1 94 = IR k 82 nw := by rw [hM_2, mup_n (by omega)]; exact F94
  have F_5 : M_1 95 = IR k 82 tl := by rw [hM_2, mup_n (by omega)]; exact F95
  have F_6 : M_1 96 = IR k 1148 di := by rw [hM_2, mup_n (by omega)]; exact F96
  have F_7 : M_1 97 = IR k 164 kp := by rw [hM_2, mup_n (by omega)]; exact F97
  have F_8 : M_1 98 = .inl (kZ k, 2, .inl (fun zq => bI (ik zq))) := by rw [hM_2, mup_n (by omega)]; exact F98
  have F_9 : M_1 103 = IR k 90 sc := by rw [hM_2, mup_n (by omega)]; exact F103
  have F_10 : M_1 104 = IR k 82 rd := by rw [hM_2, mup_n (by omega)]; exact F104
  have F_11 : M_1 105 = IR k 24 li := by rw [hM_2, mup_n (by omega)]; exact F105
  have P_12 : RtAt k M_1 (build cs ds).1 := hT.fr (fun i h1 h2 => by rw [hM_2, mup_n (by omega)])
  refine v_aload_n X 0 dX8_rank_5 rfl ?_
  refine v_callV X hCl hCR (c_X8_eliminate l k M_1 0 mem.length nx (tA ((build cs ds).1)) (tT ((build cs ds).1)) (((build cs ds).1).length) ((tL (build cs ds).1)) ((build cs ds).2) lp ln tx.length sp lc so nw li cs (by omega) F_3 F_4 F_11 hr ho2) cls8 ⟨_, F_3⟩ (by omega) mo_X8_eliminate m_614 m_618 m_619 m_620 m_465 (by decide) rfl rfl (Nat.le_of_ble_eq_true rfl) ⟨rfl, rfl⟩ ⟨by decide, by decide⟩ dX8_rank_6 (vV_in (fun M_13 hp_14 => ?_))
  obtain ⟨⟨li_18, n_19, so_20, F_16, F_17, hLE⟩, hfr_15⟩ := hp_14
  have hEB := (elF_B hok cs.length).2
  have F_21 : M_13 94 = IR k 82 nw := by rw [hfr_15 94 (by omega) (by omega)]; exact F_4
  have F_22 : M_13 95 = IR k 82 tl := by rw [hfr_15 95 (by omega) (by omega)]; exact F_5
  have F_23 : M_13 96 = IR k 1148 di := by rw [hfr_15 96 (by omega) (by omega)]; exact F_6
  have F_24 : M_13 97 = IR k 164 kp := by rw [hfr_15 97 (by omega) (by omega)]; exact F_7
  have F_25 : M_13 98 = .inl (kZ k, 2, .inl (fun zq => bI (ik zq))) := by rw [hfr_15 98 (by omega) (by omega)]; exact F_8
  have F_26 : M_13 103 = IR k 90 sc := by rw [hfr_15 103 (by omega) (by omega)]; exact F_9
  have F_27 : M_13 104 = IR k 82 rd := by rw [hfr_15 104 (by omega) (by omega)]; exact F_10
  have P_28 : RtAt k M_13 (build cs ds).1 := P_12.fr (fun i h1 h2 => hfr_15 i (by omega) (by omega))
  have hn24 : n_19 ≤ 24 := by rw [hLE.1]; omega
  refine v_aload_n X 0 dX8_rank_9 rfl ?_
  refine v_get X cls8 F_16 (by omega) 24 (by decide) m_615 rfl rfl dX8_rank_10 ?_
  exact v_iret X rq ⟨by decide, by decide⟩ rfl dX8_rank_13 ⟨_, rfl, ⟨congrArg nI hLE.1, ⟨hN, hV, htx9, htxc, nx, lp, ln, sp, n_19, so_20, nw, tl, di, kp, ik, sc, rd, li_18, F_16, F_21, F_22, F_23, F_24, F_25, P_28, F_26, F_27, F_17, hR, hD, hK, hS⟩⟩, (fun i hi => by rw [hfr_15 i (by omega) (by omega), hM_2, mup_n (by omega)])⟩
set_option maxHeartbeats 4000000 in
set_option maxRecDepth 100000 in
theorem c_X8_isConsistent (l : Launch) (k : KX) (M : Mem) (w : Nat) (cs ds : List Nat) (mem : List SD) (sl : Nat → Option SD) (tx : List Nat) (hRef : RefAt k M w cs ds mem sl tx) : CM l yX8_isConsistent cX8_isConsistent 1 ((some .boolean)) { frames := 3, cells := 0, slots := 0, locals := 66 } k [.ref (ad k 93)] M (pI (fun r M' => (r = bI (elRun cs).2.2 ∧ RefAt k M' 0 cs ds mem sl tx) ∧ FrR M M')) := by
  refine CM.of (by decide) (Nat.le_of_ble_eq_true rfl) (fun C X hCl hCR rq => ?_)
  show V C k 1 (0, 0) M 0 [(0, .ref (ad k 93))] []
  obtain ⟨hN, hV, htx9, htxc, nx, lp, ln, sp, lc, so, nw, tl, di, kp, ik, sc, rd, li, F93, F94, F95, F96, F97, F98, hT, F103, F104, F105, hR, hD, hK, hS⟩ := id hRef
  have ho2 : csOK cs := hV.1.1
  have hds : ∀ d ∈ ds, d < 16 := hV.1.2.1
  have hlc : cs.length ≤ 24 := ho2.1
  have hld : ds.length ≤ 8 := hV.1.2.2
  have hok := cAt_ok ho2
  have hr := hR.c
  have hTk := hT.2.1
  have hTA := hTk.A
  have hTT := hTk.T
  have hTl := hTk.le
  have htL : tL (build cs ds).1 = ds.length := hV.2.1
  have hcf : ∀ n, (build cs ds).2 = some n → n < 24 := fun n hn => by have := (build_ok hlc hds).2 n hn; omega
  refine v_aload_n X 0 dX8_isConsistent_0 rfl ?_
  refine v_iconst X (v := nI 0) (by decide) dX8_isConsistent_1 ?_
  refine v_put X cls8 F93 (by omega) 0 (by decide) m_457 rfl rfl rfl rfl (Nat.le_of_ble_eq_true rfl) dX8_isConsistent_2 (fun M_1 hM_2 => ?_)
  have F_3 : M_1 93 = RO k 0 mem.length nx (tA ((build cs ds).1)) (tT ((build cs ds).1)) (((build cs ds).1).length) ((tL (build cs ds).1)) ((build cs ds).2) lp ln tx.length sp lc so := by rw [hM_2]; exact mup_s
  have F_4 : M_1 94 = IR k 82 nw := by rw [hM_2, mup_n (by omega)]; exact F94
  have F_5 : M_1 95 = IR k 82 tl := by rw [hM_2, mup_n (by omega)]; exact F95
  have F_6 : M_1 96 = IR k 1148 di := by rw [hM_2, mup_n (by omega)]; exact F96
  have F_7 : M_1 97 = IR k 164 kp := by rw [hM_2, mup_n (by omega)]; exact F97
  have F_8 : M_1 98 = .inl (kZ k, 2, .inl (fun zq => bI (ik zq))) := by rw [hM_2, mup_n (by omega)]; exact F98
  have F_9 : M_1 103 = IR k 90 sc := by rw [hM_2, mup_n (by omega)]; exact F103
  have F_10 : M_1 104 = IR k 82 rd := by rw [hM_2, mup_n (by omega)]; exact F104
  have F_11 : M_1 105 = IR k 24 li := by rw [hM_2, mup_n (by omega)]; exact F105
  have P_12 : RtAt k M_1 (build cs ds).1 := hT.fr (fun i h1 h2 => by rw [hM_2, mup_n (by omega)])
  refine v_aload_n X 0 dX8_isConsistent_5 rfl ?_
  refine v_callV X hCl hCR (c_X8_eliminate l k M_1 0 mem.length nx (tA ((build cs ds).1)) (tT ((build cs ds).1)) (((build cs ds).1).length) ((tL (build cs ds).1)) ((build cs ds).2) lp ln tx.length sp lc so nw li cs (by omega) F_3 F_4 F_11 hr ho2) cls8 ⟨_, F_3⟩ (by omega) mo_X8_eliminate m_614 m_618 m_619 m_620 m_465 (by decide) rfl rfl (Nat.le_of_ble_eq_true rfl) ⟨rfl, rfl⟩ ⟨by decide, by decide⟩ dX8_isConsistent_6 (vV_in (fun M_13 hp_14 => ?_))
  obtain ⟨⟨li_18, n_19, so_20, F_16, F_17, hLE⟩, hfr_15⟩ := hp_14
  have hEB := (elF_B hok cs.length).2
  have F_21 : M_13 94 = IR k 82 nw := by rw [hfr_15 94 (by omega) (by omega)]; exact F_4
  have F_22 : M_13 95 = IR k 82 tl := by rw [hfr_15 95 (by omega) (by omega)]; exact F_5
  have F_23 : M_13 96 = IR k 1148 di := by rw [hfr_15 96 (by omega) (by omega)]; exact F_6
  have F_24 : M_13 97 = IR k 164 kp := by rw [hfr_15 97 (by omega) (by omega)]; exact F_7
  have F_25 : M_13 98 = .inl (kZ k, 2, .inl (fun zq => bI (ik zq))) := by rw [hfr_15 98 (by omega) (by omega)]; exact F_8
  have F_26 : M_13 103 = IR k 90 sc := by rw [hfr_15 103 (by omega) (by omega)]; exact F_9
  have F_27 : M_13 104 = IR k 82 rd := by rw [hfr_15 104 (by omega) (by omega)]; exact F_10
  have P_28 : RtAt k M_13 (build cs ds).1 := P_12.fr (fun i h1 h2 => hfr_15 i (by omega) (by omega))
  have hn24 : n_19 ≤ 24 := by rw [hLE.1]; omega
  refine v_aload_n X 0 dX8_isConsistent_9 rfl ?_
  refine v_get X cls8 F_16 (by omega) 25 (by decide) m_616 rfl rfl dX8_isConsistent_10 ?_
  exact v_iret X rq ⟨by decide, by decide⟩ (narZ _) dX8_isConsistent_13 ⟨_, rfl, ⟨congrArg bI hLE.2.1, ⟨hN, hV, htx9, htxc, nx, lp, ln, sp, n_19, so_20, nw, tl, di, kp, ik, sc, rd, li_18, F_16, F_21, F_22, F_23, F_24, F_25, P_28, F_26, F_27, F_17, hR, hD, hK, hS⟩⟩, (fun i hi => by rw [hfr_15 i (by omega) (by omega), hM_2, mup_n (by omega)])⟩
set_option maxHeartbeats 4000000 in
set_option maxRecDepth 100000 in
theorem c_X8_eliminatedRow (l : Launch) (k : KX) (M : Mem) (w : Nat) (cs ds : List Nat) (mem : List SD) (sl : Nat → Option SD) (tx : List Nat) (x : Int32) (hRef : RefAt k M w cs ds mem sl tx) : CM l yX8_eliminatedRow cX8_eliminatedRow 2 ((some .int)) { frames := 3, cells := 0, slots := 0, locals := 66 } k [.ref (ad k 93), .int x] M (pI (fun r M' => (((elRun cs).2.2 = false ∧ RefAt k M' 1 cs ds mem sl tx) ∨ ((elRun cs).2.2 = true ∧ r = oI (rowF (elRun cs) x) ∧ RefAt k M' 0 cs ds mem sl tx)) ∧ FrR M M')) := by
  refine CM.of (by decide) (Nat.le_of_ble_eq_true rfl) (fun C X hCl hCR rq => ?_)
  show V C k 2 (0, 0) M 0 [(0, .ref (ad k 93)), (1, .int x)] []
  obtain ⟨hN, hV, htx9, htxc, nx, lp, ln, sp, lc, so, nw, tl, di, kp, ik, sc, rd, li, F93, F94, F95, F96, F97, F98, hT, F103, F104, F105, hR, hD, hK, hS⟩ := id hRef
  have ho2 : csOK cs := hV.1.1
  have hds : ∀ d ∈ ds, d < 16 := hV.1.2.1
  have hlc : cs.length ≤ 24 := ho2.1
  have hld : ds.length ≤ 8 := hV.1.2.2
  have hok := cAt_ok ho2
  have hr := hR.c
  have hTk := hT.2.1
  have hTA := hTk.A
  have hTT := hTk.T
  have hTl := hTk.le
  have htL : tL (build cs ds).1 = ds.length := hV.2.1
  have hcf : ∀ n, (build cs ds).2 = some n → n < 24 := fun n hn => by have := (build_ok hlc hds).2 n hn; omega
  refine v_aload_n X 0 dX8_eliminatedRow_0 rfl ?_
  refine v_callV X hCl hCR (c_X8_eliminate l k M w mem.length nx (tA ((build cs ds).1)) (tT ((build cs ds).1)) (((build cs ds).1).length) ((tL (build cs ds).1)) ((build cs ds).2) lp ln tx.length sp lc so nw li cs (by omega) F93 F94 F105 hr ho2) cls8 ⟨_, F93⟩ (by omega) mo_X8_eliminate m_614 m_618 m_619 m_620 m_465 (by decide) rfl rfl (Nat.le_of_ble_eq_true rfl) ⟨rfl, rfl⟩ ⟨by decide, by decide⟩ dX8_eliminatedRow_1 (vV_in (fun M_1 hp_2 => ?_))
  obtain ⟨⟨li_6, n_7, so_8, F_4, F_5, hLE⟩, hfr_3⟩ := hp_2
  have hEB := (elF_B hok cs.length).2
  have F_9 : M_1 94 = IR k 82 nw := by rw [hfr_3 94 (by omega) (by omega)]; exact F94
  have F_10 : M_1 95 = IR k 82 tl := by rw [hfr_3 95 (by omega) (by omega)]; exact F95
  have F_11 : M_1 96 = IR k 1148 di := by rw [hfr_3 96 (by omega) (by omega)]; exact F96
  have F_12 : M_1 97 = IR k 164 kp := by rw [hfr_3 97 (by omega) (by omega)]; exact F97
  have F_13 : M_1 98 = .inl (kZ k, 2, .inl (fun zq => bI (ik zq))) := by rw [hfr_3 98 (by omega) (by omega)]; exact F98
  have F_14 : M_1 103 = IR k 90 sc := by rw [hfr_3 103 (by omega) (by omega)]; exact F103
  have F_15 : M_1 104 = IR k 82 rd := by rw [hfr_3 104 (by omega) (by omega)]; exact F104
  have P_16 : RtAt k M_1 (build cs ds).1 := hT.fr (fun i h1 h2 => hfr_3 i (by omega) (by omega))
  have hn24 : n_7 ≤ 24 := by rw [hLE.1]; omega
  refine v_aload_n X 0 dX8_eliminatedRow_4 rfl ?_
  refine v_aload_n X 0 dX8_eliminatedRow_5 rfl ?_
  refine v_get X cls8 F_4 (by omega) 25 (by decide) m_616 rfl rfl dX8_eliminatedRow_6 ?_
  refine v_ieqB X 16 dX8_eliminatedRow_9 (by decide) (fun c_17 => ?_) (fun c_17 => ?_)
  · have hb := c_17
    refine v_iconst X (v := nI 1) (by decide) dX8_eliminatedRow_16 ?_
    refine v_callV X hCl hCR (c_X8_refused l k M_1 w mem.length nx (tA ((build cs ds).1)) (tT ((build cs ds).1)) (((build cs ds).1).length) ((tL (build cs ds).1)) ((build cs ds).2) lp ln tx.length sp n_7 so_8 1 (by omega) F_4 (by omega)) cls8 ⟨_, F_4⟩ (by omega) mo_X8_refused m_458 m_508 m_509 m_510 m_465 (by decide) rfl rfl (Nat.le_of_ble_eq_true rfl) ⟨rfl, rfl⟩ ⟨by decide, by decide⟩ dX8_eliminatedRow_17 (vI_in (fun r_22 M_18 hp_19 => ?_))
    obtain ⟨he_23, F_21, hfr_20⟩ := hp_19
    subst he_23
    have F_24 : M_18 94 = IR k 82 nw := by rw [hfr_20 94 (by omega)]; exact F_9
    have F_25 : M_18 95 = IR k 82 tl := by rw [hfr_20 95 (by omega)]; exact F_10
    have F_26 : M_18 96 = IR k 1148 di := by rw [hfr_20 96 (by omega)]; exact F_11
    have F_27 : M_18 97 = IR k 164 kp := by rw [hfr_20 97 (by omega)]; exact F_12
    have F_28 : M_18 98 = .inl (kZ k, 2, .inl (fun zq => bI (ik zq))) := by rw [hfr_20 98 (by omega)]; exact F_13
    have F_29 : M_18 103 = IR k 90 sc := by rw [hfr_20 103 (by omega)]; exact F_14
    have F_30 : M_18 104 = IR k 82 rd := by rw [hfr_20 104 (by omega)]; exact F_15
    have F_31 : M_18 105 = IR k 24 li_6 := by rw [hfr_20 105 (by omega)]; exact F_5
    have P_32 : RtAt k M_18 (build cs ds).1 := P_16.fr (fun i h1 h2 => hfr_20 i (by omega))
    refine v_top (show (Value.int (bI (decide (0 < 1))) : Value) = .int (bI true) from congrArg _ (congrArg bI (by decide))) ?_
    refine v_ieqB X 25 dX8_eliminatedRow_20 (by decide) (fun h => absurd h (by decide)) (fun _ => ?_)
    refine v_iconst X (v := nI 0) (by decide) dX8_eliminatedRow_23 ?_
    exact v_iret X rq ⟨by decide, by decide⟩ rfl dX8_eliminatedRow_24 ⟨_, rfl, Or.inl ⟨hLE.2.1.symm.trans hb, ⟨hN, hV, htx9, htxc, nx, lp, ln, sp, n_7, so_8, nw, tl, di, kp, ik, sc, rd, li_6, F_21, F_24, F_25, F_26, F_27, F_28, P_32, F_29, F_30, F_31, hR, hD, hK, hS⟩⟩, (fun i hi => by rw [hfr_20 i (by omega), hfr_3 i (by omega) (by omega)])⟩
  · have hb := c_17
    refine v_iconst X (v := nI 0) (by decide) dX8_eliminatedRow_12 ?_
    refine v_goto X 17 dX8_eliminatedRow_13 (by decide) ?_
    refine v_callV X hCl hCR (c_X8_refused l k M_1 w mem.length nx (tA ((build cs ds).1)) (tT ((build cs ds).1)) (((build cs ds).1).length) ((tL (build cs ds).1)) ((build cs ds).2) lp ln tx.length sp n_7 so_8 0 (by omega) F_4 (by omega)) cls8 ⟨_, F_4⟩ (by omega) mo_X8_refused m_458 m_508 m_509 m_510 m_465 (by decide) rfl rfl (Nat.le_of_ble_eq_true rfl) ⟨rfl, rfl⟩ ⟨by decide, by decide⟩ dX8_eliminatedRow_17 (vI_in (fun r_37 M_33 hp_34 => ?_))
    obtain ⟨he_38, F_36, hfr_35⟩ := hp_34
    subst he_38
    have F_39 : M_33 94 = IR k 82 nw := by rw [hfr_35 94 (by omega)]; exact F_9
    have F_40 : M_33 95 = IR k 82 tl := by rw [hfr_35 95 (by omega)]; exact F_10
    have F_41 : M_33 96 = IR k 1148 di := by rw [hfr_35 96 (by omega)]; exact F_11
    have F_42 : M_33 97 = IR k 164 kp := by rw [hfr_35 97 (by omega)]; exact F_12
    have F_43 : M_33 98 = .inl (kZ k, 2, .inl (fun zq => bI (ik zq))) := by rw [hfr_35 98 (by omega)]; exact F_13
    have F_44 : M_33 103 = IR k 90 sc := by rw [hfr_35 103 (by omega)]; exact F_14
    have F_45 : M_33 104 = IR k 82 rd := by rw [hfr_35 104 (by omega)]; exact F_15
    have F_46 : M_33 105 = IR k 24 li_6 := by rw [hfr_35 105 (by omega)]; exact F_5
    have P_47 : RtAt k M_33 (build cs ds).1 := P_16.fr (fun i h1 h2 => hfr_35 i (by omega))
    refine v_top (show (Value.int (bI (decide (0 < 0))) : Value) = .int (bI false) from congrArg _ (congrArg bI (by decide))) ?_
    refine v_ieqB X 25 dX8_eliminatedRow_20 (by decide) (fun _ => ?_) (fun h => absurd h (by decide))
    refine v_iload_n X 1 dX8_eliminatedRow_25 rfl ?_
    refine v_i2l X (v := (x).toInt64) rfl dX8_eliminatedRow_26 ?_
    refine v_lconst X (v := (nI 0).toInt64) (by decide) dX8_eliminatedRow_27 ?_
    refine v_aload_n X 0 dX8_eliminatedRow_28 rfl ?_
    refine v_get X cls8 F_36 (by omega) 24 (by decide) m_615 rfl rfl dX8_eliminatedRow_29 ?_
    refine v_iconst X (v := nI 1) (by decide) dX8_eliminatedRow_32 ?_
    refine v_isub X dX8_eliminatedRow_33 ?_
    refine v_i2l X (v := ((nI n_7 - nI 1)).toInt64) rfl dX8_eliminatedRow_34 ?_
    refine v_callS X hCl hCR (c_in_L l k M_33 x n_7 (by omega)) mo_X8_in m_459 m_506 m_507 m_465 (by decide) rfl rfl (Nat.le_of_ble_eq_true rfl) ⟨rfl, rfl⟩ ⟨by decide, by decide⟩ dX8_eliminatedRow_35 (vP_in ?_)
    refine v_ieqB X 50 dX8_eliminatedRow_38 (by decide) (fun c_48 => ?_) (fun c_48 => ?_)
    · have hb2 := c_48
      refine v_bipush X (v := (-9)) (by decide) dX8_eliminatedRow_50 ?_
      exact v_iret X rq ⟨by decide, by decide⟩ rfl dX8_eliminatedRow_52 ⟨_, rfl, Or.inr ⟨hLE.2.1.symm.trans hb, by rw [rowF_out hLE (by omega) hb2]; rfl, ⟨hN, hV, htx9, htxc, nx, lp, ln, sp, n_7, so_8, nw, tl, di, kp, ik, sc, rd, li_6, F_36, F_39, F_40, F_41, F_42, F_43, P_47, F_44, F_45, F_46, hR, hD, hK, hS⟩⟩, (fun i hi => by rw [hfr_35 i (by omega), hfr_3 i (by omega) (by omega)])⟩
    · obtain ⟨j, hj, rfl⟩ := inL_of (by omega) c_48
      refine v_aload_n X 0 dX8_eliminatedRow_41 rfl ?_
      refine v_get X cls8 F_36 (by omega) 23 (by decide) m_455 rfl rfl dX8_eliminatedRow_42 ?_
      refine v_iload_n X 1 dX8_eliminatedRow_45 rfl ?_
      refine v_iald X nI F_46 (by omega) (by omega) (by decide) dX8_eliminatedRow_46 ?_
      refine v_goto X 52 dX8_eliminatedRow_47 (by decide) ?_
      exact v_iret X rq ⟨by decide, by decide⟩ rfl dX8_eliminatedRow_52 ⟨_, rfl, Or.inr ⟨hLE.2.1.symm.trans hb, by rw [rowF_in hLE hj]; rfl, ⟨hN, hV, htx9, htxc, nx, lp, ln, sp, n_7, so_8, nw, tl, di, kp, ik, sc, rd, li_6, F_36, F_39, F_40, F_41, F_42, F_43, P_47, F_44, F_45, F_46, hR, hD, hK, hS⟩⟩, (fun i hi => by rw [hfr_35 i (by omega), hfr_3 i (by omega) (by omega)])⟩
