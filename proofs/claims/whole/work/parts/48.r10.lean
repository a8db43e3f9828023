set_option maxHeartbeats 4000000 in
set_option maxRecDepth 100000 in
theorem c_X8_readText (l : Launch) (k : KX) (M : Mem) (rf ac nx as ts tz lv : Nat) (cf : Option Nat) (lp ln sp lc : Nat) (so : Bool) (tx : List Nat) (sc : Nat → Nat) (rd : Nat → Nat) (hN : 107 ≤ kN k) (F0 : M 93 = RO k rf ac nx as ts tz lv cf lp ln tx.length sp lc so) (F1 : M 103 = IR k 90 sc) (hS : ∀ j, j < tx.length → sc j = cAt tx j) (h9 : tx.length ≤ 90) (F2 : M 104 = IR k 82 rd) (hch : ∀ c ∈ tx, c < 256) : CM l yX8_readText cX8_readText 2 ((some .int)) { frames := 2, cells := 0, slots := 0, locals := 50 } k [.ref (ad k 93)] M (pI (fun r M' => r = oI (rdText tx).1 ∧ (∃ (sq : Nat) (rd2 : Nat → Nat), M' 93 = RO k rf ac nx as ts tz lv cf lp ln tx.length sq lc so ∧ M' 104 = IR k 82 rd2 ∧ ((rdText tx).1 = none → rowOK rd2 (rdText tx).2.1 [])) ∧ ∀ i, i ≠ 93 → i ≠ 104 → M' i = M i)) := by
  refine CM.of (by decide) (Nat.le_of_ble_eq_true rfl) (fun C X hCl hCR rq => ?_)
  show V C k 2 (0, 0) M 0 [(0, .ref (ad k 93))] []
  have Z : ∀ (fu : Nat) (i : Nat) (h : Nat → Nat) (M1 : Mem), 82 - i < fu → (i ≤ 82) → (∀ q, q < i → h q = 0) → (∀ i, i ≠ 93 → i ≠ 104 → M1 i = M i) → M1 93 = RO k rf ac nx as ts tz lv cf lp ln tx.length sp lc so → M1 103 = IR k 90 sc → M1 104 = IR k 82 h → V C k 2 (0, 0) M1 2 [(0, .ref (ad k 93)), (1, .int (nI i))] [] := by
    intro fu
    induction fu with
    | zero => intro i h M1 hfu; exact absurd hfu (Nat.not_lt_zero _)
    | succ fu ih =>
      intro i h M1 hfu hi hz hfr G0 G1 G2
      refine v_iload_n X 1 dX8_readText_2 rfl ?_
      refine v_bipush X (v := nI 82) (by decide) dX8_readText_3 ?_
      refine v_cgeN X 21 (by omega) (by omega) dX8_readText_5 (by decide) (fun c_1 => ?_) (fun c_1 => ?_)
      · refine v_aload_n X 0 dX8_readText_21 rfl ?_
        refine v_iconst X (v := nI 0) (by decide) dX8_readText_22 ?_
        refine v_put X cls8 G0 (by omega) 21 (by decide) m_513 rfl rfl rfl rfl (Nat.le_of_ble_eq_true rfl) dX8_readText_23 (fun M_2 hM_3 => ?_)
        have F_4 : M_2 93 = RO k rf ac nx as ts tz lv cf lp ln tx.length 0 lc so := by rw [hM_3]; exact mup_s
        have F_5 : M_2 103 = IR k 90 sc := by rw [hM_3, mup_n (by omega)]; exact G1
        have F_6 : M_2 104 = IR k 82 h := by rw [hM_3, mup_n (by omega)]; exact G2
        have T : ∀ (fu : Nat) (s : Nat) (cs : List Nat) (rw : Nat → Nat) (M2 : Mem), tx.length - s < fu → (s ≤ tx.length) → (csOK cs) → (rowOK rw cs []) → (txRun tx (tx.length - s) s (cs, 0, 0, 0) = rdText tx) → (∀ i, i ≠ 93 → i ≠ 104 → M2 i = M i) → M2 103 = IR k 90 sc → M2 104 = IR k 82 rw → M2 93 = RO k rf ac nx as ts tz lv cf lp ln tx.length s lc so → V C k 2 (0, 0) M2 26 [(0, .ref (ad k 93))] [] := by
          intro fu
          induction fu with
          | zero => intro s cs rw M2 hfu; exact absurd hfu (Nat.not_lt_zero _)
          | succ fu ih4 =>
            intro s cs rw M2 hfu hs ho hrw hR4 hfr2 F_5 F_6 F_4
            refine v_aload_n X 0 dX8_readText_26 rfl ?_
            refine v_get X cls8 F_4 (by omega) 21 (by decide) m_513 rfl rfl dX8_readText_27 ?_
            refine v_aload_n X 0 dX8_readText_30 rfl ?_
            refine v_get X cls8 F_4 (by omega) 20 (by decide) m_505 rfl rfl dX8_readText_31 ?_
            refine v_cgeN X 96 (by omega) (by omega) dX8_readText_34 (by decide) (fun c_7 => ?_) (fun c_7 => ?_)
            · have hend := tx_end hR4 (show s = tx.length by omega)
              have hn1 : (rdText tx).1 = none := by rw [hend]; rfl
              have hn2 : (rdText tx).2.1 = cs := by rw [hend]
              refine v_bipush X (v := (-9)) (by decide) dX8_readText_96 ?_
              exact v_iret X rq ⟨by decide, by decide⟩ rfl dX8_readText_98 ⟨_, rfl, (by rw [hn1]; rfl), ⟨s, rw, F_4, F_6, (fun _ => by rw [hn2]; exact hrw)⟩, hfr2⟩
            · have hc24 := ho.1
              have hcs := cAt_256 hch s
              refine v_aload_n X 0 dX8_readText_37 rfl ?_
              refine v_get X cls8 F_4 (by omega) 22 (by decide) m_454 rfl rfl dX8_readText_38 ?_
              refine v_iconst X (v := nI 0) (by decide) dX8_readText_41 ?_
              refine v_iald X nI F_6 (by omega) (by omega) (by decide) dX8_readText_42 ?_
              refine v_top (show (Value.int (nI (rw 0)) : Value) = .int (nI cs.length) from congrArg _ (congrArg nI hrw.1)) ?_
              refine v_bipush X (v := nI 24) (by decide) dX8_readText_43 ?_
              refine v_cneN X 53 (by omega) (by omega) dX8_readText_45 (by decide) (fun c_8 => ?_) (fun c_8 => ?_)
              · refine v_aload_n X 0 dX8_readText_53 rfl ?_
                refine v_callV X hCl hCR (c_X8_character l k M2 rf ac nx as ts tz lv cf lp ln s lc so tx sc (by omega) F_4 F_5 hS (by omega) (by omega)) cls8 ⟨_, F_4⟩ (by omega) mo_X8_character m_512 m_517 m_518 m_519 m_465 (by decide) rfl rfl (Nat.le_of_ble_eq_true rfl) ⟨rfl, rfl⟩ ⟨by decide, by decide⟩ dX8_readText_54 (vP_in ?_)
                refine v_bipush X (v := nI 61) (by decide) dX8_readText_57 ?_
                refine v_cneN X 69 (by omega) (by omega) dX8_readText_59 (by decide) (fun c_9 => ?_) (fun c_9 => ?_)
                · have h61 := c_9
                  refine v_aload_n X 0 dX8_readText_69 rfl ?_
                  refine v_callV X hCl hCR (c_X8_readClause l k M2 rf ac nx as ts tz lv cf lp ln s lc so tx sc cs rw (rdText tx) (by omega) F_4 F_5 hS (by omega) F_6 hch hrw (by omega) (by omega) hR4 h61) cls8 ⟨_, F_4⟩ (by omega) mo_X8_readClause m_522 m_528 m_529 m_530 m_465 (by decide) rfl rfl (Nat.le_of_ble_eq_true rfl) ⟨rfl, rfl⟩ ⟨by decide, by decide⟩ dX8_readText_70 (vI_in (fun r_10 M_11 hp_12 => ?_))
                  obtain ⟨sq_13, rd_14, F_15, F_16, hle_17, hor_18, hfr_19⟩ := hp_12
                  rcases hor_18 with ⟨hrv, hsq, x, hx, hrw2, hR5⟩ | ⟨hrv, hno⟩
                  · subst hrv
                    have F_20 : M_11 103 = IR k 90 sc := by rw [hfr_19 103 (by omega) (by omega)]; exact F_5
                    refine v_istore_n X [(1, .int (bI true)), (0, .ref (ad k 93))] dX8_readText_73 (by decide) rfl ?_
                    refine v_iload_n X 0 dX8_readText_74 rfl ?_
                    refine v_ineB X 83 dX8_readText_75 (by decide) (fun _ => ?_) (fun h => absurd h (by decide))
                    refine v_aload_n X 1 dX8_readText_83 rfl ?_
                    refine v_dup X rfl dX8_readText_84 ?_
                    refine v_get X cls8 F_15 (by omega) 21 (by decide) m_513 rfl rfl dX8_readText_85 ?_
                    refine v_iconst X (v := nI 1) (by decide) dX8_readText_88 ?_
                    refine v_addN X dX8_readText_89 ?_
                    refine v_put X cls8 F_15 (by omega) 21 (by decide) m_513 rfl rfl rfl rfl (Nat.le_of_ble_eq_true rfl) dX8_readText_90 (fun M_21 hM_22 => ?_)
                    have F_23 : M_21 103 = IR k 90 sc := by rw [hM_22, mup_n (by omega)]; exact F_20
                    have F_24 : M_21 93 = RO k rf ac nx as ts tz lv cf lp ln tx.length (sq_13 + 1) lc so := by rw [hM_22]; exact mup_s
                    have F_25 : M_21 104 = IR k 82 rd_14 := by rw [hM_22, mup_n (by omega)]; exact F_16
                    refine v_goto X 26 dX8_readText_93 (by decide) ?_
                    refine v_lv [1] rfl ?_
                    exact ih4 (sq_13 + 1) (cs ++ [x]) rd_14 M_21 (by omega) (by omega) (ho.app (by omega) hx) hrw2 hR5 (fun i hi1 hi2 => by rw [hM_22, mup_n (by omega), hfr_19 i (by omega) (by omega)]; exact hfr2 i hi1 hi2) F_23 F_25 F_24
                  · subst hrv
                    have F_26 : M_11 103 = IR k 90 sc := by rw [hfr_19 103 (by omega) (by omega)]; exact F_5
                    refine v_istore_n X [(1, .int (bI false)), (0, .ref (ad k 93))] dX8_readText_73 (by decide) rfl ?_
                    refine v_iload_n X 0 dX8_readText_74 rfl ?_
                    refine v_ineB X 83 dX8_readText_75 (by decide) (fun h => absurd h (by decide)) (fun _ => ?_)
                    refine v_aload_n X 1 dX8_readText_78 rfl ?_
                    refine v_get X cls8 F_15 (by omega) 21 (by decide) m_513 rfl rfl dX8_readText_79 ?_
                    exact v_iret X rq ⟨by decide, by decide⟩ rfl dX8_readText_82 ⟨_, rfl, (by rw [hno]; rfl), ⟨sq_13, rd_14, F_15, F_16, (fun w => by rw [hno] at w; cases w)⟩, (fun i hi1 hi2 => by rw [hfr_19 i (by omega) (by omega)]; exact hfr2 i hi1 hi2)⟩
                · have h61 := c_9
                  refine v_aload_n X 0 dX8_readText_62 rfl ?_
                  refine v_callV X hCl hCR (c_X8_readParity l k M2 rf ac nx as ts tz lv cf lp ln s lc so tx sc cs rw (rdText tx) (by omega) F_4 F_5 hS (by omega) F_6 hch hrw (by omega) (by omega) hR4 h61) cls8 ⟨_, F_4⟩ (by omega) mo_X8_readParity m_514 m_525 m_526 m_527 m_465 (by decide) rfl rfl (Nat.le_of_ble_eq_true rfl) ⟨rfl, rfl⟩ ⟨by decide, by decide⟩ dX8_readText_63 (vI_in (fun r_27 M_28 hp_29 => ?_))
                  obtain ⟨sq_30, rd_31, F_32, F_33, hle_34, hor_35, hfr_36⟩ := hp_29
                  rcases hor_35 with ⟨hrv, hsq, x, hx, hrw2, hR5⟩ | ⟨hrv, hno⟩
                  · subst hrv
                    have F_37 : M_28 103 = IR k 90 sc := by rw [hfr_36 103 (by omega) (by omega)]; exact F_5
                    refine v_goto X 73 dX8_readText_66 (by decide) ?_
                    refine v_istore_n X [(1, .int (bI true)), (0, .ref (ad k 93))] dX8_readText_73 (by decide) rfl ?_
                    refine v_iload_n X 0 dX8_readText_74 rfl ?_
                    refine v_ineB X 83 dX8_readText_75 (by decide) (fun _ => ?_) (fun h => absurd h (by decide))
                    refine v_aload_n X 1 dX8_readText_83 rfl ?_
                    refine v_dup X rfl dX8_readText_84 ?_
                    refine v_get X cls8 F_32 (by omega) 21 (by decide) m_513 rfl rfl dX8_readText_85 ?_
                    refine v_iconst X (v := nI 1) (by decide) dX8_readText_88 ?_
                    refine v_addN X dX8_readText_89 ?_
                    refine v_put X cls8 F_32 (by omega) 21 (by decide) m_513 rfl rfl rfl rfl (Nat.le_of_ble_eq_true rfl) dX8_readText_90 (fun M_38 hM_39 => ?_)
                    have F_40 : M_38 103 = IR k 90 sc := by rw [hM_39, mup_n (by omega)]; exact F_37
                    have F_41 : M_38 93 = RO k rf ac nx as ts tz lv cf lp ln tx.length (sq_30 + 1) lc so := by rw [hM_39]; exact mup_s
                    have F_42 : M_38 104 = IR k 82 rd_31 := by rw [hM_39, mup_n (by omega)]; exact F_33
                    refine v_goto X 26 dX8_readText_93 (by decide) ?_
                    refine v_lv [1] rfl ?_
                    exact ih4 (sq_30 + 1) (cs ++ [x]) rd_31 M_38 (by omega) (by omega) (ho.app (by omega) hx) hrw2 hR5 (fun i hi1 hi2 => by rw [hM_39, mup_n (by omega), hfr_36 i (by omega) (by omega)]; exact hfr2 i hi1 hi2) F_40 F_42 F_41
                  · subst hrv
                    have F_43 : M_28 103 = IR k 90 sc := by rw [hfr_36 103 (by omega) (by omega)]; exact F_5
                    refine v_goto X 73 dX8_readText_66 (by decide) ?_
                    refine v_istore_n X [(1, .int (bI false)), (0, .ref (ad k 93))] dX8_readText_73 (by decide) rfl ?_
                    refine v_iload_n X 0 dX8_readText_74 rfl ?_
                    refine v_ineB X 83 dX8_readText_75 (by decide) (fun h => absurd h (by decide)) (fun _ => ?_)
                    refine v_aload_n X 1 dX8_readText_78 rfl ?_
                    refine v_get X cls8 F_32 (by omega) 21 (by decide) m_513 rfl rfl dX8_readText_79 ?_
                    exact v_iret X rq ⟨by decide, by decide⟩ rfl dX8_readText_82 ⟨_, rfl, (by rw [hno]; rfl), ⟨sq_30, rd_31, F_32, F_33, (fun w => by rw [hno] at w; cases w)⟩, (fun i hi1 hi2 => by rw [hfr_36 i (by omega) (by omega)]; exact hfr2 i hi1 hi2)⟩
              · have hno := rd_full hR4 (by omega) (by omega)
                refine v_aload_n X 0 dX8_readText_48 rfl ?_
                refine v_get X cls8 F_4 (by omega) 21 (by decide) m_513 rfl rfl dX8_readText_49 ?_
                exact v_iret X rq ⟨by decide, by decide⟩ rfl dX8_readText_52 ⟨_, rfl, (by rw [hno]; rfl), ⟨s, rw, F_4, F_6, (fun w => by rw [hno] at w; cases w)⟩, hfr2⟩
        refine v_lv [0] rfl ?_
        exact T 91 0 [] h M_2 (by omega) (by omega) ⟨by decide, fun x hx => by cases hx⟩ (row_zero (fun q hq => hz q (by omega))) (rdText_0 tx) (fun i hi1 hi2 => by rw [hM_3, mup_n (by omega)]; exact hfr i hi1 hi2) F_5 F_6 F_4
      · refine v_aload_n X 0 dX8_readText_8 rfl ?_
        refine v_get X cls8 G0 (by omega) 22 (by decide) m_454 rfl rfl dX8_readText_9 ?_
        refine v_iload_n X 1 dX8_readText_12 rfl ?_
        refine v_iconst X (v := nI 0) (by decide) dX8_readText_13 ?_
        refine v_iast X nI 0 G2 (by omega) (by omega) (by decide) dX8_readText_14 (fun M_44 hM_45 => ?_)
        have F_47 : M_44 93 = RO k rf ac nx as ts tz lv cf lp ln tx.length sp lc so := by rw [hM_45, mup_n (by omega)]; exact G0
        have F_48 : M_44 103 = IR k 90 sc := by rw [hM_45, mup_n (by omega)]; exact G1
        have F_49 : M_44 104 = IR k 82 (va_up h i 0) := by rw [hM_45]; exact mup_s
        refine v_iinc X (v := nI (i + 1)) 1 [(1, .int (nI (i + 1))), (0, .ref (ad k 93))] dX8_readText_15 rfl (nI_1 _) (by decide) rfl ?_
        refine v_goto X 2 dX8_readText_18 (by decide) ?_
        refine v_lv [1, 0] rfl ?_
        exact ih (i + 1) (va_up h i 0) M_44 (by omega) (by omega) (zero_up hz) (fun i hi1 hi2 => by rw [hM_45, mup_n (by omega)]; exact hfr i hi1 hi2) F_47 F_48 F_49
  refine v_iconst X (v := nI 0) (by decide) dX8_readText_0 ?_
  refine v_istore_n X [(1, .int (nI 0)), (0, .ref (ad k 93))] dX8_readText_1 (by decide) rfl ?_
  refine v_lv [1, 0] rfl ?_
  exact Z 83 0 rd M (by omega) (by omega) (fun q hq => absurd hq (Nat.not_lt_zero _)) (fun _ _ _ => rfl) F0 F1 F2
set_option maxHeartbeats 4000000 in
set_option maxRecDepth 100000 in
theorem c_X8_errorPosition (l : Launch) (k : KX) (M : Mem) (w : Nat) (cs ds : List Nat) (mem : List SD) (sl : Nat → Option SD) (tx : List Nat) (hRef : RefAt k M w cs ds mem sl tx) : CM l yX8_errorPosition cX8_errorPosition 1 ((some .int)) { frames := 3, cells := 0, slots := 0, locals := 71 } k [.ref (ad k 93)] M (pI (fun r M' => (r = oI (rdText tx).1 ∧ RefAt k M' 0 cs ds mem sl tx) ∧ FrR M M')) := by
  refine CM.of (by decide) (Nat.le_of_ble_eq_true rfl) (fun C X hCl hCR rq => ?_)
  show V C k 1 (0, 0) M 0 [(0, .ref (ad k 93))] []
  obtain ⟨hN, hV, htx9, htxc, nx, lp, ln, sp, lc, so, nw, tl, di, kp, ik, sc, rd, li, F93, F94, F95, F96, F97, F98, hT, F103, F104, F105, hR, hD, hK, hS⟩ := id hRef
  have ho2 : csOK cs := hV.1.1
  have hds : ∀ d ∈ ds, d < 16 := hV.1.2.1
  have hlc : cs.length ≤ 24 := ho2.1
  have hld : ds.length ≤ 8 := hV.1.2.2
  have hok := cAt_ok ho2
  have hr := hR.c
  have hTk := hT.2.1
  have hTA := hTk.A
  have hTT := hTk.T
  have hTl := hTk.le
  have htL : tL (build cs ds).1 = ds.length := hV.2.1
  have hcf : ∀ n, (build cs ds).2 = some n → n < 24 := fun n hn => by have := (build_ok hlc hds).2 n hn; omega
  refine v_aload_n X 0 dX8_errorPosition_0 rfl ?_
  refine v_iconst X (v := nI 0) (by decide) dX8_errorPosition_1 ?_
  refine v_put X cls8 F93 (by omega) 0 (by decide) m_457 rfl rfl rfl rfl (Nat.le_of_ble_eq_true rfl) dX8_errorPosition_2 (fun M_1 hM_2 => ?_)
  have F_3 : M_1 93 = RO k 0 mem.length nx (tA ((build cs ds).1)) (tT ((build cs ds).1)) (((build cs ds).1).length) ((tL (build cs ds).1)) ((build cs ds).2) lp ln tx.length sp lc so := by rw [hM_2]; exact mup_s
  have F_4 : M_1 94 = IR k 82 nw := by rw [hM_2, mup_n (by omega)]; exact F94
  have F_5 : M_1 95 = IR k 82 tl := by rw [hM_2, mup_n (by omega)]; exact F95
  have F_6 : M_1 96 = IR k 1148 di := by rw [hM_2, mup_n (by omega)]; exact F96
  have F_7 : M_1 97 = IR k 164 kp := by rw [hM_2, mup_n (by omega)]; exact F97
  have F_8 : M_1 98 = .inl (kZ k, 2, .inl (fun zq => bI (ik zq))) := by rw [hM_2, mup_n (by omega)]; exact F98
  have F_9 : M_1 103 = IR k 90 sc := by rw [hM_2, mup_n (by omega)]; exact F103
  have F_10 : M_1 104 = IR k 82 rd := by rw [hM_2, mup_n (by omega)]; exact F104
  have F_11 : M_1 105 = IR k 24 li := by rw [hM_2, mup_n (by omega)]; exact F105
  have P_12 : RtAt k M_1 (build cs ds).1 := hT.fr (fun i h1 h2 => by rw [hM_2, mup_n (by omega)])
  refine v_aload_n X 0 dX8_errorPosition_5 rfl ?_
  refine v_callV X hCl hCR (c_X8_readText l k M_1 0 mem.length nx (tA ((build cs ds).1)) (tT ((build cs ds).1)) (((build cs ds).1).length) ((tL (build cs ds).1)) ((build cs ds).2) lp ln sp lc so tx sc rd (by omega) F_3 F_9 hS htx9 F_10 htxc) cls8 ⟨_, F_3⟩ (by omega) mo_X8_readText m_531 m_532 m_533 m_534 m_465 (by decide) rfl rfl (Nat.le_of_ble_eq_true rfl) ⟨rfl, rfl⟩ ⟨by decide, by decide⟩ dX8_errorPosition_6 (vI_in (fun r_13 M_14 hp_15 => ?_))
  obtain ⟨he_16, ⟨sq_17, rd_18, F_19, F_20, hrdr⟩, hfr_21⟩ := hp_15
  subst he_16
  have F_22 : M_14 94 = IR k 82 nw := by rw [hfr_21 94 (by omega) (by omega)]; exact F_4
  have F_23 : M_14 95 = IR k 82 tl := by rw [hfr_21 95 (by omega) (by omega)]; exact F_5
  have F_24 : M_14 96 = IR k 1148 di := by rw [hfr_21 96 (by omega) (by omega)]; exact F_6
  have F_25 : M_14 97 = IR k 164 kp := by rw [hfr_21 97 (by omega) (by omega)]; exact F_7
  have F_26 : M_14 98 = .inl (kZ k, 2, .inl (fun zq => bI (ik zq))) := by rw [hfr_21 98 (by omega) (by omega)]; exact F_8
  have F_27 : M_14 103 = IR k 90 sc := by rw [hfr_21 103 (by omega) (by omega)]; exact F_9
  have F_28 : M_14 105 = IR k 24 li := by rw [hfr_21 105 (by omega) (by omega)]; exact F_11
  have P_29 : RtAt k M_14 (build cs ds).1 := P_12.fr (fun i h1 h2 => hfr_21 i (by omega) (by omega))
  exact v_iret X rq ⟨by decide, by decide⟩ rfl dX8_errorPosition_9 ⟨_, rfl, ⟨rfl, ⟨hN, hV, htx9, htxc, nx, lp, ln, sq_17, lc, so, nw, tl, di, kp, ik, sc, rd_18, li, F_19, F_22, F_23, F_24, F_25, F_26, P_29, F_27, F_20, F_28, hR, hD, hK, hS⟩⟩, (fun i hi => by rw [hfr_21 i (by omega) (by omega), hM_2, mup_n (by omega)])⟩
set_option maxHeartbeats 4000000 in
set_option maxRecDepth 100000 in
theorem c_X8_load (l : Launch) (k : KX) (M : Mem) (w : Nat) (cs ds : List Nat) (mem : List SD) (sl : Nat → Option SD) (tx : List Nat) (hRef : RefAt k M w cs ds mem sl tx) : CM l yX8_load cX8_load 1 ((some .int)) { frames := 5, cells := 0, slots := 0, locals := 117 } k [.ref (ad k 93)] M (pI (fun r M' => (((rdText tx).1 ≠ none ∧ RefAt k M' 1 cs ds mem sl tx) ∨ ((rdText tx).1 = none ∧ r = nI (rdText tx).2.1.length ∧ RefAt k M' 0 ((rdText tx).2.1) ([]) ([]) (fun _ => none) tx)) ∧ FrR M M')) := by
  refine CM.of (by decide) (Nat.le_of_ble_eq_true rfl) (fun C X hCl hCR rq => ?_)
  show V C k 1 (0, 0) M 0 [(0, .ref (ad k 93))] []
  obtain ⟨hN, hV, htx9, htxc, nx, lp, ln, sp, lc, so, nw, tl, di, kp, ik, sc, rd, li, F93, F94, F95, F96, F97, F98, hT, F103, F104, F105, hR, hD, hK, hS⟩ := id hRef
  have ho2 : csOK cs := hV.1.1
  have hds : ∀ d ∈ ds, d < 16 := hV.1.2.1
  have hlc : cs.length ≤ 24 := ho2.1
  have hld : ds.length ≤ 8 := hV.1.2.2
  have hok := cAt_ok ho2
  have hr := hR.c
  have hTk := hT.2.1
  have hTA := hTk.A
  have hTT := hTk.T
  have hTl := hTk.le
  have htL : tL (build cs ds).1 = ds.length := hV.2.1
  have hcf : ∀ n, (build cs ds).2 = some n → n < 24 := fun n hn => by have := (build_ok hlc hds).2 n hn; omega
  refine v_aload_n X 0 dX8_load_0 rfl ?_
  refine v_aload_n X 0 dX8_load_1 rfl ?_
  refine v_callV X hCl hCR (c_X8_readText l k M w mem.length nx (tA ((build cs ds).1)) (tT ((build cs ds).1)) (((build cs ds).1).length) ((tL (build cs ds).1)) ((build cs ds).2) lp ln sp lc so tx sc rd (by omega) F93 F103 hS htx9 F104 htxc) cls8 ⟨_, F93⟩ (by omega) mo_X8_readText m_531 m_532 m_533 m_534 m_465 (by decide) rfl rfl (Nat.le_of_ble_eq_true rfl) ⟨rfl, rfl⟩ ⟨by decide, by decide⟩ dX8_load_2 (vI_in (fun r_1 M_2 hp_3 => ?_))
  obtain ⟨he_4, ⟨sq_5, rd_6, F_7, F_8, hrdr⟩, hfr_9⟩ := hp_3
  subst he_4
  have F_10 : M_2 94 = IR k 82 nw := by rw [hfr_9 94 (by omega) (by omega)]; exact F94
  have F_11 : M_2 95 = IR k 82 tl := by rw [hfr_9 95 (by omega) (by omega)]; exact F95
  have F_12 : M_2 96 = IR k 1148 di := by rw [hfr_9 96 (by omega) (by omega)]; exact F96
  have F_13 : M_2 97 = IR k 164 kp := by rw [hfr_9 97 (by omega) (by omega)]; exact F97
  have F_14 : M_2 98 = .inl (kZ k, 2, .inl (fun zq => bI (ik zq))) := by rw [hfr_9 98 (by omega) (by omega)]; exact F98
  have F_15 : M_2 103 = IR k 90 sc := by rw [hfr_9 103 (by omega) (by omega)]; exact F103
  have F_16 : M_2 105 = IR k 24 li := by rw [hfr_9 105 (by omega) (by omega)]; exact F105
  have P_17 : RtAt k M_2 (build cs ds).1 := hT.fr (fun i h1 h2 => hfr_9 i (by omega) (by omega))
  refine v_bipush X (v := (-9)) (by decide) dX8_load_5 ?_
  refine v_icmp_ne X 14 dX8_load_7 (by decide) (fun c_18 => ?_) (fun c_18 => ?_)
  · have hrd : (rdText tx).1 ≠ none := fun w => c_18 (by rw [w]; rfl)
    refine v_iconst X (v := nI 1) (by decide) dX8_load_14 ?_
    refine v_callV X hCl hCR (c_X8_refused l k M_2 w mem.length nx (tA ((build cs ds).1)) (tT ((build cs ds).1)) (((build cs ds).1).length) ((tL (build cs ds).1)) ((build cs ds).2) lp ln tx.length sq_5 lc so 1 (by omega) F_7 (by omega)) cls8 ⟨_, F_7⟩ (by omega) mo_X8_refused m_458 m_508 m_509 m_510 m_465 (by decide) rfl rfl (Nat.le_of_ble_eq_true rfl) ⟨rfl, rfl⟩ ⟨by decide, by decide⟩ dX8_load_15 (vI_in (fun r_23 M_19 hp_20 => ?_))
    obtain ⟨he_24, F_22, hfr_21⟩ := hp_20
    subst he_24
    have F_25 : M_19 94 = IR k 82 nw := by rw [hfr_21 94 (by omega)]; exact F_10
    have F_26 : M_19 95 = IR k 82 tl := by rw [hfr_21 95 (by omega)]; exact F_11
    have F_27 : M_19 96 = IR k 1148 di := by rw [hfr_21 96 (by omega)]; exact F_12
    have F_28 : M_19 97 = IR k 164 kp := by rw [hfr_21 97 (by omega)]; exact F_13
    have F_29 : M_19 98 = .inl (kZ k, 2, .inl (fun zq => bI (ik zq))) := by rw [hfr_21 98 (by omega)]; exact F_14
    have F_30 : M_19 103 = IR k 90 sc := by rw [hfr_21 103 (by omega)]; exact F_15
    have F_31 : M_19 105 = IR k 24 li := by rw [hfr_21 105 (by omega)]; exact F_16
    have F_32 : M_19 104 = IR k 82 rd_6 := by rw [hfr_21 104 (by omega)]; exact F_8
    have P_33 : RtAt k M_19 (build cs ds).1 := P_17.fr (fun i h1 h2 => hfr_21 i (by omega))
    refine v_top (show (Value.int (bI (decide (0 < 1))) : Value) = .int (bI true) from congrArg _ (congrArg bI (by decide))) ?_
    refine v_ieqB X 23 dX8_load_18 (by decide) (fun h => absurd h (by decide)) (fun _ => ?_)
    refine v_iconst X (v := nI 0) (by decide) dX8_load_21 ?_
    exact v_iret X rq ⟨by decide, by decide⟩ rfl dX8_load_22 ⟨_, rfl, Or.inl ⟨hrd, ⟨hN, hV, htx9, htxc, nx, lp, ln, sq_5, lc, so, nw, tl, di, kp, ik, sc, rd_6, li, F_22, F_25, F_26, F_27, F_28, F_29, P_33, F_30, F_32, F_31, hR, hD, hK, hS⟩⟩, (fun i hi => by rw [hfr_21 i (by omega), hfr_9 i (by omega) (by omega)])⟩
  · have hrd : (rdText tx).1 = none := (oI_eq (fun n hn => by have := rd_le hn; omega)).mp c_18
    have hrr := hrdr hrd
    have hco := rdText_ok htxc
    refine v_iconst X (v := nI 0) (by decide) dX8_load_10 ?_
    refine v_goto X 15 dX8_load_11 (by decide) ?_
    refine v_callV X hCl hCR (c_X8_refused l k M_2 w mem.length nx (tA ((build cs ds).1)) (tT ((build cs ds).1)) (((build cs ds).1).length) ((tL (build cs ds).1)) ((build cs ds).2) lp ln tx.length sq_5 lc so 0 (by omega) F_7 (by omega)) cls8 ⟨_, F_7⟩ (by omega) mo_X8_refused m_458 m_508 m_509 m_510 m_465 (by decide) rfl rfl (Nat.le_of_ble_eq_true rfl) ⟨rfl, rfl⟩ ⟨by decide, by decide⟩ dX8_load_15 (vI_in (fun r_38 M_34 hp_35 => ?_))
    obtain ⟨he_39, F_37, hfr_36⟩ := hp_35
    subst he_39
    have F_40 : M_34 94 = IR k 82 nw := by rw [hfr_36 94 (by omega)]; exact F_10
    have F_41 : M_34 95 = IR k 82 tl := by rw [hfr_36 95 (by omega)]; exact F_11
    have F_42 : M_34 96 = IR k 1148 di := by rw [hfr_36 96 (by omega)]; exact F_12
    have F_43 : M_34 97 = IR k 164 kp := by rw [hfr_36 97 (by omega)]; exact F_13
    have F_44 : M_34 98 = .inl (kZ k, 2, .inl (fun zq => bI (ik zq))) := by rw [hfr_36 98 (by omega)]; exact F_14
    have F_45 : M_34 103 = IR k 90 sc := by rw [hfr_36 103 (by omega)]; exact F_15
    have F_46 : M_34 105 = IR k 24 li := by rw [hfr_36 105 (by omega)]; exact F_16
    have F_47 : M_34 104 = IR k 82 rd_6 := by rw [hfr_36 104 (by omega)]; exact F_8
    have P_48 : RtAt k M_34 (build cs ds).1 := P_17.fr (fun i h1 h2 => hfr_36 i (by omega))
    refine v_top (show (Value.int (bI (decide (0 < 0))) : Value) = .int (bI false) from congrArg _ (congrArg bI (by decide))) ?_
    refine v_ieqB X 23 dX8_load_18 (by decide) (fun _ => ?_) (fun h => absurd h (by decide))
    refine v_aload_n X 0 dX8_load_23 rfl ?_
    refine v_get X cls8 F_37 (by omega) 22 (by decide) m_454 rfl rfl dX8_load_24 ?_
    refine v_aload_n X 0 dX8_load_27 rfl ?_
    refine v_get X cls8 F_37 (by omega) 1 (by decide) m_443 rfl rfl dX8_load_28 ?_
    refine v_callS X hCl hCR (c_X8_copy l k M_34 104 94 rd_6 nw (by omega) (by omega) (by omega) F_47 F_40) mo_X8_copy m_466 m_497 m_498 m_465 (by decide) rfl rfl (Nat.le_of_ble_eq_true rfl) ⟨rfl, rfl⟩ ⟨by decide, by decide⟩ dX8_load_31 (vV_in (fun M_49 hp_50 => ?_))
    obtain ⟨⟨g_52, F_53, hcp_54⟩, hfr_51⟩ := hp_50
    have F_55 : M_49 95 = IR k 82 tl := by rw [hfr_51 95 (by omega)]; exact F_41
    have F_56 : M_49 96 = IR k 1148 di := by rw [hfr_51 96 (by omega)]; exact F_42
    have F_57 : M_49 97 = IR k 164 kp := by rw [hfr_51 97 (by omega)]; exact F_43
    have F_58 : M_49 98 = .inl (kZ k, 2, .inl (fun zq => bI (ik zq))) := by rw [hfr_51 98 (by omega)]; exact F_44
    have F_59 : M_49 103 = IR k 90 sc := by rw [hfr_51 103 (by omega)]; exact F_45
    have F_60 : M_49 105 = IR k 24 li := by rw [hfr_51 105 (by omega)]; exact F_46
    have F_61 : M_49 104 = IR k 82 rd_6 := by rw [hfr_51 104 (by omega)]; exact F_47
    have F_62 : M_49 93 = RO k 0 mem.length nx (tA ((build cs ds).1)) (tT ((build cs ds).1)) (((build cs ds).1).length) ((tL (build cs ds).1)) ((build cs ds).2) lp ln tx.length sq_5 lc so := by rw [hfr_51 93 (by omega)]; exact F_37
    have P_63 : RtAt k M_49 (build cs ds).1 := P_48.fr (fun i h1 h2 => hfr_51 i (by omega))
    have hcp := hcp_54
    refine v_aload_n X 0 dX8_load_34 rfl ?_
    refine v_aload_n X 0 dX8_load_35 rfl ?_
    refine v_get X cls8 F_62 (by omega) 1 (by decide) m_443 rfl rfl dX8_load_36 ?_
    refine v_callV X hCl hCR (c_X8_build l k M_49 0 mem.length nx (tA ((build cs ds).1)) (tT ((build cs ds).1)) (((build cs ds).1).length) ((tL (build cs ds).1)) ((build cs ds).2) lp ln tx.length sq_5 lc so ((build cs ds).1) 94 g_52 (rdText tx).2.1 [] (by omega) F_62 P_63 (by omega) F_53 (hrr.cong hco.1 (by decide) hcp) hco (by intro d hd; cases hd) (by decide)) cls8 ⟨_, F_62⟩ (by omega) mo_X8_build m_494 m_499 m_500 m_501 m_465 (by decide) rfl rfl (Nat.le_of_ble_eq_true rfl) ⟨rfl, rfl⟩ ⟨by decide, by decide⟩ dX8_load_39 (vV_in (fun M_64 hp_65 => ?_))
    obtain ⟨F_67, T_68, ⟨g_69, F_70, hrow_71⟩, hfr_66⟩ := hp_65
    have F_72 : M_64 95 = IR k 82 tl := by rw [hfr_66 95 (by omega) (by omega) (by omega)]; exact F_55
    have F_73 : M_64 96 = IR k 1148 di := by rw [hfr_66 96 (by omega) (by omega) (by omega)]; exact F_56
    have F_74 : M_64 97 = IR k 164 kp := by rw [hfr_66 97 (by omega) (by omega) (by omega)]; exact F_57
    have F_75 : M_64 98 = .inl (kZ k, 2, .inl (fun zq => bI (ik zq))) := by rw [hfr_66 98 (by omega) (by omega) (by omega)]; exact F_58
    have F_76 : M_64 103 = IR k 90 sc := by rw [hfr_66 103 (by omega) (by omega) (by omega)]; exact F_59
    have F_77 : M_64 105 = IR k 24 li := by rw [hfr_66 105 (by omega) (by omega) (by omega)]; exact F_60
    have F_78 : M_64 104 = IR k 82 rd_6 := by rw [hfr_66 104 (by omega) (by omega) (by omega)]; exact F_61
    refine v_aload_n X 0 dX8_load_42 rfl ?_
    refine v_iconst X (v := nI 0) (by decide) dX8_load_43 ?_
    refine v_put X cls8 F_67 (by omega) 4 (by decide) m_496 rfl rfl rfl rfl (Nat.le_of_ble_eq_true rfl) dX8_load_44 (fun M_79 hM_80 => ?_)
    have F_81 : M_79 95 = IR k 82 tl := by rw [hM_80, mup_n (by omega)]; exact F_72
    have F_82 : M_79 96 = IR k 1148 di := by rw [hM_80, mup_n (by omega)]; exact F_73
    have F_83 : M_79 97 = IR k 164 kp := by rw [hM_80, mup_n (by omega)]; exact F_74
    have F_84 : M_79 98 = .inl (kZ k, 2, .inl (fun zq => bI (ik zq))) := by rw [hM_80, mup_n (by omega)]; exact F_75
    have F_85 : M_79 103 = IR k 90 sc := by rw [hM_80, mup_n (by omega)]; exact F_76
    have F_86 : M_79 105 = IR k 24 li := by rw [hM_80, mup_n (by omega)]; exact F_77
    have F_87 : M_79 104 = IR k 82 rd_6 := by rw [hM_80, mup_n (by omega)]; exact F_78
    have F_88 : M_79 93 = RO k 0 0 nx (tA ((build (rdText tx).2.1 []).1)) (tT ((build (rdText tx).2.1 []).1)) (((build (rdText tx).2.1 []).1).length) ((tL (build (rdText tx).2.1 []).1)) ((build (rdText tx).2.1 []).2) lp ln tx.length sq_5 lc so := by rw [hM_80]; exact mup_s
    have F_89 : M_79 94 = IR k 82 g_69 := by rw [hM_80, mup_n (by omega)]; exact F_70
    have P_90 : RtAt k M_79 (build (rdText tx).2.1 []).1 := T_68.fr (fun i h1 h2 => by rw [hM_80, mup_n (by omega)])
    have F_91 : M_79 93 = RO k 0 (([] : List SD).length) nx (tA ((build (rdText tx).2.1 []).1)) (tT ((build (rdText tx).2.1 []).1)) (((build (rdText tx).2.1 []).1).length) ((tL (build (rdText tx).2.1 []).1)) ((build (rdText tx).2.1 []).2) lp ln tx.length sq_5 lc so := F_88
    refine v_aload_n X 0 dX8_load_47 rfl ?_
    refine v_get X cls8 F_91 (by omega) 7 (by decide) m_447 rfl rfl dX8_load_48 ?_
    refine v_iconst X (v := nI 0) (by decide) dX8_load_51 ?_
    refine v_iconst X (v := bI false) (by decide) dX8_load_52 ?_
    refine v_zast X false F_84 (by omega) (by omega) (by decide) dX8_load_53 (fun M_92 hM_93 => ?_)
    have F_94 : M_92 95 = IR k 82 tl := by rw [hM_93, mup_n (by omega)]; exact F_81
    have F_95 : M_92 96 = IR k 1148 di := by rw [hM_93, mup_n (by omega)]; exact F_82
    have F_96 : M_92 97 = IR k 164 kp := by rw [hM_93, mup_n (by omega)]; exact F_83
    have F_97 : M_92 98 = .inl (kZ k, 2, .inl (fun zq => bI (va_up ik 0 false zq))) := by rw [hM_93]; exact mup_s
    have F_98 : M_92 103 = IR k 90 sc := by rw [hM_93, mup_n (by omega)]; exact F_85
    have F_99 : M_92 105 = IR k 24 li := by rw [hM_93, mup_n (by omega)]; exact F_86
    have F_100 : M_92 104 = IR k 82 rd_6 := by rw [hM_93, mup_n (by omega)]; exact F_87
    have F_101 : M_92 93 = RO k 0 (([] : List SD).length) nx (tA ((build (rdText tx).2.1 []).1)) (tT ((build (rdText tx).2.1 []).1)) (((build (rdText tx).2.1 []).1).length) ((tL (build (rdText tx).2.1 []).1)) ((build (rdText tx).2.1 []).2) lp ln tx.length sq_5 lc so := by rw [hM_93, mup_n (by omega)]; exact F_91
    have F_102 : M_92 94 = IR k 82 g_69 := by rw [hM_93, mup_n (by omega)]; exact F_89
    have P_103 : RtAt k M_92 (build (rdText tx).2.1 []).1 := P_90.fr (fun i h1 h2 => by rw [hM_93, mup_n (by omega)])
    refine v_aload_n X 0 dX8_load_54 rfl ?_
    refine v_get X cls8 F_101 (by omega) 7 (by decide) m_447 rfl rfl dX8_load_55 ?_
    refine v_iconst X (v := nI 1) (by decide) dX8_load_58 ?_
    refine v_iconst X (v := bI false) (by decide) dX8_load_59 ?_
    refine v_zast X false F_97 (by omega) (by omega) (by decide) dX8_load_60 (fun M_104 hM_105 => ?_)
    have F_106 : M_104 95 = IR k 82 tl := by rw [hM_105, mup_n (by omega)]; exact F_94
    have F_107 : M_104 96 = IR k 1148 di := by rw [hM_105, mup_n (by omega)]; exact F_95
    have F_108 : M_104 97 = IR k 164 kp := by rw [hM_105, mup_n (by omega)]; exact F_96
    have F_109 : M_104 98 = .inl (kZ k, 2, .inl (fun zq => bI (va_up (va_up ik 0 false) 1 false zq))) := by rw [hM_105]; exact mup_s
    have F_110 : M_104 103 = IR k 90 sc := by rw [hM_105, mup_n (by omega)]; exact F_98
    have F_111 : M_104 105 = IR k 24 li := by rw [hM_105, mup_n (by omega)]; exact F_99
    have F_112 : M_104 104 = IR k 82 rd_6 := by rw [hM_105, mup_n (by omega)]; exact F_100
    have F_113 : M_104 93 = RO k 0 (([] : List SD).length) nx (tA ((build (rdText tx).2.1 []).1)) (tT ((build (rdText tx).2.1 []).1)) (((build (rdText tx).2.1 []).1).length) ((tL (build (rdText tx).2.1 []).1)) ((build (rdText tx).2.1 []).2) lp ln tx.length sq_5 lc so := by rw [hM_105, mup_n (by omega)]; exact F_101
    have F_114 : M_104 94 = IR k 82 g_69 := by rw [hM_105, mup_n (by omega)]; exact F_102
    have P_115 : RtAt k M_104 (build (rdText tx).2.1 []).1 := P_103.fr (fun i h1 h2 => by rw [hM_105, mup_n (by omega)])
    refine v_aload_n X 0 dX8_load_61 rfl ?_
    refine v_get X cls8 F_113 (by omega) 1 (by decide) m_443 rfl rfl dX8_load_62 ?_
    refine v_iconst X (v := nI 0) (by decide) dX8_load_65 ?_
    refine v_iald X nI F_114 (by omega) (by omega) (by decide) dX8_load_66 ?_
    have hs0 : sNew (rdText tx).2.1 [] = [] := by simp [sNew]
    have hfin : RefAt k M_104 0 (rdText tx).2.1 (sNew (rdText tx).2.1 []) [] (fun _ => none) tx := ⟨hN, (hV.new hco (by intro d hd; cases hd) (by decide) (fun y hy => by cases hy) (fun j s h => by cases h)), htx9, htxc, nx, lp, ln, sq_5, lc, so, g_69, tl, di, kp, va_up (va_up ik 0 false) 1 false, sc, rd_6, li, (by rw [(sNew_spec (rdText tx).2.1 []).1]; exact F_113), F_114, F_106, F_107, F_108, F_109, (by rw [(sNew_spec (rdText tx).2.1 []).1]; exact P_115), F_110, F_112, F_111, hrow_71, (DiP.nil hD.1), (fun j hj => ⟨by rcases (show j = 0 ∨ j = 1 by omega) with e | e; (rw [e, up_n _ _ (by omega), up_s]; rfl); (rw [e, up_s]; rfl), fun s h => by cases h⟩), hS⟩
    rw [hs0] at hfin
    exact v_iret X rq ⟨by decide, by decide⟩ rfl dX8_load_67 ⟨_, rfl, Or.inr ⟨hrd, congrArg nI hrow_71.1, hfin⟩, (fun i hi => by rw [hM_105, mup_n (by omega), hM_93, mup_n (by omega), hM_80, mup_n (by omega), hfr_66 i (by omega) (by omega) (by omega), hfr_51 i (by omega), hfr_36 i (by omega), hfr_9 i (by omega) (by omega)])⟩
