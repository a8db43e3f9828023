theorem bd_row {f g : Nat → Nat} {cs ds : List Nat} {d : Nat} (h : rowOK f cs ds) (hc : cs.length ≤ 24) (hd : ds.length ≤ 8) (ht : tL (build cs ds).1 = d) (hdl : d ≤ ds.length) (h73 : g 73 = d) (he : ∀ x, x < 74 + d → x ≠ 73 → g x = f x) : rowOK g cs (sNew cs ds) := by
  obtain ⟨h0, h1, h2, h3⟩ := h
  have hl : (sNew cs ds).length = d := by unfold sNew; rw [List.length_take, ht]; omega
  refine ⟨by rw [he 0 (by omega) (by omega)]; exact h0, by rw [hl]; exact h73, fun i hi => ?_, fun j hj => ?_⟩
  · obtain ⟨a, b, c, e⟩ := h2 i hi
    exact ⟨by rw [he _ (by omega) (by omega)]; exact a, by rw [he _ (by omega) (by omega)]; exact b, by rw [he _ (by omega) (by omega)]; exact c, e⟩
  · rw [hl] at hj
    rw [he _ (by omega) (by omega), h3 j (by omega)]
    unfold sNew; rw [ht, cAt_take hj]
set_option maxHeartbeats 4000000 in
set_option maxRecDepth 100000 in
theorem c_X8_build (l : Launch) (k : KX) (M : Mem) (rf ac nx as ts tz lv : Nat) (cf : Option Nat) (lp ln sz sp lc : Nat) (so : Bool) (tr0 : List Ent) (b : Nat) (f : Nat → Nat) (cs ds : List Nat) (hN : 107 ≤ kN k) (F0 : M 93 = RO k rf ac nx as ts tz lv cf lp ln sz sp lc so) (hT : RtAt k M tr0) (hb : b = 94 ∨ b = 95) (F : M b = IR k 82 f) (hR : rowOK f cs ds) (ho2 : csOK cs) (hds : ∀ d ∈ ds, d < 16) (hld : ds.length ≤ 8) : CM l yX8_build cX8_build 5 none { frames := 4, cells := 0, slots := 0, locals := 93 } k [.ref (ad k 93), .ref (ad k b)] M (pV (fun M' => M' 93 = RO k rf ac nx (tA ((build cs ds).1)) (tT ((build cs ds).1)) (((build cs ds).1).length) ((tL (build cs ds).1)) ((build cs ds).2) lp ln sz sp lc so ∧ RtAt k M' (build cs ds).1 ∧ (∃ g, M' b = IR k 82 g ∧ rowOK g cs (sNew cs ds)) ∧ FrB b M M')) := by
  refine CM.of (by decide) (Nat.le_of_ble_eq_true rfl) (fun C X hCl hCR rq => ?_)
  show V C k 5 (0, 0) M 0 [(0, .ref (ad k 93)), (1, .ref (ad k b))] []
  have hlc := ho2.1
  have hr := hR.c
  have L1 : ∀ (fu : Nat) (t_ l_ p_ : Nat → Nat) (v : Nat) (r2 : Nat → Option Nat) (M1 : Mem), 8 - v < fu → (v ≤ 8) → (∀ q, q < v → r2 q = none) → (FrB b M M1) → M1 93 = RO k rf ac nx 0 0 0 0 none lp ln sz sp lc so → M1 b = IR k 82 f → M1 99 = IR k 8 t_ → M1 100 = IR k 8 l_ → M1 101 = .inl (kI k, 8, .inl (fun zq => oI (r2 zq))) → M1 102 = IR k 8 p_ → V C k 5 (0, 0) M1 28 [(0, .ref (ad k 93)), (1, .ref (ad k b)), (2, .int (nI v))] [] := by
    intro fu
    induction fu with
    | zero => intro t_ l_ p_ v r2 M1 hfu; exact absurd hfu (Nat.not_lt_zero _)
    | succ fu ih =>
      intro t_ l_ p_ v r2 M1 hfu hv hrn hfr G0 GF G1 G2 G3 G4
      refine v_iload_n X 2 dX8_build_28 rfl ?_
      refine v_bipush X (v := nI 8) (by decide) dX8_build_29 ?_
      refine v_cgeN X 48 (by omega) (by omega) dX8_build_31 (by decide) (fun c_1 => ?_) (fun c_1 => ?_)
      · have T_2 : RtAt k M1 [] := RtAt.nil hN G1 G2 G3 G4 (fun q hq => hrn q (by omega))
        have F_3 : M1 93 = RO k rf ac nx (tA (([] : List Ent))) (tT (([] : List Ent))) ((([] : List Ent)).length) 0 none lp ln sz sp lc so := G0
        refine v_aload_n X 0 dX8_build_48 rfl ?_
        refine v_aload_n X 1 dX8_build_49 rfl ?_
        refine v_callV X hCl hCR (c_X8_propagate l k M1 rf ac nx lp ln sz sp lc so (([] : List Ent)) 0 b f cs (by omega) F_3 T_2 rfl hb GF hr ho2) cls8 ⟨_, F_3⟩ (by omega) mo_X8_propagate m_490 m_491 m_492 m_493 m_465 (by decide) rfl rfl (Nat.le_of_ble_eq_true rfl) ⟨rfl, rfl⟩ ⟨by decide, by decide⟩ dX8_build_50 (vV_in (fun M_4 hp_5 => ?_))
        obtain ⟨F_7, T_8, hfr_6⟩ := hp_5
        have F_9 : M_4 b = IR k 82 f := by rw [hfr_6 b (by omega) (by omega)]; exact GF
        refine v_aload_n X 1 dX8_build_53 rfl ?_
        refine v_bipush X (v := nI 73) (by decide) dX8_build_54 ?_
        refine v_iald X nI F_9 (by omega) (by omega) (by decide) dX8_build_56 ?_
        refine v_top (show (Value.int (nI (f 73)) : Value) = .int (nI ds.length) from congrArg _ (congrArg nI hR.2.1)) ?_
        refine v_istore_n X [(2, .int (nI ds.length)), (0, .ref (ad k 93)), (1, .ref (ad k b))] dX8_build_57 (by decide) rfl ?_
        refine v_aload_n X 2 dX8_build_58 rfl ?_
        refine v_bipush X (v := nI 73) (by decide) dX8_build_59 ?_
        refine v_iconst X (v := nI 0) (by decide) dX8_build_61 ?_
        refine v_iast X nI 0 F_9 (by omega) (by omega) (by decide) dX8_build_62 (fun M_10 hM_11 => ?_)
        have F_13 : M_10 b = IR k 82 (va_up f 73 0) := by rw [hM_11]; exact mup_s
        have F_14 : M_10 93 = RO k rf ac nx (tA ((prop cs (([] : List Ent))).1)) (tT ((prop cs (([] : List Ent))).1)) (((prop cs (([] : List Ent))).1).length) 0 ((prop cs (([] : List Ent))).2) lp ln sz sp lc so := by rw [hM_11, mup_n (by omega)]; exact F_7
        have P_15 : RtAt k M_10 (prop cs (([] : List Ent))).1 := T_8.fr (fun i h1 h2 => by rw [hM_11, mup_n (by omega)])
        refine v_iconst X (v := nI 0) (by decide) dX8_build_63 ?_
        refine v_istore_n X [(3, .int (nI 0)), (2, .int (nI ds.length)), (0, .ref (ad k 93)), (1, .ref (ad k b))] dX8_build_64 (by decide) rfl ?_
        have L2 : ∀ (fu : Nat) (j d : Nat) (sx : List Ent × Option Nat) (h : Nat → Nat) (M1 : Mem), ds.length - j < fu → (j ≤ ds.length) → (bdSt cs ds j d sx) → (tL sx.1 = d) → (∀ q, q ≠ 73 → h q = f q) → (h 73 = d) → (∀ n, sx.2 = some n → n < 24) → (FrB b M M1) → M1 93 = RO k rf ac nx (tA sx.1) (tT sx.1) sx.1.length d sx.2 lp ln sz sp lc so → M1 b = IR k 82 h → RtAt k M1 sx.1 → V C k 5 (0, 0) M1 65 [(0, .ref (ad k 93)), (1, .ref (ad k b)), (2, .int (nI ds.length)), (3, .int (nI j))] [] := by
          intro fu
          induction fu with
          | zero => intro j d sx h M1 hfu; exact absurd hfu (Nat.not_lt_zero _)
          | succ fu ih3 =>
            intro j d sx h M1 hfu hj hst htl hh hh73 hcl hfr G0 GF hT1
            refine v_iload_n X 3 dX8_build_65 rfl ?_
            refine v_iload_n X 2 dX8_build_66 rfl ?_
            refine v_cgeN X 160 (by omega) (by omega) dX8_build_67 (by decide) (fun c_16 => ?_) (fun c_16 => ?_)
            · have hend := hst.end_ c_16
              have hdl := hst.le
              have hd8 : d ≤ 8 := by omega
              refine v_aload_n X 1 dX8_build_160 rfl ?_
              refine v_bipush X (v := nI 73) (by decide) dX8_build_161 ?_
              refine v_iald X nI GF (by omega) (by omega) (by decide) dX8_build_163 ?_
              refine v_top (show (Value.int (nI (h 73)) : Value) = .int (nI d) from congrArg _ (congrArg nI hh73)) ?_
              refine v_istore_n X [(3, .int (nI d)), (0, .ref (ad k 93)), (1, .ref (ad k b)), (2, .int (nI ds.length))] dX8_build_164 (by decide) rfl ?_
              have L3 : ∀ (fu : Nat) (q : Nat) (g : Nat → Nat) (M2 : Mem), 8 - q < fu → (q ≤ 8) → (∀ x, x < 74 + d → g x = h x) → (d ≤ q) → (FrB b M M2) → M2 93 = RO k rf ac nx (tA sx.1) (tT sx.1) sx.1.length d sx.2 lp ln sz sp lc so → M2 b = IR k 82 g → RtAt k M2 sx.1 → V C k 5 (0, 0) M2 165 [(0, .ref (ad k 93)), (1, .ref (ad k b)), (3, .int (nI q))] [] := by
                intro fu
                induction fu with
                | zero => intro q g M2 hfu; exact absurd hfu (Nat.not_lt_zero _)
                | succ fu ih5 =>
                  intro q g M2 hfu hq hg hdq hfr3 G5 G6 hT5
                  refine v_iload_n X 2 dX8_build_165 rfl ?_
                  refine v_bipush X (v := nI 8) (by decide) dX8_build_166 ?_
                  refine v_cgeN X 184 (by omega) (by omega) dX8_build_168 (by decide) (fun c_17 => ?_) (fun c_17 => ?_)
                  · have htl2 : tL (build cs ds).1 = d := by rw [← hend]; exact htl
                    exact v_vret X rq ⟨by decide, by decide⟩ dX8_build_184 ⟨rfl, (by rw [← hend, htl]; exact G5), (by rw [← hend]; exact hT5), ⟨g, G6, bd_row hR hlc hld htl2 (by omega) ((hg _ (by omega)).trans hh73) (fun x hx e => by rw [hg _ hx, hh x e])⟩, hfr3⟩
                  · refine v_aload_n X 1 dX8_build_171 rfl ?_
                    refine v_bipush X (v := nI 74) (by decide) dX8_build_172 ?_
                    refine v_iload_n X 2 dX8_build_174 rfl ?_
                    refine v_addN X dX8_build_175 ?_
                    refine v_iconst X (v := nI 0) (by decide) dX8_build_176 ?_
                    refine v_iast X nI 0 G6 (by omega) (by omega) (by decide) dX8_build_177 (fun M_18 hM_19 => ?_)
                    have F_21 : M_18 93 = RO k rf ac nx (tA sx.1) (tT sx.1) sx.1.length d sx.2 lp ln sz sp lc so := by rw [hM_19, mup_n (by omega)]; exact G5
                    have F_22 : M_18 b = IR k 82 (va_up g (74 + q) 0) := by rw [hM_19]; exact mup_s
                    have P_23 : RtAt k M_18 sx.1 := hT5.fr (fun i h1 h2 => by rw [hM_19, mup_n (by omega)])
                    refine v_iinc X (v := nI (q + 1)) 2 [(3, .int (nI (q + 1))), (0, .ref (ad k 93)), (1, .ref (ad k b))] dX8_build_178 rfl (nI_1 _) (by decide) rfl ?_
                    refine v_goto X 165 dX8_build_181 (by decide) ?_
                    refine v_lv [1, 2, 0] rfl ?_
                    exact ih5 (q + 1) (va_up g (74 + q) 0) M_18 (by omega) (by omega) (fun x hx => by rw [up_n _ _ (by omega)]; exact hg x hx) (by omega) (fun i hi1 hi2 hi3 => by rw [hM_19, mup_n (by omega)]; exact hfr3 i hi1 hi2 hi3) F_21 F_22 P_23
              refine v_lv [1, 2, 0] rfl ?_
              exact L3 9 d h M1 (by omega) (by omega) (fun _ _ => rfl) (Nat.le_refl _) hfr G0 GF hT1
            · have hjl := c_16
              have hd16 := hds _ (cAt_mem hjl)
              have hrow : h (74 + j) = cAt ds j := by rw [hh _ (by omega)]; exact hR.2.2.2 j hjl
              have hdl := hst.le
              have hkT := hT1.2.1
              refine v_aload_n X 1 dX8_build_70 rfl ?_
              refine v_bipush X (v := nI 74) (by decide) dX8_build_71 ?_
              refine v_iload_n X 3 dX8_build_73 rfl ?_
              refine v_addN X dX8_build_74 ?_
              refine v_iald X nI GF (by omega) (by omega) (by decide) dX8_build_75 ?_
              refine v_top (show (Value.int (nI (h (74 + j))) : Value) = .int (nI (cAt ds j)) from congrArg _ (congrArg nI hrow)) ?_
              refine v_istore X [(4, .int (nI (cAt ds j))), (0, .ref (ad k 93)), (1, .ref (ad k b)), (2, .int (nI ds.length)), (3, .int (nI j))] dX8_build_76 (by decide) rfl ?_
              refine v_aload_n X 2 dX8_build_78 rfl ?_
              refine v_bipush X (v := nI 73) (by decide) dX8_build_79 ?_
              refine v_iald X nI GF (by omega) (by omega) (by decide) dX8_build_81 ?_
              refine v_top (show (Value.int (nI (h 73)) : Value) = .int (nI d) from congrArg _ (congrArg nI hh73)) ?_
              refine v_iload_n X 4 dX8_build_82 rfl ?_
              refine v_cneN X 154 (by omega) (by omega) dX8_build_83 (by decide) (fun c_24 => ?_) (fun c_24 => ?_)
              · have hdj : d ≠ j := c_24
                refine v_iinc X (v := nI (j + 1)) 4 [(3, .int (nI (j + 1))), (4, .int (nI (cAt ds j))), (0, .ref (ad k 93)), (1, .ref (ad k b)), (2, .int (nI ds.length))] dX8_build_154 rfl (nI_1 _) (by decide) rfl ?_
                refine v_goto X 65 dX8_build_157 (by decide) ?_
                refine v_lv [2, 3, 4, 0] rfl ?_
                exact ih3 (j + 1) d sx h M1 (by omega) (by omega) (hst.ne hdj) htl hh hh73 hcl hfr G0 GF hT1
              · have hdj : j = d := (c_24).symm
                have hbl := (show bdSt cs ds j j sx by rw [hdj] at hst ⊢; exact hst).eq
                refine v_aload_n X 1 dX8_build_86 rfl ?_
                refine v_get X cls8 G0 (by omega) 16 (by decide) m_452 rfl rfl dX8_build_87 ?_
                refine v_bipush X (v := (-9)) (by decide) dX8_build_90 ?_
                refine v_icmp_ne X 154 dX8_build_92 (by decide) (fun c_25 => ?_) (fun c_25 => ?_)
                · have hend := build_stop hbl hjl (show okDec sx (cAt ds j) = false by simp only [okDec, Bool.and_eq_false_imp]; intro w; exact absurd (show oI sx.2 = -9 by rw [of_decide_eq_true w]; rfl) c_25)
                  refine v_iinc X (v := nI (j + 1)) 4 [(3, .int (nI (j + 1))), (4, .int (nI (cAt ds j))), (0, .ref (ad k 93)), (1, .ref (ad k b)), (2, .int (nI ds.length))] dX8_build_154 rfl (nI_1 _) (by decide) rfl ?_
                  refine v_goto X 65 dX8_build_157 (by decide) ?_
                  refine v_lv [2, 3, 4, 0] rfl ?_
                  exact ih3 (j + 1) d sx h M1 (by omega) (by omega) (Or.inr ⟨by omega, hend⟩) htl hh hh73 hcl hfr G0 GF hT1
                · have hcf : sx.2 = none := (oI_eq (fun n hn => by have := hcl n hn; omega)).mp c_25
                  refine v_aload_n X 1 dX8_build_95 rfl ?_
                  refine v_get X cls8 G0 (by omega) 8 (by decide) m_473 rfl rfl dX8_build_96 ?_
                  refine v_iload X 0 dX8_build_99 rfl ?_
                  refine v_iconst X (v := nI 2) (by decide) dX8_build_101 ?_
                  refine v_divN X (by omega) (by omega) (by omega) dX8_build_102 ?_
                  refine v_callS X hCl hCR (c_X8_has l k M1 (tA sx.1) ((cAt ds j) / 2) (by have := hkT.A; omega) (by omega)) mo_X8_has m_460 m_463 m_464 m_465 (by decide) rfl rfl (Nat.le_of_ble_eq_true rfl) ⟨rfl, rfl⟩ ⟨by decide, by decide⟩ dX8_build_103 (vP_in ?_)
                  refine v_ineB X 154 dX8_build_106 (by decide) (fun c_26 => ?_) (fun c_26 => ?_)
                  · have hend := build_stop hbl hjl (show okDec sx (cAt ds j) = false by simp only [okDec]; rw [c_26]; simp)
                    refine v_iinc X (v := nI (j + 1)) 4 [(3, .int (nI (j + 1))), (4, .int (nI (cAt ds j))), (0, .ref (ad k 93)), (1, .ref (ad k b)), (2, .int (nI ds.length))] dX8_build_154 rfl (nI_1 _) (by decide) rfl ?_
                    refine v_goto X 65 dX8_build_157 (by decide) ?_
                    refine v_lv [2, 3, 4, 0] rfl ?_
                    exact ih3 (j + 1) d sx h M1 (by omega) (by omega) (Or.inr ⟨by omega, hend⟩) htl hh hh73 hcl hfr G0 GF hT1
                  · have hfree := c_26
                    have hok : okDec sx (cAt ds j) = true := by simp only [okDec]; rw [hfree, hcf]; rfl
                    refine v_aload_n X 2 dX8_build_109 rfl ?_
                    refine v_bipush X (v := nI 73) (by decide) dX8_build_110 ?_
                    refine v_dup2 X rfl rfl dX8_build_112 ?_
                    refine v_iald X nI GF (by omega) (by omega) (by decide) dX8_build_113 ?_
                    refine v_iconst X (v := nI 1) (by decide) dX8_build_114 ?_
                    refine v_addN X dX8_build_115 ?_
                    refine v_iast X nI ((h 73) + 1) GF (by omega) (by omega) (by decide) dX8_build_116 (fun M_27 hM_28 => ?_)
                    have F_30 : M_27 93 = RO k rf ac nx (tA sx.1) (tT sx.1) sx.1.length d sx.2 lp ln sz sp lc so := by rw [hM_28, mup_n (by omega)]; exact G0
                    have F_31 : M_27 b = IR k 82 (va_up h 73 ((h 73) + 1)) := by rw [hM_28]; exact mup_s
                    have P_32 : RtAt k M_27 sx.1 := hT1.fr (fun i h1 h2 => by rw [hM_28, mup_n (by omega)])
                    have F_33 : M_27 b = IR k 82 (va_up h 73 (j + 1)) := by rw [F_31, hh73, hdj]
                    refine v_aload_n X 1 dX8_build_117 rfl ?_
                    refine v_dup X rfl dX8_build_118 ?_
                    refine v_get X cls8 F_30 (by omega) 12 (by decide) m_476 rfl rfl dX8_build_119 ?_
                    refine v_iconst X (v := nI 1) (by decide) dX8_build_122 ?_
                    refine v_addN X dX8_build_123 ?_
                    refine v_put X cls8 F_30 (by omega) 12 (by decide) m_476 rfl rfl rfl rfl (Nat.le_of_ble_eq_true rfl) dX8_build_124 (fun M_34 hM_35 => ?_)
                    have F_36 : M_34 93 = RO k rf ac nx (tA sx.1) (tT sx.1) sx.1.length (d + 1) sx.2 lp ln sz sp lc so := by rw [hM_35]; exact mup_s
                    have F_37 : M_34 b = IR k 82 (va_up h 73 (j + 1)) := by rw [hM_35, mup_n (by omega)]; exact F_33
                    have P_38 : RtAt k M_34 sx.1 := P_32.fr (fun i h1 h2 => by rw [hM_35, mup_n (by omega)])
                    have F_39 : M_34 93 = RO k rf ac nx (tA sx.1) (tT sx.1) sx.1.length ((j + 1)) none lp ln sz sp lc so := by rw [F_36, hcf, hdj]
                    refine v_aload_n X 1 dX8_build_127 rfl ?_
                    refine v_iload X 0 dX8_build_128 rfl ?_
                    refine v_iconst X (v := nI 2) (by decide) dX8_build_130 ?_
                    refine v_divN X (by omega) (by omega) (by omega) dX8_build_131 ?_
                    refine v_iload X 0 dX8_build_132 rfl ?_
                    refine v_iconst X (v := nI 2) (by decide) dX8_build_134 ?_
                    refine v_remN X (by omega) (by omega) (by omega) dX8_build_135 ?_
                    refine v_ineN X 143 (by omega) dX8_build_136 (by decide) (fun c_40 => ?_) (fun c_40 => ?_)
                    · have h136 := c_40
                      refine v_iconst X (v := bI false) (by decide) dX8_build_143 ?_
                      refine v_top (show (Value.int (bI false) : Value) = .int (bI (decide (cAt ds j % 2 = 0))) from congrArg _ (congrArg bI (by rw [decide_eq_false h136]))) ?_
                      refine v_bipush X (v := (-9)) (by decide) dX8_build_144 ?_
                      refine v_callV X hCl hCR (c_X8_assign l k M_34 rf ac nx lp ln sz sp lc so sx.1 none ((j + 1)) ((cAt ds j) / 2) (decide (cAt ds j % 2 = 0)) none (by omega) F_39 P_38 (by omega) hfree (fun n h => by cases h) (by show j + 1 = tL sx.1 + 1; omega)) cls8 ⟨_, F_39⟩ (by omega) mo_X8_assign m_472 m_487 m_488 m_489 m_465 (by decide) rfl rfl (Nat.le_of_ble_eq_true rfl) ⟨rfl, rfl⟩ ⟨by decide, by decide⟩ dX8_build_146 (vV_in (fun M_41 hp_42 => ?_))
                      obtain ⟨F_44, T_45, hfr_43⟩ := hp_42
                      have F_46 : M_41 b = IR k 82 (va_up h 73 (j + 1)) := by rw [hfr_43 b (by omega) (by omega)]; exact F_37
                      refine v_aload_n X 1 dX8_build_149 rfl ?_
                      refine v_aload_n X 2 dX8_build_150 rfl ?_
                      refine v_callV X hCl hCR (c_X8_propagate l k M_41 rf ac nx lp ln sz sp lc so ((((cAt ds j) / 2, decide (cAt ds j % 2 = 0), none) :: sx.1)) ((j + 1)) b (va_up h 73 (j + 1)) cs (by omega) F_44 T_45 (by show j + 1 = tL sx.1 + 1; omega) hb F_46 (hr.cong hlc (fun q hq => by rw [up_n _ _ (by omega)]; exact hh q (by omega))) ho2) cls8 ⟨_, F_44⟩ (by omega) mo_X8_propagate m_490 m_491 m_492 m_493 m_465 (by decide) rfl rfl (Nat.le_of_ble_eq_true rfl) ⟨rfl, rfl⟩ ⟨by decide, by decide⟩ dX8_build_151 (vV_in (fun M_47 hp_48 => ?_))
                      obtain ⟨F_50, T_51, hfr_49⟩ := hp_48
                      have F_52 : M_47 b = IR k 82 (va_up h 73 (j + 1)) := by rw [hfr_49 b (by omega) (by omega)]; exact F_46
                      refine v_iinc X (v := nI (j + 1)) 4 [(3, .int (nI (j + 1))), (4, .int (nI (cAt ds j))), (0, .ref (ad k 93)), (1, .ref (ad k b)), (2, .int (nI ds.length))] dX8_build_154 rfl (nI_1 _) (by decide) rfl ?_
                      refine v_goto X 65 dX8_build_157 (by decide) ?_
                      refine v_lv [2, 3, 4, 0] rfl ?_
                      exact ih3 (j + 1) (j + 1) (prop cs ((cAt ds j / 2, decide (cAt ds j % 2 = 0), none) :: sx.1)) (va_up h 73 (j + 1)) M_47 (by omega) (by omega) (Or.inl ⟨rfl, build_go hbl hjl hok⟩) (by rw [show tL (prop cs ((cAt ds j / 2, decide (cAt ds j % 2 = 0), none) :: sx.1)).1 = tL sx.1 + 1 from (tL_prop 9 _).trans rfl, htl, hdj]) (fun q hq => by rw [up_n _ _ hq]; exact hh q hq) (up_s _ _ _) (fun n hn => by have := (propF_ok hlc 9 _ (show trOK ((cAt ds j / 2, decide (cAt ds j % 2 = 0), none) :: sx.1) from ⟨by show cAt ds j / 2 < 8; omega, hfree, (fun n h => by cases h), hkT⟩)).2 n hn; omega) (fun i hi1 hi2 hi3 => by rw [hfr_49 i (by omega) (by omega), hfr_43 i (by omega) (by omega), hM_35, mup_n (by omega), hM_28, mup_n (by omega)]; exact hfr i hi1 hi2 hi3) F_50 F_52 T_51
                    · have h136 := c_40
                      refine v_iconst X (v := bI true) (by decide) dX8_build_139 ?_
                      refine v_goto X 144 dX8_build_140 (by decide) ?_
                      refine v_top (show (Value.int (bI true) : Value) = .int (bI (decide (cAt ds j % 2 = 0))) from congrArg _ (congrArg bI (by rw [decide_eq_true h136]))) ?_
                      refine v_bipush X (v := (-9)) (by decide) dX8_build_144 ?_
                      refine v_callV X hCl hCR (c_X8_assign l k M_34 rf ac nx lp ln sz sp lc so sx.1 none ((j + 1)) ((cAt ds j) / 2) (decide (cAt ds j % 2 = 0)) none (by omega) F_39 P_38 (by omega) hfree (fun n h => by cases h) (by show j + 1 = tL sx.1 + 1; omega)) cls8 ⟨_, F_39⟩ (by omega) mo_X8_assign m_472 m_487 m_488 m_489 m_465 (by decide) rfl rfl (Nat.le_of_ble_eq_true rfl) ⟨rfl, rfl⟩ ⟨by decide, by decide⟩ dX8_build_146 (vV_in (fun M_53 hp_54 => ?_))
                      obtain ⟨F_56, T_57, hfr_55⟩ := hp_54
                      have F_58 : M_53 b = IR k 82 (va_up h 73 (j + 1)) := by rw [hfr_55 b (by omega) (by omega)]; exact F_37
                      refine v_aload_n X 1 dX8_build_149 rfl ?_
                      refine v_aload_n X 2 dX8_build_150 rfl ?_
                      refine v_callV X hCl hCR (c_X8_propagate l k M_53 rf ac nx lp ln sz sp lc so ((((cAt ds j) / 2, decide (cAt ds j % 2 = 0), none) :: sx.1)) ((j + 1)) b (va_up h 73 (j + 1)) cs (by omega) F_56 T_57 (by show j + 1 = tL sx.1 + 1; omega) hb F_58 (hr.cong hlc (fun q hq => by rw [up_n _ _ (by omega)]; exact hh q (by omega))) ho2) cls8 ⟨_, F_56⟩ (by omega) mo_X8_propagate m_490 m_491 m_492 m_493 m_465 (by decide) rfl rfl (Nat.le_of_ble_eq_true rfl) ⟨rfl, rfl⟩ ⟨by decide, by decide⟩ dX8_build_151 (vV_in (fun M_59 hp_60 => ?_))
                      obtain ⟨F_62, T_63, hfr_61⟩ := hp_60
                      have F_64 : M_59 b = IR k 82 (va_up h 73 (j + 1)) := by rw [hfr_61 b (by omega) (by omega)]; exact F_58
                      refine v_iinc X (v := nI (j + 1)) 4 [(3, .int (nI (j + 1))), (4, .int (nI (cAt ds j))), (0, .ref (ad k 93)), (1, .ref (ad k b)), (2, .int (nI ds.length))] dX8_build_154 rfl (nI_1 _) (by decide) rfl ?_
                      refine v_goto X 65 dX8_build_157 (by decide) ?_
                      refine v_lv [2, 3, 4, 0] rfl ?_
                      exact ih3 (j + 1) (j + 1) (prop cs ((cAt ds j / 2, decide (cAt ds j % 2 = 0), none) :: sx.1)) (va_up h 73 (j + 1)) M_59 (by omega) (by omega) (Or.inl ⟨rfl, build_go hbl hjl hok⟩) (by rw [show tL (prop cs ((cAt ds j / 2, decide (cAt ds j % 2 = 0), none) :: sx.1)).1 = tL sx.1 + 1 from (tL_prop 9 _).trans rfl, htl, hdj]) (fun q hq => by rw [up_n _ _ hq]; exact hh q hq) (up_s _ _ _) (fun n hn => by have := (propF_ok hlc 9 _ (show trOK ((cAt ds j / 2, decide (cAt ds j % 2 = 0), none) :: sx.1) from ⟨by show cAt ds j / 2 < 8; omega, hfree, (fun n h => by cases h), hkT⟩)).2 n hn; omega) (fun i hi1 hi2 hi3 => by rw [hfr_61 i (by omega) (by omega), hfr_55 i (by omega) (by omega), hM_35, mup_n (by omega), hM_28, mup_n (by omega)]; exact hfr i hi1 hi2 hi3) F_62 F_64 T_63
        refine v_lv [2, 3, 1, 0] rfl ?_
        exact L2 (ds.length + 1) 0 0 (prop cs []) (va_up f 73 0) M_10 (by omega) (by omega) (Or.inl ⟨rfl, build_0 cs ds⟩) (tL_0 cs) (fun q hq => up_n _ _ hq) (up_s _ _ _) (fun n hn => by have := (propF_ok hlc 9 [] trivial).2 n hn; omega) (fun i hi1 hi2 hi3 => by rw [hM_11, mup_n (by omega), hfr_6 i (by omega) (by omega)]; exact hfr i hi1 hi2 hi3) F_14 F_13 P_15
      · refine v_aload_n X 0 dX8_build_34 rfl ?_
        refine v_get X cls8 G0 (by omega) 14 (by decide) m_450 rfl rfl dX8_build_35 ?_
        refine v_iload_n X 2 dX8_build_38 rfl ?_
        refine v_bipush X (v := oI none) (by decide) dX8_build_39 ?_
        refine v_iast X oI none G3 (by omega) (by omega) (by decide) dX8_build_41 (fun M_65 hM_66 => ?_)
        have F_68 : M_65 93 = RO k rf ac nx 0 0 0 0 none lp ln sz sp lc so := by rw [hM_66, mup_n (by omega)]; exact G0
        have F_69 : M_65 b = IR k 82 f := by rw [hM_66, mup_n (by omega)]; exact GF
        have F_70 : M_65 99 = IR k 8 t_ := by rw [hM_66, mup_n (by omega)]; exact G1
        have F_71 : M_65 100 = IR k 8 l_ := by rw [hM_66, mup_n (by omega)]; exact G2
        have F_72 : M_65 101 = .inl (kI k, 8, .inl (fun zq => oI (va_up r2 v none zq))) := by rw [hM_66]; exact mup_s
        have F_73 : M_65 102 = IR k 8 p_ := by rw [hM_66, mup_n (by omega)]; exact G4
        refine v_iinc X (v := nI (v + 1)) 2 [(2, .int (nI (v + 1))), (0, .ref (ad k 93)), (1, .ref (ad k b))] dX8_build_42 rfl (nI_1 _) (by decide) rfl ?_
        refine v_goto X 28 dX8_build_45 (by decide) ?_
        refine v_lv [1, 2, 0] rfl ?_
        exact ih t_ l_ p_ (v + 1) (va_up r2 v none) M_65 (by omega) (by omega) (none_up hrn) (fun i hi1 hi2 hi3 => by rw [hM_66, mup_n (by omega)]; exact hfr i hi1 hi2 hi3) F_68 F_69 F_70 F_71 F_72 F_73
  obtain ⟨hN_74, hk_75, t_76, l_77, p_78, r_79, F0_80, F1_81, F2_82, F3_83, h1_84, h2_85, h3_86⟩ := id hT
  have hl0 : l_77 = l_77 := rfl
  refine v_aload_n X 0 dX8_build_0 rfl ?_
  refine v_iconst X (v := nI 0) (by decide) dX8_build_1 ?_
  refine v_put X cls8 F0 (by omega) 8 (by decide) m_473 rfl rfl rfl rfl (Nat.le_of_ble_eq_true rfl) dX8_build_2 (fun M_87 hM_88 => ?_)
  have F_89 : M_87 93 = RO k rf ac nx 0 ts tz lv cf lp ln sz sp lc so := by rw [hM_88]; exact mup_s
  have F_90 : M_87 b = IR k 82 f := by rw [hM_88, mup_n (by omega)]; exact F
  have F_91 : M_87 99 = IR k 8 t_76 := by rw [hM_88, mup_n (by omega)]; exact F0_80
  have F_92 : M_87 100 = IR k 8 l_77 := by rw [hM_88, mup_n (by omega)]; exact F1_81
  have F_93 : M_87 101 = .inl (kI k, 8, .inl (fun zq => oI (r_79 zq))) := by rw [hM_88, mup_n (by omega)]; exact F2_82
  have F_94 : M_87 102 = IR k 8 p_78 := by rw [hM_88, mup_n (by omega)]; exact F3_83
  refine v_aload_n X 0 dX8_build_5 rfl ?_
  refine v_iconst X (v := nI 0) (by decide) dX8_build_6 ?_
  refine v_put X cls8 F_89 (by omega) 9 (by decide) m_474 rfl rfl rfl rfl (Nat.le_of_ble_eq_true rfl) dX8_build_7 (fun M_95 hM_96 => ?_)
  have F_97 : M_95 93 = RO k rf ac nx 0 0 tz lv cf lp ln sz sp lc so := by rw [hM_96]; exact mup_s
  have F_98 : M_95 b = IR k 82 f := by rw [hM_96, mup_n (by omega)]; exact F_90
  have F_99 : M_95 99 = IR k 8 t_76 := by rw [hM_96, mup_n (by omega)]; exact F_91
  have F_100 : M_95 100 = IR k 8 l_77 := by rw [hM_96, mup_n (by omega)]; exact F_92
  have F_101 : M_95 101 = .inl (kI k, 8, .inl (fun zq => oI (r_79 zq))) := by rw [hM_96, mup_n (by omega)]; exact F_93
  have F_102 : M_95 102 = IR k 8 p_78 := by rw [hM_96, mup_n (by omega)]; exact F_94
  refine v_aload_n X 0 dX8_build_10 rfl ?_
  refine v_iconst X (v := nI 0) (by decide) dX8_build_11 ?_
  refine v_put X cls8 F_97 (by omega) 11 (by decide) m_475 rfl rfl rfl rfl (Nat.le_of_ble_eq_true rfl) dX8_build_12 (fun M_103 hM_104 => ?_)
  have F_105 : M_103 93 = RO k rf ac nx 0 0 0 lv cf lp ln sz sp lc so := by rw [hM_104]; exact mup_s
  have F_106 : M_103 b = IR k 82 f := by rw [hM_104, mup_n (by omega)]; exact F_98
  have F_107 : M_103 99 = IR k 8 t_76 := by rw [hM_104, mup_n (by omega)]; exact F_99
  have F_108 : M_103 100 = IR k 8 l_77 := by rw [hM_104, mup_n (by omega)]; exact F_100
  have F_109 : M_103 101 = .inl (kI k, 8, .inl (fun zq => oI (r_79 zq))) := by rw [hM_104, mup_n (by omega)]; exact F_101
  have F_110 : M_103 102 = IR k 8 p_78 := by rw [hM_104, mup_n (by omega)]; exact F_102
  refine v_aload_n X 0 dX8_build_15 rfl ?_
  refine v_iconst X (v := nI 0) (by decide) dX8_build_16 ?_
  refine v_put X cls8 F_105 (by omega) 12 (by decide) m_476 rfl rfl rfl rfl (Nat.le_of_ble_eq_true rfl) dX8_build_17 (fun M_111 hM_112 => ?_)
  have F_113 : M_111 93 = RO k rf ac nx 0 0 0 0 cf lp ln sz sp lc so := by rw [hM_112]; exact mup_s
  have F_114 : M_111 b = IR k 82 f := by rw [hM_112, mup_n (by omega)]; exact F_106
  have F_115 : M_111 99 = IR k 8 t_76 := by rw [hM_112, mup_n (by omega)]; exact F_107
  have F_116 : M_111 100 = IR k 8 l_77 := by rw [hM_112, mup_n (by omega)]; exact F_108
  have F_117 : M_111 101 = .inl (kI k, 8, .inl (fun zq => oI (r_79 zq))) := by rw [hM_112, mup_n (by omega)]; exact F_109
  have F_118 : M_111 102 = IR k 8 p_78 := by rw [hM_112, mup_n (by omega)]; exact F_110
  refine v_aload_n X 0 dX8_build_20 rfl ?_
  refine v_bipush X (v := oI none) (by decide) dX8_build_21 ?_
  refine v_put X cls8 F_113 (by omega) 16 (by decide) m_452 rfl rfl rfl rfl (Nat.le_of_ble_eq_true rfl) dX8_build_23 (fun M_119 hM_120 => ?_)
  have F_121 : M_119 93 = RO k rf ac nx 0 0 0 0 none lp ln sz sp lc so := by rw [hM_120]; exact mup_s
  have F_122 : M_119 b = IR k 82 f := by rw [hM_120, mup_n (by omega)]; exact F_114
  have F_123 : M_119 99 = IR k 8 t_76 := by rw [hM_120, mup_n (by omega)]; exact F_115
  have F_124 : M_119 100 = IR k 8 l_77 := by rw [hM_120, mup_n (by omega)]; exact F_116
  have F_125 : M_119 101 = .inl (kI k, 8, .inl (fun zq => oI (r_79 zq))) := by rw [hM_120, mup_n (by omega)]; exact F_117
  have F_126 : M_119 102 = IR k 8 p_78 := by rw [hM_120, mup_n (by omega)]; exact F_118
  refine v_iconst X (v := nI 0) (by decide) dX8_build_26 ?_
  refine v_istore_n X [(2, .int (nI 0)), (0, .ref (ad k 93)), (1, .ref (ad k b))] dX8_build_27 (by decide) rfl ?_
  refine v_lv [1, 2, 0] rfl ?_
  exact L1 9 t_76 l_77 p_78 0 r_79 M_119 (by omega) (by omega) (fun q hq => absurd hq (Nat.not_lt_zero _)) (fun i hi1 hi2 hi3 => by rw [hM_120, mup_n (by omega), hM_112, mup_n (by omega), hM_104, mup_n (by omega), hM_96, mup_n (by omega), hM_88, mup_n (by omega)]) F_121 F_122 F_123 F_124 F_125 F_126
