set_option maxHeartbeats 4000000 in
set_option maxRecDepth 100000 in
theorem c_X8_propagate (l : Launch) (k : KX) (M : Mem) (rf ac nx lp ln sz sp lc : Nat) (so : Bool) (tr : List Ent) (lv b : Nat) (f : Nat → Nat) (cs : List Nat) (hN : 107 ≤ kN k) (F0 : M 93 = RO k rf ac nx (tA tr) (tT tr) tr.length lv none lp ln sz sp lc so) (hT : RtAt k M tr) (hlv : lv = tL tr) (hb : b = 94 ∨ b = 95) (F : M b = IR k 82 f) (hr : csRow f cs) (ho2 : csOK cs) : CM l yX8_propagate cX8_propagate 6 none { frames := 3, cells := 0, slots := 0, locals := 68 } k [.ref (ad k 93), .ref (ad k b)] M (pV (fun M' => M' 93 = RO k rf ac nx (tA ((prop cs tr).1)) (tT ((prop cs tr).1)) (((prop cs tr).1).length) lv ((prop cs tr).2) lp ln sz sp lc so ∧ RtAt k M' (prop cs tr).1 ∧ FrT M M')) := by
  refine CM.of (by decide) (Nat.le_of_ble_eq_true rfl) (fun C X hCl hCR rq => ?_)
  show V C k 6 (0, 0) M 0 [(0, .ref (ad k 93)), (1, .ref (ad k b))] []
  have hlc := ho2.1
  have Lo : ∀ (fu : Nat) (t : List Ent) (n : Nat) (M1 : Mem), n < fu → (9 ≤ n + t.length) → (propF cs n t = prop cs tr) → (lv = tL t) → (FrT M M1) → M1 93 = RO k rf ac nx (tA t) (tT t) t.length lv none lp ln sz sp lc so → M1 b = IR k 82 f → RtAt k M1 t → V C k 6 (0, 0) M1 2 [(0, .ref (ad k 93)), (1, .ref (ad k b)), (2, .int (bI true))] [] := by
    intro fu
    induction fu with
    | zero => intro t n M1 hfu; exact absurd hfu (Nat.not_lt_zero _)
    | succ fu ih =>
      intro t n M1 hfu hn hp hlv hfr G0 GF hT1
      refine v_iload_n X 2 dX8_propagate_2 rfl ?_
      refine v_ieqB X 146 dX8_propagate_3 (by decide) (fun h => absurd h (by decide)) (fun _ => ?_)
      have hkT := hT1.2.1
      have hT8 := hkT.le
      have hTA8 := hkT.A
      have hTT8 := hkT.T
      obtain ⟨n, rfl⟩ : ∃ m, n = m + 1 := ⟨n - 1, by omega⟩
      have hpp := propF_s hp
      refine v_bipush X (v := oI none) (by decide) dX8_propagate_6 ?_
      refine v_istore_n X [(3, .int (oI none)), (0, .ref (ad k 93)), (1, .ref (ad k b)), (2, .int (bI true))] dX8_propagate_8 (by decide) rfl ?_
      refine v_aload_n X 2 dX8_propagate_9 rfl ?_
      refine v_iconst X (v := nI 0) (by decide) dX8_propagate_10 ?_
      refine v_iald X nI GF (by omega) (by omega) (by decide) dX8_propagate_11 ?_
      refine v_iconst X (v := nI 1) (by decide) dX8_propagate_12 ?_
      refine v_isub X dX8_propagate_13 ?_
      refine v_top (show (Value.int (nI (f 0) - nI 1) : Value) = .int ((pm cs.length)) from congrArg _ (by rw [hr.1]; rfl)) ?_
      refine v_istore X [(4, .int ((pm cs.length))), (3, .int (oI none)), (0, .ref (ad k 93)), (1, .ref (ad k b)), (2, .int (bI true))] dX8_propagate_14 (by decide) rfl ?_
      have Li : ∀ (fu : Nat) (q : Nat) (fo : Option Nat), q < fu → (q ≤ cs.length) → (fstFrom (fun i => xAct (cAt cs i) (tA t) (tT t)) (cs.length - q) q = fo) → V C k 6 (0, 0) M1 16 [(0, .ref (ad k 93)), (1, .ref (ad k b)), (2, .int (bI true)), (3, .int (oI fo)), (4, .int ((pm q)))] [] := by
        intro fu
        induction fu with
        | zero => intro q fo hfu; exact absurd hfu (Nat.not_lt_zero _)
        | succ fu ih2 =>
          intro q fo hfu hq hfo 
          refine v_iload X 4 dX8_propagate_16 rfl ?_
          refine v_iltP X 44 (by omega) dX8_propagate_18 (by decide) (fun c_1 => ?_) (fun j c_1 => ?_)
          · subst c_1
            have hfa : fstAct cs (tA t) (tT t) = fo := hfo
            rw [hfa] at hpp
            refine v_iconst X (v := bI false) (by decide) dX8_propagate_44 ?_
            refine v_istore_n X [(2, .int (bI false)), (0, .ref (ad k 93)), (1, .ref (ad k b)), (3, .int (oI fo)), (4, .int ((pm 0)))] dX8_propagate_45 (by decide) rfl ?_
            refine v_iload_n X 3 dX8_propagate_46 rfl ?_
            refine v_bipush X (v := (-9)) (by decide) dX8_propagate_47 ?_
            refine v_icmp_eq X 70 dX8_propagate_49 (by decide) (fun c_2 => ?_) (fun c_2 => ?_)
            · have hfn := (oI_eq (fun n hn => by rw [← hfa] at hn; have := (fstAct_spec hn).1; omega)).mp c_2
              subst hfn
              simp only [] at hpp
              refine v_iload_n X 3 dX8_propagate_70 rfl ?_
              refine v_bipush X (v := (-9)) (by decide) dX8_propagate_71 ?_
              refine v_icmp_eq X 143 dX8_propagate_73 (by decide) (fun c_3 => ?_) (fun c_3 => ?_)
              · refine v_goto X 2 dX8_propagate_143 (by decide) ?_
                refine v_iload_n X 0 dX8_propagate_2 rfl ?_
                refine v_ieqB X 146 dX8_propagate_3 (by decide) (fun _ => ?_) (fun h => absurd h (by decide))
                exact v_vret X rq ⟨by decide, by decide⟩ dX8_propagate_146 ⟨rfl, (by rw [← hpp]; exact G0), (by rw [← hpp]; exact hT1), hfr⟩
              · exact absurd rfl c_3
            · obtain ⟨i, hi⟩ := Option.ne_none_iff_exists'.mp (fun w => c_2 ((oI_eq (fun n hn => by rw [← hfa] at hn; have := (fstAct_spec hn).1; omega)).mpr w))
              subst hi
              have his := fstAct_spec hfa
              simp only [] at hpp
              have hri := hr.2 i his.1
              have hxi := ho2.2 _ (cAt_mem his.1)
              refine v_aload_n X 1 dX8_propagate_52 rfl ?_
              refine v_aload_n X 2 dX8_propagate_53 rfl ?_
              refine v_iload_n X 3 dX8_propagate_54 rfl ?_
              refine v_callV X hCl hCR (c_X8_stateOf l k M1 rf ac nx (tA t) (tT t) t.length lv none lp ln sz sp lc so b f i ((cAt cs i)) (by omega) G0 hTA8 hTT8 (by omega) GF (by omega) hri) cls8 ⟨_, G0⟩ (by omega) mo_X8_stateOf m_477 m_482 m_483 m_484 m_465 (by decide) rfl rfl (Nat.le_of_ble_eq_true rfl) ⟨rfl, rfl⟩ ⟨by decide, by decide⟩ dX8_propagate_55 (vP_in ?_)
              refine v_iconst X (v := nI 2) (by decide) dX8_propagate_58 ?_
              refine v_cneN X 70 (by have := rSt_le (cAt cs i) (tA t) (tT t); omega) (by omega) dX8_propagate_59 (by decide) (fun c_4 => ?_) (fun c_4 => ?_)
              · have hne : (mdiff (xVars (cAt cs i)) (tA t)) ≠ 0 := fun w => c_4 ((rSt_2 his.2 hxi (trOK.TA (tr := t))).mpr w)
                rw [if_neg hne] at hpp
                obtain ⟨ho1, hof, -⟩ := open_fresh hne
                have hlo := lowO_low hne (mdiff_lt (xVars_lt _))
                refine v_iload_n X 3 dX8_propagate_70 rfl ?_
                refine v_bipush X (v := (-9)) (by decide) dX8_propagate_71 ?_
                refine v_icmp_eq X 143 dX8_propagate_73 (by decide) (fun c_5 => ?_) (fun c_5 => ?_)
                · exact absurd c_5 (nI_ne_m9 (by omega))
                · refine v_aload_n X 2 dX8_propagate_76 rfl ?_
                  refine v_iload_n X 3 dX8_propagate_77 rfl ?_
                  refine v_callS X hCl hCR (c_X8_variablesOf l k M1 b f i ((cAt cs i)) (by omega) GF (by omega) hri) mo_X8_variablesOf m_467 m_478 m_479 m_465 (by decide) rfl rfl (Nat.le_of_ble_eq_true rfl) ⟨rfl, rfl⟩ ⟨by decide, by decide⟩ dX8_propagate_78 (vP_in ?_)
                  refine v_aload_n X 1 dX8_propagate_81 rfl ?_
                  refine v_get X cls8 G0 (by omega) 8 (by decide) m_473 rfl rfl dX8_propagate_82 ?_
                  refine v_iconst X (v := nI 4294967295) (by decide) dX8_propagate_85 ?_
                  refine v_xorN X dX8_propagate_86 ?_
                  refine v_andN X dX8_propagate_87 ?_
                  refine v_top (show (Value.int (nI ((xVars ((cAt cs i))) &&& ((tA t) ^^^ 4294967295))) : Value) = .int (nI ((mdiff (xVars (cAt cs i)) (tA t)))) from congrArg _ (rfl)) ?_
                  refine v_callS X hCl hCR (c_X8_lowest l k M1 ((mdiff (xVars (cAt cs i)) (tA t))) (low (mdiff (xVars (cAt cs i)) (tA t))) (by have := mdiff_lt (b := tA t) (xVars_lt (cAt cs i)); omega) hlo) mo_X8_lowest m_462 m_485 m_486 m_465 (by decide) rfl rfl (Nat.le_of_ble_eq_true rfl) ⟨rfl, rfl⟩ ⟨by decide, by decide⟩ dX8_propagate_88 (vP_in ?_)
                  refine v_istore X [(4, .int (nI (low (mdiff (xVars (cAt cs i)) (tA t))))), (2, .int (bI false)), (0, .ref (ad k 93)), (1, .ref (ad k b)), (3, .int (nI i))] dX8_propagate_91 (by decide) rfl ?_
                  refine v_aload_n X 3 dX8_propagate_93 rfl ?_
                  refine v_iconst X (v := nI 1) (by decide) dX8_propagate_94 ?_
                  refine v_iload_n X 4 dX8_propagate_95 rfl ?_
                  refine v_addN X dX8_propagate_96 ?_
                  refine v_iald X nI GF (by omega) (by omega) (by decide) dX8_propagate_97 ?_
                  refine v_iconst X (v := nI 1) (by decide) dX8_propagate_98 ?_
                  refine v_cneN X 119 hri.lt (by omega) dX8_propagate_99 (by decide) (fun c_6 => ?_) (fun c_6 => ?_)
                  · have hp99 := (rAt.p0 hri).mp c_6
                    refine v_aload_n X 3 dX8_propagate_119 rfl ?_
                    refine v_bipush X (v := nI 25) (by decide) dX8_propagate_120 ?_
                    refine v_iload_n X 4 dX8_propagate_122 rfl ?_
                    refine v_addN X dX8_propagate_123 ?_
                    refine v_iald X nI GF (by omega) (by omega) (by decide) dX8_propagate_124 ?_
                    refine v_iload X 0 dX8_propagate_125 rfl ?_
                    refine v_callS X hCl hCR (c_X8_has l k M1 (f (25 + i)) (low (mdiff (xVars (cAt cs i)) (tA t))) (by rw [hri.2.1]; have := xFirst_lt (cAt cs i); omega) (by omega)) mo_X8_has m_460 m_463 m_464 m_465 (by decide) rfl rfl (Nat.le_of_ble_eq_true rfl) ⟨rfl, rfl⟩ ⟨by decide, by decide⟩ dX8_propagate_127 (vP_in ?_)
                    refine v_top (show (Value.int (bI ((f (25 + i)).testBit (low (mdiff (xVars (cAt cs i)) (tA t))))) : Value) = .int (bI (xViol (cAt cs i) (tT t))) from congrArg _ (congrArg bI (by have q := rTrue his.2 hxi (trOK.TA (tr := t)) hne; rw [if_neg (by simp [hp99])] at q; rw [hri.2.1]; exact q))) ?_
                    refine v_istore X [(5, .int (bI (xViol (cAt cs i) (tT t)))), (4, .int (nI (low (mdiff (xVars (cAt cs i)) (tA t))))), (2, .int (bI false)), (0, .ref (ad k 93)), (1, .ref (ad k b)), (3, .int (nI i))] dX8_propagate_130 (by decide) rfl ?_
                    refine v_aload_n X 3 dX8_propagate_132 rfl ?_
                    refine v_iload X 1 dX8_propagate_133 rfl ?_
                    refine v_iload X 0 dX8_propagate_135 rfl ?_
                    refine v_iload_n X 5 dX8_propagate_137 rfl ?_
                    refine v_callV X hCl hCR (c_X8_assign l k M1 rf ac nx lp ln sz sp lc so t none lv (low (mdiff (xVars (cAt cs i)) (tA t))) (xViol (cAt cs i) (tT t)) ((some i)) (by omega) G0 hT1 ho1 hof (fun n h => by cases h; omega) (by rw [hlv]; rfl)) cls8 ⟨_, G0⟩ (by omega) mo_X8_assign m_472 m_487 m_488 m_489 m_465 (by decide) rfl rfl (Nat.le_of_ble_eq_true rfl) ⟨rfl, rfl⟩ ⟨by decide, by decide⟩ dX8_propagate_138 (vV_in (fun M_7 hp_8 => ?_))
                    obtain ⟨F_10, T_11, hfr_9⟩ := hp_8
                    have F_12 : M_7 b = IR k 82 f := by rw [hfr_9 b (by omega) (by omega)]; exact GF
                    refine v_iconst X (v := bI true) (by decide) dX8_propagate_141 ?_
                    refine v_istore_n X [(2, .int (bI true)), (5, .int (bI (xViol (cAt cs i) (tT t)))), (4, .int (nI (low (mdiff (xVars (cAt cs i)) (tA t))))), (0, .ref (ad k 93)), (1, .ref (ad k b)), (3, .int (nI i))] dX8_propagate_142 (by decide) rfl ?_
                    refine v_goto X 2 dX8_propagate_143 (by decide) ?_
                    refine v_lv [3, 4, 0] rfl ?_
                    exact ih ((low (mdiff (xVars (cAt cs i)) (tA t)), xViol (cAt cs i) (tT t), some i) :: t) n M_7 (by omega) (by simp only [List.length_cons]; omega) hpp (by rw [hlv]; rfl) (fun i hi1 hi2 => by rw [hfr_9 i (by omega) (by omega)]; exact hfr i hi1 hi2) F_10 F_12 T_11
                  · have hp99 := (rAt.p1 hri).mp c_6
                    refine v_aload_n X 3 dX8_propagate_102 rfl ?_
                    refine v_iload_n X 4 dX8_propagate_103 rfl ?_
                    refine v_aload_n X 2 dX8_propagate_104 rfl ?_
                    refine v_get X cls8 G0 (by omega) 9 (by decide) m_474 rfl rfl dX8_propagate_105 ?_
                    refine v_iconst X (v := nI 1) (by decide) dX8_propagate_108 ?_
                    refine v_iload X 0 dX8_propagate_109 rfl ?_
                    refine v_shlN X (by omega) dX8_propagate_111 ?_
                    refine v_orN X dX8_propagate_112 ?_
                    refine v_callS X hCl hCR (c_X8_isSatisfied l k M1 b f i ((cAt cs i)) ((tT t) ||| (1 <<< (low (mdiff (xVars (cAt cs i)) (tA t))))) (by omega) GF (by omega) hri) mo_X8_isSatisfied m_468 m_480 m_481 m_465 (by decide) rfl rfl (Nat.le_of_ble_eq_true rfl) ⟨rfl, rfl⟩ ⟨by decide, by decide⟩ dX8_propagate_113 (vP_in ?_)
                    refine v_goto X 130 dX8_propagate_116 (by decide) ?_
                    refine v_top (show (Value.int (bI (!(xViol ((cAt cs i)) ((tT t) ||| (1 <<< (low (mdiff (xVars (cAt cs i)) (tA t)))))))) : Value) = .int (bI (xViol (cAt cs i) (tT t))) from congrArg _ (congrArg bI (by have q := rTrue his.2 hxi (trOK.TA (tr := t)) hne; rw [if_pos hp99] at q; exact q))) ?_
                    refine v_istore X [(5, .int (bI (xViol (cAt cs i) (tT t)))), (4, .int (nI (low (mdiff (xVars (cAt cs i)) (tA t))))), (2, .int (bI false)), (0, .ref (ad k 93)), (1, .ref (ad k b)), (3, .int (nI i))] dX8_propagate_130 (by decide) rfl ?_
                    refine v_aload_n X 3 dX8_propagate_132 rfl ?_
                    refine v_iload X 1 dX8_propagate_133 rfl ?_
                    refine v_iload X 0 dX8_propagate_135 rfl ?_
                    refine v_iload_n X 5 dX8_propagate_137 rfl ?_
                    refine v_callV X hCl hCR (c_X8_assign l k M1 rf ac nx lp ln sz sp lc so t none lv (low (mdiff (xVars (cAt cs i)) (tA t))) (xViol (cAt cs i) (tT t)) ((some i)) (by omega) G0 hT1 ho1 hof (fun n h => by cases h; omega) (by rw [hlv]; rfl)) cls8 ⟨_, G0⟩ (by omega) mo_X8_assign m_472 m_487 m_488 m_489 m_465 (by decide) rfl rfl (Nat.le_of_ble_eq_true rfl) ⟨rfl, rfl⟩ ⟨by decide, by decide⟩ dX8_propagate_138 (vV_in (fun M_13 hp_14 => ?_))
                    obtain ⟨F_16, T_17, hfr_15⟩ := hp_14
                    have F_18 : M_13 b = IR k 82 f := by rw [hfr_15 b (by omega) (by omega)]; exact GF
                    refine v_iconst X (v := bI true) (by decide) dX8_propagate_141 ?_
                    refine v_istore_n X [(2, .int (bI true)), (5, .int (bI (xViol (cAt cs i) (tT t)))), (4, .int (nI (low (mdiff (xVars (cAt cs i)) (tA t))))), (0, .ref (ad k 93)), (1, .ref (ad k b)), (3, .int (nI i))] dX8_propagate_142 (by decide) rfl ?_
                    refine v_goto X 2 dX8_propagate_143 (by decide) ?_
                    refine v_lv [3, 4, 0] rfl ?_
                    exact ih ((low (mdiff (xVars (cAt cs i)) (tA t)), xViol (cAt cs i) (tT t), some i) :: t) n M_13 (by omega) (by simp only [List.length_cons]; omega) hpp (by rw [hlv]; rfl) (fun i hi1 hi2 => by rw [hfr_15 i (by omega) (by omega)]; exact hfr i hi1 hi2) F_16 F_18 T_17
              · have he0 : (mdiff (xVars (cAt cs i)) (tA t)) = 0 := (rSt_2 his.2 hxi (trOK.TA (tr := t))).mp c_4
                rw [if_pos he0] at hpp
                refine v_aload_n X 1 dX8_propagate_62 rfl ?_
                refine v_iload_n X 3 dX8_propagate_63 rfl ?_
                refine v_top (show (Value.int (nI i) : Value) = .int (oI (some i)) from congrArg _ (rfl)) ?_
                refine v_put X cls8 G0 (by omega) 16 (by decide) m_452 rfl rfl rfl rfl (Nat.le_of_ble_eq_true rfl) dX8_propagate_64 (fun M_19 hM_20 => ?_)
                have F_21 : M_19 93 = RO k rf ac nx (tA t) (tT t) t.length lv (some i) lp ln sz sp lc so := by rw [hM_20]; exact mup_s
                have F_22 : M_19 b = IR k 82 f := by rw [hM_20, mup_n (by omega)]; exact GF
                have P_23 : RtAt k M_19 t := hT1.fr (fun i h1 h2 => by rw [hM_20, mup_n (by omega)])
                refine v_goto X 143 dX8_propagate_67 (by decide) ?_
                refine v_goto X 2 dX8_propagate_143 (by decide) ?_
                refine v_iload_n X 0 dX8_propagate_2 rfl ?_
                refine v_ieqB X 146 dX8_propagate_3 (by decide) (fun _ => ?_) (fun h => absurd h (by decide))
                exact v_vret X rq ⟨by decide, by decide⟩ dX8_propagate_146 ⟨rfl, (by rw [← hpp]; exact F_21), (by rw [← hpp]; exact P_23), (fun i hi1 hi2 => by rw [hM_20, mup_n (by omega)]; exact hfr i hi1 hi2)⟩
          · subst c_1
            rw [pm_s]
            have hj : j < cs.length := by omega
            have hrj := hr.2 j hj
            refine v_aload_n X 0 dX8_propagate_21 rfl ?_
            refine v_aload_n X 1 dX8_propagate_22 rfl ?_
            refine v_iload X 4 dX8_propagate_23 rfl ?_
            refine v_callV X hCl hCR (c_X8_stateOf l k M1 rf ac nx (tA t) (tT t) t.length lv none lp ln sz sp lc so b f j ((cAt cs j)) (by omega) G0 hTA8 hTT8 (by omega) GF (by omega) hrj) cls8 ⟨_, G0⟩ (by omega) mo_X8_stateOf m_477 m_482 m_483 m_484 m_465 (by decide) rfl rfl (Nat.le_of_ble_eq_true rfl) ⟨rfl, rfl⟩ ⟨by decide, by decide⟩ dX8_propagate_25 (vP_in ?_)
            refine v_ileN X 36 (by have := rSt_le (cAt cs j) (tA t) (tT t); omega) dX8_propagate_28 (by decide) (fun c_24 => ?_) (fun c_24 => ?_)
            · have hpos := rSt_pos (ho2.2 _ (cAt_mem hj)) (trOK.TA (tr := t))
              have hb : (if (fun i => xAct (cAt cs i) (tA t) (tT t)) j then some j else fstFrom (fun i => xAct (cAt cs i) (tA t) (tT t)) (cs.length - (j + 1)) (j + 1)) = fo := by rw [if_neg (by show ¬ xAct _ _ _ = true; rw [← hpos]; simp; omega)]; exact hfo
              refine v_iload_n X 3 dX8_propagate_36 rfl ?_
              refine v_istore_n X [(3, .int (oI fo)), (0, .ref (ad k 93)), (1, .ref (ad k b)), (2, .int (bI true)), (4, .int (nI j))] dX8_propagate_37 (by decide) rfl ?_
              refine v_iinc X (v := pm j) 4 [(4, .int ((pm j))), (3, .int (oI fo)), (0, .ref (ad k 93)), (1, .ref (ad k b)), (2, .int (bI true))] dX8_propagate_38 rfl (pm_dec _) (by decide) rfl ?_
              refine v_goto X 16 dX8_propagate_41 (by decide) ?_
              refine v_lv [2, 3, 4, 1, 0] rfl ?_
              exact ih2 j fo (by omega) (by omega) (by rw [fst_at (n := cs.length) (i := j) (by omega)]; exact hb)
            · have hpos := rSt_pos (ho2.2 _ (cAt_mem hj)) (trOK.TA (tr := t))
              have hb : (if (fun i => xAct (cAt cs i) (tA t) (tT t)) j then some j else fstFrom (fun i => xAct (cAt cs i) (tA t) (tT t)) (cs.length - (j + 1)) (j + 1)) = some j := if_pos (by show xAct _ _ _ = true; rw [← hpos]; simp; omega)
              refine v_iload X 4 dX8_propagate_31 rfl ?_
              refine v_goto X 37 dX8_propagate_33 (by decide) ?_
              refine v_istore_n X [(3, .int (nI j)), (0, .ref (ad k 93)), (1, .ref (ad k b)), (2, .int (bI true)), (4, .int (nI j))] dX8_propagate_37 (by decide) rfl ?_
              refine v_iinc X (v := pm j) 4 [(4, .int ((pm j))), (3, .int (nI j)), (0, .ref (ad k 93)), (1, .ref (ad k b)), (2, .int (bI true))] dX8_propagate_38 rfl (pm_dec _) (by decide) rfl ?_
              refine v_goto X 16 dX8_propagate_41 (by decide) ?_
              refine v_lv [2, 3, 4, 1, 0] rfl ?_
              exact ih2 j (some j) (by omega) (by omega) (by rw [fst_at (n := cs.length) (i := j) (by omega)]; exact hb)
      refine v_lv [2, 3, 4, 1, 0] rfl ?_
      exact Li (cs.length + 1) cs.length none (by omega) (Nat.le_refl _) (by rw [Nat.sub_self]; rfl)
  refine v_iconst X (v := bI true) (by decide) dX8_propagate_0 ?_
  refine v_istore_n X [(2, .int (bI true)), (0, .ref (ad k 93)), (1, .ref (ad k b))] dX8_propagate_1 (by decide) rfl ?_
  refine v_lv [1, 2, 0] rfl ?_
  exact Lo 10 tr 9 M (by omega) (by omega) rfl hlv FrT.rf F0 F hT
