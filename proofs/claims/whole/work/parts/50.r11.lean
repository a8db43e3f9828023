set_option maxHeartbeats 4000000 in
set_option maxRecDepth 100000 in
theorem c_X8_canLearn (l : Launch) (k : KX) (M : Mem) (rf ac nx as ts tz lv : Nat) (cf : Option Nat) (lp ln sz sp lc : Nat) (so : Bool) (hN : 107 ≤ kN k) (F0 : M 93 = RO k rf ac nx as ts tz lv cf lp ln sz sp lc so) (hcb : ∀ n, cf = some n → n < 24) (hlv : lv ≤ 8) : CM l yX8_canLearn cX8_canLearn 1 ((some .boolean)) { frames := 0, cells := 0, slots := 0, locals := 0 } k [.ref (ad k 93)] M (pP (.int (bI (decide (cf ≠ none ∧ lv ≠ 0)))) M) := by
  refine CM.of (by decide) (Nat.le_of_ble_eq_true rfl) (fun C X hCl hCR rq => ?_)
  show V C k 1 (0, 0) M 0 [(0, .ref (ad k 93))] []
  refine v_aload_n X 0 dX8_canLearn_0 rfl ?_
  refine v_get X cls8 F0 (by omega) 16 (by decide) m_452 rfl rfl dX8_canLearn_1 ?_
  refine v_bipush X (v := (-9)) (by decide) dX8_canLearn_4 ?_
  refine v_icmp_eq X 20 dX8_canLearn_6 (by decide) (fun c_1 => ?_) (fun c_1 => ?_)
  · have h6 : cf = none := (oI_eq (fun n hn => by have := hcb n hn; omega)).mp c_1
    refine v_iconst X (v := bI false) (by decide) dX8_canLearn_20 ?_
    exact v_iret X rq ⟨by decide, by decide⟩ (narZ _) dX8_canLearn_21 (pP_i (by congr 1; first | (rw [decide_eq_true ⟨h6, by omega⟩]; done) | (rw [decide_eq_false (fun w => w.1 h6)]; done) | (rw [decide_eq_false (fun w => w.2 (by omega))]; done)))
  · have h6 : cf ≠ none := fun w => c_1 (by rw [w]; rfl)
    refine v_aload_n X 0 dX8_canLearn_9 rfl ?_
    refine v_get X cls8 F0 (by omega) 12 (by decide) m_476 rfl rfl dX8_canLearn_10 ?_
    refine v_ileN X 20 (by omega) dX8_canLearn_13 (by decide) (fun c_2 => ?_) (fun c_2 => ?_)
    · have h13 := c_2
      refine v_iconst X (v := bI false) (by decide) dX8_canLearn_20 ?_
      exact v_iret X rq ⟨by decide, by decide⟩ (narZ _) dX8_canLearn_21 (pP_i (by congr 1; first | (rw [decide_eq_true ⟨h6, by omega⟩]; done) | (rw [decide_eq_false (fun w => w.1 h6)]; done) | (rw [decide_eq_false (fun w => w.2 (by omega))]; done)))
    · have h13 := c_2
      refine v_iconst X (v := bI true) (by decide) dX8_canLearn_16 ?_
      refine v_goto X 21 dX8_canLearn_17 (by decide) ?_
      exact v_iret X rq ⟨by decide, by decide⟩ (narZ _) dX8_canLearn_21 (pP_i (by congr 1; first | (rw [decide_eq_true ⟨h6, by omega⟩]; done) | (rw [decide_eq_false (fun w => w.1 h6)]; done) | (rw [decide_eq_false (fun w => w.2 (by omega))]; done)))
set_option maxHeartbeats 4000000 in
set_option maxRecDepth 100000 in
theorem c_X8_atLevel (l : Launch) (k : KX) (M : Mem) (rf ac nx lp ln sz sp lc : Nat) (so : Bool) (tr : List Ent) (cf : Option Nat) (x : Nat) (hN : 107 ≤ kN k) (F0 : M 93 = RO k rf ac nx (tA tr) (tT tr) tr.length ((tL tr)) cf lp ln sz sp lc so) (hT : RtAt k M tr) (hx : x < 256) (hs : sub8 x (tA tr)) : CM l yX8_atLevel cX8_atLevel 4 ((some .int)) { frames := 1, cells := 0, slots := 0, locals := 21 } k [.ref (ad k 93), .int (nI x)] M (pP (.int (nI (pcN 8 (x &&& (mdiff (tA tr) (tB tr)))))) M) := by
  refine CM.of (by decide) (Nat.le_of_ble_eq_true rfl) (fun C X hCl hCR rq => ?_)
  show V C k 4 (0, 0) M 0 [(0, .ref (ad k 93)), (1, .int (nI x))] []
  have hTk := hT.2.1
  have hTl := hTk.le
  have htl := tL_le tr
  obtain ⟨hN_1, hk_2, t_3, l_4, p_5, r_6, F0_7, F1_8, F2_9, F3_10, h1_11, h2_12, h3_13⟩ := id hT
  refine v_iconst X (v := nI 0) (by decide) dX8_atLevel_0 ?_
  refine v_istore_n X [(2, .int (nI 0)), (0, .ref (ad k 93)), (1, .int (nI x))] dX8_atLevel_1 (by decide) rfl ?_
  refine v_iconst X (v := nI 0) (by decide) dX8_atLevel_2 ?_
  refine v_istore_n X [(3, .int (nI 0)), (2, .int (nI 0)), (0, .ref (ad k 93)), (1, .int (nI x))] dX8_atLevel_3 (by decide) rfl ?_
  have L : ∀ (fu : Nat) (v : Nat), 8 - v < fu → (v ≤ 8) → V C k 4 (0, 0) M 4 [(0, .ref (ad k 93)), (1, .int (nI x)), (2, .int (nI (pcN v (x &&& (mdiff (tA tr) (tB tr)))))), (3, .int (nI v))] [] := by
    intro fu
    induction fu with
    | zero => intro v hfu; exact absurd hfu (Nat.not_lt_zero _)
    | succ fu ih =>
      intro v hfu hv 
      refine v_iload_n X 3 dX8_atLevel_4 rfl ?_
      refine v_bipush X (v := nI 8) (by decide) dX8_atLevel_5 ?_
      refine v_cgeN X 45 (by omega) (by omega) dX8_atLevel_7 (by decide) (fun c_14 => ?_) (fun c_14 => ?_)
      · refine v_iload_n X 2 dX8_atLevel_45 rfl ?_
        exact v_iret X rq ⟨by decide, by decide⟩ rfl dX8_atLevel_46 (pP_i (by rw [show v = 8 by omega]))
      · refine v_iload_n X 2 dX8_atLevel_10 rfl ?_
        refine v_iload_n X 1 dX8_atLevel_11 rfl ?_
        refine v_iload_n X 3 dX8_atLevel_12 rfl ?_
        refine v_callS X hCl hCR (c_X8_has l k M x v (by omega) (by omega)) mo_X8_has m_460 m_463 m_464 m_465 (by decide) rfl rfl (Nat.le_of_ble_eq_true rfl) ⟨rfl, rfl⟩ ⟨by decide, by decide⟩ dX8_atLevel_13 (vP_in ?_)
        refine v_ieqB X 36 dX8_atLevel_16 (by decide) (fun c_15 => ?_) (fun c_15 => ?_)
        · have h16 := c_15
          refine v_iconst X (v := nI 0) (by decide) dX8_atLevel_36 ?_
          refine v_addN X dX8_atLevel_37 ?_
          refine v_top (show (Value.int (nI ((pcN v (x &&& (mdiff (tA tr) (tB tr)))) + 0)) : Value) = .int (nI (pcN (v + 1) (x &&& (mdiff (tA tr) (tB tr))))) from congrArg _ (congrArg nI (by show _ = pcN v _ + (if _ then 1 else 0); rw [if_neg]; rw [Nat.testBit_and, mdiff_tb (by omega)]; first | (rw [h16]; simp; done) | (rw [show (tB tr).testBit v = true from by cases q : (tB tr).testBit v with | true => rfl | false => exact absurd ((tLev_top hTk (hs v h16)).mpr q) h29]; simp)))) ?_
          refine v_istore_n X [(2, .int (nI (pcN (v + 1) (x &&& (mdiff (tA tr) (tB tr)))))), (0, .ref (ad k 93)), (1, .int (nI x)), (3, .int (nI v))] dX8_atLevel_38 (by decide) rfl ?_
          refine v_iinc X (v := nI (v + 1)) 3 [(3, .int (nI (v + 1))), (2, .int (nI (pcN (v + 1) (x &&& (mdiff (tA tr) (tB tr)))))), (0, .ref (ad k 93)), (1, .int (nI x))] dX8_atLevel_39 rfl (nI_1 _) (by decide) rfl ?_
          refine v_goto X 4 dX8_atLevel_42 (by decide) ?_
          refine v_lv [2, 3, 1, 0] rfl ?_
          exact ih (v + 1) (by omega) (by omega)
        · have h16 := c_15
          refine v_aload_n X 0 dX8_atLevel_19 rfl ?_
          refine v_get X cls8 F0 (by omega) 13 (by decide) m_449 rfl rfl dX8_atLevel_20 ?_
          refine v_iload_n X 3 dX8_atLevel_23 rfl ?_
          refine v_iald X nI F1_8 (by omega) (by omega) (by decide) dX8_atLevel_24 ?_
          have hlv := (h3_13 v (by omega) (hs v h16)).1
          have hl8 := tLev_le hTk v
          refine v_top (show (Value.int (nI (l_4 v)) : Value) = .int (nI (tLev tr v)) from congrArg _ (congrArg nI hlv)) ?_
          refine v_aload_n X 0 dX8_atLevel_25 rfl ?_
          refine v_get X cls8 F0 (by omega) 12 (by decide) m_476 rfl rfl dX8_atLevel_26 ?_
          refine v_cneN X 36 (by omega) (by omega) dX8_atLevel_29 (by decide) (fun c_16 => ?_) (fun c_16 => ?_)
          · have h29 := c_16
            refine v_iconst X (v := nI 0) (by decide) dX8_atLevel_36 ?_
            refine v_addN X dX8_atLevel_37 ?_
            refine v_top (show (Value.int (nI ((pcN v (x &&& (mdiff (tA tr) (tB tr)))) + 0)) : Value) = .int (nI (pcN (v + 1) (x &&& (mdiff (tA tr) (tB tr))))) from congrArg _ (congrArg nI (by show _ = pcN v _ + (if _ then 1 else 0); rw [if_neg]; rw [Nat.testBit_and, mdiff_tb (by omega)]; first | (rw [h16]; simp; done) | (rw [show (tB tr).testBit v = true from by cases q : (tB tr).testBit v with | true => rfl | false => exact absurd ((tLev_top hTk (hs v h16)).mpr q) h29]; simp)))) ?_
            refine v_istore_n X [(2, .int (nI (pcN (v + 1) (x &&& (mdiff (tA tr) (tB tr)))))), (0, .ref (ad k 93)), (1, .int (nI x)), (3, .int (nI v))] dX8_atLevel_38 (by decide) rfl ?_
            refine v_iinc X (v := nI (v + 1)) 3 [(3, .int (nI (v + 1))), (2, .int (nI (pcN (v + 1) (x &&& (mdiff (tA tr) (tB tr)))))), (0, .ref (ad k 93)), (1, .int (nI x))] dX8_atLevel_39 rfl (nI_1 _) (by decide) rfl ?_
            refine v_goto X 4 dX8_atLevel_42 (by decide) ?_
            refine v_lv [2, 3, 1, 0] rfl ?_
            exact ih (v + 1) (by omega) (by omega)
          · have h29 := c_16
            refine v_iconst X (v := nI 1) (by decide) dX8_atLevel_32 ?_
            refine v_goto X 37 dX8_atLevel_33 (by decide) ?_
            refine v_addN X dX8_atLevel_37 ?_
            refine v_top (show (Value.int (nI ((pcN v (x &&& (mdiff (tA tr) (tB tr)))) + 1)) : Value) = .int (nI (pcN (v + 1) (x &&& (mdiff (tA tr) (tB tr))))) from congrArg _ (congrArg nI (by show _ = pcN v _ + (if _ then 1 else 0); rw [if_pos]; rw [Nat.testBit_and, mdiff_tb (by omega), h16, hs v h16, (tLev_top hTk (hs v h16)).mp h29]; rfl))) ?_
            refine v_istore_n X [(2, .int (nI (pcN (v + 1) (x &&& (mdiff (tA tr) (tB tr)))))), (0, .ref (ad k 93)), (1, .int (nI x)), (3, .int (nI v))] dX8_atLevel_38 (by decide) rfl ?_
            refine v_iinc X (v := nI (v + 1)) 3 [(3, .int (nI (v + 1))), (2, .int (nI (pcN (v + 1) (x &&& (mdiff (tA tr) (tB tr)))))), (0, .ref (ad k 93)), (1, .int (nI x))] dX8_atLevel_39 rfl (nI_1 _) (by decide) rfl ?_
            refine v_goto X 4 dX8_atLevel_42 (by decide) ?_
            refine v_lv [2, 3, 1, 0] rfl ?_
            exact ih (v + 1) (by omega) (by omega)
  refine v_lv [2, 3, 1, 0] rfl ?_
  exact L 9 0 (by omega) (by omega)
set_option maxHeartbeats 4000000 in
set_option maxRecDepth 100000 in
theorem c_X8_latest (l : Launch) (k : KX) (M : Mem) (rf ac nx lp ln sz sp lc : Nat) (so : Bool) (tr : List Ent) (cf : Option Nat) (x : Nat) (p t : List Ent) (e : Ent) (hN : 107 ≤ kN k) (F0 : M 93 = RO k rf ac nx (tA tr) (tT tr) tr.length ((tL tr)) cf lp ln sz sp lc so) (hT : RtAt k M tr) (hx : x < 256) (htr : tr = p ++ e :: t) (he : x.testBit e.1 = true) (hs : sub8 x (tA (e :: t))) : CM l yX8_latest cX8_latest 4 ((some .int)) { frames := 1, cells := 0, slots := 0, locals := 21 } k [.ref (ad k 93), .int (nI x)] M (pP (.int (nI e.1)) M) := by
  refine CM.of (by decide) (Nat.le_of_ble_eq_true rfl) (fun C X hCl hCR rq => ?_)
  show V C k 4 (0, 0) M 0 [(0, .ref (ad k 93)), (1, .int (nI x))] []
  have hTk := hT.2.1
  have hTl := hTk.le
  have htl := tL_le tr
  have hs2 : sub8 x (tA tr) := fun v hv => by rw [htr]; exact tA_app _ p (hs v hv)
  have he8 := tb_lt8 hx he
  obtain ⟨hN_1, hk_2, t_3, l_4, p_5, r_6, F0_7, F1_8, F2_9, F3_10, h1_11, h2_12, h3_13⟩ := id hT
  refine v_bipush X (v := oI none) (by decide) dX8_latest_0 ?_
  refine v_istore_n X [(2, .int (oI none)), (0, .ref (ad k 93)), (1, .int (nI x))] dX8_latest_2 (by decide) rfl ?_
  refine v_iconst X (v := nI 0) (by decide) dX8_latest_3 ?_
  refine v_istore_n X [(3, .int (nI 0)), (2, .int (oI none)), (0, .ref (ad k 93)), (1, .int (nI x))] dX8_latest_4 (by decide) rfl ?_
  have L : ∀ (fu : Nat) (v : Nat) (fo : Option Nat), 8 - v < fu → (v ≤ 8) → (latP x (tPl tr) v fo) → V C k 4 (0, 0) M 5 [(0, .ref (ad k 93)), (1, .int (nI x)), (2, .int (oI fo)), (3, .int (nI v))] [] := by
    intro fu
    induction fu with
    | zero => intro v fo hfu; exact absurd hfu (Nat.not_lt_zero _)
    | succ fu ih =>
      intro v fo hfu hv hp 
      refine v_iload_n X 3 dX8_latest_5 rfl ?_
      refine v_bipush X (v := nI 8) (by decide) dX8_latest_6 ?_
      refine v_cgeN X 52 (by omega) (by omega) dX8_latest_8 (by decide) (fun c_14 => ?_) (fun c_14 => ?_)
      · refine v_iload_n X 2 dX8_latest_52 rfl ?_
        exact v_iret X rq ⟨by decide, by decide⟩ rfl dX8_latest_53 (pP_i (by rw [(show latP x (tPl tr) 8 fo by rw [show v = 8 by omega] at hp; exact hp).end_ hTk htr he hs he8]; rfl))
      · refine v_iload_n X 1 dX8_latest_11 rfl ?_
        refine v_iload_n X 3 dX8_latest_12 rfl ?_
        refine v_callS X hCl hCR (c_X8_has l k M x v (by omega) (by omega)) mo_X8_has m_460 m_463 m_464 m_465 (by decide) rfl rfl (Nat.le_of_ble_eq_true rfl) ⟨rfl, rfl⟩ ⟨by decide, by decide⟩ dX8_latest_13 (vP_in ?_)
        refine v_ieqB X 44 dX8_latest_16 (by decide) (fun c_15 => ?_) (fun c_15 => ?_)
        · have h16 := c_15
          refine v_iload_n X 2 dX8_latest_44 rfl ?_
          refine v_istore_n X [(2, .int (oI fo)), (0, .ref (ad k 93)), (1, .int (nI x)), (3, .int (nI v))] dX8_latest_45 (by decide) rfl ?_
          refine v_iinc X (v := nI (v + 1)) 3 [(3, .int (nI (v + 1))), (2, .int (oI fo)), (0, .ref (ad k 93)), (1, .int (nI x))] dX8_latest_46 rfl (nI_1 _) (by decide) rfl ?_
          refine v_goto X 5 dX8_latest_49 (by decide) ?_
          refine v_lv [2, 3, 1, 0] rfl ?_
          exact ih (v + 1) fo (by omega) (by omega) (hp.skip h16)
        · have h16 := c_15
          refine v_iload_n X 2 dX8_latest_19 rfl ?_
          refine v_bipush X (v := (-9)) (by decide) dX8_latest_20 ?_
          refine v_icmp_eq X 40 dX8_latest_22 (by decide) (fun c_16 => ?_) (fun c_16 => ?_)
          · have hfn : fo = none := (oI_eq (fun n hn => by have q := hp; rw [hn] at q; have := q.1; omega)).mp c_16
            subst hfn
            refine v_iload_n X 3 dX8_latest_40 rfl ?_
            refine v_goto X 45 dX8_latest_41 (by decide) ?_
            refine v_istore_n X [(2, .int (nI v)), (0, .ref (ad k 93)), (1, .int (nI x)), (3, .int (nI v))] dX8_latest_45 (by decide) rfl ?_
            refine v_iinc X (v := nI (v + 1)) 3 [(3, .int (nI (v + 1))), (2, .int (nI v)), (0, .ref (ad k 93)), (1, .int (nI x))] dX8_latest_46 rfl (nI_1 _) (by decide) rfl ?_
            refine v_goto X 5 dX8_latest_49 (by decide) ?_
            refine v_lv [2, 3, 1, 0] rfl ?_
            exact ih (v + 1) (some v) (by omega) (by omega) (hp.first h16)
          · obtain ⟨u, hu⟩ := Option.ne_none_iff_exists'.mp (fun w => c_16 ((oI_eq (fun n hn => by have q := hp; rw [hn] at q; have := q.1; omega)).mpr w))
            subst hu
            have hu1 := hp.1
            have hu2 := hp.2.1
            refine v_aload_n X 0 dX8_latest_25 rfl ?_
            refine v_get X cls8 F0 (by omega) 15 (by decide) m_451 rfl rfl dX8_latest_26 ?_
            refine v_iload_n X 3 dX8_latest_29 rfl ?_
            refine v_iald X nI F3_10 (by omega) (by omega) (by decide) dX8_latest_30 ?_
            have hplv := (h3_13 v (by omega) (hs2 v h16)).2
            have hpbv := tPl_lt (hs2 v h16)
            refine v_top (show (Value.int (nI (p_5 v)) : Value) = .int (nI (tPl tr v)) from congrArg _ (congrArg nI hplv)) ?_
            refine v_aload_n X 0 dX8_latest_31 rfl ?_
            refine v_get X cls8 F0 (by omega) 15 (by decide) m_451 rfl rfl dX8_latest_32 ?_
            refine v_iload_n X 2 dX8_latest_35 rfl ?_
            refine v_iald X nI F3_10 (by omega) (by omega) (by decide) dX8_latest_36 ?_
            have hplu := (h3_13 u (by omega) (hs2 u hu2)).2
            have hpbu := tPl_lt (hs2 u hu2)
            refine v_top (show (Value.int (nI (p_5 u)) : Value) = .int (nI (tPl tr u)) from congrArg _ (congrArg nI hplu)) ?_
            refine v_cleN X 44 (by omega) (by omega) dX8_latest_37 (by decide) (fun c_17 => ?_) (fun c_17 => ?_)
            · have hle := c_17
              refine v_iload_n X 2 dX8_latest_44 rfl ?_
              refine v_istore_n X [(2, .int (nI u)), (0, .ref (ad k 93)), (1, .int (nI x)), (3, .int (nI v))] dX8_latest_45 (by decide) rfl ?_
              refine v_iinc X (v := nI (v + 1)) 3 [(3, .int (nI (v + 1))), (2, .int (nI u)), (0, .ref (ad k 93)), (1, .int (nI x))] dX8_latest_46 rfl (nI_1 _) (by decide) rfl ?_
              refine v_goto X 5 dX8_latest_49 (by decide) ?_
              refine v_lv [2, 3, 1, 0] rfl ?_
              exact ih (v + 1) (some u) (by omega) (by omega) (hp.keep hle)
            · have hlt := c_17
              refine v_iload_n X 3 dX8_latest_40 rfl ?_
              refine v_goto X 45 dX8_latest_41 (by decide) ?_
              refine v_istore_n X [(2, .int (nI v)), (0, .ref (ad k 93)), (1, .int (nI x)), (3, .int (nI v))] dX8_latest_45 (by decide) rfl ?_
              refine v_iinc X (v := nI (v + 1)) 3 [(3, .int (nI (v + 1))), (2, .int (nI v)), (0, .ref (ad k 93)), (1, .int (nI x))] dX8_latest_46 rfl (nI_1 _) (by decide) rfl ?_
              refine v_goto X 5 dX8_latest_49 (by decide) ?_
              refine v_lv [2, 3, 1, 0] rfl ?_
              exact ih (v + 1) (some v) (by omega) (by omega) (hp.next h16 hlt)
  refine v_lv [2, 3, 1, 0] rfl ?_
  exact L 9 0 none (by omega) (by omega) (fun w hw => absurd hw (Nat.not_lt_zero _))
set_option maxHeartbeats 4000000 in
set_option maxRecDepth 100000 in
theorem c_X8_analyse (l : Launch) (k : KX) (M : Mem) (rf ac nx lp ln sz sp lc : Nat) (so : Bool) (tr : List Ent) (c b : Nat) (f : Nat → Nat) (cs : List Nat) (hN : 107 ≤ kN k) (F0 : M 93 = RO k rf ac nx (tA tr) (tT tr) tr.length ((tL tr)) ((some c)) lp ln sz sp lc so) (hT : RtAt k M tr) (hb : b = 94 ∨ b = 95) (F : M b = IR k 82 f) (hr : csRow f cs) (ho2 : csOK cs) (hX : trX cs tr) (hc : c < cs.length) (hcs : sub8 (xVars (cAt cs c)) (tA tr)) : CM l yX8_analyse cX8_analyse 5 ((some .int)) { frames := 2, cells := 0, slots := 0, locals := 44 } k [.ref (ad k 93), .ref (ad k b)] M (pI (fun r M' => r = nI (bjLev tr (lrnVars cs tr c)) ∧ M' 93 = RO k rf ac nx (tA tr) (tT tr) tr.length ((tL tr)) ((some c)) ((mdiff (lrnVars cs tr c) (tT tr))) (((lrnVars cs tr c) &&& tT tr)) sz sp lc so ∧ ∀ i, i ≠ 93 → M' i = M i)) := by
  refine CM.of (by decide) (Nat.le_of_ble_eq_true rfl) (fun C X hCl hCR rq => ?_)
  show V C k 5 (0, 0) M 0 [(0, .ref (ad k 93)), (1, .ref (ad k b))] []
  have hTk := hT.2.1
  have hTl := hTk.le
  have htl := tL_le tr
  have hlc := ho2.1
  obtain ⟨hN_1, hk_2, t_3, l_4, p_5, r_6, F0_7, F1_8, F2_9, F3_10, h1_11, h2_12, h3_13⟩ := id hT
  refine v_aload_n X 1 dX8_analyse_0 rfl ?_
  refine v_aload_n X 0 dX8_analyse_1 rfl ?_
  refine v_get X cls8 F0 (by omega) 16 (by decide) m_452 rfl rfl dX8_analyse_2 ?_
  refine v_top (show (Value.int (oI ((some c))) : Value) = .int (nI c) from congrArg _ (rfl)) ?_
  refine v_callS X hCl hCR (c_X8_variablesOf l k M b f c ((cAt cs c)) (by omega) F (by omega) (hr.2 c hc)) mo_X8_variablesOf m_467 m_478 m_479 m_465 (by decide) rfl rfl (Nat.le_of_ble_eq_true rfl) ⟨rfl, rfl⟩ ⟨by decide, by decide⟩ dX8_analyse_5 (vP_in ?_)
  refine v_istore_n X [(2, .int (nI (xVars ((cAt cs c))))), (0, .ref (ad k 93)), (1, .ref (ad k b))] dX8_analyse_8 (by decide) rfl ?_
  have A : ∀ (fu : Nat) (p suf : List Ent) (x : Nat), suf.length < fu → (tr = p ++ suf) → (x < 256) → (sub8 x (tA suf)) → (ana cs (mdiff (tA tr) (tB tr)) suf x = (lrnVars cs tr c)) → V C k 5 (0, 0) M 9 [(0, .ref (ad k 93)), (1, .ref (ad k b)), (2, .int (nI x))] [] := by
    intro fu
    induction fu with
    | zero => intro p suf x hfu; exact absurd hfu (Nat.not_lt_zero _)
    | succ fu ih7 =>
      intro p suf x hfu htr hx hs hA 
      have hsA : sub8 x (tA tr) := fun v hv => by rw [htr]; exact tA_app _ p (hs v hv)
      have hpc8 := pc8_le (x &&& mdiff (tA tr) (tB tr))
      refine v_aload_n X 0 dX8_analyse_9 rfl ?_
      refine v_iload_n X 2 dX8_analyse_10 rfl ?_
      refine v_callV X hCl hCR (c_X8_atLevel l k M rf ac nx lp ln sz sp lc so tr ((some c)) x (by omega) F0 hT hx hsA) cls8 ⟨_, F0⟩ (by omega) mo_X8_atLevel m_568 m_573 m_574 m_575 m_465 (by decide) rfl rfl (Nat.le_of_ble_eq_true rfl) ⟨rfl, rfl⟩ ⟨by decide, by decide⟩ dX8_analyse_11 (vP_in ?_)
      refine v_iconst X (v := nI 1) (by decide) dX8_analyse_14 ?_
      refine v_cleN X 46 (by omega) (by omega) dX8_analyse_15 (by decide) (fun c_14 => ?_) (fun c_14 => ?_)
      · have hxe : x = (lrnVars cs tr c) := by rw [← hA, ana_fin c_14]
        have hsL : sub8 (lrnVars cs tr c) (tA tr) := by rw [← hxe]; exact hsA
        refine v_aload_n X 0 dX8_analyse_46 rfl ?_
        refine v_iload_n X 2 dX8_analyse_47 rfl ?_
        refine v_aload_n X 0 dX8_analyse_48 rfl ?_
        refine v_get X cls8 F0 (by omega) 9 (by decide) m_474 rfl rfl dX8_analyse_49 ?_
        refine v_iconst X (v := nI 4294967295) (by decide) dX8_analyse_52 ?_
        refine v_xorN X dX8_analyse_53 ?_
        refine v_andN X dX8_analyse_54 ?_
        refine v_put X cls8 F0 (by omega) 17 (by decide) m_571 rfl rfl rfl rfl (Nat.le_of_ble_eq_true rfl) dX8_analyse_55 (fun M_15 hM_16 => ?_)
        have F_17 : M_15 93 = RO k rf ac nx (tA tr) (tT tr) tr.length ((tL tr)) ((some c)) (x &&& ((tT tr) ^^^ 4294967295)) ln sz sp lc so := by rw [hM_16]; exact mup_s
        have F_18 : M_15 b = IR k 82 f := by rw [hM_16, mup_n (by omega)]; exact F
        have F_19 : M_15 99 = IR k 8 t_3 := by rw [hM_16, mup_n (by omega)]; exact F0_7
        have F_20 : M_15 100 = IR k 8 l_4 := by rw [hM_16, mup_n (by omega)]; exact F1_8
        have F_21 : M_15 101 = .inl (kI k, 8, .inl (fun zq => oI (r_6 zq))) := by rw [hM_16, mup_n (by omega)]; exact F2_9
        have F_22 : M_15 102 = IR k 8 p_5 := by rw [hM_16, mup_n (by omega)]; exact F3_10
        have P_23 : RtAt k M_15 tr := hT.fr (fun i h1 h2 => by rw [hM_16, mup_n (by omega)])
        refine v_aload_n X 0 dX8_analyse_58 rfl ?_
        refine v_iload_n X 2 dX8_analyse_59 rfl ?_
        refine v_aload_n X 0 dX8_analyse_60 rfl ?_
        refine v_get X cls8 F_17 (by omega) 9 (by decide) m_474 rfl rfl dX8_analyse_61 ?_
        refine v_andN X dX8_analyse_64 ?_
        refine v_put X cls8 F_17 (by omega) 18 (by decide) m_572 rfl rfl rfl rfl (Nat.le_of_ble_eq_true rfl) dX8_analyse_65 (fun M_24 hM_25 => ?_)
        have F_26 : M_24 93 = RO k rf ac nx (tA tr) (tT tr) tr.length ((tL tr)) ((some c)) (x &&& ((tT tr) ^^^ 4294967295)) (x &&& (tT tr)) sz sp lc so := by rw [hM_25]; exact mup_s
        have F_27 : M_24 b = IR k 82 f := by rw [hM_25, mup_n (by omega)]; exact F_18
        have F_28 : M_24 99 = IR k 8 t_3 := by rw [hM_25, mup_n (by omega)]; exact F_19
        have F_29 : M_24 100 = IR k 8 l_4 := by rw [hM_25, mup_n (by omega)]; exact F_20
        have F_30 : M_24 101 = .inl (kI k, 8, .inl (fun zq => oI (r_6 zq))) := by rw [hM_25, mup_n (by omega)]; exact F_21
        have F_31 : M_24 102 = IR k 8 p_5 := by rw [hM_25, mup_n (by omega)]; exact F_22
        have P_32 : RtAt k M_24 tr := P_23.fr (fun i h1 h2 => by rw [hM_25, mup_n (by omega)])
        refine v_iconst X (v := nI 0) (by decide) dX8_analyse_68 ?_
        refine v_istore_n X [(3, .int (nI 0)), (0, .ref (ad k 93)), (1, .ref (ad k b)), (2, .int (nI x))] dX8_analyse_69 (by decide) rfl ?_
        refine v_iconst X (v := nI 0) (by decide) dX8_analyse_70 ?_
        refine v_istore X [(4, .int (nI 0)), (3, .int (nI 0)), (0, .ref (ad k 93)), (1, .ref (ad k b)), (2, .int (nI x))] dX8_analyse_71 (by decide) rfl ?_
        have B : ∀ (fu : Nat) (q w : Nat), 8 - q < fu → (q ≤ 8) → (bjF (fun v => (x &&& tB tr).testBit v) (tLev tr) q = w) → V C k 5 (0, 0) M_24 73 [(0, .ref (ad k 93)), (2, .int (nI x)), (3, .int (nI w)), (4, .int (nI q))] [] := by
          intro fu
          induction fu with
          | zero => intro q w hfu; exact absurd hfu (Nat.not_lt_zero _)
          | succ fu ih8 =>
            intro q w hfu hq hw 
            refine v_iload X 3 dX8_analyse_73 rfl ?_
            refine v_bipush X (v := nI 8) (by decide) dX8_analyse_75 ?_
            refine v_cgeN X 132 (by omega) (by omega) dX8_analyse_77 (by decide) (fun c_33 => ?_) (fun c_33 => ?_)
            · refine v_iload_n X 2 dX8_analyse_132 rfl ?_
              have F_34 : M_24 93 = RO k rf ac nx (tA tr) (tT tr) tr.length ((tL tr)) ((some c)) (mdiff (lrnVars cs tr c) (tT tr)) ((lrnVars cs tr c) &&& tT tr) sz sp lc so := by rw [← hxe]; exact F_26
              exact v_iret X rq ⟨by decide, by decide⟩ rfl dX8_analyse_133 ⟨_, rfl, (by rw [← hw, show q = 8 by omega, hxe]; rfl), F_34, (fun i hi => by rw [hM_25, mup_n (by omega), hM_16, mup_n (by omega)])⟩
            · refine v_iload_n X 1 dX8_analyse_80 rfl ?_
              refine v_iload X 3 dX8_analyse_81 rfl ?_
              refine v_callS X hCl hCR (c_X8_has l k M_24 x q (by omega) (by omega)) mo_X8_has m_460 m_463 m_464 m_465 (by decide) rfl rfl (Nat.le_of_ble_eq_true rfl) ⟨rfl, rfl⟩ ⟨by decide, by decide⟩ dX8_analyse_83 (vP_in ?_)
              refine v_ieqB X 124 dX8_analyse_86 (by decide) (fun c_35 => ?_) (fun c_35 => ?_)
              · have hbx := c_35
                refine v_iload_n X 2 dX8_analyse_124 rfl ?_
                refine v_istore_n X [(3, .int (nI w)), (0, .ref (ad k 93)), (2, .int (nI x)), (4, .int (nI q))] dX8_analyse_125 (by decide) rfl ?_
                refine v_iinc X (v := nI (q + 1)) 3 [(4, .int (nI (q + 1))), (3, .int (nI w)), (0, .ref (ad k 93)), (2, .int (nI x))] dX8_analyse_126 rfl (nI_1 _) (by decide) rfl ?_
                refine v_goto X 73 dX8_analyse_129 (by decide) ?_
                refine v_lv [2, 3, 1, 0] rfl ?_
                exact ih8 (q + 1) w (by omega) (by omega) (by rw [bj_f (by rw [Nat.testBit_and, hbx]; rfl), hw])
              · have hbx := c_35
                refine v_aload_n X 0 dX8_analyse_89 rfl ?_
                refine v_get X cls8 F_26 (by omega) 13 (by decide) m_449 rfl rfl dX8_analyse_90 ?_
                refine v_iload X 3 dX8_analyse_93 rfl ?_
                refine v_iald X nI F_29 (by omega) (by omega) (by decide) dX8_analyse_95 ?_
                have hlvq := (h3_13 q (by omega) (hsA q hbx)).1
                have hl8 := tLev_le hTk q
                have hltl := tLev_tL (tr := tr) (v := q)
                have hwb := bj_tL (tr := tr) (p := fun v => (x &&& tB tr).testBit v) q
                refine v_top (show (Value.int (nI (l_4 q)) : Value) = .int (nI (tLev tr q)) from congrArg _ (congrArg nI hlvq)) ?_
                refine v_aload_n X 0 dX8_analyse_96 rfl ?_
                refine v_get X cls8 F_26 (by omega) 12 (by decide) m_476 rfl rfl dX8_analyse_97 ?_
                refine v_cgeN X 124 (by omega) (by omega) dX8_analyse_100 (by decide) (fun c_36 => ?_) (fun c_36 => ?_)
                · have hbB : (tB tr).testBit q = false := (tLev_top hTk (hsA q hbx)).mp (by omega)
                  refine v_iload_n X 2 dX8_analyse_124 rfl ?_
                  refine v_istore_n X [(3, .int (nI w)), (0, .ref (ad k 93)), (2, .int (nI x)), (4, .int (nI q))] dX8_analyse_125 (by decide) rfl ?_
                  refine v_iinc X (v := nI (q + 1)) 3 [(4, .int (nI (q + 1))), (3, .int (nI w)), (0, .ref (ad k 93)), (2, .int (nI x))] dX8_analyse_126 rfl (nI_1 _) (by decide) rfl ?_
                  refine v_goto X 73 dX8_analyse_129 (by decide) ?_
                  refine v_lv [2, 3, 1, 0] rfl ?_
                  exact ih8 (q + 1) w (by omega) (by omega) (by rw [bj_f (by rw [Nat.testBit_and, hbB, Bool.and_false]), hw])
                · have hbB : (tB tr).testBit q = true := by cases z : (tB tr).testBit q with | true => rfl | false => have := (tLev_top hTk (hsA q hbx)).mpr z; omega
                  refine v_aload_n X 0 dX8_analyse_103 rfl ?_
                  refine v_get X cls8 F_26 (by omega) 13 (by decide) m_449 rfl rfl dX8_analyse_104 ?_
                  refine v_iload X 3 dX8_analyse_107 rfl ?_
                  refine v_iald X nI F_29 (by omega) (by omega) (by decide) dX8_analyse_109 ?_
                  refine v_top (show (Value.int (nI (l_4 q)) : Value) = .int (nI (tLev tr q)) from congrArg _ (congrArg nI hlvq)) ?_
                  refine v_iload_n X 2 dX8_analyse_110 rfl ?_
                  refine v_cleN X 124 (by omega) (by omega) dX8_analyse_111 (by decide) (fun c_37 => ?_) (fun c_37 => ?_)
                  · have h111 := c_37
                    refine v_iload_n X 2 dX8_analyse_124 rfl ?_
                    refine v_istore_n X [(3, .int (nI w)), (0, .ref (ad k 93)), (2, .int (nI x)), (4, .int (nI q))] dX8_analyse_125 (by decide) rfl ?_
                    refine v_iinc X (v := nI (q + 1)) 3 [(4, .int (nI (q + 1))), (3, .int (nI w)), (0, .ref (ad k 93)), (2, .int (nI x))] dX8_analyse_126 rfl (nI_1 _) (by decide) rfl ?_
                    refine v_goto X 73 dX8_analyse_129 (by decide) ?_
                    refine v_lv [2, 3, 1, 0] rfl ?_
                    exact ih8 (q + 1) w (by omega) (by omega) (by rw [bj_t (by rw [Nat.testBit_and, hbx, hbB]; rfl), hw]; omega)
                  · have h111 := c_37
                    refine v_aload_n X 0 dX8_analyse_114 rfl ?_
                    refine v_get X cls8 F_26 (by omega) 13 (by decide) m_449 rfl rfl dX8_analyse_115 ?_
                    refine v_iload X 3 dX8_analyse_118 rfl ?_
                    refine v_iald X nI F_29 (by omega) (by omega) (by decide) dX8_analyse_120 ?_
                    refine v_top (show (Value.int (nI (l_4 q)) : Value) = .int (nI (tLev tr q)) from congrArg _ (congrArg nI hlvq)) ?_
                    refine v_goto X 125 dX8_analyse_121 (by decide) ?_
                    refine v_istore_n X [(3, .int (nI (tLev tr q))), (0, .ref (ad k 93)), (2, .int (nI x)), (4, .int (nI q))] dX8_analyse_125 (by decide) rfl ?_
                    refine v_iinc X (v := nI (q + 1)) 3 [(4, .int (nI (q + 1))), (3, .int (nI (tLev tr q))), (0, .ref (ad k 93)), (2, .int (nI x))] dX8_analyse_126 rfl (nI_1 _) (by decide) rfl ?_
                    refine v_goto X 73 dX8_analyse_129 (by decide) ?_
                    refine v_lv [2, 3, 1, 0] rfl ?_
                    exact ih8 (q + 1) (tLev tr q) (by omega) (by omega) (by rw [bj_t (by rw [Nat.testBit_and, hbx, hbB]; rfl), hw]; omega)
        refine v_lv [2, 4, 1, 0] rfl ?_
        exact B 9 0 0 (by omega) (by omega) rfl
      · obtain ⟨p2, e, t, i, htr2, htl2, hxe, hse, hei, hic, he8, hx2, hs2, hR2⟩ := ana_step hTk hX htr hx hs c_14 hA
        refine v_aload_n X 0 dX8_analyse_18 rfl ?_
        refine v_iload_n X 2 dX8_analyse_19 rfl ?_
        refine v_callV X hCl hCR (c_X8_latest l k M rf ac nx lp ln sz sp lc so tr ((some c)) x p2 t e (by omega) F0 hT hx htr2 hxe hse) cls8 ⟨_, F0⟩ (by omega) mo_X8_latest m_569 m_576 m_577 m_578 m_465 (by decide) rfl rfl (Nat.le_of_ble_eq_true rfl) ⟨rfl, rfl⟩ ⟨by decide, by decide⟩ dX8_analyse_20 (vP_in ?_)
        refine v_istore_n X [(3, .int (nI e.1)), (0, .ref (ad k 93)), (1, .ref (ad k b)), (2, .int (nI x))] dX8_analyse_23 (by decide) rfl ?_
        refine v_iload_n X 3 dX8_analyse_24 rfl ?_
        refine v_aload_n X 2 dX8_analyse_25 rfl ?_
        refine v_aload_n X 1 dX8_analyse_26 rfl ?_
        refine v_get X cls8 F0 (by omega) 14 (by decide) m_450 rfl rfl dX8_analyse_27 ?_
        refine v_iload_n X 0 dX8_analyse_30 rfl ?_
        refine v_iald X oI F2_9 (by omega) (by omega) (by decide) dX8_analyse_31 ?_
        have hrs : r_6 e.1 = some i := by rw [h2_12 e.1 he8, htr2, tRsn_app (by rw [← htr2]; exact hTk) (by rw [tA_tb]; simp)]; exact (if_pos rfl).trans hei
        refine v_top (show (Value.int (oI (r_6 e.1)) : Value) = .int (nI i) from congrArg _ (by rw [hrs]; rfl)) ?_
        refine v_callS X hCl hCR (c_X8_variablesOf l k M b f i ((cAt cs i)) (by omega) F (by omega) (hr.2 i hic)) mo_X8_variablesOf m_467 m_478 m_479 m_465 (by decide) rfl rfl (Nat.le_of_ble_eq_true rfl) ⟨rfl, rfl⟩ ⟨by decide, by decide⟩ dX8_analyse_32 (vP_in ?_)
        refine v_orN X dX8_analyse_35 ?_
        refine v_iconst X (v := nI 1) (by decide) dX8_analyse_36 ?_
        refine v_iload_n X 0 dX8_analyse_37 rfl ?_
        refine v_shlN X (by omega) dX8_analyse_38 ?_
        refine v_iconst X (v := nI 4294967295) (by decide) dX8_analyse_39 ?_
        refine v_xorN X dX8_analyse_40 ?_
        refine v_andN X dX8_analyse_41 ?_
        refine v_top (show (Value.int (nI ((x ||| (xVars ((cAt cs i)))) &&& ((1 <<< e.1) ^^^ 4294967295))) : Value) = .int (nI (mdiff (x ||| xVars (cAt cs i)) (1 <<< e.1))) from congrArg _ (rfl)) ?_
        refine v_istore_n X [(2, .int (nI (mdiff (x ||| xVars (cAt cs i)) (1 <<< e.1)))), (3, .int (nI e.1)), (0, .ref (ad k 93)), (1, .ref (ad k b))] dX8_analyse_42 (by decide) rfl ?_
        refine v_goto X 9 dX8_analyse_43 (by decide) ?_
        have hsA : sub8 x (tA tr) := fun v hv => by rw [htr]; exact tA_app _ p (hs v hv)
        have hpc8 := pc8_le (x &&& mdiff (tA tr) (tB tr))
        refine v_lv [2, 3, 0] rfl ?_
        exact ih7 (p2 ++ [e]) t (mdiff (x ||| xVars (cAt cs i)) (1 <<< e.1)) (by omega) (by rw [htr2, List.append_assoc]; rfl) hx2 hs2 hR2
  refine v_lv [1, 2, 0] rfl ?_
  exact A (tr.length + 1) [] tr (xVars (cAt cs c)) (by omega) rfl (xVars_lt _) hcs rfl
