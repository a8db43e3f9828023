/-! states and answers that 'ahead' meets -/
def aS (S : SS) (mem : List SD) : SS := (S.1, S.2.1, mem, va_up S.2.2.2.1 1 (some (S.1, S.2.1)), S.2.2.2.2)
def uM (mem : List SD) : List SD := if 14 ≤ mem.length then mem.tail else mem
theorem uM_lt {mem : List SD} (h : mem.length ≤ 14) : (uM mem).length < 2 ^ 31 := by
  unfold uM
  split
  · rw [List.length_tail]; omega
  · omega
theorem At.mlen {k : KX} {M : Mem} {S : SS} (h : At k M S) : S.2.2.1.length ≤ 14 := h.2.2.2.2.2.1.2.1
theorem now1_congr {a b : List Nat} {r r' : List SD × (Nat → Option SD) × List Nat} : ∀ n, now1 (a, b, r') n = now1 (a, b, r) n
  | 0 => rfl
  | n + 1 => by
    show nowA (a, b, r') (now1 (a, b, r') n) n = nowA (a, b, r) (now1 (a, b, r) n) n
    rw [now1_congr n]; rfl
theorem now2_congr {a b : List Nat} {r r' : List SD × (Nat → Option SD) × List Nat} : ∀ n, now2 (a, b, r') n = now2 (a, b, r) n
  | 0 => now1_congr _
  | n + 1 => by
    show nowB (a, b, r') (now2 (a, b, r') n) n = nowB (a, b, r) (now2 (a, b, r) n) n
    rw [now2_congr n]; rfl
theorem now_aS {S : SS} {mem : List SD} : nowF (aS S mem) = nowF S := now2_congr (a := S.1) (b := S.2.1) (r := S.2.2) 8
section E2
variable {S SB : SS} {mem : List SD} {q i j v d : Nat}
theorem e_save1 : W_save S (nI 1) = (nI S.1.length, aS S S.2.2.1) := by
  unfold W_save; rw [if_pos (inL_t (by decide) (by decide)), un_nI (by decide)]; rfl
theorem e_learnedT (hq : sCf S = some q) (hd : S.2.1.length ≠ 0) : W_learned (aS S mem) = (nI (falseCl (sTr S) (lrnS S q)), aS S mem) := by
  unfold W_learned
  rw [show sCf (aS S mem) = some q from hq]
  simp only []
  rw [if_pos (show (aS S mem).2.1.length ≠ 0 from hd)]
  rfl
theorem e_learnT (hq : sCf S = some q) (hd : S.2.1.length ≠ 0) (hl : S.1.length < 24) : W_learn (aS S mem) = (nI (bjLev (sTr S) (lrnS S q)), actS (aS S mem) (S.1 ++ [falseCl (sTr S) (lrnS S q)]) (S.2.1.take (bjLev (sTr S) (lrnS S q)))) := by
  unfold W_learn
  rw [show sCf (aS S mem) = some q from hq]
  simp only []
  rw [if_pos (show (aS S mem).2.1.length ≠ 0 ∧ (aS S mem).1.length < 24 from ⟨hd, hl⟩)]
  rfl
theorem shr8_lt {c : Nat} (h : c < 65536) : c >>> 8 < 256 := by rw [Nat.shiftRight_eq_div_pow]; omega
theorem sec_id {c : Nat} (h : c < 65536) : xSecond c = c >>> 8 := by
  unfold xSecond
  rw [show (255 : Nat) = 2 ^ 8 - 1 by decide, Nat.and_two_pow_sub_one_eq_mod]
  exact Nat.mod_eq_of_lt (shr8_lt h)
theorem cl_id {c : Nat} : xClause (c &&& 255) (c >>> 8) = c := by
  unfold xClause
  apply Nat.eq_of_testBit_eq
  intro i
  rw [Nat.testBit_or, Nat.testBit_shiftLeft, Nat.testBit_and, tb255, Nat.testBit_shiftRight]
  by_cases h : i < 8
  · rw [decide_eq_false (show ¬ i ≥ 8 by omega), decide_eq_true h]; simp
  · rw [decide_eq_true (show i ≥ 8 by omega), decide_eq_false h, show 8 + (i - 8) = i by omega]; simp
theorem e_chT {c : Nat} (hx : xOK c) (hp : xPar c = false) (hlt : c < 65536) (hi : allS S.1 c = true) : W_clauseHolds S (nI (c &&& 255)) (nI (c >>> 8)) = (nI 1, S) := by
  have h1 : c &&& 255 < 256 := and_lt (by decide)
  have h2 := shr8_lt hlt
  have h3 : c &&& 255 &&& c >>> 8 = 0 := by
    have := hx.2.2 hp
    rw [sec_id hlt] at this; exact this
  unfold W_clauseHolds
  rw [if_pos ⟨inR_t (by omega) (by decide), inR_t (by omega) (by decide), by rw [w_and, h3]; rfl⟩, un_nI (by omega), un_nI (by omega), cl_id, if_pos hi]
theorem fc_par {tr : List Ent} {set : Nat} (hs : set < 256) : xPar (falseCl tr set) = false := xPar_clause (mdiff_lt hs) (and_ltl hs)
theorem fc_lt {tr : List Ent} {set : Nat} (hs : set < 256) : falseCl tr set < 65536 := xClause_lt (mdiff_lt hs) (and_ltl hs)
theorem e_chL (hc : csOK S.1) (hd : ∀ d ∈ S.2.1, d < 16) (hq : sCf S = some q) : W_clauseHolds (aS S mem) (nI (falseCl (sTr S) (lrnS S q) &&& 255)) (nI (falseCl (sTr S) (lrnS S q) >>> 8)) = (nI 1, aS S mem) :=
  e_chT (S := aS S mem) (falseCl_ok lrn_lt) (fc_par lrn_lt) (fc_lt lrn_lt) (allS_t (lrn_imp hc hd hq))
theorem len_app {cs : List Nat} {x : Nat} : (cs ++ [x]).length = cs.length + 1 := by simp
theorem e_firstA {cs ds : List Nat} {x : Nat} (hc : cs.length < 24) : W_first (actS S (cs ++ [x]) ds) (nI cs.length) = (nI (xFirst x), actS S (cs ++ [x]) ds) := by
  rw [e_first (S := actS S (cs ++ [x]) ds) (i := cs.length) (by show (cs ++ [x]).length ≤ 24; rw [len_app]; omega) (by show cs.length < (cs ++ [x]).length; rw [len_app]; omega)]
  show (nI (xFirst (cAt (cs ++ [x]) cs.length)), _) = _
  rw [cAt_app_r]
theorem e_secondA {cs ds : List Nat} {x : Nat} (hc : cs.length < 24) : W_second (actS S (cs ++ [x]) ds) (nI cs.length) = (nI (xSecond x), actS S (cs ++ [x]) ds) := by
  rw [e_second (S := actS S (cs ++ [x]) ds) (i := cs.length) (by show (cs ++ [x]).length ≤ 24; rw [len_app]; omega) (by show cs.length < (cs ++ [x]).length; rw [len_app]; omega)]
  show (nI (xSecond (cAt (cs ++ [x]) cs.length)), _) = _
  rw [cAt_app_r]
theorem e_parityAn {cs ds : List Nat} {x : Nat} (hc : cs.length < 24) (hp : xPar x = false) : W_parity (actS S (cs ++ [x]) ds) (nI cs.length) = (nI 0, actS S (cs ++ [x]) ds) :=
  e_parity0 (S := actS S (cs ++ [x]) ds) (i := cs.length) (by show (cs ++ [x]).length ≤ 24; rw [len_app]; omega) (by show cs.length < (cs ++ [x]).length; rw [len_app]; omega) (by show xPar (cAt (cs ++ [x]) cs.length) = false; rw [cAt_app_r]; exact hp)
theorem e_firstAi {cs ds : List Nat} {x : Nat} (hc : cs.length < 24) (hi : i < cs.length) : W_first (actS S (cs ++ [x]) ds) (nI i) = (nI (xFirst (cAt cs i)), actS S (cs ++ [x]) ds) := by
  rw [e_first (S := actS S (cs ++ [x]) ds) (i := i) (by show (cs ++ [x]).length ≤ 24; rw [len_app]; omega) (by show i < (cs ++ [x]).length; rw [len_app]; omega)]
  show (nI (xFirst (cAt (cs ++ [x]) i)), _) = _
  rw [cAt_app_l hi]
theorem e_secondAi {cs ds : List Nat} {x : Nat} (hc : cs.length < 24) (hi : i < cs.length) : W_second (actS S (cs ++ [x]) ds) (nI i) = (nI (xSecond (cAt cs i)), actS S (cs ++ [x]) ds) := by
  rw [e_second (S := actS S (cs ++ [x]) ds) (i := i) (by show (cs ++ [x]).length ≤ 24; rw [len_app]; omega) (by show i < (cs ++ [x]).length; rw [len_app]; omega)]
  show (nI (xSecond (cAt (cs ++ [x]) i)), _) = _
  rw [cAt_app_l hi]
/-- with a learned clause -/
theorem e_firstL (hc : S.1.length < 24) {ds : List Nat} : W_first (actS (aS S mem) (S.1 ++ [falseCl (sTr S) (lrnS S q)]) ds) (nI S.1.length) = (nI (falseCl (sTr S) (lrnS S q) &&& 255), actS (aS S mem) (S.1 ++ [falseCl (sTr S) (lrnS S q)]) ds) := e_firstA hc
theorem e_secondL (hc : S.1.length < 24) {ds : List Nat} : W_second (actS (aS S mem) (S.1 ++ [falseCl (sTr S) (lrnS S q)]) ds) (nI S.1.length) = (nI (falseCl (sTr S) (lrnS S q) >>> 8), actS (aS S mem) (S.1 ++ [falseCl (sTr S) (lrnS S q)]) ds) := by
  have h1 : lrnS S q < 256 := lrn_lt
  rw [e_secondA hc, sec_id (fc_lt h1)]
theorem e_parityL (hc : S.1.length < 24) {ds : List Nat} : W_parity (actS (aS S mem) (S.1 ++ [falseCl (sTr S) (lrnS S q)]) ds) (nI S.1.length) = (nI 0, actS (aS S mem) (S.1 ++ [falseCl (sTr S) (lrnS S q)]) ds) := e_parityAn hc (fc_par lrn_lt)
theorem len_L {cs ds : List Nat} {n : Nat} : (actS S cs (ds.take n)).2.1.length ≤ n := by
  have h1 : (sNew cs (ds.take n)).length ≤ (ds.take n).length := sNew_le
  rw [List.length_take] at h1
  show (sNew cs (ds.take n)).length ≤ n
  omega
theorem e_undoS (h : vOK (aS S mem).1 (aS S mem).2.1 (aS S mem).2.2.1 (aS S mem).2.2.2.1) (cs ds : List Nat) : W_undo (actS (aS S mem) cs ds) = (nI (uM mem).length, aS S (uM mem)) := e_undoA h cs ds
theorem e_undoU (h : vOK S.1 S.2.1 S.2.2.1 S.2.2.2.1) (cs ds : List Nat) : W_undo (actS S cs ds) = (nI (uM S.2.2.1).length, (S.1, S.2.1, uM S.2.2.1, S.2.2.2.1, S.2.2.2.2)) := e_undoA h cs ds
theorem e_learned_id : W_learned S = ((W_learned S).1, S) := by
  unfold W_learned
  cases sCf S with
  | none => rfl
  | some q => rfl
/-! a decision -/
theorem e_value {v : Nat} (hv : v < 8) : W_value S (nI v) = (nI (if (tA (sTr S)).testBit v then (if (tT (sTr S)).testBit v then 1 else 0) else 2), S) := by
  unfold W_value; rw [if_pos (inL_t hv (by decide)), un_nI (by omega)]
theorem e_valF (hv : v < 8) (h : (tA (sTr S)).testBit v = false) : W_value (aS S mem) (nI v) = (nI 2, aS S mem) := by
  rw [e_value (S := aS S mem) hv, if_neg (by rw [show sTr (aS S mem) = sTr S from rfl, h]; simp)]
theorem e_valT (hv : v < 8) (h : (tA (sTr S)).testBit v = true) : W_value (aS S mem) (nI v) = (nI (if (tT (sTr S)).testBit v then 1 else 0), aS S mem) := by
  rw [e_value (S := aS S mem) hv, if_pos (by rw [show sTr (aS S mem) = sTr S from rfl, h])]; rfl
theorem e_decT (hd : d < 16) (h1 : sCf S = none) (h2 : (tA (sTr S)).testBit (d / 2) = false) : W_decide (aS S mem) (nI d) = (nI (build S.1 (S.2.1 ++ [d])).1.length, actS (aS S mem) S.1 (S.2.1 ++ [d])) := by
  unfold W_decide
  rw [if_pos (inL_t hd (by decide)), un_nI (by omega), if_pos (show sCf (aS S mem) = none ∧ (tA (sTr (aS S mem))).testBit (d / 2) = false from ⟨h1, h2⟩)]
  rfl
theorem e_decN (hd : d < 16) (h2 : (tA (sTr S)).testBit (d / 2) = true) : W_decide (aS S mem) (nI d) = (-103, aS S mem) := by
  unfold W_decide
  rw [if_pos (inL_t hd (by decide)), un_nI (by omega), if_neg (fun q => by
    have h3 : (tA (sTr S)).testBit (d / 2) = false := q.2
    rw [h2] at h3; cases h3)]
theorem dec_all (hc : csOK S.1) (hd : ∀ x ∈ S.2.1, x < 16) (hd2 : d < 16) (hl : tL (sTr S) = S.2.1.length) (h1 : sCf S = none) (h2 : (tA (sTr S)).testBit (d / 2) = false) :
    0 < (build S.1 (S.2.1 ++ [d])).1.length ∧ (actS (aS S mem) S.1 (S.2.1 ++ [d])).2.1.length = S.2.1.length + 1 ∧ W_value (actS (aS S mem) S.1 (S.2.1 ++ [d])) (nI (d / 2)) = (nI (1 - d % 2), actS (aS S mem) S.1 (S.2.1 ++ [d])) ∧ W_reason (actS (aS S mem) S.1 (S.2.1 ++ [d])) (nI (d / 2)) = (-9, actS (aS S mem) S.1 (S.2.1 ++ [d])) := by
  obtain ⟨s1, s2, s3, s4, s5, s6⟩ := dec_spec hc hd hd2 hl h1 h2
  have eT : sTr (actS (aS S mem) S.1 (S.2.1 ++ [d])) = (build S.1 (S.2.1 ++ [d])).1 := by
    show (build S.1 (sNew S.1 (S.2.1 ++ [d]))).1 = _
    rw [s1]
  refine ⟨s2, ?_, ?_, ?_⟩
  · show (sNew S.1 (S.2.1 ++ [d])).length = _
    rw [s1]; simp
  · rw [e_value (show d / 2 < 8 by omega), eT, if_pos s3, s4]
    rcases Nat.mod_two_eq_zero_or_one d with e | e <;> rw [e] <;> rfl
  · unfold W_reason
    rw [if_pos (inL_t (show d / 2 < 8 by omega) (by decide)), un_nI (by omega), eT, s5]
    rfl
/-! sums and resolvents -/
theorem e_sum0 (h : S.1.length = 0) {x : Int32} : W_sum (aS S mem) (nI 0) x = (-101, aS S mem) := by
  unfold W_sum
  rw [if_neg (fun q => by
    have h1 : inL (nI 0) (aS S mem).1.length = true := q.1
    rw [show (aS S mem).1.length = 0 from h, f_inL (Nat.le_refl _) (by decide)] at h1; cases h1)]
theorem e_res0 (h : S.1.length = 0) {x y : Int32} : W_resolve (aS S mem) (nI 0) x y = (-101, aS S mem) := by
  unfold W_resolve
  rw [if_neg (fun q => by
    have h1 : inL (nI 0) (aS S mem).1.length = true := q.1
    rw [show (aS S mem).1.length = 0 from h, f_inL (Nat.le_refl _) (by decide)] at h1; cases h1)]
theorem e_resT (hl : S.1.length ≤ 24) (hi : i < S.1.length) (hj : j < S.1.length) (hv : v < 8) (h : rsOK S.1 i j v) : W_resolve S (nI i) (nI j) (nI v) = (nI S.1.length, actS S (S.1 ++ [xClause (rsP S.1 i j v) (rsN S.1 i j v)]) S.2.1) := by
  unfold W_resolve; rw [if_pos ⟨inL_t hi (by omega), inL_t hj (by omega), inL_t hv (by decide)⟩, un_nI (by omega), un_nI (by omega), un_nI (by omega), if_pos (pB_t h)]
theorem e_resF (hl : S.1.length ≤ 24) (hi : i < S.1.length) (hj : j < S.1.length) (hv : v < 8) (h : ¬ rsOK S.1 i j v) : W_resolve S (nI i) (nI j) (nI v) = (-103, S) := by
  unfold W_resolve; rw [if_pos ⟨inL_t hi (by omega), inL_t hj (by omega), inL_t hv (by decide)⟩, un_nI (by omega), un_nI (by omega), un_nI (by omega), if_neg (by rw [pB_f h]; simp)]
theorem e_firstS {cs ds : List Nat} (hc : cs.length < 24) : W_first (actS S (cs ++ [smX cs i j]) ds) (nI cs.length) = (nI (xFirst (cAt cs i) ^^^ xFirst (cAt cs j)), actS S (cs ++ [smX cs i j]) ds) := by
  rw [e_firstA hc]
  unfold smX
  rw [xFirst_parity (Nat.xor_lt_two_pow (n := 8) (xFirst_lt _) (xFirst_lt _))]
theorem e_secondS {cs ds : List Nat} (hc : cs.length < 24) : W_second (actS S (cs ++ [smX cs i j]) ds) (nI cs.length) = (nI (xSecond (cAt cs i) ^^^ xSecond (cAt cs j)), actS S (cs ++ [smX cs i j]) ds) := by
  rw [e_secondA hc]
  unfold smX
  rw [xSecond_parity (Nat.xor_lt_two_pow (n := 8) (xFirst_lt _) (xFirst_lt _)) (Nat.xor_lt_two_pow (n := 8) (xSecond_lt _) (xSecond_lt _))]
theorem e_firstR {cs ds : List Nat} (hc : cs.length < 24) : W_first (actS S (cs ++ [xClause (rsP cs i j v) (rsN cs i j v)]) ds) (nI cs.length) = (nI (rsP cs i j v), actS S (cs ++ [xClause (rsP cs i j v) (rsN cs i j v)]) ds) := by
  rw [e_firstA hc, xFirst_clause rsP_lt]
theorem e_secondR {cs ds : List Nat} (hc : cs.length < 24) : W_second (actS S (cs ++ [xClause (rsP cs i j v) (rsN cs i j v)]) ds) (nI cs.length) = (nI (rsN cs i j v), actS S (cs ++ [xClause (rsP cs i j v) (rsN cs i j v)]) ds) := by
  rw [e_secondA hc, xSecond_clause rsP_lt rsN_lt]
theorem or_back {A v : Nat} (hA : A < 256) (hv : v < 8) (h : A.testBit v = true) : mdiff A (1 <<< v) ||| 1 <<< v = A := by
  refine ext8 (or_lt256 (mdiff_lt hA) (bit1_lt hv)) hA (fun u hu => ?_)
  rw [Nat.testBit_or, mdiff_tb (by omega), bit1]
  by_cases e : v = u
  · subst e; rw [h]; simp
  · simp [e]
theorem rs_orP {cs : List Nat} (hv : v < 8) (h : rsOK cs i j v) : rsP cs i j v ||| 1 <<< v = xFirst (cAt cs i) ||| xFirst (cAt cs j) :=
  or_back (or_lt256 (xFirst_lt _) (xFirst_lt _)) hv (by rw [Nat.testBit_or, h.2.2.1]; rfl)
theorem rs_orN {cs : List Nat} (hv : v < 8) (h : rsOK cs i j v) : rsN cs i j v ||| 1 <<< v = xSecond (cAt cs i) ||| xSecond (cAt cs j) :=
  or_back (or_lt256 (xSecond_lt _) (xSecond_lt _)) hv (by rw [Nat.testBit_or, h.2.2.2.1, Bool.or_true])
/-! back and again -/
theorem e_back0 (hd : S.2.1.length ≤ 8) : W_backtrack (aS S mem) (nI 0) = (nI (build S.1 []).1.length, actS (aS S mem) S.1 []) := by
  unfold W_backtrack
  rw [if_pos (inR_t (j := 0) (m := (aS S mem).2.1.length) (Nat.zero_le _) (show S.2.1.length < 2 ^ 31 by omega)), un_nI (by decide)]
  rfl
theorem len_0 {cs : List Nat} : (actS S cs []).2.1.length = 0 := by
  have h : (sNew cs []).length ≤ ([] : List Nat).length := sNew_le
  show (sNew cs []).length = 0
  simpa using h
theorem e_remT (hl : S.1.length ≤ 24) (hi : i < S.1.length) : W_remove S (nI i) = (nI (S.1.length - 1), actS S (S.1.eraseIdx i) S.2.1) := by
  unfold W_remove; rw [if_pos (inL_t hi (by omega)), un_nI (by omega)]
theorem e_rest1 (h1 : SB.2.2.2.1 = va_up S.2.2.2.1 1 (some (S.1, S.2.1))) (h2 : SB.2.2.2.2 = S.2.2.2.2) (hv : tL (sTr S) = S.2.1.length) : W_restore SB (nI 1) = (nI S.1.length, aS S []) := by
  unfold W_restore
  rw [if_pos (inL_t (by decide) (by decide)), un_nI (by decide), h1, up_s]
  show (nI S.1.length, (S.1, sNew S.1 S.2.1, [], _, _)) = _
  rw [sNew_fix hv, h2]
  rfl
theorem e_undoE : W_undo (aS S []) = (-103, aS S []) := rfl
end E2
