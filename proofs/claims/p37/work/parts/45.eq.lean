/-! frames; values of the law's calls where they are known -/
theorem Fr.tr {lo w : Nat} {M1 M2 M3 : Mem} (h : Fr lo w M1 M2) (g : Fr lo w M2 M3) : Fr lo w M1 M3 := fun i hi => (g i hi).trans (h i hi)
theorem At.p {k : KX} {M M1 : Mem} {S : SS} (hB : At (kq k) (mq M) S) (hF : Fr 0 93 M M1) : At (kq k) (mq M1) S := hB.fr (fun i hi => by
  show M1 (sw i) = M (sw i)
  rw [swA hi]; exact hF _ (Or.inr (by omega)))
theorem At.q {k : KX} {M M1 : Mem} {S : SS} (hA : At k M S) (hF : Fr 0 93 (mq M) (mq M1)) : At k M1 S := hA.fr (fun i hi => by
  have h : M1 (sw (i + 93)) = M (sw (i + 93)) := hF (i + 93) (Or.inr (by omega))
  have e : sw (i + 93) = i := by rw [swB (by omega) (by omega)]; omega
  rw [e] at h; exact h)
theorem pa_eq {k : KX} {M M1 : Mem} {w : Int32 × SS} {r v : Int32} {S' : SS} (e : w = (v, S')) (h : PA k M w r M1) : r = v ∧ At k M1 S' ∧ Fr 0 93 M M1 := by subst e; exact h
def pJ (P : Int64 → Mem → Prop) : Option Value → Mem → Prop := fun v' M' => ∃ r, v' = some (.long r) ∧ P r M'
theorem vJ_in {C : CT} {k : KX} {nL : Nat} {z : Nat × Nat} {pc : Nat} {lv : List (Nat × Value)} {rest : List Value} {P : Int64 → Mem → Prop} (h : ∀ r M', P r M' → V C k nL z M' pc lv (.long r :: rest)) : ∀ v' M', pJ P v' M' → V C k nL z M' pc lv (v'.toList ++ rest) := by
  rintro _ M' ⟨r, rfl, hp⟩; exact h r M' hp
theorem CL.q {l : Launch} {y : MethodName} {cc : ByteArray} {nL : Nat} {hh : List (Nat × Nat × Nat × Nat)} {R : Room} {k : KX} {As : List Value} {M : Mem} {P : Int32 → Mem → Prop} (hN : 186 ≤ kN k) (h : CL l y cc nL hh R (kq k) (.ref (ad (kq k) 0) :: As) (mq M) (pI P)) : CL l y cc nL hh R k (.ref (ad k 93) :: As) M (pI (fun r M' => P r (mq M'))) := CL.sw hN h
theorem CB.q {l : Launch} {y : MethodName} {cc : ByteArray} {nL : Nat} {ret : Option FieldType} {R : Room} {k : KX} {As : List Value} {M : Mem} {P : Int32 → Mem → Prop} (hN : 186 ≤ kN k) (h : CB l y cc nL ret R (kq k) (.ref (ad (kq k) 0) :: As) (mq M) (pI P)) : CB l y cc nL ret R k (.ref (ad k 93) :: As) M (pI (fun r M' => P r (mq M'))) := CB.sw hN h
theorem CB.qJ {l : Launch} {y : MethodName} {cc : ByteArray} {nL : Nat} {ret : Option FieldType} {R : Room} {k : KX} {As : List Value} {M : Mem} {P : Int64 → Mem → Prop} (hN : 186 ≤ kN k) (h : CB l y cc nL ret R (kq k) (.ref (ad (kq k) 0) :: As) (mq M) (pJ P)) : CB l y cc nL ret R k (.ref (ad k 93) :: As) M (pJ (fun r M' => P r (mq M'))) := CB.sw hN h
theorem CM.q {l : Launch} {y : MethodName} {cc : ByteArray} {nL : Nat} {ret : Option FieldType} {R : Room} {k : KX} {As : List Value} {M : Mem} {P : Int32 → Mem → Prop} (hN : 186 ≤ kN k) (h : CM l y cc nL ret R (kq k) (.ref (ad (kq k) 0) :: As) (mq M) (pI P)) : CM l y cc nL ret R k (.ref (ad k 93) :: As) M (pI (fun r M' => P r (mq M'))) := CM.sw hN h
theorem At.obq {k : KX} {M : Mem} {S : SS} (h : At (kq k) (mq M) S) : ∃ fs, M 93 = .inr (7, fs) := h.obj
/-! refused arguments -/
theorem f_inR {j m : Nat} (h : m < j) (hj : j < 2 ^ 31) : inR (nI j) m = false := by rw [inR_n hj (by omega)]; exact decide_eq_false (by omega)
theorem f_inL {j m : Nat} (h : m ≤ j) (hj : j < 2 ^ 31) : inL (nI j) m = false := by rw [inL_n hj (by omega)]; exact decide_eq_false (by omega)
theorem m1_inR {m : Nat} : inR (-1) m = false := by
  unfold inR; rw [decide_eq_false (show ¬ ¬ (-1 : Int32) < 0 by decide), Bool.false_and]
theorem m1_inL {m : Nat} : inL (-1) m = false := by
  unfold inL; rw [decide_eq_false (show ¬ ¬ (-1 : Int32) < 0 by decide), Bool.false_and]
section EQ
variable {S : SS}
theorem e_append0 : W_append S (nI 256) = (-102, S) := by unfold W_append; rw [if_neg (by rw [f_inR (by decide) (by decide)]; simp)]
theorem e_append1 : W_append S (-1) = (-102, S) := by unfold W_append; rw [if_neg (by rw [m1_inR]; simp)]
theorem e_parityN (h : S.1.length ≤ 24) : W_parity S (nI S.1.length) = (-101, S) := by unfold W_parity; rw [if_neg (by rw [f_inL (Nat.le_refl _) (by omega)]; simp)]
theorem e_first1 : W_first S (-1) = (-101, S) := by unfold W_first; rw [if_neg (by rw [m1_inL]; simp)]
theorem e_secondN (h : S.1.length ≤ 24) : W_second S (nI S.1.length) = (-101, S) := by unfold W_second; rw [if_neg (by rw [f_inL (Nat.le_refl _) (by omega)]; simp)]
theorem e_clause0 : W_clause S (nI 256) (nI 0) = (-102, S) := by unfold W_clause; rw [if_neg (fun q => by rw [f_inR (by decide) (by decide)] at q; cases q.1)]
theorem e_clause1 : W_clause S (nI 3) (nI 2) = (-102, S) := by unfold W_clause; rw [if_neg (fun q => absurd q.2.2 (by decide))]
theorem e_bits0 : W_sumOfBits S (nI 1) (nI 2) = (-102, S) := by unfold W_sumOfBits; rw [if_neg (fun q => by rw [f_inR (j := 2) (by decide) (by decide)] at q; cases q.2)]
theorem e_bits1 : W_sumOfBits S (-1) (nI 0) = (-102, S) := by unfold W_sumOfBits; rw [if_neg (fun q => by rw [m1_inR] at q; cases q.1)]
theorem e_removeN (h : S.1.length ≤ 24) : W_remove S (nI S.1.length) = (-101, S) := by unfold W_remove; rw [if_neg (by rw [f_inL (Nat.le_refl _) (by omega)]; simp)]
theorem e_resolveN (h : S.1.length ≤ 24) : W_resolve S (nI S.1.length) (nI S.1.length) (nI 0) = (-101, S) := by unfold W_resolve; rw [if_neg (fun q => by rw [f_inL (Nat.le_refl _) (by omega)] at q; cases q.1)]
theorem e_sum1 : W_sum S (-1) (-1) = (-101, S) := by unfold W_sum; rw [if_neg (fun q => by rw [m1_inL] at q; cases q.1)]
theorem e_decide16 : W_decide S (nI 16) = (-101, S) := by unfold W_decide; rw [if_neg (by rw [f_inL (by decide) (by decide)]; simp)]
theorem e_back1 (h : S.2.1.length ≤ 8) : W_backtrack S (nI (S.2.1.length + 1)) = (-102, S) := by unfold W_backtrack; rw [if_neg (by rw [f_inR (by omega) (by omega)]; simp)]
theorem e_backm : W_backtrack S (-1) = (-102, S) := by unfold W_backtrack; rw [if_neg (by rw [m1_inR]; simp)]
theorem e_value8 : W_value S (nI 8) = (-101, S) := by unfold W_value; rw [if_neg (by rw [f_inL (by decide) (by decide)]; simp)]
theorem e_trail8 (h : (sTr S).length ≤ 8) : W_trail S (nI 8) = (-101, S) := by unfold W_trail; rw [if_neg (by rw [f_inL h (by decide)]; simp)]
theorem e_trailm : W_trail S (-1) = (-101, S) := by unfold W_trail; rw [if_neg (by rw [m1_inL]; simp)]
theorem e_reasonm : W_reason S (-1) = (-101, S) := by unfold W_reason; rw [if_neg (by rw [m1_inL]; simp)]
theorem e_ch1 : W_clauseHolds S (nI 1) (nI 1) = (-102, S) := by unfold W_clauseHolds; rw [if_neg (fun q => absurd q.2.2 (by decide))]
theorem e_ph1 : W_parityHolds S (nI 0) (nI 2) = (-102, S) := by unfold W_parityHolds; rw [if_neg (fun q => by rw [f_inR (j := 2) (by decide) (by decide)] at q; cases q.2)]
theorem e_save2 : W_save S (nI 2) = (-101, S) := by unfold W_save; rw [if_neg (by rw [f_inL (by decide) (by decide)]; simp)]
theorem e_restm : W_restore S (-1) = (-101, S) := by unfold W_restore; rw [if_neg (by rw [m1_inL]; simp)]
theorem e_resolve8 (h : S.1.length ≤ 24) : W_resolve S (nI 0) (nI 0) (nI 8) = (-101, S) := by unfold W_resolve; rw [if_neg (fun q => by rw [f_inL (j := 8) (by decide) (by decide)] at q; cases q.2.2)]
theorem rs_self {cs : List Nat} (hc : csOK cs) {i v : Nat} (hi : i < cs.length) : ¬ rsOK cs i i v := by
  rintro ⟨p1, _, b1, b2, _⟩
  have := and_zero_tb ((hc.2 _ (cAt_mem hi)).2.2 p1) b1
  rw [b2] at this; cases this
theorem e_resolve0 (hc : csOK S.1) (h : 0 < S.1.length) : W_resolve S (nI 0) (nI 0) (nI 0) = (-103, S) := by
  have := hc.1
  unfold W_resolve
  rw [if_pos ⟨inL_t h (by omega), inL_t h (by omega), inL_t (by decide) (by decide)⟩, un_nI (by decide), if_neg (by rw [pB_f (rs_self hc h)]; simp)]
theorem e_clauseF (h : ¬ S.1.length < 24) : W_clause S (nI 1) (nI 0) = (-103, S) := by
  unfold W_clause; rw [if_pos ⟨inR_t (by decide) (by decide), inR_t (by decide) (by decide), by decide⟩, if_neg h]
theorem e_bitsF (h : ¬ S.1.length < 24) : W_sumOfBits S (nI 1) (nI 0) = (-103, S) := by
  unfold W_sumOfBits; rw [if_pos ⟨inR_t (by decide) (by decide), inR_t (by decide) (by decide)⟩, if_neg h]
theorem e_learnF (h : sCf S = none ∨ S.2.1.length = 0) : W_learn S = (-103, S) := by
  unfold W_learn
  cases hq : sCf S with
  | none => rfl
  | some q =>
    simp only []
    rw [if_neg (fun z => by rcases h with h | h; (rw [h] at hq; cases hq); exact z.1 h)]
theorem e_learnedF (h : sCf S = none ∨ S.2.1.length = 0) : W_learned S = (-103, S) := by
  unfold W_learned
  cases hq : sCf S with
  | none => rfl
  | some q =>
    simp only []
    rw [if_neg (fun z => by rcases h with h | h; (rw [h] at hq; cases hq); exact z h)]
theorem e_decideF (h : sCf S ≠ none) : W_decide S (nI 0) = (-103, S) := by
  unfold W_decide; rw [if_pos (inL_t (by decide) (by decide)), if_neg (fun q => h q.1)]
theorem e_rowF (h : (elRun S.1).2.2 = false) : W_row S (nI 0) = (-103, S) := by
  unfold W_row; rw [if_neg (by rw [h]; simp)]
theorem e_parity {i : Nat} (hl : S.1.length ≤ 24) (h : i < S.1.length) : W_parity S (nI i) = (if xPar (cAt S.1 i) = true then nI 1 else nI 0, S) := by
  unfold W_parity; rw [if_pos (inL_t h (by omega)), un_nI (by omega)]
theorem e_first {i : Nat} (hl : S.1.length ≤ 24) (h : i < S.1.length) : W_first S (nI i) = (nI (xFirst (cAt S.1 i)), S) := by
  unfold W_first; rw [if_pos (inL_t h (by omega)), un_nI (by omega)]
theorem e_second {i : Nat} (hl : S.1.length ≤ 24) (h : i < S.1.length) : W_second S (nI i) = (nI (xSecond (cAt S.1 i)), S) := by
  unfold W_second; rw [if_pos (inL_t h (by omega)), un_nI (by omega)]
theorem e_sumF {i j : Nat} (hl : S.1.length ≤ 24) (hi : i < S.1.length) (hj : j < S.1.length) (h : ¬ smOK S.1 i j) : W_sum S (nI i) (nI j) = (-103, S) := by
  unfold W_sum; rw [if_pos ⟨inL_t hi (by omega), inL_t hj (by omega)⟩, un_nI (by omega), un_nI (by omega), if_neg (by rw [pB_f h]; simp)]
theorem e_sumT {i j : Nat} (hl : S.1.length ≤ 24) (hi : i < S.1.length) (hj : j < S.1.length) (h : smOK S.1 i j) : W_sum S (nI i) (nI j) = (nI S.1.length, actS S (S.1 ++ [smX S.1 i j]) S.2.1) := by
  unfold W_sum; rw [if_pos ⟨inL_t hi (by omega), inL_t hj (by omega)⟩, un_nI (by omega), un_nI (by omega), if_pos (pB_t h)]
/-- what an action did is taken back -/
theorem e_undoA (h : vOK S.1 S.2.1 S.2.2.1 S.2.2.2.1) (cs ds : List Nat) : W_undo (actS S cs ds) = (nI ((if 14 ≤ S.2.2.1.length then S.2.2.1.tail else S.2.2.1).length), (S.1, S.2.1, (if 14 ≤ S.2.2.1.length then S.2.2.1.tail else S.2.2.1), S.2.2.2.1, S.2.2.2.2)) := by
  have e : (actS S cs ds).2.2.1.reverse = (S.1, S.2.1) :: (if 14 ≤ S.2.2.1.length then S.2.2.1.tail else S.2.2.1).reverse := by
    show (remF S.2.2.1 (S.1, S.2.1)).reverse = _
    unfold remF
    rw [List.reverse_append]; rfl
  unfold W_undo
  rw [e]
  simp only [List.reverse_reverse]
  rw [show sNew S.1 S.2.1 = S.2.1 from sNew_fix h.2.1]
  rfl
theorem e_undo0 (h : vOK S.1 S.2.1 S.2.2.1 S.2.2.2.1) (hm : S.2.2.1 = []) (cs ds : List Nat) : W_undo (actS S cs ds) = (nI 0, S) := by
  rw [e_undoA h, hm]
  have e : S = (S.1, S.2.1, ([] : List SD), S.2.2.2.1, S.2.2.2.2) := by rw [← hm]
  rw [if_neg (by decide)]
  show (nI 0, _) = _
  rw [← e]
end EQ
