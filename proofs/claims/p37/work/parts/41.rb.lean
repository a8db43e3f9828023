/-! the cells in their order, by a permutation of the places; the two objects at their start -/
def sg (i : Nat) : Nat := if i < 17 then i else if i < 29 then i + 64 else if i < 93 then i - 12 else i
theorem sg_lt {i n : Nat} (hn : 93 ≤ n) (hi : i < n) : sg i < n := by
  unfold sg
  split
  · exact hi
  · split
    · omega
    · split <;> omega
theorem sg_inj {i j : Nat} (h : sg i = sg j) : i = j := by
  unfold sg at h
  repeat' split at h
  all_goals omega
def kp (k : KX) : KX := (k.1, k.2.1, (fun i => ad k (sg i)), kN k)
def mp (M : Mem) : Mem := fun i => M (sg i)
theorem kinj_p {k : KX} (hN : 93 ≤ kN k) (h : kinj k) : kinj (kp k) := fun i j hi hj e => sg_inj (h (sg i) (sg j) (sg_lt hN hi) (sg_lt hN hj) e)
theorem va_P_p {k : KX} {M : Mem} {H : Heap} (hN : 93 ≤ kN k) (h : va_P (kD k) vwCl (kws k M) H) : va_P (kD (kp k)) vwCl (kws (kp k) (mp M)) H := by
  intro j q hq
  obtain ⟨hj, rfl⟩ := kws_in hq
  exact h (sg j) _ (kws_at k M (sg_lt hN hj))
theorem va_P_q {k : KX} {M : Mem} {H : Heap} (hN : 93 ≤ kN k) (hs : ∀ j, j < kN k → ∃ i, i < kN k ∧ sg i = j) (h : va_P (kD (kp k)) vwCl (kws (kp k) (mp M)) H) : va_P (kD k) vwCl (kws k M) H := by
  intro j q hq
  obtain ⟨hj, rfl⟩ := kws_in hq
  obtain ⟨i, hi, rfl⟩ := hs j hj
  exact h i _ (kws_at (kp k) (mp M) hi)
section VP
variable {C : CT} {k : KX} {cc : ByteArray} {own : String} {nL : Nat} {ret : Option FieldType} {z : Nat × Nat} {M : Mem} {pc : Nat} {lv : List (Nat × Value)} {st : List Value}
theorem OKc.p (X : OKc C k cc own nL ret) (hN : 93 ≤ kN k) : OKc C (kp k) cc own nL ret := ⟨X.x, X.b, X.r, X.ml, X.ow, X.ts, X.lk, X.K, X.nw, kinj_p hN X.inj, fun i hi => X.hA (sg i) (sg_lt hN hi), X.hA2⟩
theorem v_perm (X : OKc C k cc own nL ret) (hN : 93 ≤ kN k) (kk : ∀ (k' : KX) (M' : Mem), k' = kp k → M' = mp M → OKc C k' cc own nL ret → V C k' nL z M' pc lv st) : V C k nL z M pc lv st :=
  fun H locs ls hP hS h => kk (kp k) (mp M) rfl rfl (X.p hN) H locs ls (va_P_p hN hP) hS h
end VP
def kren (k k' : KX) (M M' : Mem) (b b' n : Nat) : Prop := b' + n ≤ kN k' ∧ kI k' = kI k ∧ (∀ i, i < n → ad k' (b' + i) = ad k (b + i)) ∧ ∀ i, i < n → M' (b' + i) = M (b + i)
theorem FmAt.ren {k k' : KX} {M M' : Mem} {b b' : Nat} {cs : List Nat} (h : FmAt k M b cs) (R : kren k k' M M' b b' 2) : FmAt k' M' b' cs := by
  obtain ⟨h1, h2, f, F0, F1, h3⟩ := h
  obtain ⟨r1, r2, r3, r4⟩ := R
  exact ⟨r1, h2, f, by rw [show b' = b' + 0 from rfl, r4 0 (by omega), show b' + 0 + 1 = b' + 1 from rfl, r3 1 (by omega)]; exact F0, by rw [r4 1 (by omega), r2]; exact F1, h3⟩
theorem kren.sub {k k' : KX} {M M' : Mem} {b b' n : Nat} (R : kren k k' M M' b b' n) (c m : Nat) (h : c + m ≤ n) : kren k k' M M' (b + c) (b' + c) m := by
  obtain ⟨r1, r2, r3, r4⟩ := R
  exact ⟨by omega, r2, fun i hi => by rw [Nat.add_assoc, Nat.add_assoc]; exact r3 _ (by omega), fun i hi => by rw [Nat.add_assoc, Nat.add_assoc]; exact r4 _ (by omega)⟩
theorem StAt.ren {k k' : KX} {M M' : Mem} {b b' : Nat} {cs ds : List Nat} (h : StAt k M b cs ds) (R : kren k k' M M' b b' 4) : StAt k' M' b' cs ds := by
  obtain ⟨h1, hF, h2, f, F0, F1, h3⟩ := h
  have R2 := hF.ren (R.sub 1 2 (by omega))
  obtain ⟨r1, r2, r3, r4⟩ := R
  exact ⟨r1, R2, h2, f, by rw [show M' b' = M b from r4 0 (by omega), r3 1 (by omega), r3 3 (by omega)]; exact F0, by rw [r4 3 (by omega), r2]; exact F1, h3⟩
theorem TrAt.ren {k k' : KX} {M M' : Mem} {b b' : Nat} {tr : List Ent} {cf : Option Nat} (h : TrAt k M b tr cf) (R : kren k k' M M' b b' 4) : TrAt k' M' b' tr cf := by
  obtain ⟨h1, hk, hc, o, lv, rs, F0, F1, F2, F3, h2, h3⟩ := h
  obtain ⟨r1, r2, r3, r4⟩ := R
  exact ⟨r1, hk, hc, o, lv, rs, by rw [show M' b' = M b from r4 0 (by omega), r3 1 (by omega), r3 2 (by omega), r3 3 (by omega)]; exact F0, by rw [r4 1 (by omega), r2]; exact F1, by rw [r4 2 (by omega), r2]; exact F2, by rw [r4 3 (by omega), r2]; exact F3, h2, h3⟩
theorem sgA {i : Nat} (h : i < 17) : sg i = i := by unfold sg; rw [if_pos h]
theorem sgB {i : Nat} (h : 17 ≤ i) (h2 : i < 29) : sg i = i + 64 := by unfold sg; rw [if_neg (by omega), if_pos h2]
theorem sgC {i : Nat} (h : 29 ≤ i) (h2 : i < 93) : sg i = i - 12 := by unfold sg; rw [if_neg (by omega), if_neg (by omega), if_pos h2]
theorem sgD {i : Nat} (h : 93 ≤ i) : sg i = i := by unfold sg; rw [if_neg (by omega), if_neg (by omega), if_neg (by omega)]
theorem kren_p {k : KX} {M : Mem} {b b' n : Nat} (hN : b' + n ≤ kN k) (h : ∀ i, i < n → sg (b' + i) = b + i) : kren k (kp k) M (mp M) b b' n :=
  ⟨hN, rfl, fun i hi => by show ad k (sg (b' + i)) = _; rw [h i hi], fun i hi => by show M (sg (b' + i)) = _; rw [h i hi]⟩
theorem TxAt.p {k : KX} {M : Mem} (h : TxAt k M []) (hN : 93 ≤ kN k) : TxAt (kp k) (mp M) [] := by
  obtain ⟨h1, h2, s, f, ⟨g1, g2, g3⟩, F2, h3⟩ := h
  refine ⟨h1, h2, s, f, ⟨g1, ?_, g3.ren (kren_p (by omega) (fun i hi => sgA (by omega)))⟩, ?_, h3⟩
  · show M (sg 1) = .inr (2, [.ref (ad k (sg 2)), .int (nI ([] : List Nat).length), .ref (ad k (sg 3)), .int (nI s.2.1), .int (nI s.2.2.1), .int (nI s.2.2.2)])
    rw [sgA (by omega), sgA (by omega), sgA (by omega)]
    exact g2
  · show M (sg 2) = _
    rw [sgA (by omega)]
    exact F2
def SolNew (k : KX) (M : Mem) : Prop := M 0 = .inr (7, [.ref (ad k 1), .ref (ad k 5), .ref (ad k 9), .ref (ad k 13), .ref (ad k 81), .ref (ad k 83), .ref (ad k 85), .ref (ad k 89)]) ∧ TxAt k M [] ∧ StAt k M 5 [] [] ∧ TrAt k M 9 [] none ∧ MeNew k M 13 ∧ MoNew k M 81 ∧ ElNew k M 83 ∧ StAt k M 85 [] [] ∧ TrAt k M 89 [] none
theorem SolNew.ext {k k' : KX} {M M' : Mem} (h : SolNew k M) (hN : 93 ≤ kN k) (E : kext k k') (hf : ∀ i, i < 93 → M' i = M i) : SolNew k' M' := by
  obtain ⟨F0, h2, h3, h4, h5, h6, h7, h8, h9⟩ := h
  exact ⟨by rw [hf 0 (by omega), E.at (by omega), E.at (by omega), E.at (by omega), E.at (by omega), E.at (by omega), E.at (by omega), E.at (by omega), E.at (by omega)]; exact F0, h2.ext E (fun i _ _ => hf i (by omega)), h3.ext E (fun i _ _ => hf i (by omega)), h4.ext E (fun i _ _ => hf i (by omega)), h5.ext E (fun i _ _ => hf i (by omega)), h6.ext E (fun i _ _ => hf i (by omega)), h7.ext E (fun i _ _ => hf i (by omega)), h8.ext E (fun i _ _ => hf i (by omega)), h9.ext E (fun i _ _ => hf i (by omega))⟩
theorem MeNew.p {k : KX} {M : Mem} (h : MeNew k M 13) (hN : 93 ≤ kN k) : MeAt (kp k) (mp M) [] (fun _ => none) := by
  obtain ⟨h1, F0, F3, ⟨g, F1, hg⟩, g2, F2, hg2⟩ := h
  refine ⟨hN, Nat.zero_le _, fun j => j, g, g2, fun _ => false, fun _ => ([], []), fun _ => ([], []), fun j hj => hj, fun i j _ _ e => e, ?_, ?_, ?_, ?_, fun j hj => ?_, fun j hj => absurd hj (Nat.not_lt_zero _), fun j hj => ?_, fun j _ => ⟨rfl, fun s hs => by cases hs⟩⟩
  · show M (sg 13) = .inr (3, [.ref (ad k (sg 14)), .ref (ad k (sg 15)), .ref (ad k (sg 16)), .int (nI ([] : List SD).length)])
    rw [sgA (by omega), sgA (by omega), sgA (by omega), sgA (by omega)]
    exact F0
  · show M (sg 14) = _
    rw [sgA (by omega)]
    exact F1
  · show M (sg 15) = _
    rw [sgA (by omega)]
    exact F2
  · show M (sg 16) = _
    rw [sgA (by omega)]
    exact F3
  · obtain ⟨a, b⟩ := hg j hj
    refine ⟨?_, b.ren (b' := 29 + 4 * j) (kren_p (by omega) (fun i hi => by rw [sgC (by omega) (by omega)]; omega))⟩
    rw [a]
    show _ = some (ad k (sg (29 + 4 * j)))
    rw [sgC (by omega) (by omega), show 29 + 4 * j - 12 = 13 + 4 + 4 * j by omega]
  · obtain ⟨a, b⟩ := hg2 j hj
    refine ⟨?_, b.ren (kren_p (by omega) (fun i hi => by rw [sgC (by omega) (by omega)]; omega))⟩
    rw [a]
    show _ = some (ad k (sg (85 + 4 * j)))
    rw [sgC (by omega) (by omega), show 85 + 4 * j - 12 = 13 + 60 + 4 * j by omega]
theorem vOK_new : vOK [] [] [] (fun _ => none) := ⟨⟨⟨Nat.zero_le _, fun x h => absurd h List.not_mem_nil⟩, fun d h => absurd h List.not_mem_nil, Nat.zero_le _⟩, rfl, fun s h => absurd h List.not_mem_nil, fun j s h => by cases h⟩
theorem build_new : build [] [] = ([], none) := rfl
theorem SolNew.p {k : KX} {M : Mem} (h : SolNew k M) (hN : 93 ≤ kN k) : SolAt (kp k) (mp M) [] [] [] (fun _ => none) [] := by
  obtain ⟨F0, h2, h3, h4, h5, ⟨_, f, G0, G1⟩, ⟨_, r, E0, E1⟩, h8, h9⟩ := h
  refine ⟨hN, ?_, h2.p hN, h3.ren (kren_p (by omega) (fun i hi => sgA (by omega))), ?_, h5.p hN, MoAt.stale (f := f) (by show 19 ≤ kN k; omega) ?_ ?_, ⟨by show 21 ≤ kN k; omega, r, 0, true, ?_, ?_⟩, ⟨[], [], h8.ren (kren_p (by omega) (fun i hi => by rw [sgB (by omega) (by omega)]; omega))⟩, ⟨[], none, h9.ren (kren_p (by omega) (fun i hi => by rw [sgB (by omega) (by omega)]; omega))⟩, vOK_new⟩
  · show M (sg 0) = .inr (7, [.ref (ad k (sg 1)), .ref (ad k (sg 5)), .ref (ad k (sg 9)), .ref (ad k (sg 13)), .ref (ad k (sg 17)), .ref (ad k (sg 19)), .ref (ad k (sg 21)), .ref (ad k (sg 25))])
    rw [sgA (by omega), sgA (by omega), sgA (by omega), sgA (by omega), sgA (by omega), sgB (by omega) (by omega), sgB (by omega) (by omega), sgB (by omega) (by omega), sgB (by omega) (by omega)]
    exact F0
  · rw [build_new]
    exact h4.ren (kren_p (by omega) (fun i hi => sgA (by omega)))
  · show M (sg 17) = .inr (4, [.ref (ad k (sg 18)), .int (bI true)])
    rw [sgB (by omega) (by omega), sgB (by omega) (by omega)]
    exact G0
  · show M (sg 18) = _
    rw [sgB (by omega) (by omega)]
    exact G1
  · show M (sg 19) = .inr (0, [.ref (ad k (sg 20)), .int (nI 0), .int (bI true)])
    rw [sgB (by omega) (by omega), sgB (by omega) (by omega)]
    exact E0
  · show M (sg 20) = _
    rw [sgB (by omega) (by omega)]
    exact E1
