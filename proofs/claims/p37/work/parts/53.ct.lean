/-! the second solver is made beside the first; the places in their order -/
theorem met_imp2 {l : Launch} {y : MethodName} {Sp : Spec} {P P' : Array Value → State → Prop} {K : Program → Env → List Frame → State → Array Value → Prop} {Q Q' : Array Value → State → Outcome → State → Prop} (h : MetFree l y Sp P K Q) (hp : ∀ a s, P' a s → P a s) (hq : ∀ a s o t, P' a s → Q a s o t → Q' a s o t) : MetFree l y Sp P' K Q' := by
  intro p e ha hc hk s m args below hf happ hP hK
  obtain ⟨n, o, h1, h2, h3, h4⟩ := h p e ha hc hk s m args below hf happ (hp _ _ hP) hK
  exact ⟨n, o, h1, h2, h3, hq _ _ _ _ hP h4⟩
def kU (k : KX) (b : Nat) : KX := (k.1, k.2.1, (fun i => ad k (b + i)), kN k - b)
def mU (M : Mem) (b : Nat) : Mem := fun i => M (b + i)
def kJo (k : KX) (b : Nat) (k1 : KX) : KX := (k.1, k.2.1, (fun i => if i < b then ad k i else ad k1 (i - b)), b + kN k1)
def mJo (M : Mem) (b : Nat) (M1 : Mem) : Mem := fun i => if i < b then M i else M1 (i - b)
theorem kU_B {k : KX} {M : Mem} {b : Nat} {U : State} (hb : b ≤ kN k) (h : kB k M U) : kB (kU k b) (mU M b) U := by
  refine ⟨fun j q hq => ?_, h.2.1, h.2.2.1, fun i j hi hj e => ?_⟩
  · obtain ⟨hj, rfl⟩ := kws_in hq
    have hj2 : j < kN k - b := hj
    exact h.1 (b + j) _ (kws_at k M (by omega))
  · have hi2 : i < kN k - b := hi
    have hj2 : j < kN k - b := hj
    have := h.2.2.2 (b + i) (b + j) (by omega) (by omega) e
    omega
theorem kU_A {k : KX} {b sz q : Nat} (hb : b ≤ kN k) (h : kA (kU k b) sz q) : kA k sz q := by
  rcases h with ⟨i, hi, e⟩ | h
  · have hi2 : i < kN k - b := hi
    exact Or.inl ⟨b + i, by omega, e⟩
  · exact Or.inr h
set_option maxHeartbeats 1000000 in
theorem CI.sub {l : Launch} {y : MethodName} {cc : ByteArray} {nL : Nat} {R : Room} {k : KX} {As : List Value} {M : Mem} {post : KX → Mem → Prop} {b : Nat} (hb : b ≤ kN k) (h : CI l y cc nL R (kU k b) As (mU M b) post) : CI l y cc nL R k As M (fun k' M' => ∃ k1 M1, post k1 M1 ∧ kext (kU k b) k1 ∧ k' = kJo k b k1 ∧ M' = mJo M b M1) := by
  intro sz
  refine met_imp2 (h sz) (fun a s hp => ⟨hp.1, hp.2.1, kU_B hb hp.2.2.1, hp.2.2.2⟩) (fun a s o t hp hq => ?_)
  obtain ⟨⟨⟨k1, M1, h1, E, hnew, hpo, hB⟩, hF⟩, L, h2, h3⟩ := hq
  obtain ⟨_, hsz, hB0, _⟩ := hp
  have hE3 : kN k - b ≤ kN k1 := E.2.2.1
  have hlt : ∀ i, i < kN k → ad k i < s.heap.size := fun i hi => (hB0.1 i _ (kws_at k M hi)).lt
  have hap : ∀ i j, i < b → j < kN k1 → ad k i ≠ ad k1 j := fun i j hi hj e => by
    by_cases hj2 : j < kN k - b
    · have e2 : ad k1 j = ad k (b + j) := E.at hj2
      have := hB0.2.2.2 i (b + j) (by omega) (by omega) (e.trans e2)
      omega
    · have h5 := hnew j (by show kN k - b ≤ j; omega) hj
      have h6 := hlt i (by omega)
      omega
  refine ⟨⟨⟨kJo k b k1, mJo M b M1, h1, ⟨rfl, rfl, ?_, fun i hi => ?_⟩, fun i hi1 hi2 => ?_, ⟨k1, M1, hpo, E, rfl, rfl⟩, ⟨?_, ?_, hB.2.2.1, ?_⟩⟩, hF.1, fun q hq1 hq2 => hF.2 q hq1 (fun hh => hq2 (kU_A hb hh))⟩, L, h2, fun q hq => kU_A hb (h3 q hq)⟩
  · show kN k ≤ b + kN k1; omega
  · show (if i < b then ad k i else ad k1 (i - b)) = ad k i
    split
    · rfl
    · rw [E.at (show i - b < kN (kU k b) by show i - b < kN k - b; omega)]
      show ad k (b + (i - b)) = ad k i
      rw [show b + (i - b) = i by omega]
  · have hi3 : i < b + kN k1 := hi2
    show sz ≤ (if i < b then ad k i else ad k1 (i - b))
    rw [if_neg (by omega)]
    exact hnew (i - b) (by show kN k - b ≤ i - b; omega) (by omega)
  · intro j q hq
    obtain ⟨hj, rfl⟩ := kws_in hq
    have hj2 : j < b + kN k1 := hj
    by_cases hjb : j < b
    · have e1 : (ad (kJo k b k1) j, mJo M b M1 j) = (ad k j, M j) := by
        show ((if j < b then ad k j else ad k1 (j - b)), (if j < b then M j else M1 (j - b))) = _
        rw [if_pos hjb, if_pos hjb]
      rw [e1]
      have h5 := hB0.1 j _ (kws_at k M (by omega : j < kN k))
      have h5l := hlt j (by omega)
      refine va_at.kept h5 (hF.2 _ h5l ?_)
      rintro (⟨i, hi, e⟩ | h6)
      · have hi4 : i < kN k - b := hi
        have := hB0.2.2.2 j (b + i) (by omega) (by omega) e
        omega
      · have h7 : sz ≤ ad k j := h6
        omega
    · have e1 : (ad (kJo k b k1) j, mJo M b M1 j) = (ad k1 (j - b), M1 (j - b)) := by
        show ((if j < b then ad k j else ad k1 (j - b)), (if j < b then M j else M1 (j - b))) = _
        rw [if_neg hjb, if_neg hjb]
      rw [e1]
      have h5 := hB.1 (j - b) _ (kws_at k1 M1 (by omega))
      have e : kD k1 = kD (kJo k b k1) := E.1
      rw [e] at h5
      exact h5
  · have h5 := hB.2.1
    have e1 : kD k1 = kD (kJo k b k1) := E.1
    have e2 : ktys k1 = ktys (kJo k b k1) := by
      unfold ktys
      rw [E.I, E.Z, E.J, E.S]
      rfl
    rw [e1, e2] at h5
    exact h5
  · intro i j hi hj e
    have hi2 : i < b + kN k1 := hi
    have hj2 : j < b + kN k1 := hj
    have e' : (if i < b then ad k i else ad k1 (i - b)) = (if j < b then ad k j else ad k1 (j - b)) := e
    by_cases hib : i < b
    · by_cases hjb : j < b
      · rw [if_pos hib, if_pos hjb] at e'; exact hB0.2.2.2 i j (by omega) (by omega) e'
      · rw [if_pos hib, if_neg hjb] at e'; exact absurd e' (hap i _ hib (by omega))
    · by_cases hjb : j < b
      · rw [if_neg hib, if_pos hjb] at e'; exact absurd e'.symm (hap j _ hjb (by omega))
      · rw [if_neg hib, if_neg hjb] at e'
        have := hB.2.2.2 _ _ (by omega) (by omega) e'
        omega
def tw (i : Nat) : Nat := if i < 93 then sg i else if i < 186 then 93 + sg (i - 93) else i
theorem sg_93 {i : Nat} (h : i < 93) : sg i < 93 := sg_lt (Nat.le_refl _) h
theorem twA {i : Nat} (h : i < 93) : tw i = sg i := if_pos h
theorem twB {i : Nat} (h : 93 ≤ i) (h2 : i < 186) : tw i = 93 + sg (i - 93) := by unfold tw; rw [if_neg (by omega), if_pos h2]
theorem twC {i : Nat} (h : 186 ≤ i) : tw i = i := by unfold tw; rw [if_neg (by omega), if_neg (by omega)]
theorem tw_lt {i n : Nat} (hn : 186 ≤ n) (hi : i < n) : tw i < n := by
  by_cases h1 : i < 93
  · rw [twA h1]; have := sg_93 h1; omega
  · by_cases h2 : i < 186
    · rw [twB (by omega) h2]; have := sg_93 (i := i - 93) (by omega); omega
    · rw [twC (by omega)]; exact hi
theorem tw_inj {i j : Nat} (h : tw i = tw j) : i = j := by
  by_cases h1 : i < 93
  · have a1 := sg_93 h1
    by_cases h2 : j < 93
    · rw [twA h1, twA h2] at h; exact sg_inj h
    · by_cases h3 : j < 186
      · rw [twA h1, twB (by omega) h3] at h; omega
      · rw [twA h1, twC (by omega)] at h; omega
  · by_cases h4 : i < 186
    · have a1 := sg_93 (i := i - 93) (by omega)
      rw [twB (by omega) h4] at h
      by_cases h2 : j < 93
      · have a2 := sg_93 h2
        rw [twA h2] at h; omega
      · by_cases h3 : j < 186
        · rw [twB (by omega) h3] at h
          have := sg_inj (i := i - 93) (j := j - 93) (by omega)
          omega
        · rw [twC (by omega)] at h; omega
    · rw [twC (i := i) (by omega)] at h
      by_cases h2 : j < 93
      · have a2 := sg_93 h2
        rw [twA h2] at h; omega
      · by_cases h3 : j < 186
        · have a2 := sg_93 (i := j - 93) (by omega)
          rw [twB (by omega) h3] at h; omega
        · rw [twC (by omega)] at h; exact h
def kz (k : KX) : KX := (k.1, k.2.1, (fun i => ad k (tw i)), kN k)
def mz (M : Mem) : Mem := fun i => M (tw i)
theorem kinj_z {k : KX} (hN : 186 ≤ kN k) (h : kinj k) : kinj (kz k) := fun i j hi hj e => tw_inj (h (tw i) (tw j) (tw_lt hN hi) (tw_lt hN hj) e)
theorem va_P_z {k : KX} {M : Mem} {H : Heap} (hN : 186 ≤ kN k) (h : va_P (kD k) vwCl (kws k M) H) : va_P (kD (kz k)) vwCl (kws (kz k) (mz M)) H := by
  intro j q hq
  obtain ⟨hj, rfl⟩ := kws_in hq
  exact h (tw j) _ (kws_at k M (tw_lt hN hj))
section VZ
variable {C : CT} {k : KX} {cc : ByteArray} {own : String} {nL : Nat} {ret : Option FieldType} {z : Nat × Nat} {M : Mem} {pc : Nat} {lv : List (Nat × Value)} {st : List Value}
theorem OKc.zp (X : OKc C k cc own nL ret) (hN : 186 ≤ kN k) : OKc C (kz k) cc own nL ret := ⟨X.x, X.b, X.r, X.ml, X.ow, X.ts, X.lk, X.K, X.nw, kinj_z hN X.inj, fun i hi => X.hA (tw i) (tw_lt hN hi), X.hA2⟩
theorem v_permZ (X : OKc C k cc own nL ret) (hN : 186 ≤ kN k) (kk : ∀ (k' : KX) (M' : Mem), k' = kz k → M' = mz M → OKc C k' cc own nL ret → V C k' nL z M' pc lv st) : V C k nL z M pc lv st :=
  fun H locs ls hP hS h => kk (kz k) (mz M) rfl rfl (X.zp hN) H locs ls (va_P_z hN hP) hS h
end VZ
def S0 : SS := ([], [], [], fun _ => none, [])
theorem At_zp {k : KX} {M : Mem} (h : SolNew k M) (hN : 186 ≤ kN k) : At (kz k) (mz M) S0 :=
  SolAt.ag (k := kp k) (M := mp M) (h.p (by omega)) ⟨rfl, rfl, rfl, by show 93 ≤ kN k; omega, fun i hi => by show ad k (tw i) = ad k (sg i); rw [twA hi]⟩ (fun i hi => by show M (tw i) = M (sg i); rw [twA hi])
theorem At_zq {k k1 : KX} {M M1 : Mem} (h : SolNew k1 M1) (hN1 : kN k1 = 93) (E : kext (kU k 93) k1) : At (kq (kz (kJo k 93 k1))) (mq (mz (mJo M 93 M1))) S0 := by
  refine SolAt.ag (k := kp k1) (M := mp M1) (h.p (by omega)) ⟨E.I.symm, E.Z.symm, E.S.symm, by show 93 ≤ 93 + kN k1; omega, fun i hi => ?_⟩ (fun i hi => ?_)
  · show (if tw (sw i) < 93 then ad k (tw (sw i)) else ad k1 (tw (sw i) - 93)) = ad k1 (sg i)
    rw [swA hi, twB (by omega) (by omega), if_neg (by omega), show 93 + sg (i + 93 - 93) - 93 = sg i by rw [Nat.add_sub_cancel]; omega]
  · show (if tw (sw i) < 93 then M (tw (sw i)) else M1 (tw (sw i) - 93)) = M1 (sg i)
    rw [swA hi, twB (by omega) (by omega), if_neg (by omega), show 93 + sg (i + 93 - 93) - 93 = sg i by rw [Nat.add_sub_cancel]; omega]
/-- the constructor of the second one -/
theorem c_init2 (l : Launch) (k : KX) (M : Mem) (hN : kN k = 94) (F : M 93 = .inr (7, [.null, .null, .null, .null, .null, .null, .null, .null])) : CI l yX7_init cX7_init 1 { frames := 4, cells := 92, slots := 1145, locals := 81 } k [.ref (ad k 93)] M (fun k' M' => ∃ k1 M1, (kN k1 = 93 ∧ SolNew k1 M1) ∧ kext (kU k 93) k1 ∧ k' = kJo k 93 k1 ∧ M' = mJo M 93 M1) :=
  CI.sub (b := 93) (by omega) (c_X7_init l (kU k 93) (mU M 93) (by show kN k - 93 = 1; omega) F)
/-! a number of the script -/
theorem mask31 (x : Int32) : ∃ j, j < 2 ^ 31 ∧ x &&& nI 2147483647 = nI j := by
  refine ⟨x.toBitVec.toNat &&& 2147483647, Nat.lt_of_le_of_lt Nat.and_le_right (by decide), ?_⟩
  apply Int32.toBitVec_inj.mp
  apply BitVec.eq_of_toNat_eq
  rw [Int32.toBitVec_and, BitVec.toNat_and]
  show x.toBitVec.toNat &&& 2147483647 = (x.toBitVec.toNat &&& 2147483647) % 2 ^ 32
  rw [Nat.mod_eq_of_lt (Nat.lt_of_le_of_lt Nat.and_le_right (by decide))]
noncomputable def cellV (L : Nat) (xs : Nat → Int32) (j : Nat) : Int32 := (if j < L then xs j else nI 15571007 * nI j + nI 10091) &&& nI 2147483647
theorem cellV_n (L : Nat) (xs : Nat → Int32) (j : Nat) : ∃ x, x < 2 ^ 31 ∧ cellV L xs j = nI x := mask31 _
def kPC (k : KX) (M : Mem) (sz : Nat) (b L : Nat) (xs : Nat → Int32) (As : List Value) : Array Value → State → Prop := va_Pc As (fun U => U.heap.size = sz ∧ kB k M U ∧ va_X b L xs U U.heap ∧ b < sz ∧ ¬ kA k sz b)
theorem kPC_blind {k : KX} {M : Mem} {sz b L : Nat} {xs : Nat → Int32} {As : List Value} : FrameBlind (kPC k M sz b L xs As) := fun _ U _ _ h => ⟨h.1, h.2.1, ⟨h.2.2.1.1, va_K.moved (Vm.Alike.refl U.vm) h.2.2.1.2.1, NW.same (u := U) rfl h.2.2.1.2.2.1, h.2.2.1.2.2.2⟩, va_X.moved (u := U) (Vm.Alike.refl U.vm) h.2.2.2.1, h.2.2.2.2⟩
set_option maxHeartbeats 1000000 in
theorem c_L_cell (l : Launch) (k : KX) (M : Mem) (b L : Nat) (xs : Nat → Int32) (j : Nat) (hL : L < 2 ^ 31) (hj : j < 2 ^ 31) (sz : Nat) : Met l yL_cell (AW yL_cell cL_cell 2 (some .int)) { frames := 0, cells := 0, slots := 0, locals := 0 } (kPC k M sz b L xs [.ref b, .int (nI j)]) (kQ k (pP (.int (cellV L xs j)) M) sz) 0 0 (kA k sz) := by
  refine Met.ofW (cc := cL_cell) (maxL := 2) (ret := some .int) (by decide) rfl ?_
  intro p e s m args below meth c s₁ B hml hv
  obtain ⟨rfl, hsz1, ⟨hP, hK, hN, hI⟩, hX, hbl, hbA⟩ := hv
  have hts := atoms_spec (ws := AW yL_cell cL_cell 2 (some .int)) B.pre
  have hown : s.vm.findClass yL_cell.cls = some m.cls := findClass_of_methodNamed B.named
  subst hsz1
  have hl := lv_entry ([.ref b, .int (nI j)] : List Value) (n := 2) (Nat.le_of_ble_eq_true rfl)
  rw [lg_entry_eq]
  let C : CT := (p, l, e, { frames := 0, cells := 0, slots := 0, locals := 0 }, s, m, ([.ref b, .int (nI j)] : List Value).toArray, below, meth, c, MQ below (kQ k (pP (.int (cellV L xs j)) M) s.heap.size) ([.ref b, .int (nI j)] : List Value).toArray s 0 0 (kA k s.heap.size), kA k s.heap.size)
  have X : OKc C k cL_cell RL 2 (some .int) := ⟨B.exec, B.bytes, B.returns, hml, hown, fun w hw => hts w (List.mem_cons_of_mem _ hw), B.notSynchronized, hK, hN, hI, fun i hi => Or.inl ⟨i, hi, rfl⟩, fun q hq => Or.inr hq⟩
  have rq : RQ C k { frames := 0, cells := 0, slots := 0, locals := 0 } (pP (.int (cellV L xs j)) M) := ⟨rfl, fun _ _ _ h => h⟩
  have body : V C k 2 (0, 0) M 0 [(0, .ref b), (1, .int (nI j))] [] := by
    have fin : ∀ r : Int32, r = cellV L xs j → V C k 2 (0, 0) M 23 [(0, .ref b), (1, .int (nI j))] [.int r] := fun r hr => v_iret X rq ⟨Nat.le_refl _, Nat.le_refl _⟩ rfl dL_cell_23 ⟨by rw [hr], rfl⟩
    refine v_iload_n X 1 dL_cell_0 rfl ?_
    refine v_aload_n X 0 dL_cell_1 rfl ?_
    refine v_slen X hX hbl hbA dL_cell_2 ?_
    refine v_cgeN X 12 hj hL dL_cell_3 (by decide) (fun c1 => ?_) (fun c2 => ?_)
    · refine v_ldc X (v := 15571007) m_482 dL_cell_12 ?_
      refine v_iload_n X 1 dL_cell_14 rfl ?_
      refine v_imul X dL_cell_15 ?_
      refine v_sipush X (v := nI 10091) (by decide) dL_cell_16 ?_
      refine v_iadd X dL_cell_19 ?_
      refine v_ldc X (v := 2147483647) m_483 dL_cell_20 ?_
      refine v_iand X dL_cell_22 ?_
      exact fin _ (by unfold cellV; rw [if_neg (by omega)]; rfl)
    · refine v_aload_n X 0 dL_cell_6 rfl ?_
      refine v_iload_n X 1 dL_cell_7 rfl ?_
      refine v_sld X hX hbl hbA (by omega) hL dL_cell_8 ?_
      refine v_goto X 20 dL_cell_9 (by decide) ?_
      refine v_ldc X (v := 2147483647) m_483 dL_cell_20 ?_
      refine v_iand X dL_cell_22 ?_
      exact fin _ (by unfold cellV; rw [if_pos (by omega)]; rfl)
  exact body s.heap [] _ hP va_S.rf hl
theorem v_cell {C : CT} {k : KX} {cc : ByteArray} {own : String} {nL : Nat} {ret : Option FieldType} {z : Nat × Nat} {M : Mem} {pc : Nat} {lv : List (Nat × Value)} {rest : List Value} {R : Room} {b L j idx : Nat} {xs : Nat → Int32} (X : OKc C k cc own nL ret) (hR : C_R C = R) (hX : va_X b L xs (C_s C) (C_s C).heap) (hbl : b < (C_s C).heap.size) (hbA : ¬ C_A C b) (hL : L < 2 ^ 31) (hj : j < 2 ^ 31) (hk : Cond.methodLink own idx yL_cell ∈ ALL) (hi : Cond.initialized RL ∈ ALL) (hRR : rOK { frames := 0, cells := 0, slots := 0, locals := 0 } R 2) (hW : (rest.map fun v => v.category).sum ≤ 8) (hz : z.1 ≤ R.cells ∧ z.2 ≤ R.slots) (d : decode cc pc = .ok (.invokestatic idx, 3))
    (kk : V C k nL z M (pc + 3) lv (.int (cellV L xs j) :: rest)) : V C k nL z M pc lv (.int (nI j) :: .ref b :: rest) := by
  subst hR
  refine v_runB (rest := rest) (mc := 0) (ms := 0) (av := ([.ref b, .int (nI j)] : List Value).toArray) (post := pP (.int (cellV L xs j)) M) X (fun H locs ls hP hS h => ?_) (fun v M' hp => ?_)
  · refine va_runS (As := [.ref b, .int (nI j)]) (rest := rest) (Ts := ALL) (own := own) (n := 2) ⟨X.x, X.b, X.ml, X.ow, X.ts⟩ (c_L_cell (C_l C) k M b L xs j hL hj H.size) ⟨⟨rfl, rfl, hRR.1, hRR.2, ALL_pay X m_481, List.mem_cons_self, X.ts _ m_481, X.ts _ hi, ⟨mo_L_cell.1, mo_L_cell.2.1⟩, mo_L_cell.len, X.ts _ hk⟩, X.ts _ m_690⟩ ⟨kPC_blind, fun U hU hW' => ⟨rfl, by rw [hU], ⟨by rw [hU]; exact hP, va_K.moved hW'.alike X.K, X.nw.warm hW', X.inj⟩, by rw [hU]; exact (va_X.moved hW'.alike hX).kept (hS.2.1 b hbl hbA), Nat.lt_of_lt_of_le hbl hS.1, fun hh => hh.elim (fun ⟨i, hi2, e⟩ => hbA (e ▸ X.hA i hi2)) (fun hh => Nat.not_le.mpr (Nat.lt_of_lt_of_le hbl hS.1) hh)⟩⟩ rfl rfl h.1 rfl (lv_room hW) d hz
  · obtain ⟨rfl, rfl⟩ := hp
    exact kk
