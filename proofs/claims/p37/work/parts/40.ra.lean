/-! constructors: the memory grows -/
def kx (k : KX) (q : Nat) : KX := (k.1, k.2.1, (fun i => if i = kN k then q else ad k i), kN k + 1)
def kext (k k' : KX) : Prop := k'.1 = k.1 ∧ k'.2.1 = k.2.1 ∧ kN k ≤ kN k' ∧ ∀ i, i < kN k → ad k' i = ad k i
theorem kext.rf {k : KX} : kext k k := ⟨rfl, rfl, Nat.le_refl _, fun _ _ => rfl⟩
theorem kext.tr {a b c : KX} (h : kext a b) (g : kext b c) : kext a c := ⟨g.1.trans h.1, g.2.1.trans h.2.1, Nat.le_trans h.2.2.1 g.2.2.1, fun i hi => (g.2.2.2 i (Nat.lt_of_lt_of_le hi h.2.2.1)).trans (h.2.2.2 i hi)⟩
theorem kext.I {k k' : KX} (h : kext k k') : kI k' = kI k := congrArg (fun x : ClassId × ClassId × ClassId × ClassId => x.1) h.2.1
theorem kext.Z {k k' : KX} (h : kext k k') : kZ k' = kZ k := congrArg (fun x : ClassId × ClassId × ClassId × ClassId => x.2.1) h.2.1
theorem kext.J {k k' : KX} (h : kext k k') : kJ k' = kJ k := congrArg (fun x : ClassId × ClassId × ClassId × ClassId => x.2.2.1) h.2.1
theorem kext.S {k k' : KX} (h : kext k k') : kS k' = kS k := congrArg (fun x : ClassId × ClassId × ClassId × ClassId => x.2.2.2) h.2.1
theorem kext.at {k k' : KX} (h : kext k k') {i : Nat} (hi : i < kN k) : ad k' i = ad k i := h.2.2.2 i hi
theorem kext_x {k : KX} {q : Nat} : kext k (kx k q) := ⟨rfl, rfl, Nat.le_succ _, fun _ hi => if_neg (Nat.ne_of_lt hi)⟩
theorem kws_len {k : KX} {M : Mem} : (kws k M).length = kN k := by simp [kws]
theorem kws_x (k : KX) (M : Mem) (e : va_E) (q : Nat) : kws k M ++ [(q, e)] = kws (kx k q) (mup M (kN k) e) := by
  refine List.ext_getElem? fun j => ?_
  rcases Nat.lt_trichotomy j (kN k) with h | h | h
  · rw [List.getElem?_append_left (by rw [kws_len]; exact h), kws_at k M h, kws_at (kx k q) _ (show j < kN k + 1 by omega), mup_n (Nat.ne_of_lt h), show ad (kx k q) j = ad k j from if_neg (Nat.ne_of_lt h)]
  · subst h
    rw [List.getElem?_append_right (by rw [kws_len]; omega), kws_at (kx k q) _ (show kN k < kN k + 1 by omega), mup_s, kws_len, Nat.sub_self, show ad (kx k q) (kN k) = q from if_pos rfl]
    rfl
  · rw [List.getElem?_eq_none (by rw [List.length_append, kws_len]; show kN k + 1 ≤ j; omega), List.getElem?_eq_none (by rw [kws_len]; show kN k + 1 ≤ j; omega)]
theorem kinj_D {k : KX} {M : Mem} {A : Nat → Prop} (h : va_D A (kws k M)) : kinj k ∧ ∀ i, i < kN k → A (ad k i) := ⟨fun i j hi hj e => h.1 i j _ _ (kws_at k M hi) (kws_at k M hj) e, fun i hi => h.2 i _ (kws_at k M hi)⟩
section VG
variable {C : CT} {k : KX} {cc : ByteArray} {own : String} {nL : Nat} {ret : Option FieldType} {z : Nat × Nat} {M : Mem} {pc : Nat} {lv : List (Nat × Value)} {st st0 rest : List Value} {R : Room}
theorem OKc.kx {q : Nat} {M' : Mem} (X : OKc C k cc own nL ret) (h : va_D (C_A C) (kws (kx k q) M')) : OKc C (kx k q) cc own nL ret := ⟨X.x, X.b, X.r, X.ml, X.ow, X.ts, X.lk, X.K, X.nw, (kinj_D h).1, (kinj_D h).2, X.hA2⟩
theorem v_new (X : OKc C k cc own nL ret) (hR : C_R C = R) {ci Nf ik : Nat} {Cn : String} {T : u_T} {ty0 : Nat → FieldType} (cl : clsOK ci Cn T Nf ty0) {fs : List Value} (hfs : ∀ j, j < Nf → defaultValue (ty0 j) = vp_V fs j) (hk : Cond.classLink own ik Cn ∈ ALL) (hi : Cond.instantiable Cn Nf ∈ ALL) (hn : Cond.initialized Cn ∈ ALL) (hz : z.1 + 1 ≤ R.cells ∧ z.2 + Nf ≤ R.slots) (d : decode cc pc = .ok (.new ik, 3))
    (kk : ∀ (k' : KX) (M' : Mem), kext k k' → kN k' = kN k + 1 → M' = mup M (kN k) (.inr (ci, fs)) → OKc C k' cc own nL ret → V C k' nL (z.1 + 1, z.2 + Nf) M' (pc + 3) lv (.ref (ad k' (kN k)) :: st)) : V C k nL z M pc lv st := by
  subst hR
  intro H locs ls hP hS hl
  refine va_new (D := kD k) (ci := ci) X.x X.b X.ts cl.2.2.2 ty0 cl.2.1 X.ow (X.ts _ hk) (X.ts _ hi) (X.ts _ hn) X.K hP X.D hS X.hA2 cl.1 hfs hz.1 hz.2 d (fun q H1 hP1 hD1 hS1 => ?_)
  rw [kws_x] at hP1 hD1
  have h := kk (kx k q) _ kext_x rfl rfl (X.kx hD1) H1 locs ls hP1 hS1 hl
  rw [show ad (kx k q) (kN k) = q from if_pos rfl] at h
  exact h
theorem v_newI (X : OKc C k cc own nL ret) (hR : C_R C = R) {n : Nat} (hn : n < 2 ^ 31) (hb : n * 4 ≤ 536870912) (harr : Cond.arrayClass .int ∈ ALL) (hz : z.1 + 1 ≤ R.cells ∧ z.2 + n ≤ R.slots) (d : decode cc pc = .ok (.newarray .int, 2))
    (kk : ∀ (k' : KX) (M' : Mem), kext k k' → kN k' = kN k + 1 → M' = mup M (kN k) (.inl (kI k, n, .inl (fun _ => nI 0))) → OKc C k' cc own nL ret → V C k' nL (z.1 + 1, z.2 + n) M' (pc + 2) lv (.ref (ad k' (kN k)) :: st)) : V C k nL z M pc lv (.int (nI n) :: st) := by
  subst hR
  intro H locs ls hP hS hl
  refine va_newa (D := kD k) (atype := .int) (a0 := (n, .inl (fun _ => nI 0))) X.x X.b (X.ts _ harr) (ty := .int) rfl X.K hP X.D hS X.hA2 (fun _ => by rw [nI_0]; rfl) (nI_pos hn) (nI_clamp hn) hb hz.1 hz.2 d (fun q cA H1 hK1 hP1 hD1 hS1 => ?_)
  have e1 := va_nm_int (X.K.2 0 (kI k, .int) rfl).2
  have e2 := va_nm_int (hK1.2 4 (cA, .int) rfl).2
  have e3 : cA = kI k := Option.some.inj (e2.symm.trans e1)
  subst e3
  rw [kws_x] at hP1 hD1
  have h := kk (kx k q) _ kext_x rfl rfl (X.kx hD1) H1 locs ls hP1 hS1 hl
  rw [show ad (kx k q) (kN k) = q from if_pos rfl] at h
  exact h
theorem v_newZ (X : OKc C k cc own nL ret) (hR : C_R C = R) {n : Nat} (hn : n < 2 ^ 31) (hb : n * 1 ≤ 536870912) (harr : Cond.arrayClass .boolean ∈ ALL) (hz : z.1 + 1 ≤ R.cells ∧ z.2 + n ≤ R.slots) (d : decode cc pc = .ok (.newarray .boolean, 2))
    (kk : ∀ (k' : KX) (M' : Mem), kext k k' → kN k' = kN k + 1 → M' = mup M (kN k) (.inl (kZ k, n, .inl (fun _ => bI false))) → OKc C k' cc own nL ret → V C k' nL (z.1 + 1, z.2 + n) M' (pc + 2) lv (.ref (ad k' (kN k)) :: st)) : V C k nL z M pc lv (.int (nI n) :: st) := by
  subst hR
  intro H locs ls hP hS hl
  refine va_newa (D := kD k) (atype := .boolean) (a0 := (n, .inl (fun _ => bI false))) X.x X.b (X.ts _ harr) (ty := .boolean) rfl X.K hP X.D hS X.hA2 (fun _ => rfl) (nI_pos hn) (nI_clamp hn) hb hz.1 hz.2 d (fun q cA H1 hK1 hP1 hD1 hS1 => ?_)
  have e1 := va_nm_boolean (X.K.2 1 (kZ k, .boolean) rfl).2
  have e2 := va_nm_boolean (hK1.2 4 (cA, .boolean) rfl).2
  have e3 : cA = kZ k := Option.some.inj (e2.symm.trans e1)
  subst e3
  rw [kws_x] at hP1 hD1
  have h := kk (kx k q) _ kext_x rfl rfl (X.kx hD1) H1 locs ls hP1 hS1 hl
  rw [show ad (kx k q) (kN k) = q from if_pos rfl] at h
  exact h
theorem v_newS (X : OKc C k cc own nL ret) (hR : C_R C = R) (ao : va_AO RX5 (C_s C)) {n ik : Nat} (hn : n < 2 ^ 31) (hb : n * 4 ≤ 536870912) (hk : Cond.classLink own ik RX5 ∈ ALL) (hz : z.1 + 1 ≤ R.cells ∧ z.2 + n ≤ R.slots) (d : decode cc pc = .ok (.anewarray ik, 3))
    (kk : ∀ (k' : KX) (M' : Mem), kext k k' → kN k' = kN k + 1 → M' = mup M (kN k) (.inl (kS k, n, .inr (.inr (.inr (.inr (fun _ => none)))))) → OKc C k' cc own nL ret → V C k' nL (z.1 + 1, z.2 + n) M' (pc + 3) lv (.ref (ad k' (kN k)) :: st)) : V C k nL z M pc lv (.int (nI n) :: st) := by
  subst hR
  intro H locs ls hP hS hl
  refine va_newq (D := kD k) X.x X.b X.ow (X.ts _ hk) ao X.K hP X.D hS X.hA2 (nI_pos hn) (nI_clamp hn) hb hz.1 hz.2 d (fun q cA H1 hK1 hP1 hD1 hS1 => ?_)
  obtain ⟨_, _, _, _, _, e1⟩ := (X.K.2 3 (kS k, .object RX5) rfl).2
  obtain ⟨_, _, _, _, _, e2⟩ := (hK1.2 4 (cA, .object RX5) rfl).2
  have e3 : cA = kS k := Option.some.inj (e2.symm.trans e1)
  subst e3
  rw [kws_x] at hP1 hD1
  have h := kk (kx k q) _ kext_x rfl rfl (X.kx hD1) H1 locs ls hP1 hS1 hl
  rw [show ad (kx k q) (kN k) = q from if_pos rfl] at h
  exact h
theorem v_objInit (X : OKc C k cc own nL ret) (hR : C_R C = R) {v : Nat} {idx : Nat} (hk : Cond.methodLink own idx objectInit ∈ ALL) (hW : (st.map fun v => v.category).sum ≤ 8) (hf : 1 ≤ R.frames) (hlo : 20 ≤ R.locals) (d : decode cc pc = .ok (.invokespecial idx, 3)) (kk : V C k nL z M (pc + 3) lv st) : V C k nL z M pc lv (.ref v :: st) := by
  subst hR
  intro H locs ls hP hS h
  refine W.objInit X.x X.b X.ow (X.ts _ hk) (X.ts _ m_2) (X.ts _ m_3) rfl (by rw [X.ml]; exact h.1) rfl d hf ?_ ?_
  · show 2 * 0 + (st.map fun v => v.category).sum + 12 ≤ _
    omega
  · exact kk H locs ls hP hS h
theorem v_putF (X : OKc C k cc own nL ret) (hin : (C_meth C).name = "<init>") {ci i Nf idx : Nat} {Cn ref : String} {T : u_T} {ty0 : Nat → FieldType} {fs : List Value} {v : Value} (cl : clsOK ci Cn T Nf ty0) (F : M i = .inr (ci, fs)) (hi : i < kN k) (f : Nat) (hf : f < Nf) (hlink : Cond.fieldLink own idx ref (T f).2.1 (T f).2.2.1 ∈ ALL) (hsame : (T f).1 = ref) (hfin : (T f).2.2.2 = true) (hdecl : (T f).1 = own) (hn : narrow (ty0 f) v = v) (hfit : fits (ty0 f) v = true) (hl : f < fs.length) (d : decode cc pc = .ok (.putfield idx, 3))
    (kk : ∀ M', M' = mup M i (.inr (ci, fs.set f v)) → V C k nL z M' (pc + 3) lv st) : V C k nL z M pc lv (v :: .ref (ad k i) :: st) := by
  intro H locs ls hP hS h
  refine va_putF (D := kD k) X.x X.b X.ts cl.2.2.2 ty0 cl.2.1 cl.2.2.1 X.ow X.K hP X.D hS i (by rw [kws_at k M hi, F]) cl.1 f hf (X.ts _ hlink) (fun x hx => ?_) hfin hin hdecl (cl.2.1 f hf) hn hfit hl d (fun H1 locs1 hP1 _ hS1 => ?_)
  · rw [← hsame]; exact hx
  · rw [kws_set] at hP1
    exact kk _ rfl H1 locs1 ls hP1 hS1 h
end VG
/-! a constructor's contract -/
def kQI (k0 : KX) (post : KX → Mem → Prop) (sz : Nat) : Array Value → State → Outcome → State → Prop := fun _ st o t => (∃ (k' : KX) (M' : Mem), o = .returned none ∧ kext k0 k' ∧ (∀ i, kN k0 ≤ i → i < kN k' → sz ≤ ad k' i) ∧ post k' M' ∧ kB k' M' t) ∧ va_F (kA k0 sz) st t
def kPI (k : KX) (M : Mem) (sz : Nat) (As : List Value) : Array Value → State → Prop := va_Pc As (fun U => U.heap.size = sz ∧ kB k M U ∧ va_AO RX5 U)
def CI (l : Launch) (y : MethodName) (cc : ByteArray) (nL : Nat) (R : Room) (k : KX) (As : List Value) (M : Mem) (post : KX → Mem → Prop) : Prop :=
  ∀ sz, Met l y (AW y cc nL none) R (kPI k M sz As) (kQI k post sz) R.cells R.slots (kA k sz)
def RI (C : CT) (k : KX) (R : Room) (post : KX → Mem → Prop) : Prop :=
  C_A C = kA k (C_s C).heap.size ∧ (C_meth C).name = "<init>" ∧ va_AO RX5 (C_s C) ∧ ∀ (H : Heap) (locs : List Loc) (g : JFrame), W (C_p C) (C_l C) (C_e C) (C_R C) (C_s C) (C_m C) (C_args C) (C_below C) (C_meth C) (C_c C) H locs R.cells R.slots (MQ (C_below C) (kQI k post (C_s C).heap.size) (C_args C) (C_s C) R.cells R.slots (kA k (C_s C).heap.size)) g → W (C_p C) (C_l C) (C_e C) (C_R C) (C_s C) (C_m C) (C_args C) (C_below C) (C_meth C) (C_c C) H locs R.cells R.slots (C_Q C) g
theorem CI.of {l : Launch} {y : MethodName} {cc : ByteArray} {nL : Nat} {R : Room} {k : KX} {As : List Value} {M : Mem} {post : KX → Mem → Prop} (hy : plainName y.cls = true) (hyn : y.name = "<init>") (hsz : (lg_sl As).length ≤ nL)
    (body : ∀ C : CT, OKc C k cc y.cls nL none → C_l C = l → C_R C = R → RI C k R post → V C k nL (0, 0) M 0 (lv_args 0 As) []) : CI l y cc nL R k As M post := by
  intro sz
  refine Met.ofW (cc := cc) (maxL := nL) (ret := none) hy rfl ?_
  intro p e s m args below meth c s₁ B hml hv
  obtain ⟨rfl, hsz1, ⟨hP, hK, hN, hI⟩, hao⟩ := hv
  have hts := atoms_spec (ws := AW y cc nL none) B.pre
  have hown : s.vm.findClass y.cls = some m.cls := findClass_of_methodNamed B.named
  have hin : meth.name = y.name := (name_of_methodNamed B.named B.method).1
  subst hsz1
  have hl := lv_entry As (n := nL) hsz
  rw [lg_entry_eq]
  have h := body (p, l, e, R, s, m, As.toArray, below, meth, c, MQ below (kQI k post s.heap.size) As.toArray s R.cells R.slots (kA k s.heap.size), kA k s.heap.size)
    ⟨B.exec, B.bytes, B.returns, hml, hown, fun w hw => hts w (List.mem_cons_of_mem _ hw), B.notSynchronized, hK, hN, hI, fun i hi => Or.inl ⟨i, hi, rfl⟩, fun q hq => Or.inr hq⟩ rfl rfl ⟨rfl, hin.trans hyn, hao, fun _ _ _ h => h⟩
  exact h s.heap [] _ hP va_S.rf hl
theorem kPI_blind {k : KX} {M : Mem} {sz : Nat} {As : List Value} : FrameBlind (kPI k M sz As) := fun _ U _ _ h => ⟨h.1, h.2.1, ⟨h.2.2.1.1, va_K.moved (Vm.Alike.refl U.vm) h.2.2.1.2.1, NW.same (u := U) rfl h.2.2.1.2.2.1, h.2.2.1.2.2.2⟩, va_AO.moved (u := U) (Vm.Alike.refl U.vm) h.2.2.2⟩
section VI
variable {C : CT} {k k0 : KX} {cc : ByteArray} {own : String} {nL : Nat} {ret : Option FieldType} {z : Nat × Nat} {M : Mem} {pc : Nat} {lv : List (Nat × Value)} {st st0 rest : List Value} {R : Room} {post : KX → Mem → Prop}
theorem v_vretI (X : OKc C k cc own nL none) (ri : RI C k0 R post) (E : kext k0 k) (hz : z.1 ≤ R.cells ∧ z.2 ≤ R.slots) (d : decode cc pc = .ok (.return_, 1)) (h : post k M) : V C k nL z M pc lv [] := by
  intro H locs ls hP hS hl
  refine W.widen hz.1 hz.2 (ri.2.2.2 _ _ _ ?_)
  rw [ri.1] at hS
  have hnew : ∀ i, kN k0 ≤ i → i < kN k → (C_s C).heap.size ≤ ad k i := fun i h1 h2 => by
    have h3 := X.hA i h2
    rw [ri.1] at h3
    rcases h3 with ⟨j, hj, e⟩ | h3
    · rw [← E.at hj] at e
      have := X.inj i j h2 (Nat.lt_of_lt_of_le hj E.2.2.1) e
      omega
    · exact h3
  exact W.vret X.x X.b X.r (fun t ht hW => ⟨⟨k, M, rfl, E, hnew, h, by rw [ht]; exact hP, va_K.moved hW.alike X.K, X.nw.warm hW, X.inj⟩, hS.F ht⟩) hS.2.2 d X.lk
theorem v_runI {mc ms : Nat} {av : Array Value} (X : OKc C k cc own nL ret) (hr : ∀ (H : Heap) (locs : List Loc) (ls : Array Slot), va_P (kD k) vwCl (kws k M) H → lv_has ls nL lv → va_Run (C_p C) (C_l C) (C_e C) (C_R C) (C_s C) (C_m C) (C_args C) (C_below C) (C_meth C) (C_c C) H locs z.1 z.2 mc ms (F0 (C_m C) pc ls st0) rest (kQI k post H.size av) (kA k H.size))
    (kk : ∀ k' M', kext k k' → post k' M' → OKc C k' cc own nL ret → V C k' nL (z.1 + mc, z.2 + ms) M' (pc + 3) lv rest) : V C k nL z M pc lv st0 := by
  intro H locs ls hP hS hl T hT XX
  obtain ⟨v, st₀, t, T', L, h0, X', hL, e1, e2, ⟨⟨k', M', hv, hE, hnew, hp, hb⟩, hz, hk⟩, st⟩ := hr H locs ls hP hl T hT XX
  cases hv
  rw [h0] at hz hk
  have hAA : ∀ q, kA k H.size q → C_A C q := fun q h => h.elim (fun ⟨i, hi, e⟩ => e ▸ X.hA i hi) (fun h => X.hA2 q (Nat.le_trans hS.1 h))
  have hS' : va_S (C_A C) (C_s C).heap T'.heap (locs ++ L) := ⟨Nat.le_trans hS.1 (by rw [e1]; exact hz), fun q h1 h2 => by
      rw [e1, hk q (Nat.lt_of_lt_of_le h1 hS.1) (fun z => h2 (hAA q z))]; exact hS.2.1 q h1 h2, fun q hq => by
      rcases List.mem_append.mp hq with h | h
      · exact hS.2.2 q h
      · exact hAA _ (hL q h)⟩
  have hK' : va_K (kD k') vwCl (ktys k') (C_s C) := by
    have h := X.K
    unfold ktys kD at h ⊢
    rw [hE.1, hE.I, hE.Z, hE.J, hE.S]
    exact h
  have X2 : OKc C k' cc own nL ret := ⟨X.x, X.b, X.r, X.ml, X.ow, X.ts, X.lk, hK', X.nw, hb.2.2.2, fun i hi => by
      by_cases h : i < kN k
      · rw [hE.at h]; exact X.hA i h
      · exact X.hA2 _ (Nat.le_trans hS.1 (hnew i (Nat.not_lt.mp h) hi)), X.hA2⟩
  obtain ⟨t2, a1, b1⟩ := kk k' M' hE hp X2 T'.heap (locs ++ L) ls (by rw [e1]; exact hb.1) hS' hl T' rfl X'
  exact ⟨t2, st t2 a1, b1⟩
variable {l : Launch} {y : MethodName} {cy : ByteArray} {nY n idx i : Nat} {R' : Room} {As : List Value}
theorem v_callI (X : OKc C k cc own nL ret) (ao : va_AO RX5 (C_s C)) (hl : C_l C = l) (hR : C_R C = R) (ct : CI l y cy nY R' k (.ref (ad k i) :: As) M post) (hyn : y.name = "<init>") (hm : mOK y n) (hc : Cond.code y cy nY none ∈ ALL) (hk : Cond.methodLink own idx y ∈ ALL) (hs : Cond.instanceMethod y ∈ ALL) (hini : Cond.initialized y.cls ∈ ALL) (hRR : rOK R' R nY) (hn : As.length = n) (hst : st0 = As.reverse ++ .ref (ad k i) :: rest) (hW : (rest.map fun v => v.category).sum ≤ 8) (hz : z.1 + R'.cells ≤ R.cells ∧ z.2 + R'.slots ≤ R.slots) (d : decode cc pc = .ok (.invokespecial idx, 3))
    (kk : ∀ k' M', kext k k' → post k' M' → OKc C k' cc own nL ret → V C k' nL (z.1 + R'.cells, z.2 + R'.slots) M' (pc + 3) lv rest) : V C k nL z M pc lv st0 := by
  subst hl; subst hR
  refine v_runI (mc := R'.cells) (ms := R'.slots) (av := (Value.ref (ad k i) :: As).toArray) X (fun H locs ls hP h => ?_) kk
  refine va_runI (As := As) (rest := rest) (Ts := ALL) (own := own) (n := n) (b := ad k i) ⟨X.x, X.b, X.ml, X.ow, X.ts⟩ (ct H.size) ⟨⟨rfl, rfl, hRR.1, hRR.2, ALL_pay X hc, List.mem_cons_self, X.ts _ hc, X.ts _ hini, ⟨hm.1, hm.2.1⟩, hm.len, X.ts _ hk⟩, hyn, X.ts _ hs⟩ ⟨kPI_blind, fun U hU hW' => ⟨rfl, by rw [hU], ⟨by rw [hU]; exact hP, va_K.moved hW'.alike X.K, X.nw.warm hW', X.inj⟩, ao.moved hW'.alike⟩⟩ rfl hn h.1 hst (lv_room hW) d hz
theorem v_callIN (X : OKc C k cc own nL ret) (ao : va_AO RX5 (C_s C)) (hl : C_l C = l) (hR : C_R C = R) {host : String} (ct : CI l y cy nY R' k (.ref (ad k i) :: As) M post) (hyn : y.name = "<init>") (hm : mOK y n) (hc : Cond.code y cy nY none ∈ ALL) (hk : Cond.methodLinkNest own idx y host ∈ NWL) (hs : Cond.instanceMethod y ∈ ALL) (hini : Cond.initialized y.cls ∈ ALL) (hRR : rOK R' R nY) (hn : As.length = n) (hst : st0 = As.reverse ++ .ref (ad k i) :: rest) (hW : (rest.map fun v => v.category).sum ≤ 8) (hz : z.1 + R'.cells ≤ R.cells ∧ z.2 + R'.slots ≤ R.slots) (d : decode cc pc = .ok (.invokespecial idx, 3))
    (kk : ∀ k' M', kext k k' → post k' M' → OKc C k' cc own nL ret → V C k' nL (z.1 + R'.cells, z.2 + R'.slots) M' (pc + 3) lv rest) : V C k nL z M pc lv st0 := by
  subst hl; subst hR
  refine v_runI (mc := R'.cells) (ms := R'.slots) (av := (Value.ref (ad k i) :: As).toArray) X (fun H locs ls hP h => ?_) kk
  refine va_runIN (As := As) (rest := rest) (Ts := ALL) (own := own) (n := n) (b := ad k i) (host := host) ⟨X.x, X.b, X.ml, X.ow, X.ts⟩ (ct H.size) ⟨⟨⟨rfl, rfl, hRR.1, hRR.2, ALL_pay X hc, List.mem_cons_self⟩, X.ts _ hc, X.ts _ hini, ⟨hm.1, hm.2.1⟩, hm.len, va_Nw.use rfl (X.nw _ hk)⟩, hyn, X.ts _ hs⟩ ⟨kPI_blind, fun U hU hW' => ⟨rfl, by rw [hU], ⟨by rw [hU]; exact hP, va_K.moved hW'.alike X.K, X.nw.warm hW', X.inj⟩, ao.moved hW'.alike⟩⟩ rfl hn h.1 hst (lv_room hW) d hz
theorem v_cast {lv' : List (Nat × Value)} {st' : List Value} (h1 : lv = lv') (h2 : st = st') (kk : V C k nL z M pc lv' st') : V C k nL z M pc lv st := by subst h1; subst h2; exact kk
end VI
theorem FmAt.ext {k k' : KX} {M M' : Mem} {b : Nat} {cs : List Nat} (h : FmAt k M b cs) (E : kext k k') (hf : ∀ i, b ≤ i → i < b + 2 → M' i = M i) : FmAt k' M' b cs := by
  obtain ⟨h1, h2, f, F0, F1, h3⟩ := h
  exact ⟨Nat.le_trans h1 E.2.2.1, h2, f, by rw [hf b (by omega) (by omega), E.at (by omega)]; exact F0, by rw [hf (b + 1) (by omega) (by omega), E.I]; exact F1, h3⟩
theorem StAt.ext {k k' : KX} {M M' : Mem} {b : Nat} {cs ds : List Nat} (h : StAt k M b cs ds) (E : kext k k') (hf : ∀ i, b ≤ i → i < b + 4 → M' i = M i) : StAt k' M' b cs ds := by
  obtain ⟨h1, hF, h2, f, F0, F1, h3⟩ := h
  exact ⟨Nat.le_trans h1 E.2.2.1, hF.ext E (fun i a c => hf i (by omega) (by omega)), h2, f, by rw [hf b (by omega) (by omega), E.at (by omega), E.at (by omega)]; exact F0, by rw [hf (b + 3) (by omega) (by omega), E.I]; exact F1, h3⟩
theorem TrAt.ext {k k' : KX} {M M' : Mem} {b : Nat} {tr : List Ent} {cf : Option Nat} (h : TrAt k M b tr cf) (E : kext k k') (hf : ∀ i, b ≤ i → i < b + 4 → M' i = M i) : TrAt k' M' b tr cf := by
  obtain ⟨h1, hk, hc, o, lv, rs, F0, F1, F2, F3, h2, h3⟩ := h
  exact ⟨Nat.le_trans h1 E.2.2.1, hk, hc, o, lv, rs, by rw [hf b (by omega) (by omega), E.at (by omega), E.at (by omega), E.at (by omega)]; exact F0, by rw [hf (b + 1) (by omega) (by omega), E.I]; exact F1, by rw [hf (b + 2) (by omega) (by omega), E.I]; exact F2, by rw [hf (b + 3) (by omega) (by omega), E.I]; exact F3, h2, h3⟩
theorem TxAt.ext {k k' : KX} {M M' : Mem} {tx : List Nat} (h : TxAt k M tx) (E : kext k k') (hf : ∀ i, 1 ≤ i → i < 5 → M' i = M i) : TxAt k' M' tx := by
  obtain ⟨h1, h2, s, f, ⟨g1, g2, g3⟩, F2, h3⟩ := h
  exact ⟨h1, h2, s, f, ⟨Nat.le_trans g1 E.2.2.1, by rw [hf 1 (by omega) (by omega), E.at (by omega), E.at (by omega)]; exact g2, g3.ext E (fun i a c => hf i (by omega) (by omega))⟩, by rw [hf 2 (by omega) (by omega), E.I]; exact F2, h3⟩
theorem mem_keep {k k2 : KX} {M M2 : Mem} {g : Nat → Option Nat} {b j : Nat} (h : ∀ i, i < j → g i = some (ad k (b + 4 * i)) ∧ StAt k M (b + 4 * i) [] []) (E : kext k k2) (hN : b + 4 * j ≤ kN k) (hf : ∀ i, b ≤ i → i < b + 4 * j → M2 i = M i) : ∀ i, i < j → g i = some (ad k2 (b + 4 * i)) ∧ StAt k2 M2 (b + 4 * i) [] [] := by
  intro i hi
  obtain ⟨h1, h2⟩ := h i hi
  exact ⟨by rw [h1, E.at (by omega)], h2.ext E (fun q h3 h4 => hf q (by omega) (by omega))⟩
theorem mem_loop {k k2 : KX} {M M2 : Mem} {g : Nat → Option Nat} {b j : Nat} (h : ∀ i, i < j → g i = some (ad k (b + 4 * i)) ∧ StAt k M (b + 4 * i) [] []) (E : kext k k2) (hN : b + 4 * j ≤ kN k) (hf : ∀ i, b ≤ i → i < b + 4 * j → M2 i = M i) (hs : StAt k2 M2 (b + 4 * j) [] []) : ∀ i, i < j + 1 → va_up g j (some (ad k2 (b + 4 * j))) i = some (ad k2 (b + 4 * i)) ∧ StAt k2 M2 (b + 4 * i) [] [] := by
  intro i hi
  by_cases e : i = j
  · subst e
    exact ⟨by simp [va_up], hs⟩
  · obtain ⟨h1, h2⟩ := mem_keep h E hN hf i (by omega)
    exact ⟨by simp only [va_up, if_neg e]; exact h1, h2⟩
def MeNew (k : KX) (M : Mem) (b : Nat) : Prop := b + 68 ≤ kN k ∧ M b = .inr (3, [.ref (ad k (b + 1)), .ref (ad k (b + 2)), .ref (ad k (b + 3)), .int (nI 0)]) ∧ M (b + 3) = .inl (kZ k, 2, .inl (fun _ => bI false)) ∧
  (∃ g : Nat → Option Nat, M (b + 1) = .inl (kS k, 14, .inr (.inr (.inr (.inr g)))) ∧ ∀ i, i < 14 → g i = some (ad k (b + 4 + 4 * i)) ∧ StAt k M (b + 4 + 4 * i) [] []) ∧
  ∃ g2 : Nat → Option Nat, M (b + 2) = .inl (kS k, 2, .inr (.inr (.inr (.inr g2)))) ∧ ∀ i, i < 2 → g2 i = some (ad k (b + 60 + 4 * i)) ∧ StAt k M (b + 60 + 4 * i) [] []
theorem MeNew.ext {k k' : KX} {M M' : Mem} {b : Nat} (h : MeNew k M b) (E : kext k k') (hf : ∀ i, b ≤ i → i < b + 68 → M' i = M i) : MeNew k' M' b := by
  obtain ⟨h1, F0, F3, ⟨g, F1, hg⟩, g2, F2, hg2⟩ := h
  exact ⟨Nat.le_trans h1 E.2.2.1, by rw [hf b (by omega) (by omega), E.at (by omega), E.at (by omega), E.at (by omega)]; exact F0, by rw [hf _ (by omega) (by omega), E.Z]; exact F3, ⟨g, by rw [hf _ (by omega) (by omega), E.S]; exact F1, mem_keep hg E (by omega) (fun i h1 h2 => hf i (by omega) (by omega))⟩, g2, by rw [hf _ (by omega) (by omega), E.S]; exact F2, mem_keep hg2 E (by omega) (fun i h1 h2 => hf i (by omega) (by omega))⟩
theorem MeNew.fr {k : KX} {M M' : Mem} {b : Nat} (h : MeNew k M b) (hf : ∀ i, b ≤ i → i < b + 68 → M' i = M i) : MeNew k M' b := h.ext kext.rf hf
def MoNew (k : KX) (M : Mem) (b : Nat) : Prop := b + 2 ≤ kN k ∧ ∃ f : Nat → Nat, M b = .inr (4, [.ref (ad k (b + 1)), .int (bI true)]) ∧ M (b + 1) = .inl (kI k, 256, .inl (fun q => nI (f q)))
theorem MoNew.ext {k k' : KX} {M M' : Mem} {b : Nat} (h : MoNew k M b) (E : kext k k') (hf : ∀ i, b ≤ i → i < b + 2 → M' i = M i) : MoNew k' M' b := by
  obtain ⟨h1, f, F0, F1⟩ := h
  exact ⟨Nat.le_trans h1 E.2.2.1, f, by rw [hf b (by omega) (by omega), E.at (by omega)]; exact F0, by rw [hf _ (by omega) (by omega), E.I]; exact F1⟩
theorem MoNew.fr {k : KX} {M M' : Mem} {b : Nat} (h : MoNew k M b) (hf : ∀ i, b ≤ i → i < b + 2 → M' i = M i) : MoNew k M' b := h.ext kext.rf hf
def ElNew (k : KX) (M : Mem) (b : Nat) : Prop := b + 2 ≤ kN k ∧ ∃ r : Nat → Nat, M b = .inr (0, [.ref (ad k (b + 1)), .int (nI 0), .int (bI true)]) ∧ M (b + 1) = .inl (kI k, 8, .inl (fun q => nI (r q)))
theorem ElNew.ext {k k' : KX} {M M' : Mem} {b : Nat} (h : ElNew k M b) (E : kext k k') (hf : ∀ i, b ≤ i → i < b + 2 → M' i = M i) : ElNew k' M' b := by
  obtain ⟨h1, f, F0, F1⟩ := h
  exact ⟨Nat.le_trans h1 E.2.2.1, f, by rw [hf b (by omega) (by omega), E.at (by omega)]; exact F0, by rw [hf _ (by omega) (by omega), E.I]; exact F1⟩
theorem ElNew.fr {k : KX} {M M' : Mem} {b : Nat} (h : ElNew k M b) (hf : ∀ i, b ≤ i → i < b + 2 → M' i = M i) : ElNew k M' b := h.ext kext.rf hf
