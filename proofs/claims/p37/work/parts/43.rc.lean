/-! the law's own methods: they catch what the solver throws -/
def NCP (U : State) : Prop := va_Nc xISE xIAE U ∧ va_Nc xISE xIOB U
theorem NCP.moved {u U : State} (hvm : u.vm.Alike U.vm) (h : NCP u) : NCP U := ⟨h.1.moved hvm, h.2.moved hvm⟩
def kPL (k : KX) (M : Mem) (sz : Nat) (As : List Value) : Array Value → State → Prop := va_Pc As (fun U => U.heap.size = sz ∧ kB k M U ∧ TXP (kA k sz) U U.heap ∧ NCP U)
def CL (l : Launch) (y : MethodName) (cc : ByteArray) (nL : Nat) (hh : List (Nat × Nat × Nat × Nat)) (R : Room) (k : KX) (As : List Value) (M : Mem) (post : Option Value → Mem → Prop) : Prop :=
  ∀ sz, vx_Met l y (Cond.codeWith y cc nL (some .int) hh :: ALL) R (kPL k M sz As) (kQ k post sz) (kX k (fun _ _ => False) sz) R.cells R.slots (kA k sz)
def RLW (C : CT) (k : KX) (R : Room) (post : Option Value → Mem → Prop) (hh : List (Nat × Nat × Nat × Nat)) : Prop :=
  RQ C k R post ∧ TXP (C_A C) (C_s C) (C_s C).heap ∧ NCP (C_s C) ∧ (C_c C).exceptionTable.toList = tableOf hh
theorem CL.of {l : Launch} {y : MethodName} {cc : ByteArray} {nL : Nat} {hh : List (Nat × Nat × Nat × Nat)} {R : Room} {k : KX} {As : List Value} {M : Mem} {post : Option Value → Mem → Prop} (hy : plainName y.cls = true) (hsz : (lg_sl As).length ≤ nL)
    (body : ∀ C : CT, OKc C k cc y.cls nL (some .int) → C_l C = l → C_R C = R → RLW C k R post hh → V C k nL (0, 0) M 0 (lv_args 0 As) []) : CL l y cc nL hh R k As M post := by
  intro sz
  refine vx_ofWH (cc := cc) (maxL := nL) (ret := some .int) (hh := hh) hy rfl ?_
  intro p e s m args below meth c s₁ B hml hv
  obtain ⟨rfl, hsz1, ⟨hP, hK, hN, hI⟩, hT, hnc⟩ := hv
  have hts := atoms_spec (ws := Cond.codeWith y cc nL (some .int) hh :: ALL) B.pre
  have hown : s.vm.findClass y.cls = some m.cls := findClass_of_methodNamed B.named
  have htab := vx_table (x := y) B (hts _ List.mem_cons_self)
  subst hsz1
  have hl := lv_entry As (n := nL) hsz
  rw [lg_entry_eq]
  have h := body (p, l, e, R, s, m, As.toArray, below, meth, c, vx_MQ below (kQ k post s.heap.size) (kX k (fun _ _ => False) s.heap.size) As.toArray s R.cells R.slots (kA k s.heap.size), kA k s.heap.size)
    ⟨B.exec, B.bytes, B.returns, hml, hown, fun w hw => hts w (List.mem_cons_of_mem _ hw), B.notSynchronized, hK, hN, hI, fun i hi => Or.inl ⟨i, hi, rfl⟩, fun q hq => Or.inr hq⟩ rfl rfl ⟨⟨rfl, fun _ _ _ h => vx_ret h⟩, hT, hnc, htab⟩
  exact h s.heap [] _ hP va_S.rf hl
theorem kPL_blind {k : KX} {M : Mem} {sz : Nat} {As : List Value} : FrameBlind (kPL k M sz As) := fun _ U _ _ h => ⟨h.1, h.2.1, ⟨h.2.2.1.1, va_K.moved (Vm.Alike.refl U.vm) h.2.2.1.2.1, NW.same (u := U) rfl h.2.2.1.2.2.1, h.2.2.1.2.2.2⟩, TXP.same (u := U) rfl h.2.2.2.1, NCP.moved (u := U) (Vm.Alike.refl U.vm) h.2.2.2.2⟩
section VLW
variable {C : CT} {k : KX} {cc : ByteArray} {own : String} {nL : Nat} {ret : Option FieldType} {z : Nat × Nat} {M : Mem} {pc : Nat} {lv : List (Nat × Value)} {st0 st rest : List Value} {R : Room} {post : Option Value → Mem → Prop}
theorem v_catch1 {E name : String} {a b h t : Nat} {hs : List (Nat × Nat × Nat × Nat)} (X : OKc C k cc own nL ret) (htab : (C_c C).exceptionTable.toList = tableOf ((a, b, h, t) :: hs)) (hx : covers (⟨a, b, h, t⟩ : ExceptionTableEntry) pc = true) (h0 : t ≠ 0) (hlink : Cond.classLink own t name ∈ ALL) (hcast : va_Nw (.castable E name) (C_s C))
    (kk : ∀ q : Nat, V C k nL z M h lv [.ref q]) : VX C k nL z M pc lv rest E := by
  intro H locs ls q ce hP hS hl hcell hv hcl
  exact vx_catch X.ow [] ⟨a, b, h, t⟩ (tableOf hs) htab (fun x hx => absurd hx List.not_mem_nil) hx h0 (X.ts _ hlink) (va_Nw.use rfl hcast) hcell hv hcl (kk q H locs ls hP hS hl)
theorem v_catch2 {E name nm : String} {a b h t a2 b2 h2 t2 : Nat} {hs : List (Nat × Nat × Nat × Nat)} (X : OKc C k cc own nL ret) (htab : (C_c C).exceptionTable.toList = tableOf ((a, b, h, t) :: (a2, b2, h2, t2) :: hs)) (hx : covers (⟨a2, b2, h2, t2⟩ : ExceptionTableEntry) pc = true) (h0 : t ≠ 0) (h02 : t2 ≠ 0) (hlink1 : Cond.classLink own t nm ∈ ALL) (hlink : Cond.classLink own t2 name ∈ ALL) (hnc : va_Nc E nm (C_s C)) (hcast : va_Nw (.castable E name) (C_s C))
    (kk : ∀ q : Nat, V C k nL z M h2 lv [.ref q]) : VX C k nL z M pc lv rest E := by
  intro H locs ls q ce hP hS hl hcell hv hcl
  refine vx_catch X.ow [⟨a, b, h, t⟩] ⟨a2, b2, h2, t2⟩ (tableOf hs) htab (fun x hx => ?_) hx h02 (X.ts _ hlink) (va_Nw.use rfl hcast) hcell hv hcl (kk q H locs ls hP hS hl)
  rw [List.mem_singleton.mp hx]
  exact Or.inr ⟨h0, nm, X.ts _ hlink1, hnc⟩
theorem ALL_payW (X : OKc C k cc own nL ret) {c0 : Cond} (hc : c0 ∈ ALL) : ∀ w ∈ c0 :: ALL, ∀ (a' : Array Value) (U : State), (C_s C).WarmedH U.vm → w.before a' U = true := by
  intro w hw a' U hW
  have hw' : w ∈ ALL := by
    rcases List.mem_cons.mp hw with h | h
    · rw [h]; exact hc
    · exact h
  exact word_at hW (ALL_g w hw').2 (X.ts w hw')
variable {l : Launch} {y : MethodName} {cy : ByteArray} {nY n idx : Nat} {R' : Room} {As : List Value} {hh : List (Nat × Nat × Nat × Nat)}
theorem v_callL (X : OKc C k cc own nL ret) (ht : TXP (C_A C) (C_s C) (C_s C).heap) (hnc : NCP (C_s C)) (hl : C_l C = l) (hR : C_R C = R) (ct : CL l y cy nY hh R' k As M post) (hm : mOK y n) (hc : Cond.codeWith y cy nY (some .int) hh ∈ ALL) (hk : Cond.methodLink own idx y ∈ ALL) (hs : Cond.static y ∈ ALL) (hi : Cond.initialized y.cls ∈ ALL) (hRR : rOK R' R nY) (hn : As.length = n) (hst : st0 = As.reverse ++ rest) (hW : (rest.map fun v => v.category).sum ≤ 8) (hz : z.1 + R'.cells ≤ R.cells ∧ z.2 + R'.slots ≤ R.slots) (d : decode cc pc = .ok (.invokestatic idx, 3))
    (kk : ∀ v M', post v M' → V C k nL (z.1 + R'.cells, z.2 + R'.slots) M' (pc + 3) lv (v.toList ++ rest)) : V C k nL z M pc lv st0 := by
  subst hl; subst hR
  refine v_runX (px := fun _ _ => False) (av := As.toArray) X (fun H locs ls hP hS h => ?_) kk (fun E M' h => h.elim)
  refine vx_runSX (As := As) (rest := rest) (Ts := ALL) (own := own) (n := n) (hh := hh) ⟨X.x, X.b, X.ml, X.ow, X.ts⟩ (ct H.size) ⟨⟨rfl, rfl, hRR.1, hRR.2, ALL_payW X hc, List.mem_cons_self⟩, X.ts _ hc, X.ts _ hi, ⟨hm.1, hm.2.1⟩, hm.len, X.ts _ hk, X.ts _ hs⟩ ⟨kPL_blind, fun U hU hW' => ⟨rfl, by rw [hU], ⟨by rw [hU]; exact hP, va_K.moved hW'.alike X.K, X.nw.warm hW', X.inj⟩, TXP.at X ht hS hU hW', hnc.moved hW'.alike⟩⟩ rfl hn h.1 hst (lv_room hW) d hz
theorem v_sld (X : OKc C k cc own nL ret) {b L j : Nat} {xs : Nat → Int32} (hX : va_X b L xs (C_s C) (C_s C).heap) (hbl : b < (C_s C).heap.size) (hbA : ¬ C_A C b) (hj : j < L) (hL : L < 2 ^ 31) (d : decode cc pc = .ok (.iaload, 1))
    (kk : V C k nL z M (pc + 1) lv (.int (xs j) :: st)) : V C k nL z M pc lv (.int (nI j) :: .ref b :: st) := by
  intro H locs ls hP hS hl
  refine va_sld X.x X.b hX hbl hbA hS (vp_in_nI hj hL) d ?_
  rw [nI_clamp (Nat.lt_trans hj hL)]
  exact kk H locs ls hP hS hl
theorem v_astore (X : OKc C k cc own nL ret) {i : Nat} {a : Nat} (lv' : List (Nat × Value)) (d : decode cc pc = .ok (.astore i, 2)) (hn : i < nL) (hl : (i, Value.ref a) :: lv.filter (fun q => !(q.1 == i) && !(q.1 + 1 == i && q.2.category == 2)) = lv') (kk : V C k nL z M (pc + 2) lv' st) : V C k nL z M pc lv (.ref a :: st) :=
  fun H locs ls hP hS h => lv_astore X.x X.b d h hn hl (fun ls' h' => kk H locs ls' hP hS h')
theorem v_slen (X : OKc C k cc own nL ret) {b L : Nat} {xs : Nat → Int32} (hX : va_X b L xs (C_s C) (C_s C).heap) (hbl : b < (C_s C).heap.size) (hbA : ¬ C_A C b) (d : decode cc pc = .ok (.arraylength, 1))
    (kk : V C k nL z M (pc + 1) lv (.int (nI L) :: st)) : V C k nL z M pc lv (.ref b :: st) := by
  intro H locs ls hP hS hl
  exact va_slen X.x X.b hX hbl hbA hS d (kk H locs ls hP hS hl)
end VLW
theorem xne1 : xIAE ≠ xISE := by decide
theorem xne2 : xIOB ≠ xISE := by decide
theorem TXP.iae {A : Nat → Prop} {U : State} {H : Heap} (h : TXP A U H) : va_Nw (.castable xIAE xIAE) U := h.2.2.1
theorem TXP.ise {A : Nat → Prop} {U : State} {H : Heap} (h : TXP A U H) : va_Nw (.castable xISE xISE) U := h.2.2.2.1
theorem TXP.iob {A : Nat → Prop} {U : State} {H : Heap} (h : TXP A U H) : va_Nw (.castable xIOB xIOB) U := h.2.2.2.2.1
/-! a method of the law's own that throws nothing -/
def ZSa (a v : Nat) (A : Nat → Prop) (U : State) (H : Heap) : Prop := vk_R RL 176 ";=aAz1" a U ∧ va_O "java/lang/String" a A U H ∧ va_OF "java/lang/String" "coder" "B" (.int 0) a A U H ∧ va_OF "java/lang/String" "value" "[B" (.ref v) a A U H ∧ va_T .byte v 6 (fun j => .int (([59, 61, 97, 65, 122, 49] : List Int32).getD j 0)) A U H ∧ va_Z "java/lang/String" "COMPACT_STRINGS" "Z" (.int 1) A U H ∧ va_Zq "jdk/internal/util/Preconditions" "SIOOBE_FORMATTER" "Ljava/util/function/BiFunction;" A U H
def ZS (A : Nat → Prop) (U : State) (H : Heap) : Prop := ∃ (a v : Nat), ZSa a v A U H
def LPX (A : Nat → Prop) (U : State) (H : Heap) : Prop := TXP A U H ∧ NCP U ∧ ZS A U H
def kPB (k : KX) (M : Mem) (sz : Nat) (As : List Value) : Array Value → State → Prop := va_Pc As (fun U => U.heap.size = sz ∧ kB k M U ∧ LPX (kA k sz) U U.heap)
def CB (l : Launch) (y : MethodName) (cc : ByteArray) (nL : Nat) (ret : Option FieldType) (R : Room) (k : KX) (As : List Value) (M : Mem) (post : Option Value → Mem → Prop) : Prop :=
  ∀ sz, Met l y (AW y cc nL ret) R (kPB k M sz As) (kQ k post sz) R.cells R.slots (kA k sz)
theorem ZSa.same {a v : Nat} {A : Nat → Prop} {u U : State} {H : Heap} (hvm : U.vm = u.vm) (h : ZSa a v A u H) : ZSa a v A U H := by
  obtain ⟨h1, h2, h3, h4, h5, h6, h7⟩ := h
  have ha : u.vm.Alike U.vm := by rw [hvm]; exact Vm.Alike.refl _
  exact ⟨vk_R.same hvm h1, va_O.moved ha h2, va_OF.moved ha h3, va_OF.moved ha h4, va_T.moved ha h5, va_Z.moved ha h6, va_Zq.moved ha h7⟩
theorem ZSa.go {a v : Nat} {A B : Nat → Prop} {s U : State} {H H1 : Heap} (h : ZSa a v A s H) (hW : s.WarmedH U.vm) (hk : ∀ a : Nat, a < H.size → ¬ A a → H1[a]? = H[a]?) (hB : ∀ q, B q → A q) : ZSa a v B U H1 := by
  obtain ⟨h1, h2, h3, h4, h5, h6, h7⟩ := h
  exact ⟨vk_R.warm hW h1, ((va_O.moved hW.alike h2).kept hk).narrow hB, ((va_OF.moved hW.alike h3).kept hk).narrow hB, ((va_OF.moved hW.alike h4).kept hk).narrow hB, ((va_T.moved hW.alike h5).kept hk).narrow hB, ((va_Z.moved hW.alike h6).kept hk).narrow hB, ((va_Zq.moved hW.alike h7).kept hk).narrow hB⟩
theorem ZS.same {A : Nat → Prop} {u U : State} {H : Heap} (hvm : U.vm = u.vm) (h : ZS A u H) : ZS A U H := by
  obtain ⟨a, v, h⟩ := h; exact ⟨a, v, h.same hvm⟩
theorem ZS.go {A B : Nat → Prop} {s U : State} {H H1 : Heap} (h : ZS A s H) (hW : s.WarmedH U.vm) (hk : ∀ a : Nat, a < H.size → ¬ A a → H1[a]? = H[a]?) (hB : ∀ q, B q → A q) : ZS B U H1 := by
  obtain ⟨a, v, h⟩ := h; exact ⟨a, v, h.go hW hk hB⟩
theorem LPX.at {C : CT} {k : KX} {cc : ByteArray} {own : String} {nL : Nat} {ret : Option FieldType} (X : OKc C k cc own nL ret) (ht : LPX (C_A C) (C_s C) (C_s C).heap) {H : Heap} {locs : List Loc} (hS : va_S (C_A C) (C_s C).heap H locs) {U : State} (hU : U.heap = H) (hW : (C_s C).WarmedH U.vm) : LPX (kA k H.size) U U.heap := by
  refine ⟨ht.1.at X hS hU hW, ht.2.1.moved hW.alike, ?_⟩
  rw [hU]
  exact ht.2.2.go hW (fun a h1 h2 => hS.2.1 a h1 h2) (fun q h => h.elim (fun ⟨i, hi, e⟩ => e ▸ X.hA i hi) (fun h => X.hA2 q (Nat.le_trans hS.1 h)))
theorem LPX.same {A : Nat → Prop} {u U : State} {H : Heap} (hvm : U.vm = u.vm) (h : LPX A u H) : LPX A U H := ⟨h.1.same hvm, h.2.1.moved (by rw [hvm]; exact Vm.Alike.refl _), h.2.2.same hvm⟩
theorem kPB_blind {k : KX} {M : Mem} {sz : Nat} {As : List Value} : FrameBlind (kPB k M sz As) := fun _ U _ _ h => ⟨h.1, h.2.1, ⟨h.2.2.1.1, va_K.moved (Vm.Alike.refl U.vm) h.2.2.1.2.1, NW.same (u := U) rfl h.2.2.1.2.2.1, h.2.2.1.2.2.2⟩, LPX.same (u := U) rfl h.2.2.2⟩
def RB (C : CT) (k : KX) (R : Room) (post : Option Value → Mem → Prop) : Prop := RQ C k R post ∧ LPX (C_A C) (C_s C) (C_s C).heap
theorem CB.of {l : Launch} {y : MethodName} {cc : ByteArray} {nL : Nat} {ret : Option FieldType} {R : Room} {k : KX} {As : List Value} {M : Mem} {post : Option Value → Mem → Prop} (hy : plainName y.cls = true) (hsz : (lg_sl As).length ≤ nL)
    (body : ∀ C : CT, OKc C k cc y.cls nL ret → C_l C = l → C_R C = R → RB C k R post → V C k nL (0, 0) M 0 (lv_args 0 As) []) : CB l y cc nL ret R k As M post := by
  intro sz
  refine Met.ofW (cc := cc) (maxL := nL) (ret := ret) hy rfl ?_
  intro p e s m args below meth c s₁ B hml hv
  obtain ⟨rfl, hsz1, ⟨hP, hK, hN, hI⟩, hT⟩ := hv
  have hts := atoms_spec (ws := AW y cc nL ret) B.pre
  have hown : s.vm.findClass y.cls = some m.cls := findClass_of_methodNamed B.named
  subst hsz1
  have hl := lv_entry As (n := nL) hsz
  rw [lg_entry_eq]
  have h := body (p, l, e, R, s, m, As.toArray, below, meth, c, MQ below (kQ k post s.heap.size) As.toArray s R.cells R.slots (kA k s.heap.size), kA k s.heap.size)
    ⟨B.exec, B.bytes, B.returns, hml, hown, fun w hw => hts w (List.mem_cons_of_mem _ hw), B.notSynchronized, hK, hN, hI, fun i hi => Or.inl ⟨i, hi, rfl⟩, fun q hq => Or.inr hq⟩ rfl rfl ⟨⟨rfl, fun _ _ _ h => h⟩, hT⟩
  exact h s.heap [] _ hP va_S.rf hl
theorem CL.sw {l : Launch} {y : MethodName} {cc : ByteArray} {nL : Nat} {hh : List (Nat × Nat × Nat × Nat)} {R : Room} {k : KX} {As : List Value} {M : Mem} {post : Option Value → Mem → Prop} (hN : 186 ≤ kN k) (h : CL l y cc nL hh R (kq k) As (mq M) post) : CL l y cc nL hh R k As M (poS post) := by
  intro sz
  refine met_imp (h sz) (fun a s hp => ?_) (fun a s o t hq => ?_)
  · refine ⟨hp.1, hp.2.1, kB_s hN hp.2.2.1, ?_, hp.2.2.2.2⟩
    rw [kA_s hN]; exact hp.2.2.2.1
  · rcases hq with ⟨h1, L, h2, h3⟩ | ⟨q, h1, E, ce, L, ⟨⟨M', h2, _⟩, _⟩, _⟩
    · rw [kA_s hN] at h3
      exact Or.inl ⟨kQ_s hN h1, L, h2, h3⟩
    · exact h2.elim
theorem CB.sw {l : Launch} {y : MethodName} {cc : ByteArray} {nL : Nat} {ret : Option FieldType} {R : Room} {k : KX} {As : List Value} {M : Mem} {post : Option Value → Mem → Prop} (hN : 186 ≤ kN k) (h : CB l y cc nL ret R (kq k) As (mq M) post) : CB l y cc nL ret R k As M (poS post) := by
  intro sz
  refine met_imp (h sz) (fun a s hp => ?_) (fun a s o t hq => ?_)
  · refine ⟨hp.1, hp.2.1, kB_s hN hp.2.2.1, ?_⟩
    rw [kA_s hN]; exact hp.2.2.2
  · obtain ⟨h1, L, h2, h3⟩ := hq
    rw [kA_s hN] at h3
    exact ⟨kQ_s hN h1, L, h2, h3⟩
section VB
variable {C : CT} {k k0 : KX} {cc : ByteArray} {own : String} {nL : Nat} {ret : Option FieldType} {z : Nat × Nat} {M : Mem} {pc : Nat} {lv : List (Nat × Value)} {st0 st rest : List Value} {R : Room} {post : Option Value → Mem → Prop}
theorem v_runB {mc ms : Nat} {av : Array Value} (X : OKc C k cc own nL ret) (hr : ∀ (H : Heap) (locs : List Loc) (ls : Array Slot), va_P (kD k) vwCl (kws k M) H → va_S (C_A C) (C_s C).heap H locs → lv_has ls nL lv → va_Run (C_p C) (C_l C) (C_e C) (C_R C) (C_s C) (C_m C) (C_args C) (C_below C) (C_meth C) (C_c C) H locs z.1 z.2 mc ms (F0 (C_m C) pc ls st0) rest (kQ k post H.size av) (kA k H.size))
    (kk : ∀ v M', post v M' → V C k nL (z.1 + mc, z.2 + ms) M' (pc + 3) lv (v.toList ++ rest)) : V C k nL z M pc lv st0 := by
  intro H locs ls hP hS hl T hT XX
  obtain ⟨v, st₀, t, T', L, h0, X', hL, e1, e2, ⟨⟨v2, M', hv, hp, hb⟩, hz, hk⟩, st⟩ := hr H locs ls hP hS hl T hT XX
  cases hv
  rw [h0] at hz hk
  have hAA : ∀ q, kA k H.size q → C_A C q := fun q h => h.elim (fun ⟨i, hi, e⟩ => e ▸ X.hA i hi) (fun h => X.hA2 q (Nat.le_trans hS.1 h))
  have hS' : va_S (C_A C) (C_s C).heap T'.heap (locs ++ L) := ⟨Nat.le_trans hS.1 (by rw [e1]; exact hz), fun q h1 h2 => by
      rw [e1, hk q (Nat.lt_of_lt_of_le h1 hS.1) (fun z => h2 (hAA q z))]; exact hS.2.1 q h1 h2, fun q hq => by
      rcases List.mem_append.mp hq with h | h
      · exact hS.2.2 q h
      · exact hAA _ (hL q h)⟩
  obtain ⟨t2, a1, b1⟩ := kk v M' hp T'.heap (locs ++ L) ls (by rw [e1]; exact hb.1) hS' hl T' rfl X'
  exact ⟨t2, st t2 a1, b1⟩
variable {l : Launch} {y : MethodName} {cy : ByteArray} {nY n idx : Nat} {rY : Option FieldType} {R' : Room} {As : List Value}
theorem v_callB (X : OKc C k cc own nL ret) (ht : LPX (C_A C) (C_s C) (C_s C).heap) (hl : C_l C = l) (hR : C_R C = R) (ct : CB l y cy nY rY R' k As M post) (hm : mOK y n) (hc : Cond.code y cy nY rY ∈ ALL) (hk : Cond.methodLink own idx y ∈ ALL) (hs : Cond.static y ∈ ALL) (hi : Cond.initialized y.cls ∈ ALL) (hRR : rOK R' R nY) (hn : As.length = n) (hst : st0 = As.reverse ++ rest) (hW : (rest.map fun v => v.category).sum ≤ 8) (hz : z.1 + R'.cells ≤ R.cells ∧ z.2 + R'.slots ≤ R.slots) (d : decode cc pc = .ok (.invokestatic idx, 3))
    (kk : ∀ v M', post v M' → V C k nL (z.1 + R'.cells, z.2 + R'.slots) M' (pc + 3) lv (v.toList ++ rest)) : V C k nL z M pc lv st0 := by
  subst hl; subst hR
  refine v_runB (mc := R'.cells) (ms := R'.slots) (av := As.toArray) X (fun H locs ls hP hS h => ?_) kk
  refine va_runS (As := As) (rest := rest) (Ts := ALL) (own := own) (n := n) ⟨X.x, X.b, X.ml, X.ow, X.ts⟩ (ct H.size) ⟨⟨rfl, rfl, hRR.1, hRR.2, ALL_pay X hc, List.mem_cons_self, X.ts _ hc, X.ts _ hi, ⟨hm.1, hm.2.1⟩, hm.len, X.ts _ hk⟩, X.ts _ hs⟩ ⟨kPB_blind, fun U hU hW' => ⟨rfl, by rw [hU], ⟨by rw [hU]; exact hP, va_K.moved hW'.alike X.K, X.nw.warm hW', X.inj⟩, LPX.at X ht hS hU hW'⟩⟩ rfl hn h.1 hst (lv_room hW) d hz
/-- a return, with places made on the way left behind -/
theorem v_iretG {ty : FieldType} {v : Int32} (X : OKc C k cc own nL (some ty)) (X0 : OKc C k0 cc own nL (some ty)) (E : kext k0 k) (rq : RQ C k0 R post) (hz : z.1 ≤ R.cells ∧ z.2 ≤ R.slots) (hn : narrow ty (.int v) = .int v) (d : decode cc pc = .ok (.ireturn, 1)) (h : post (some (.int v)) M) : V C k nL z M pc lv [.int v] := by
  intro H locs ls hP hS hl
  refine W.widen hz.1 hz.2 (rq.2 _ _ _ ?_)
  rw [rq.1] at hS
  have hP0 : va_P (kD k0) vwCl (kws k0 M) H := by
    intro j q hq
    obtain ⟨hj, rfl⟩ := kws_in hq
    have h1 := hP j (ad k j, M j) (kws_at k M (Nat.lt_of_lt_of_le hj E.2.2.1))
    rw [E.at hj] at h1
    have e : kD k = kD k0 := E.1
    rw [e] at h1
    exact h1
  exact W.zret X.x X.b X.r hn (fun t ht hW => ⟨⟨_, M, rfl, h, by rw [ht]; exact hP0, va_K.moved hW.alike X0.K, X0.nw.warm hW, X0.inj⟩, hS.F ht⟩) hS.2.2 d X.lk
theorem v_lret {v : Int64} (X : OKc C k cc own nL (some .long)) (rq : RQ C k R post) (hz : z.1 ≤ R.cells ∧ z.2 ≤ R.slots) (d : decode cc pc = .ok (.lreturn, 1)) (h : post (some (.long v)) M) : V C k nL z M pc lv [.long v] := by
  intro H locs ls hP hS hl
  refine W.widen hz.1 hz.2 (rq.2 _ _ _ ?_)
  rw [rq.1] at hS
  exact W.lret X.x X.b X.r (fun t ht hW => ⟨⟨_, M, rfl, h, by rw [ht]; exact hP, va_K.moved hW.alike X.K, X.nw.warm hW, X.inj⟩, hS.F ht⟩) hS.2.2 d X.lk
theorem v_lstore_n (X : OKc C k cc own nL ret) {n : Fin 4} {a : Int64} (lv' : List (Nat × Value)) (d : decode cc pc = .ok (.lstore_n n, 1)) (hn : (n : Nat) + 1 < nL) (hl : ((n : Nat), Value.long a) :: lv.filter (fun q => !(q.1 == (n : Nat)) && (!(q.1 == (n : Nat) + 1) && !(q.1 + 1 == (n : Nat) && q.2.category == 2))) = lv') (kk : V C k nL z M (pc + 1) lv' st) : V C k nL z M pc lv (.long a :: st) :=
  fun H locs ls hP hS h => lv_lstore_n X.x X.b d rfl h hn hl (fun ls' h' => kk H locs ls' hP hS h')
theorem v_ladd (X : OKc C k cc own nL ret) {a b : Int64} (d : decode cc pc = .ok (.ladd, 1)) (kk : V C k nL z M (pc + 1) lv (.long (a + b) :: st)) : V C k nL z M pc lv (.long b :: .long a :: st) :=
  fun H locs ls hP hS h => lv_ladd X.x X.b d (kk H locs ls hP hS h)
theorem v_lmul (X : OKc C k cc own nL ret) {a b : Int64} (d : decode cc pc = .ok (.lmul, 1)) (kk : V C k nL z M (pc + 1) lv (.long (a * b) :: st)) : V C k nL z M pc lv (.long b :: .long a :: st) :=
  fun H locs ls hP hS h => lv_lmul X.x X.b d (kk H locs ls hP hS h)
theorem v_lrem (X : OKc C k cc own nL ret) {a b : Int64} (hne : ¬ b = 0) (d : decode cc pc = .ok (.lrem, 1)) (kk : V C k nL z M (pc + 1) lv (.long (a - a / b * b) :: st)) : V C k nL z M pc lv (.long b :: .long a :: st) :=
  fun H locs ls hP hS h => lv_lrem X.x X.b d hne (kk H locs ls hP hS h)
end VB
