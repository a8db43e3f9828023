/-! methods that may throw -/
def xIAE : String := "java/lang/IllegalArgumentException"
def xISE : String := "java/lang/IllegalStateException"
def xIOB : String := "java/lang/IndexOutOfBoundsException"
def xUp : List String := ["java/lang/RuntimeException", "java/lang/Exception"]
def STR : List (Nat × String) := [(59, "a character code is 0 to 255"), (70, "the text is full"), (81, "the text is not a complete formula text"), (295, "there is no such constraint"), (311, "a set is 0 to 255"), (313, "the sets have a variable in common"), (297, "there are 24 constraints"), (315, "a bit is 0 or 1"), (304, "a variable is 0 to 7"), (156, "only clauses are resolved"), (158, "the variable is not in the sets as required"), (160, "the sets of the resolvent have a variable in common"), (162, "only parities are added"), (166, "a literal is 0 to 15"), (172, "there is a conflict"), (180, "the variable is assigned"), (189, "a level is 0 to the present level"), (299, "conflict analysis is not possible"), (201, "no state is remembered"), (209, "the trail has no such index"), (249, "the parities have no common solution"), (306, "a slot is 0 or 1"), (274, "the slot is empty")]
def DCL : List MethodName := [⟨"java/lang/RuntimeException", "<init>", "(Ljava/lang/String;)V"⟩, ⟨"java/lang/Exception", "<init>", "(Ljava/lang/String;)V"⟩, ⟨"java/lang/Throwable", "<init>", "(Ljava/lang/String;)V"⟩]
def TXP (A : Nat → Prop) (U : State) (H : Heap) : Prop := vx_Zq Bundle.tN "UNASSIGNED_STACK" Bundle.steD A U H ∧ vx_Zq Bundle.tN "SUPPRESSED_SENTINEL" Bundle.listD A U H ∧ va_Nw (.castable xIAE xIAE) U ∧ va_Nw (.castable xISE xISE) U ∧ va_Nw (.castable xIOB xIOB) U ∧ (∀ y ∈ DCL, va_Nw (.declares y) U) ∧ ∀ q ∈ STR, ∃ a, vk_R RX7 q.1 q.2 a U
theorem TXP.same {A : Nat → Prop} {u U : State} {H : Heap} (hvm : U.vm = u.vm) (h : TXP A u H) : TXP A U H := by
  obtain ⟨h1, h2, h3, h4, h5, h7, h6⟩ := h
  have ha : u.vm.Alike U.vm := by rw [hvm]; exact Vm.Alike.refl _
  exact ⟨h1.moved ha, h2.moved ha, h3.same rfl hvm.symm, h4.same rfl hvm.symm, h5.same rfl hvm.symm, fun y hy => (h7 y hy).same rfl hvm.symm, fun q hq => (h6 q hq).imp fun a h => vk_R.same hvm h⟩
theorem TXP.go {A B : Nat → Prop} {s U : State} {H H1 : Heap} (h : TXP A s H) (hW : s.WarmedH U.vm) (hk : ∀ a : Nat, a < H.size → ¬ A a → H1[a]? = H[a]?) (hB : ∀ q, B q → A q) : TXP B U H1 := by
  obtain ⟨h1, h2, h3, h4, h5, h7, h6⟩ := h
  exact ⟨((h1.moved hW.alike).kept hk).narrow hB, ((h2.moved hW.alike).kept hk).narrow hB, va_Nw.warmC hW h3, va_Nw.warmC hW h4, va_Nw.warmC hW h5, fun y hy => va_Nw.warmD hW (h7 y hy), fun q hq => (h6 q hq).imp fun a h => vk_R.warm hW h⟩
def kX (k : KX) (px : String → Mem → Prop) (sz : Nat) : String → State → State → Prop := fun E st t => (∃ M' : Mem, px E M' ∧ va_P (kD k) vwCl (kws k M') t.heap) ∧ va_F (kA k sz) st t
def kPX (k : KX) (M : Mem) (sz : Nat) (As : List Value) : Array Value → State → Prop := va_Pc As (fun U => U.heap.size = sz ∧ kB k M U ∧ TXP (kA k sz) U U.heap)
def CX (l : Launch) (y : MethodName) (cc : ByteArray) (nL : Nat) (ret : Option FieldType) (R : Room) (k : KX) (As : List Value) (M : Mem) (post : Option Value → Mem → Prop) (px : String → Mem → Prop) : Prop :=
  ∀ sz, vx_Met l y (AW y cc nL ret) R (kPX k M sz As) (kQ k post sz) (kX k px sz) R.cells R.slots (kA k sz)
def RX (C : CT) (k : KX) (R : Room) (post : Option Value → Mem → Prop) (px : String → Mem → Prop) : Prop :=
  RQ C k R post ∧ TXP (C_A C) (C_s C) (C_s C).heap ∧ (∀ x ∈ (C_c C).exceptionTable.toList, False) ∧ C_Q C = vx_MQ (C_below C) (kQ k post (C_s C).heap.size) (kX k px (C_s C).heap.size) (C_args C) (C_s C) R.cells R.slots (kA k (C_s C).heap.size)
theorem CX.of {l : Launch} {y : MethodName} {cc : ByteArray} {nL : Nat} {ret : Option FieldType} {R : Room} {k : KX} {As : List Value} {M : Mem} {post : Option Value → Mem → Prop} {px : String → Mem → Prop} (hy : plainName y.cls = true) (hsz : (lg_sl As).length ≤ nL)
    (body : ∀ C : CT, OKc C k cc y.cls nL ret → C_l C = l → C_R C = R → RX C k R post px → V C k nL (0, 0) M 0 (lv_args 0 As) []) : CX l y cc nL ret R k As M post px := by
  intro sz
  refine vx_ofW (cc := cc) (maxL := nL) (ret := ret) hy rfl ?_
  intro p e s m args below meth c s₁ B hml htab hv
  obtain ⟨rfl, hsz1, ⟨hP, hK, hN, hI⟩, hT⟩ := hv
  have hts := atoms_spec (ws := AW y cc nL ret) B.pre
  have hown : s.vm.findClass y.cls = some m.cls := findClass_of_methodNamed B.named
  subst hsz1
  have hl := lv_entry As (n := nL) hsz
  rw [lg_entry_eq]
  have h := body (p, l, e, R, s, m, As.toArray, below, meth, c, vx_MQ below (kQ k post s.heap.size) (kX k px s.heap.size) As.toArray s R.cells R.slots (kA k s.heap.size), kA k s.heap.size)
    ⟨B.exec, B.bytes, B.returns, hml, hown, fun w hw => hts w (List.mem_cons_of_mem _ hw), B.notSynchronized, hK, hN, hI, fun i hi => Or.inl ⟨i, hi, rfl⟩, fun q hq => Or.inr hq⟩ rfl rfl ⟨⟨rfl, fun _ _ _ h => vx_ret h⟩, hT, htab, rfl⟩
  exact h s.heap [] _ hP va_S.rf hl
section VX
variable {C : CT} {k : KX} {cc : ByteArray} {own : String} {nL : Nat} {ret : Option FieldType} {z : Nat × Nat} {M : Mem} {pc : Nat} {lv : List (Nat × Value)} {st0 st rest : List Value} {R : Room} {post : Option Value → Mem → Prop} {px : String → Mem → Prop}
theorem RX.q (h : RX C k R post px) : RQ C k R post := h.1
/-- the frame with something thrown over it -/
def VX (C : CT) (k : KX) (nL : Nat) (z : Nat × Nat) (M : Mem) (pc : Nat) (lv : List (Nat × Value)) (rest : List Value) (E : String) : Prop :=
  ∀ (H : Heap) (locs : List Loc) (ls : Array Slot) (q : Addr) (ce : Cell), va_P (kD k) vwCl (kws k M) H → va_S (C_A C) (C_s C).heap H locs → lv_has ls nL lv → H[q]? = some ce → ce.vm = .none → (C_s C).vm.findClass E = some ce.cls →
    vx_W (C_p C) (C_l C) (C_e C) (C_R C) (C_s C) (C_m C) (C_args C) (C_below C) (C_meth C) (C_c C) H locs z.1 z.2 (C_Q C) (F0 (C_m C) pc ls rest) q
theorem v_out {E : String} (X : OKc C k cc own nL ret) (rx : RX C k R post px) (hz : z.1 ≤ R.cells ∧ z.2 ≤ R.slots) (hp : px E M) : VX C k nL z M pc lv rest E := by
  intro H locs ls q ce hP hS hl hcell hv hcl
  rw [rx.2.2.2]
  rw [rx.1.1] at hS
  exact vx_out (fun x hx => (rx.2.2.1 x hx).elim) X.lk hcell hv hcl (fun t ht ha => ⟨⟨M, hp, by rw [ht]; exact hP⟩, hS.F ht⟩) hS.2.2 hz.1 hz.2
theorem v_throwS (X : OKc C k cc own nL ret) (rx : RX C k R post px) (hR : C_R C = R) (hst : (C_l C).stackTraces = false) (ho : own = RX7) {cls text : String} {ik is ic : Nat}
    (hcls : cls = xIAE ∨ cls = xISE ∨ cls = xIOB) (hk : Cond.classLink RX7 ik cls ∈ ALL) (hini : Cond.initialized cls ∈ ALL) (hstr : (is, text) ∈ STR) (hat : ∀ w ∈ (vx_atS RX7 ic cls xUp).filter goodWord, w ∈ ALL) (hbad : ∀ w ∈ (vx_atS RX7 ic cls xUp).filter (fun w => !goodWord w), w ∈ Cond.castable cls cls :: DCL.map Cond.declares)
    (hgood : ∀ w ∈ Cond.classLink RX7 ik cls :: Cond.initialized cls :: vx_atS RX7 ic cls xUp, vx_ot w = true)
    (d0 : decode cc pc = .ok (.new ik, 3)) (d3 : decode cc (pc + 3) = .ok (.dup, 1)) (d4 : decode cc (pc + 4) = .ok (.ldc is, 2)) (d6 : decode cc (pc + 6) = .ok (.invokespecial ic, 3)) (d9 : decode cc (pc + 9) = .ok (.athrow, 1))
    (hfr : 5 < R.frames) (hlo : (st.map fun v => v.category).sum + 82 ≤ R.locals) (hce : z.1 + 1 ≤ R.cells) (hsl : z.2 + 6 ≤ R.slots) (hp : px cls M) : V C k nL z M pc lv st := by
  subst ho; subst hR
  intro H locs ls hP hS hl
  have hS' := hS
  rw [rx.1.1] at hS'
  show W _ _ _ _ _ _ _ _ _ _ _ _ _ _ (C_Q C) _
  rw [rx.2.2.2]
  obtain ⟨t1, t2, t3, t4, t5, t7, t6⟩ := rx.2.1
  obtain ⟨sa, hsa⟩ := t6 _ hstr
  have hcast : va_Nw (.castable cls cls) (C_s C) := by
    rcases hcls with h | h | h
    · rw [h]; exact t3
    · rw [h]; exact t4
    · rw [h]; exact t5
  have hfit : Bundle.fit cls = true := by
    rcases hcls with h | h | h <;> rw [h] <;> decide +kernel
  refine vx_throwS (own := RX7) (names := xUp) (A := C_A C) (text := text) (sa := sa) X.x X.b hst X.ow hfit (by decide +kernel) (X.ts _ hk) (X.ts _ hini) hsa (vx_hat (fun w hw => X.ts _ (hat w hw)) hbad (vx_c (va_Nw.use rfl hcast) (fun w hw => by obtain ⟨y, hy, rfl⟩ := List.mem_map.mp hw; exact va_Nw.use rfl (t7 y hy)))) hgood t1 t2 hS (by rw [X.ml]; exact hl.1) d0 d3 d4 d6 d9 (fun x hx => (rx.2.2.1 x hx).elim) hfr hlo hce hsl X.lk (fun t ha hz hk2 => ⟨⟨M, hp, hP.kept (fun i q hi => ?_)⟩, ⟨Nat.le_trans hS'.1 hz, fun q h1 h2 => ?_⟩⟩) hS'.2.2 hce hsl
  · exact hk2 q.1 (hP i q hi).lt
  · rw [hk2 q (Nat.lt_of_lt_of_le h1 hS'.1)]; exact hS'.2.1 q h1 h2
theorem v_throwSW (X : OKc C k cc own nL ret) (rx : RX C k R post px) (hR : C_R C = R) (hst : (C_l C).stackTraces = false) (ho : own = RX7) {cls text : String} {ik is ic : Nat}
    (hcls : cls = xIAE ∨ cls = xISE ∨ cls = xIOB) (hk : Cond.classLink RX7 ik cls ∈ ALL) (hini : Cond.initialized cls ∈ ALL) (hstr : (is, text) ∈ STR) (hat : ∀ w ∈ (vx_atS RX7 ic cls xUp).filter goodWord, w ∈ ALL) (hbad : ∀ w ∈ (vx_atS RX7 ic cls xUp).filter (fun w => !goodWord w), w ∈ Cond.castable cls cls :: DCL.map Cond.declares)
    (hgood : ∀ w ∈ Cond.classLink RX7 ik cls :: Cond.initialized cls :: vx_atS RX7 ic cls xUp, vx_ot w = true)
    (d0 : decode cc pc = .ok (.new ik, 3)) (d3 : decode cc (pc + 3) = .ok (.dup, 1)) (d4 : decode cc (pc + 4) = .ok (.ldc_w is, 3)) (d6 : decode cc (pc + 7) = .ok (.invokespecial ic, 3)) (d9 : decode cc (pc + 10) = .ok (.athrow, 1))
    (hfr : 5 < R.frames) (hlo : (st.map fun v => v.category).sum + 82 ≤ R.locals) (hce : z.1 + 1 ≤ R.cells) (hsl : z.2 + 6 ≤ R.slots) (hp : px cls M) : V C k nL z M pc lv st := by
  subst ho; subst hR
  intro H locs ls hP hS hl
  have hS' := hS
  rw [rx.1.1] at hS'
  show W _ _ _ _ _ _ _ _ _ _ _ _ _ _ (C_Q C) _
  rw [rx.2.2.2]
  obtain ⟨t1, t2, t3, t4, t5, t7, t6⟩ := rx.2.1
  obtain ⟨sa, hsa⟩ := t6 _ hstr
  have hcast : va_Nw (.castable cls cls) (C_s C) := by
    rcases hcls with h | h | h
    · rw [h]; exact t3
    · rw [h]; exact t4
    · rw [h]; exact t5
  have hfit : Bundle.fit cls = true := by
    rcases hcls with h | h | h <;> rw [h] <;> decide +kernel
  refine vx_throwSW (own := RX7) (names := xUp) (A := C_A C) (text := text) (sa := sa) X.x X.b hst X.ow hfit (by decide +kernel) (X.ts _ hk) (X.ts _ hini) hsa (vx_hat (fun w hw => X.ts _ (hat w hw)) hbad (vx_c (va_Nw.use rfl hcast) (fun w hw => by obtain ⟨y, hy, rfl⟩ := List.mem_map.mp hw; exact va_Nw.use rfl (t7 y hy)))) hgood t1 t2 hS (by rw [X.ml]; exact hl.1) d0 d3 d4 d6 d9 (fun x hx => (rx.2.2.1 x hx).elim) hfr hlo hce hsl X.lk (fun t ha hz hk2 => ⟨⟨M, hp, hP.kept (fun i q hi => ?_)⟩, ⟨Nat.le_trans hS'.1 hz, fun q h1 h2 => ?_⟩⟩) hS'.2.2 hce hsl
  · exact hk2 q.1 (hP i q hi).lt
  · rw [hk2 q (Nat.lt_of_lt_of_le h1 hS'.1)]; exact hS'.2.1 q h1 h2
theorem kPX_blind {M : Mem} {sz : Nat} {As : List Value} : FrameBlind (kPX k M sz As) := fun _ U _ _ h => ⟨h.1, h.2.1, ⟨h.2.2.1.1, va_K.moved (Vm.Alike.refl U.vm) h.2.2.1.2.1, NW.same (u := U) rfl h.2.2.1.2.2.1, h.2.2.1.2.2.2⟩, TXP.same (u := U) rfl h.2.2.2⟩
theorem v_runX {mc ms : Nat} {av : Array Value} (X : OKc C k cc own nL ret) (hr : ∀ (H : Heap) (locs : List Loc) (ls : Array Slot), va_P (kD k) vwCl (kws k M) H → va_S (C_A C) (C_s C).heap H locs → lv_has ls nL lv → vx_Run (C_p C) (C_l C) (C_e C) (C_R C) (C_s C) (C_m C) (C_args C) (C_below C) (C_meth C) (C_c C) H locs z.1 z.2 mc ms (F0 (C_m C) pc ls st0) rest (kQ k post H.size av) (kX k px H.size) (kA k H.size))
    (kk : ∀ v M', post v M' → V C k nL (z.1 + mc, z.2 + ms) M' (pc + 3) lv (v.toList ++ rest)) (kx : ∀ E M', px E M' → VX C k nL (z.1 + mc, z.2 + ms) M' pc lv rest E) : V C k nL z M pc lv st0 := by
  intro H locs ls hP hS hl T hT XX
  have hAA : ∀ q, kA k H.size q → C_A C q := fun q h => h.elim (fun ⟨i, hi, e⟩ => e ▸ X.hA i hi) (fun h => X.hA2 q (Nat.le_trans hS.1 h))
  rcases hr H locs ls hP hS hl T hT XX with ⟨v, st₀, t, T', L, h0, X', hL, e1, e2, ⟨⟨v2, M', hv, hp, hb⟩, hF⟩, st⟩ | ⟨q, st₀, t, T', L, E, ce, h0, X', hL, e1, e2, ⟨⟨M', hp, hb⟩, hF⟩, hce, hcv, hcl, st⟩
  · cases hv
    obtain ⟨-, -, k3⟩ := vx_keep h0 e1 hS (fun q _ h => hAA q h) hAA hL hF
    obtain ⟨t2, a1, b1⟩ := kk v M' hp T'.heap (locs ++ L) ls (by rw [e1]; exact hb.1) k3 hl T' rfl X'
    exact ⟨t2, st t2 a1, b1⟩
  · obtain ⟨-, -, k3⟩ := vx_keep h0 e1 hS (fun q _ h => hAA q h) hAA hL hF
    obtain ⟨t2, a1, b1⟩ := kx E M' hp T'.heap (locs ++ L) ls q ce (by rw [e1]; exact hb) k3 hl (by rw [e1]; exact hce) hcv hcl T' rfl X'
    exact ⟨t2, st.trans a1, b1⟩
theorem TXP.at (X : OKc C k cc own nL ret) (ht : TXP (C_A C) (C_s C) (C_s C).heap) {H : Heap} {locs : List Loc} (hS : va_S (C_A C) (C_s C).heap H locs) {U : State} (hU : U.heap = H) (hW : (C_s C).WarmedH U.vm) : TXP (kA k H.size) U U.heap := by
  rw [hU]
  exact ht.go hW (fun a h1 h2 => hS.2.1 a h1 h2) (fun q h => h.elim (fun ⟨i, hi, e⟩ => e ▸ X.hA i hi) (fun h => X.hA2 q (Nat.le_trans hS.1 h)))
variable {l : Launch} {y : MethodName} {cy : ByteArray} {nY n idx : Nat} {rY : Option FieldType} {R' : Room} {As : List Value}
theorem vx_callS' (X : OKc C k cc own nL ret) (ht : TXP (C_A C) (C_s C) (C_s C).heap) (hl : C_l C = l) (hR : C_R C = R) (ct : CX l y cy nY rY R' k As M post px) (hm : mOK y n) (hc : Cond.code y cy nY rY ∈ ALL) (hk : Cond.methodLink own idx y ∈ ALL) (hs : Cond.static y ∈ ALL) (hi : Cond.initialized y.cls ∈ ALL) (hRR : rOK R' R nY) (hn : As.length = n) (hst : st0 = As.reverse ++ rest) (hW : (rest.map fun v => v.category).sum ≤ 8) (hz : z.1 + R'.cells ≤ R.cells ∧ z.2 + R'.slots ≤ R.slots) (d : decode cc pc = .ok (.invokestatic idx, 3))
    (kk : ∀ v M', post v M' → V C k nL (z.1 + R'.cells, z.2 + R'.slots) M' (pc + 3) lv (v.toList ++ rest)) (kx : ∀ E M', px E M' → VX C k nL (z.1 + R'.cells, z.2 + R'.slots) M' pc lv rest E) : V C k nL z M pc lv st0 := by
  subst hl; subst hR
  refine v_runX (av := As.toArray) X (fun H locs ls hP hS h => ?_) kk kx
  refine vx_runS (As := As) (rest := rest) (Ts := ALL) (own := own) (n := n) ⟨X.x, X.b, X.ml, X.ow, X.ts⟩ (ct H.size) ⟨⟨rfl, rfl, hRR.1, hRR.2, ALL_pay X hc, List.mem_cons_self, X.ts _ hc, X.ts _ hi, ⟨hm.1, hm.2.1⟩, hm.len, X.ts _ hk⟩, X.ts _ hs⟩ ⟨kPX_blind, fun U hU hW' => ⟨rfl, by rw [hU], ⟨by rw [hU]; exact hP, va_K.moved hW'.alike X.K, X.nw.warm hW', X.inj⟩, TXP.at X ht hS hU hW'⟩⟩ rfl hn h.1 hst (lv_room hW) d hz
theorem vx_callV' (X : OKc C k cc own nL ret) (ht : TXP (C_A C) (C_s C) (C_s C).heap) (hl : C_l C = l) (hR : C_R C = R) {i ci Nf : Nat} {T : u_T} {ty0 : Nat → FieldType} (ct : CX l y cy nY rY R' k (.ref (ad k i) :: As) M post px) (cl : clsOK ci y.cls T Nf ty0) (F : ∃ fs, M i = .inr (ci, fs)) (hi : i < kN k) (hm : mOK y n) (hc : Cond.code y cy nY rY ∈ ALL) (hk : Cond.methodLink own idx y ∈ ALL) (hs : Cond.instanceMethod y ∈ ALL) (hse : Cond.selects y.cls y y ∈ ALL) (hini : Cond.initialized y.cls ∈ ALL) (hRR : rOK R' R nY) (hn : As.length = n) (hst : st0 = As.reverse ++ .ref (ad k i) :: rest) (hW : (rest.map fun v => v.category).sum ≤ 8) (hz : z.1 + R'.cells ≤ R.cells ∧ z.2 + R'.slots ≤ R.slots) (d : decode cc pc = .ok (.invokevirtual idx, 3))
    (kk : ∀ v M', post v M' → V C k nL (z.1 + R'.cells, z.2 + R'.slots) M' (pc + 3) lv (v.toList ++ rest)) (kx : ∀ E M', px E M' → VX C k nL (z.1 + R'.cells, z.2 + R'.slots) M' pc lv rest E) : V C k nL z M pc lv st0 := by
  subst hl; subst hR
  obtain ⟨fs, F⟩ := F
  refine v_runX (av := (Value.ref (ad k i) :: As).toArray) X (fun H locs ls hP hS h => ?_) kk kx
  refine vx_runV (As := As) (rest := rest) (Ts := ALL) (own := own) (n := n) (C := y.cls) (b := ad k i) ⟨X.x, X.b, X.ml, X.ow, X.ts⟩ (ct H.size) ⟨⟨rfl, rfl, hRR.1, hRR.2, ALL_pay X hc, List.mem_cons_self, X.ts _ hc, X.ts _ hini, ⟨hm.1, hm.2.1⟩, hm.len, X.ts _ hk⟩, X.ts _ hs, X.ts _ hse⟩ ⟨kPX_blind, va_recv X.K hP cl.1 (by rw [kws_at k M hi, F]), fun U hU hW' => ⟨rfl, by rw [hU], ⟨by rw [hU]; exact hP, va_K.moved hW'.alike X.K, X.nw.warm hW', X.inj⟩, TXP.at X ht hS hU hW'⟩⟩ rfl hn h.1 hst (lv_room hW) d hz
end VX
theorem bad61 : ∀ w ∈ (vx_atS RX7 61 xIAE xUp).filter (fun w => !goodWord w), w ∈ Cond.castable xIAE xIAE :: DCL.map Cond.declares := by decide +kernel
theorem bad72 : ∀ w ∈ (vx_atS RX7 72 xISE xUp).filter (fun w => !goodWord w), w ∈ Cond.castable xISE xISE :: DCL.map Cond.declares := by decide +kernel
theorem bad168 : ∀ w ∈ (vx_atS RX7 168 xIOB xUp).filter (fun w => !goodWord w), w ∈ Cond.castable xIOB xIOB :: DCL.map Cond.declares := by decide +kernel
theorem ot61 : ∀ w ∈ Cond.classLink RX7 57 xIAE :: Cond.initialized xIAE :: vx_atS RX7 61 xIAE xUp, vx_ot w = true := List.all_eq_true.mp (by decide +kernel)
theorem ot72 : ∀ w ∈ Cond.classLink RX7 68 xISE :: Cond.initialized xISE :: vx_atS RX7 72 xISE xUp, vx_ot w = true := List.all_eq_true.mp (by decide +kernel)
theorem ot168 : ∀ w ∈ Cond.classLink RX7 164 xIOB :: Cond.initialized xIOB :: vx_atS RX7 168 xIOB xUp, vx_ot w = true := List.all_eq_true.mp (by decide +kernel)
