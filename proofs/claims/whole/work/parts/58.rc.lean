/-! the law's own methods: they catch what the solver throws -/
def NCP (U : State) : Prop := va_Nc xISE xIAE U ∧ va_Nc xISE xIOB U
theorem NCP.moved {u U : State} (hvm : u.vm.Alike U.vm) (h : NCP u) : NCP U := ⟨h.1.moved hvm, h.2.moved hvm⟩
def kPL (k : KX) (M : Mem) (sz : Nat) (As : List Value) : Array Value → State → Prop := va_Pc As (fun U => U.heap.size = sz ∧ kB k M U ∧ TXP (kA k sz) U U.heap ∧ NCP U)
def CL (l : Launch) (y : MethodName) (cc : ByteArray) (nL : Nat) (hh : List (Nat × Nat × Nat × Nat)) (R : Room) (k : KX) (As : List Value) (M : Mem) (post : Option Value → Mem → Prop) : Prop :=
  ∀ sz, vx_Met l y (Cond.codeWith y cc nL (some .int) hh :: ALL) R (kPL k M sz As) (kQ k post sz) (kX k (fun _ _ => False) sz) R.cells R.slots (kA k sz)
def RLW (C : CT) (k : KX) (R : Room) (post : Option Value → Mem → Prop) (hh : List (Nat × Nat × Nat × Nat)) : Prop :=
  RQ C k R post ∧ TXP (C_A C) (C_s C) (C_s C).heap ∧ NCP (C_s C) ∧ (C_c C).exceptionTable.toList = tableOf hh
theorem CL.of {l : Launch} {y : MethodName} {cc : ByteArray} {nL : Nat} {hh : List (Nat × Nat × Nat × Nat)} {R : Room} {k : KX} {As : List Value} {M : Mem} {post : Option Value → Mem → Prop} (hy : plainName y.cls = true) (hsz : (lg_sl As).length ≤ nL)
    (body : ∀ C : CT, OKc C k cc y.cls nL (some .int) → C_l C = l → C_R C = R → RLW C k R post hh → V C k nL (0, 0) M 0 (lv_args 0 As) []) : CL l y cc nL hh R k As M post := by
  intro sz
  refine vx_ofWH (cc := cc) (maxL := nL) (ret := some .int) (hh := hh) hy rfl ?_
  intro p e s m args below meth c s₁ B hml hv
  obtain ⟨rfl, hsz1, ⟨hP, hK, hN, hI⟩, hT, hnc⟩ := hv
  have hts := atoms_spec (ws := Cond.codeWith y cc nL (some .int) hh :: ALL) B.pre
  have hown : s.vm.findClass y.cls = some m.cls := findClass_of_methodNamed B.named
  have htab := vx_table (x := y) B (hts _ List.mem_cons_self)
  subst hsz1
  have hl := lv_entry As (n := nL) hsz
  rw [lg_entry_eq]
  have h := body (p, l, e, R, s, m, As.toArray, below, meth, c, vx_MQ below (kQ k post s.heap.size) (kX k (fun _ _ => False) s.heap.size) As.toArray s R.cells R.slots (kA k s.heap.size), kA k s.heap.size)
    ⟨B.exec, B.bytes, B.returns, hml, hown, fun w hw => hts w (List.mem_cons_of_mem _ hw), B.notSynchronized, hK, hN, hI, fun i hi => Or.inl ⟨i, hi, rfl⟩, fun q hq => Or.inr hq⟩ rfl rfl ⟨⟨rfl, fun _ _ _ h => vx_ret h⟩, hT, hnc, htab⟩
  exact h s.heap [] _ hP va_S.rf hl
theorem kPL_blind {k : KX} {M : Mem} {sz : Nat} {As : List Value} : FrameBlind (kPL k M sz As) := fun _ U _ _ h => ⟨h.1, h.2.1, ⟨h.2.2.1.1, va_K.moved (Vm.Alike.refl U.vm) h.2.2.1.2.1, NW.same (u := U) rfl h.2.2.1.2.2.1, h.2.2.1.2.2.2⟩, TXP.same (u := U) rfl h.2.2.2.1, NCP.moved (u := U) (Vm.Alike.refl U.vm) h.2.2.2.2⟩
section VLW
variable {C : CT} {k : KX} {cc : ByteArray} {own : String} {nL : Nat} {ret : Option FieldType} {z : Nat × Nat} {M : Mem} {pc : Nat} {lv : List (Nat × Value)} {st0 st rest : List Value} {R : Room} {post : Option Value → Mem → Prop}
theorem v_catch1 {E name : String} {a b h t : Nat} {hs : List (Nat × Nat × Nat × Nat)} (X : OKc C k cc own nL ret) (htab : (C_c C).exceptionTable.toList = tableOf ((a, b, h, t) :: hs)) (hx : covers (⟨a, b, h, t⟩ : ExceptionTableEntry) pc = true) (h0 : t ≠ 0) (hlink : Cond.classLink own t name ∈ ALL) (hcast : va_Nw (.castable E name) (C_s C))
    (kk : ∀ q : Nat, V C k nL z M h lv [.ref q]) : VX C k nL z M pc lv rest E := by
  intro H locs ls q ce hP hS hl hcell hv hcl
  exact vx_catch X.ow [] ⟨a, b, h, t⟩ (tableOf hs) htab (fun x hx => absurd hx List.not_mem_nil) hx h0 (X.ts _ hlink) (va_Nw.use rfl hcast) hcell hv hcl (kk q H locs ls hP hS hl)
theorem v_catch2 {E name nm : String} {a b h t a2 b2 h2 t2 : Nat} {hs : List (Nat × Nat × Nat × Nat)} (X : OKc C k cc own nL ret) (htab : (C_c C).exceptionTable.toList = tableOf ((a, b, h, t) :: (a2, b2, h2, t2) :: hs)) (hx : covers (⟨a2, b2, h2, t2⟩ : ExceptionTableEntry) pc = true) (h0 : t ≠ 0) (h02 : t2 ≠ 0) (hlink1 : Cond.classLink own t nm ∈ ALL) (hlink : Cond.classLink own t2 name ∈ ALL) (hnc : va_Nc E nm (C_s C)) (hcast : va_Nw (.castable E name) (C_s C))
    (kk : ∀ q : Nat, V C k nL z M h2 lv [.ref q]) : VX C k nL z M pc lv rest E := by
  intro H locs ls q ce hP hS hl hcell hv hcl
  refine vx_catch X.ow [⟨a, b, h, t⟩] ⟨a2, b2, h2, t2⟩ (tableOf hs) htab (fun x hx => ?_) hx h02 (X.ts _ hlink) (va_Nw.use rfl hcast) hcell hv hcl (kk q H locs ls hP hS hl)
  rw [List.mem_singleton.mp hx]
  exact Or.inr ⟨h0, nm, X.ts _ hlink1, hnc⟩
theorem ALL_payW (X : OKc C k cc own nL ret) {c0 : Cond} (hc : c0 ∈ ALL) : ∀ w ∈ c0 :: ALL, ∀ (a' : Array Value) (U : State), (C_s C).WarmedH U.vm → w.before a' U = true := by
  intro w hw a' U hW
  have hw' : w ∈ ALL := by
    rcases List.mem_cons.mp hw with h | h
    · rw [h]; exact hc
    · exact h
  exact word_at hW (ALL_g w hw').2 (X.ts w hw')
variable {l : Launch} {y : MethodName} {cy : ByteArray} {nY n idx : Nat} {R' : Room} {As : List Value} {hh : List (Nat × Nat × Nat × Nat)}
theorem v_callL (X : OKc C k cc own nL ret) (ht : TXP (C_A C) (C_s C) (C_s C).heap) (hnc : NCP (C_s C)) (hl : C_l C = l) (hR : C_R C = R) (ct : CL l y cy nY hh R' k As M post) (hm : mOK y n) (hc : Cond.codeWith y cy nY (some .int) hh ∈ ALL) (hk : Cond.methodLink own idx y ∈ ALL) (hs : Cond.static y ∈ ALL) (hi : Cond.initialized y.cls ∈ ALL) (hRR : rOK R' R nY) (hn : As.length = n) (hst : st0 = As.reverse ++ rest) (hW : (rest.map fun v => v.category).sum ≤ 8) (hz : z.1 + R'.cells ≤ R.cells ∧ z.2 + R'.slots ≤ R.slots) (d : decode cc pc = .ok (.invokestatic idx, 3))
    (kk : ∀ v M', post v M' → V C k nL (z.1 + R'.cells, z.2 + R'.slots) M' (pc + 3) lv (v.toList ++ rest)) : V C k nL z M pc lv st0 := by
  subst hl; subst hR
  refine v_runX (px := fun _ _ => False) (av := As.toArray) X (fun H locs ls hP hS h => ?_) kk (fun E M' h => h.elim)
  refine vx_runSX (As := As) (rest := rest) (Ts := ALL) (own := own) (n := n) (hh := hh) ⟨X.x, X.b, X.ml, X.ow, X.ts⟩ (ct H.size) ⟨⟨rfl, rfl, hRR.1, hRR.2, ALL_payW X hc, List.mem_cons_self⟩, X.ts _ hc, X.ts _ hi, ⟨hm.1, hm.2.1⟩, hm.len, X.ts _ hk, X.ts _ hs⟩ ⟨kPL_blind, fun U hU hW' => ⟨rfl, by rw [hU], ⟨by rw [hU]; exact hP, va_K.moved hW'.alike X.K, X.nw.warm hW', X.inj⟩, TXP.at X ht hS hU hW', hnc.moved hW'.alike⟩⟩ rfl hn h.1 hst (lv_room hW) d hz
theorem v_sld (X : OKc C k cc own nL ret) {b L j : Nat} {xs : Nat → Int32} (hX : va_X b L xs (C_s C) (C_s C).heap) (hbl : b < (C_s C).heap.size) (hbA : ¬ C_A C b) (hj : j < L) (hL : L < 2 ^ 31) (d : decode cc pc = .ok (.iaload, 1))
    (kk : V C k nL z M (pc + 1) lv (.int (xs j) :: st)) : V C k nL z M pc lv (.int (nI j) :: .ref b :: st) := by
  intro H locs ls hP hS hl
  refine va_sld X.x X.b hX hbl hbA hS (vp_in_nI hj hL) d ?_
  rw [nI_clamp (Nat.lt_trans hj hL)]
  exact kk H locs ls hP hS hl
theorem v_astore (X : OKc C k cc own nL ret) {i : Nat} {a : Nat} (lv' : List (Nat × Value)) (d : decode cc pc = .ok (.astore i, 2)) (hn : i < nL) (hl : (i, Value.ref a) :: lv.filter (fun q => !(q.1 == i) && !(q.1 + 1 == i && q.2.category == 2)) = lv') (kk : V C k nL z M (pc + 2) lv' st) : V C k nL z M pc lv (.ref a :: st) :=
  fun H locs ls hP hS h => lv_astore X.x X.b d h hn hl (fun ls' h' => kk H locs ls' hP hS h')
theorem v_slen (X : OKc C k cc own nL ret) {b L : Nat} {xs : Nat → Int32} (hX : va_X b L xs (C_s C) (C_s C).heap) (hbl : b < (C_s C).heap.size) (hbA : ¬ C_A C b) (d : decode cc pc = .ok (.arraylength, 1))
    (kk : V C k nL z M (pc + 1) lv (.int (nI L) :: st)) : V C k nL z M pc lv (.ref b :: st) := by
  intro H locs ls hP hS hl
  exact va_slen X.x X.b hX hbl hbA hS d (kk H locs ls hP hS hl)
end VLW
def WP1 (k : KX) (P : Int32 → Mem → Prop) (px : String → Mem → Prop) (E1 : String) : Int32 → Mem → Prop := fun r M' => (r = nI 0 ∧ ∃ (v : Int32) (M1 : Mem) (g : Nat → Int64), P v M1 ∧ M' = mup M1 106 (.inl (kJ k, 1, .inr (.inl g))) ∧ g 0 = v.toInt64) ∨ (r = nI 1 ∧ px E1 M')
def WP2 (k : KX) (P : Int32 → Mem → Prop) (px : String → Mem → Prop) (E1 E2 : String) : Int32 → Mem → Prop := fun r M' => (r = nI 0 ∧ ∃ (v : Int32) (M1 : Mem) (g : Nat → Int64), P v M1 ∧ M' = mup M1 106 (.inl (kJ k, 1, .inr (.inl g))) ∧ g 0 = v.toInt64) ∨ (r = nI 1 ∧ px E1 M') ∨ (r = nI 2 ∧ px E2 M')
theorem updL0 (g : Nat → Int64) (x : Int64) : vp_updL g 0 x 0 = x := by simp [vp_updL]
theorem z_long {r : Int32} (h : r = 0) : r.toInt64 = 0 := by rw [h]; decide
theorem b_long {r : Int32} (hb : ∃ b, r = bI b) (h : ¬ r = 0) : r.toInt64 = 1 := by
  obtain ⟨b, rfl⟩ := hb
  cases b
  · exact absurd rfl h
  · decide
theorem xne1 : xIAE ≠ xISE := by decide
theorem xne2 : xIOB ≠ xISE := by decide
theorem TXP.iae {A : Nat → Prop} {U : State} {H : Heap} (h : TXP A U H) : va_Nw (.castable xIAE xIAE) U := h.2.2.1
theorem TXP.ise {A : Nat → Prop} {U : State} {H : Heap} (h : TXP A U H) : va_Nw (.castable xISE xISE) U := h.2.2.2.1
theorem TXP.iob {A : Nat → Prop} {U : State} {H : Heap} (h : TXP A U H) : va_Nw (.castable xIOB xIOB) U := h.2.2.2.2.1
