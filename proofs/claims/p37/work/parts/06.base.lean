/-! the layer V: a method's walk over an abstract memory, by index -/
abbrev Mem : Type := Nat → va_E
abbrev KX : Type := va_G × (ClassId × ClassId × ClassId × ClassId) × (Nat → Nat) × Nat
abbrev kD (k : KX) : va_G := k.1
abbrev kI (k : KX) : ClassId := k.2.1.1
abbrev kZ (k : KX) : ClassId := k.2.1.2.1
abbrev kJ (k : KX) : ClassId := k.2.1.2.2.1
abbrev kS (k : KX) : ClassId := k.2.1.2.2.2
abbrev ad (k : KX) : Nat → Nat := k.2.2.1
abbrev kN (k : KX) : Nat := k.2.2.2
def NWL : List Cond := [.methodLinkNest "CnfXorSolver" 9 ⟨"CnfXorSolver$FormulaText", "<init>", "()V"⟩ "CnfXorSolver",
  .methodLinkNest "CnfXorSolver$FormulaText" 21 ⟨"CnfXorSolver$Formula", "<init>", "()V"⟩ "CnfXorSolver",
  .fieldLinkNest "CnfXorSolver$Elimination" 23 "CnfXorSolver$Formula" "count" "I" "CnfXorSolver",
  .fieldLinkNest "CnfXorSolver$FormulaText" 35 "CnfXorSolver$Formula" "count" "I" "CnfXorSolver",
  .fieldLinkNest "CnfXorSolver$ModelTable" 23 "CnfXorSolver$Formula" "count" "I" "CnfXorSolver",
  .fieldLinkNest "CnfXorSolver" 106 "CnfXorSolver$Formula" "count" "I" "CnfXorSolver",
  .fieldLinkNest "CnfXorSolver" 64 "CnfXorSolver$FormulaText" "length" "I" "CnfXorSolver",
  .fieldLinkNest "CnfXorSolver" 87 "CnfXorSolver$FormulaText" "formula" "LCnfXorSolver$Formula;" "CnfXorSolver",
  .methodLinkNest "CnfXorSolver" 18 ⟨"CnfXorSolver$State", "<init>", "()V"⟩ "CnfXorSolver",
  .methodLinkNest "CnfXorSolver$State" 11 ⟨"CnfXorSolver$Formula", "<init>", "()V"⟩ "CnfXorSolver",
  .fieldLinkNest "CnfXorSolver$Trail" 40 "CnfXorSolver$State" "formula" "LCnfXorSolver$Formula;" "CnfXorSolver",
  .fieldLinkNest "CnfXorSolver" 83 "CnfXorSolver$State" "formula" "LCnfXorSolver$Formula;" "CnfXorSolver",
  .fieldLinkNest "CnfXorSolver$Trail" 50 "CnfXorSolver$State" "decisionCount" "I" "CnfXorSolver",
  .fieldLinkNest "CnfXorSolver" 186 "CnfXorSolver$State" "decisionCount" "I" "CnfXorSolver",
  .methodLinkNest "CnfXorSolver" 25 ⟨"CnfXorSolver$Trail", "<init>", "()V"⟩ "CnfXorSolver",
  .fieldLinkNest "CnfXorSolver" 185 "CnfXorSolver$Trail" "length" "I" "CnfXorSolver",
  .fieldLinkNest "CnfXorSolver" 169 "CnfXorSolver$Trail" "conflictNumber" "I" "CnfXorSolver",
  .methodLinkNest "CnfXorSolver$Memory" 28 ⟨"CnfXorSolver$State", "<init>", "()V"⟩ "CnfXorSolver",
  .fieldLinkNest "CnfXorSolver" 198 "CnfXorSolver$Memory" "rememberedCount" "I" "CnfXorSolver",
  .methodLinkNest "CnfXorSolver" 39 ⟨"CnfXorSolver$ModelTable", "<init>", "()V"⟩ "CnfXorSolver",
  .fieldLinkNest "CnfXorSolver" 279 "CnfXorSolver$ModelTable" "stale" "Z" "CnfXorSolver",
  .methodLinkNest "CnfXorSolver" 46 ⟨"CnfXorSolver$Elimination", "<init>", "()V"⟩ "CnfXorSolver",
  .fieldLinkNest "CnfXorSolver" 242 "CnfXorSolver$Elimination" "rowCount" "I" "CnfXorSolver",
  .fieldLinkNest "CnfXorSolver" 245 "CnfXorSolver$Elimination" "consistent" "Z" "CnfXorSolver",
  .methodLinkNest "CnfXorSolver$Formula" 27 ⟨"CnfXorSolver", "variablesOf", "(I)I"⟩ "CnfXorSolver",
  .methodLinkNest "CnfXorSolver$Formula" 36 ⟨"CnfXorSolver", "isViolated", "(II)Z"⟩ "CnfXorSolver",
  .methodLinkNest "CnfXorSolver$Trail" 91 ⟨"CnfXorSolver", "variablesOf", "(I)I"⟩ "CnfXorSolver",
  .methodLinkNest "CnfXorSolver$Trail" 94 ⟨"CnfXorSolver", "smallestVariable", "(I)I"⟩ "CnfXorSolver",
  .methodLinkNest "CnfXorSolver$Trail" 97 ⟨"CnfXorSolver", "isViolated", "(II)Z"⟩ "CnfXorSolver",
  .methodLinkNest "CnfXorSolver$Trail" 101 ⟨"CnfXorSolver", "isVariable", "(I)Z"⟩ "CnfXorSolver",
  .methodLinkNest "CnfXorSolver$Trail" 68 ⟨"CnfXorSolver", "variableOf", "(I)I"⟩ "CnfXorSolver",
  .methodLinkNest "CnfXorSolver$Trail" 104 ⟨"CnfXorSolver", "contains", "(II)Z"⟩ "CnfXorSolver",
  .methodLinkNest "CnfXorSolver$Trail" 74 ⟨"CnfXorSolver", "literalOf", "(IZ)I"⟩ "CnfXorSolver",
  .methodLinkNest "CnfXorSolver$ModelTable" 33 ⟨"CnfXorSolver", "isViolated", "(II)Z"⟩ "CnfXorSolver",
  .methodLinkNest "CnfXorSolver$Trail" 123 ⟨"CnfXorSolver", "clauseCode", "(II)I"⟩ "CnfXorSolver",
  .methodLinkNest "CnfXorSolver$Elimination" 32 ⟨"CnfXorSolver", "isParityCode", "(I)Z"⟩ "CnfXorSolver",
  .methodLinkNest "CnfXorSolver$Elimination" 44 ⟨"CnfXorSolver", "contains", "(II)Z"⟩ "CnfXorSolver",
  .methodLinkNest "CnfXorSolver$Elimination" 48 ⟨"CnfXorSolver", "firstPart", "(I)I"⟩ "CnfXorSolver",
  .methodLinkNest "CnfXorSolver$Elimination" 51 ⟨"CnfXorSolver", "smallestVariable", "(I)I"⟩ "CnfXorSolver",
  .methodLinkNest "CnfXorSolver$Elimination" 54 ⟨"CnfXorSolver", "isVariable", "(I)Z"⟩ "CnfXorSolver",
  .methodLinkNest "CnfXorSolver$FormulaText" 79 ⟨"CnfXorSolver", "isVariable", "(I)Z"⟩ "CnfXorSolver",
  .methodLinkNest "CnfXorSolver$FormulaText" 82 ⟨"CnfXorSolver", "contains", "(II)Z"⟩ "CnfXorSolver",
  .methodLinkNest "CnfXorSolver$FormulaText" 48 ⟨"CnfXorSolver", "clauseCode", "(II)I"⟩ "CnfXorSolver",
  .methodLinkNest "CnfXorSolver$FormulaText" 72 ⟨"CnfXorSolver", "parityCode", "(II)I"⟩ "CnfXorSolver"]
def isNest : Cond → Bool
  | .methodLinkNest _ _ _ _ => true
  | .fieldLinkNest _ _ _ _ _ _ => true
  | _ => false
theorem NWL_nest : ∀ w ∈ NWL, isNest w = true := List.all_eq_true.mp (by decide +kernel)
def NW (U : State) : Prop := ∀ w ∈ NWL, va_Nw w U
theorem NW.warm {s U : State} (hW : s.WarmedH U.vm) (h : NW s) : NW U := by
  intro w hw
  have h1 := NWL_nest w hw
  have h2 := h w hw
  unfold isNest at h1
  split at h1
  · exact va_Nw.warmM hW h2
  · exact va_Nw.warmF hW h2
  · cases h1
theorem NW.same {u U : State} (hvm : u.vm = U.vm) (h : NW u) : NW U := by
  intro w hw
  have h1 := NWL_nest w hw
  have h2 := h w hw
  refine va_Nw.same ?_ hvm h2
  unfold isNest at h1
  split at h1
  · rfl
  · rfl
  · cases h1
def kws (k : KX) (M : Mem) : va_W := (List.range (kN k)).map (fun i => (ad k i, M i))
abbrev ktys (k : KX) : List (ClassId × FieldType) := [(kI k, .int), (kZ k, .boolean), (kJ k, .int), (kS k, .object RX5)]
def kA (k : KX) (sz : Nat) : Nat → Prop := fun q => (∃ i, i < kN k ∧ q = ad k i) ∨ sz ≤ q
def kinj (k : KX) : Prop := ∀ i j, i < kN k → j < kN k → ad k i = ad k j → i = j
def kB (k : KX) (M : Mem) (U : State) : Prop := va_P (kD k) vwCl (kws k M) U.heap ∧ va_K (kD k) vwCl (ktys k) U ∧ NW U ∧ kinj k
def mup (M : Mem) (i : Nat) (e : va_E) : Mem := fun j => if j = i then e else M j
theorem mup_s {M : Mem} {i : Nat} {e : va_E} : mup M i e i = e := if_pos rfl
theorem mup_n {M : Mem} {i j : Nat} {e : va_E} (h : j ≠ i) : mup M i e j = M j := if_neg h
theorem kws_at (k : KX) (M : Mem) {i : Nat} (h : i < kN k) : (kws k M)[i]? = some (ad k i, M i) := by
  simp [kws, h]
theorem kws_in {k : KX} {M : Mem} {j : Nat} {q : Nat × va_E} (h : (kws k M)[j]? = some q) : j < kN k ∧ q = (ad k j, M j) := by
  have hl : j < (kws k M).length := (List.getElem?_eq_some_iff.mp h).1
  have hj : j < kN k := by simpa [kws] using hl
  rw [kws_at k M hj] at h
  exact ⟨hj, (Option.some.inj h).symm⟩
theorem kws_set (k : KX) (M : Mem) {i : Nat} (e : va_E) : (kws k M).set i (ad k i, e) = kws k (mup M i e) := by
  refine List.ext_getElem? fun j => ?_
  rw [List.getElem?_set]
  by_cases hj : i = j
  · subst hj
    rw [if_pos rfl]
    by_cases hi : i < kN k
    · rw [kws_at k (mup M i e) hi, mup_s, if_pos (by simp [kws, hi])]
    · rw [if_neg (by simp [kws, hi])]; simp [kws, hi]
  · rw [if_neg hj]
    by_cases h : j < kN k
    · rw [kws_at k M h, kws_at k _ h, mup_n (fun h => hj h.symm)]
    · simp [kws, h]
theorem kws_D {k : KX} {M : Mem} {A : Nat → Prop} (hi : kinj k) (hA : ∀ i, i < kN k → A (ad k i)) : va_D A (kws k M) := by
  refine ⟨fun i j p q h1 h2 h => ?_, fun j q h => ?_⟩
  · obtain ⟨a, rfl⟩ := kws_in h1
    obtain ⟨b, rfl⟩ := kws_in h2
    exact hi i j a b h
  · obtain ⟨a, rfl⟩ := kws_in h
    exact hA j a
abbrev CT : Type := Program × Launch × Env × Room × State × MethodId × Array Value × List Frame × Method × Code × (State → Prop) × (Nat → Prop)
abbrev C_p (C : CT) : Program := C.1
abbrev C_l (C : CT) : Launch := C.2.1
abbrev C_e (C : CT) : Env := C.2.2.1
abbrev C_R (C : CT) : Room := C.2.2.2.1
abbrev C_s (C : CT) : State := C.2.2.2.2.1
abbrev C_m (C : CT) : MethodId := C.2.2.2.2.2.1
abbrev C_args (C : CT) : Array Value := C.2.2.2.2.2.2.1
abbrev C_below (C : CT) : List Frame := C.2.2.2.2.2.2.2.1
abbrev C_meth (C : CT) : Method := C.2.2.2.2.2.2.2.2.1
abbrev C_c (C : CT) : Code := C.2.2.2.2.2.2.2.2.2.1
abbrev C_Q (C : CT) : State → Prop := C.2.2.2.2.2.2.2.2.2.2.1
abbrev C_A (C : CT) : Nat → Prop := C.2.2.2.2.2.2.2.2.2.2.2
abbrev CW (C : CT) (H : Heap) (locs : List Loc) (z : Nat × Nat) (g : JFrame) : Prop := W (C_p C) (C_l C) (C_e C) (C_R C) (C_s C) (C_m C) (C_args C) (C_below C) (C_meth C) (C_c C) H locs z.1 z.2 (C_Q C) g
/-- the walk: at pc, with memory M, locals lv, stack st -/
def V (C : CT) (k : KX) (nL : Nat) (z : Nat × Nat) (M : Mem) (pc : Nat) (lv : List (Nat × Value)) (st : List Value) : Prop :=
  ∀ (H : Heap) (locs : List Loc) (ls : Array Slot), va_P (kD k) vwCl (kws k M) H → va_S (C_A C) (C_s C).heap H locs → lv_has ls nL lv → CW C H locs z (F0 (C_m C) pc ls st)
def OKc (C : CT) (k : KX) (cc : ByteArray) (own : String) (nL : Nat) (ret : Option FieldType) : Prop :=
  (C_p C).tables.exec = Jvm.exec ∧ (C_c C).code = cc ∧ (C_meth C).sig.returnType = ret ∧ (C_c C).maxLocals = nL ∧ (C_s C).vm.findClass own = some (C_m C).cls ∧ (∀ w ∈ ALL, w.before (C_args C) (C_s C) = true) ∧ (C_meth C).locks = false ∧ va_K (kD k) vwCl (ktys k) (C_s C) ∧ NW (C_s C) ∧ kinj k ∧ (∀ i, i < kN k → C_A C (ad k i)) ∧ (∀ q, (C_s C).heap.size ≤ q → C_A C q)
section VL
variable {C : CT} {k : KX} {cc : ByteArray} {own : String} {nL : Nat} {ret : Option FieldType}
theorem OKc.x (X : OKc C k cc own nL ret) : (C_p C).tables.exec = Jvm.exec := X.1
theorem OKc.b (X : OKc C k cc own nL ret) : (C_c C).code = cc := X.2.1
theorem OKc.r (X : OKc C k cc own nL ret) : (C_meth C).sig.returnType = ret := X.2.2.1
theorem OKc.ml (X : OKc C k cc own nL ret) : (C_c C).maxLocals = nL := X.2.2.2.1
theorem OKc.ow (X : OKc C k cc own nL ret) : (C_s C).vm.findClass own = some (C_m C).cls := X.2.2.2.2.1
theorem OKc.ts (X : OKc C k cc own nL ret) : ∀ w ∈ ALL, w.before (C_args C) (C_s C) = true := X.2.2.2.2.2.1
theorem OKc.lk (X : OKc C k cc own nL ret) : (C_meth C).locks = false := X.2.2.2.2.2.2.1
theorem OKc.K (X : OKc C k cc own nL ret) : va_K (kD k) vwCl (ktys k) (C_s C) := X.2.2.2.2.2.2.2.1
theorem OKc.nw (X : OKc C k cc own nL ret) : NW (C_s C) := X.2.2.2.2.2.2.2.2.1
theorem OKc.inj (X : OKc C k cc own nL ret) : kinj k := X.2.2.2.2.2.2.2.2.2.1
theorem OKc.hA (X : OKc C k cc own nL ret) : ∀ i, i < kN k → C_A C (ad k i) := X.2.2.2.2.2.2.2.2.2.2.1
theorem OKc.hA2 (X : OKc C k cc own nL ret) : ∀ q, (C_s C).heap.size ≤ q → C_A C q := X.2.2.2.2.2.2.2.2.2.2.2
theorem OKc.D (X : OKc C k cc own nL ret) {M : Mem} : va_D (C_A C) (kws k M) := kws_D X.inj X.hA
variable {z : Nat × Nat} {M : Mem} {pc : Nat} {lv lv' : List (Nat × Value)} {st : List Value} {x y : Int32}
theorem v_top {v w : Value} (h : v = w) (kk : V C k nL z M pc lv (w :: st)) : V C k nL z M pc lv (v :: st) := h ▸ kk
theorem v_top2 {u v w : Value} (h : v = w) (kk : V C k nL z M pc lv (u :: w :: st)) : V C k nL z M pc lv (u :: v :: st) := h ▸ kk
theorem v_mem {M' : Mem} (h : M = M') (kk : V C k nL z M' pc lv st) : V C k nL z M pc lv st := h ▸ kk
/-- fewer or reordered locals -/
theorem v_lv (ks : List Nat) (hl : lv_pick lv ks = lv') (kk : V C k nL z M pc lv' st) : V C k nL z M pc lv st :=
  fun H locs ls hP hS h => kk H locs ls hP hS (lv_sub h ks hl)
theorem v_widen {z' : Nat × Nat} (h1 : z.1 ≤ z'.1) (h2 : z.2 ≤ z'.2) (kk : V C k nL z' M pc lv st) : V C k nL z M pc lv st :=
  fun H locs ls hP hS h => W.widen h1 h2 (kk H locs ls hP hS h)
theorem v_iconst (X : OKc C k cc own nL ret) {n : Int} {v : Int32} (hv : Int32.ofInt n = v) (d : decode cc pc = .ok (.iconst n, 1)) (kk : V C k nL z M (pc + 1) lv (.int v :: st)) : V C k nL z M pc lv st :=
  fun H locs ls hP hS h => lv_iconst X.x X.b d hv (kk H locs ls hP hS h)
theorem v_bipush (X : OKc C k cc own nL ret) {n : Int} {v : Int32} (hv : (Int8.ofInt n).toInt32 = v) (d : decode cc pc = .ok (.bipush n, 2)) (kk : V C k nL z M (pc + 2) lv (.int v :: st)) : V C k nL z M pc lv st :=
  fun H locs ls hP hS h => lv_bipush X.x X.b d hv (kk H locs ls hP hS h)
theorem v_sipush (X : OKc C k cc own nL ret) {n : Int} {v : Int32} (hv : (Int16.ofInt n).toInt32 = v) (d : decode cc pc = .ok (.sipush n, 3)) (kk : V C k nL z M (pc + 3) lv (.int v :: st)) : V C k nL z M pc lv st :=
  fun H locs ls hP hS h => lv_sipush X.x X.b d hv (kk H locs ls hP hS h)
theorem v_lconst (X : OKc C k cc own nL ret) {n : Fin 2} {v : Int64} (hv : Int64.ofNat (n : Nat) = v) (d : decode cc pc = .ok (.lconst n, 1)) (kk : V C k nL z M (pc + 1) lv (.long v :: st)) : V C k nL z M pc lv st :=
  fun H locs ls hP hS h => lv_lconst X.x X.b d hv (kk H locs ls hP hS h)
theorem v_ldc (X : OKc C k cc own nL ret) {index : Nat} {v : Int32} (hc : Jvm.Cond.constant own index v ∈ ALL) (d : decode cc pc = .ok (.ldc index, 2)) (kk : V C k nL z M (pc + 2) lv (.int v :: st)) : V C k nL z M pc lv st :=
  fun H locs ls hP hS h => lv_ldc X.x X.b X.ow (X.ts _ hc) d (kk H locs ls hP hS h)
theorem v_ldcw (X : OKc C k cc own nL ret) {index : Nat} {v : Int32} (hc : Jvm.Cond.constant own index v ∈ ALL) (d : decode cc pc = .ok (.ldc_w index, 3)) (kk : V C k nL z M (pc + 3) lv (.int v :: st)) : V C k nL z M pc lv st :=
  fun H locs ls hP hS h => lv_ldcw X.x X.b X.ow (X.ts _ hc) d (kk H locs ls hP hS h)
theorem v_ldc2 (X : OKc C k cc own nL ret) {index : Nat} {v : Int64} (hc : Jvm.Cond.constantLong own index v ∈ ALL) (d : decode cc pc = .ok (.ldc2_w index, 3)) (kk : V C k nL z M (pc + 3) lv (.long v :: st)) : V C k nL z M pc lv st :=
  fun H locs ls hP hS h => lv_ldc2 X.x X.b X.ow (X.ts _ hc) d (kk H locs ls hP hS h)
theorem v_iload_n (X : OKc C k cc own nL ret) {n : Fin 4} (q : Nat) (d : decode cc pc = .ok (.iload_n n, 1)) (h : lv[q]? = some ((n : Nat), Value.int x)) (kk : V C k nL z M (pc + 1) lv (.int x :: st)) : V C k nL z M pc lv st :=
  fun H locs ls hP hS hl => lv_iload_n X.x X.b d rfl (lv_at hl q h) (kk H locs ls hP hS hl)
theorem v_iload (X : OKc C k cc own nL ret) {n : Nat} (q : Nat) (d : decode cc pc = .ok (.iload n, 2)) (h : lv[q]? = some (n, Value.int x)) (kk : V C k nL z M (pc + 2) lv (.int x :: st)) : V C k nL z M pc lv st :=
  fun H locs ls hP hS hl => lv_iload X.x X.b d (lv_at hl q h) (kk H locs ls hP hS hl)
theorem v_aload_n (X : OKc C k cc own nL ret) {n : Fin 4} {a : Nat} (q : Nat) (d : decode cc pc = .ok (.aload_n n, 1)) (h : lv[q]? = some ((n : Nat), Value.ref a)) (kk : V C k nL z M (pc + 1) lv (.ref a :: st)) : V C k nL z M pc lv st :=
  fun H locs ls hP hS hl => lv_aload_n X.x X.b d rfl (lv_at hl q h) (kk H locs ls hP hS hl)
theorem v_aload (X : OKc C k cc own nL ret) {n : Nat} {a : Nat} (q : Nat) (d : decode cc pc = .ok (.aload n, 2)) (h : lv[q]? = some (n, Value.ref a)) (kk : V C k nL z M (pc + 2) lv (.ref a :: st)) : V C k nL z M pc lv st :=
  fun H locs ls hP hS hl => lv_aload X.x X.b d (lv_at hl q h) (kk H locs ls hP hS hl)
theorem v_lload_n (X : OKc C k cc own nL ret) {n : Fin 4} {a : Int64} (q : Nat) (d : decode cc pc = .ok (.lload_n n, 1)) (h : lv[q]? = some ((n : Nat), Value.long a)) (kk : V C k nL z M (pc + 1) lv (.long a :: st)) : V C k nL z M pc lv st :=
  fun H locs ls hP hS hl => lv_lload_n X.x X.b d rfl (lv_at hl q h) (kk H locs ls hP hS hl)
theorem v_lload (X : OKc C k cc own nL ret) {n : Nat} {a : Int64} (q : Nat) (d : decode cc pc = .ok (.lload n, 2)) (h : lv[q]? = some (n, Value.long a)) (kk : V C k nL z M (pc + 2) lv (.long a :: st)) : V C k nL z M pc lv st :=
  fun H locs ls hP hS hl => lv_lload X.x X.b d (lv_at hl q h) (kk H locs ls hP hS hl)
theorem v_istore_n (X : OKc C k cc own nL ret) {n : Fin 4} (lv' : List (Nat × Value)) (d : decode cc pc = .ok (.istore_n n, 1)) (hn : (n : Nat) < nL) (hl : ((n : Nat), Value.int x) :: lv.filter (fun q => !(q.1 == (n : Nat)) && !(q.1 + 1 == (n : Nat) && q.2.category == 2)) = lv') (kk : V C k nL z M (pc + 1) lv' st) : V C k nL z M pc lv (.int x :: st) :=
  fun H locs ls hP hS h => lv_istore_n X.x X.b d rfl h hn hl (fun ls' h' => kk H locs ls' hP hS h')
theorem v_istore (X : OKc C k cc own nL ret) {n : Nat} (lv' : List (Nat × Value)) (d : decode cc pc = .ok (.istore n, 2)) (hn : n < nL) (hl : (n, Value.int x) :: lv.filter (fun q => !(q.1 == n) && !(q.1 + 1 == n && q.2.category == 2)) = lv') (kk : V C k nL z M (pc + 2) lv' st) : V C k nL z M pc lv (.int x :: st) :=
  fun H locs ls hP hS h => lv_istore X.x X.b d h hn hl (fun ls' h' => kk H locs ls' hP hS h')
theorem v_astore_n (X : OKc C k cc own nL ret) {n : Fin 4} {a : Nat} (lv' : List (Nat × Value)) (d : decode cc pc = .ok (.astore_n n, 1)) (hn : (n : Nat) < nL) (hl : ((n : Nat), Value.ref a) :: lv.filter (fun q => !(q.1 == (n : Nat)) && !(q.1 + 1 == (n : Nat) && q.2.category == 2)) = lv') (kk : V C k nL z M (pc + 1) lv' st) : V C k nL z M pc lv (.ref a :: st) :=
  fun H locs ls hP hS h => lv_astore_n X.x X.b d rfl h hn hl (fun ls' h' => kk H locs ls' hP hS h')
theorem v_iinc (X : OKc C k cc own nL ret) {n : Nat} {i : Int} {v : Int32} (q : Nat) (lv' : List (Nat × Value)) (d : decode cc pc = .ok (.iinc n i, 3)) (hk : lv[q]? = some (n, Value.int x)) (hv : x + Int32.ofInt i = v) (hn : n < nL) (hl : (n, Value.int v) :: lv.filter (fun q => !(q.1 == n) && !(q.1 + 1 == n && q.2.category == 2)) = lv') (kk : V C k nL z M (pc + 3) lv' st) : V C k nL z M pc lv st :=
  fun H locs ls hP hS h => lv_iinc X.x X.b d h hk hv hn hl (fun ls' h' => kk H locs ls' hP hS h')
theorem v_iadd (X : OKc C k cc own nL ret) (d : decode cc pc = .ok (.iadd, 1)) (kk : V C k nL z M (pc + 1) lv (.int (x + y) :: st)) : V C k nL z M pc lv (.int y :: .int x :: st) :=
  fun H locs ls hP hS h => lv_iadd X.x X.b d (kk H locs ls hP hS h)
theorem v_isub (X : OKc C k cc own nL ret) (d : decode cc pc = .ok (.isub, 1)) (kk : V C k nL z M (pc + 1) lv (.int (x - y) :: st)) : V C k nL z M pc lv (.int y :: .int x :: st) :=
  fun H locs ls hP hS h => lv_isub X.x X.b d (kk H locs ls hP hS h)
theorem v_imul (X : OKc C k cc own nL ret) (d : decode cc pc = .ok (.imul, 1)) (kk : V C k nL z M (pc + 1) lv (.int (x * y) :: st)) : V C k nL z M pc lv (.int y :: .int x :: st) :=
  fun H locs ls hP hS h => lv_imul X.x X.b d (kk H locs ls hP hS h)
theorem v_idiv (X : OKc C k cc own nL ret) (hne : ¬ y = 0) (d : decode cc pc = .ok (.idiv, 1)) (kk : V C k nL z M (pc + 1) lv (.int (x / y) :: st)) : V C k nL z M pc lv (.int y :: .int x :: st) :=
  fun H locs ls hP hS h => lv_idiv X.x X.b d hne (kk H locs ls hP hS h)
theorem v_irem (X : OKc C k cc own nL ret) (hne : ¬ y = 0) (d : decode cc pc = .ok (.irem, 1)) (kk : V C k nL z M (pc + 1) lv (.int (x - x / y * y) :: st)) : V C k nL z M pc lv (.int y :: .int x :: st) :=
  fun H locs ls hP hS h => lv_irem X.x X.b d hne (kk H locs ls hP hS h)
theorem v_iand (X : OKc C k cc own nL ret) (d : decode cc pc = .ok (.iand, 1)) (kk : V C k nL z M (pc + 1) lv (.int (x &&& y) :: st)) : V C k nL z M pc lv (.int y :: .int x :: st) :=
  fun H locs ls hP hS h => lv_iand X.x X.b d (kk H locs ls hP hS h)
theorem v_ior (X : OKc C k cc own nL ret) (d : decode cc pc = .ok (.ior, 1)) (kk : V C k nL z M (pc + 1) lv (.int (x ||| y) :: st)) : V C k nL z M pc lv (.int y :: .int x :: st) :=
  fun H locs ls hP hS h => lv_ior X.x X.b d (kk H locs ls hP hS h)
theorem v_ixor (X : OKc C k cc own nL ret) (d : decode cc pc = .ok (.ixor, 1)) (kk : V C k nL z M (pc + 1) lv (.int (x ^^^ y) :: st)) : V C k nL z M pc lv (.int y :: .int x :: st) :=
  fun H locs ls hP hS h => lv_ixor X.x X.b d (kk H locs ls hP hS h)
theorem v_ishl (X : OKc C k cc own nL ret) (d : decode cc pc = .ok (.ishl, 1)) (kk : V C k nL z M (pc + 1) lv (.int (x <<< (y &&& 31)) :: st)) : V C k nL z M pc lv (.int y :: .int x :: st) :=
  fun H locs ls hP hS h => lv_ishl X.x X.b d (kk H locs ls hP hS h)
theorem v_ishr (X : OKc C k cc own nL ret) (d : decode cc pc = .ok (.ishr, 1)) (kk : V C k nL z M (pc + 1) lv (.int (x >>> (y &&& 31)) :: st)) : V C k nL z M pc lv (.int y :: .int x :: st) :=
  fun H locs ls hP hS h => lv_ishr X.x X.b d (kk H locs ls hP hS h)
theorem v_iushr (X : OKc C k cc own nL ret) {v : Int32} (hv : (x.toUInt32 >>> (y.toUInt32 &&& Int32.toUInt32 31)).toInt32 = v) (d : decode cc pc = .ok (.iushr, 1)) (kk : V C k nL z M (pc + 1) lv (.int v :: st)) : V C k nL z M pc lv (.int y :: .int x :: st) :=
  fun H locs ls hP hS h => lv_iushr X.x X.b d hv (kk H locs ls hP hS h)
theorem v_i2l (X : OKc C k cc own nL ret) {v : Int64} (hv : x.toInt64 = v) (d : decode cc pc = .ok (.i2l, 1)) (kk : V C k nL z M (pc + 1) lv (.long v :: st)) : V C k nL z M pc lv (.int x :: st) :=
  fun H locs ls hP hS h => lv_i2l X.x X.b d hv (kk H locs ls hP hS h)
theorem v_dup (X : OKc C k cc own nL ret) {v : Value} (hv : v.category = 1) (d : decode cc pc = .ok (.dup, 1)) (kk : V C k nL z M (pc + 1) lv (v :: v :: st)) : V C k nL z M pc lv (v :: st) :=
  fun H locs ls hP hS h => lv_dup X.x X.b d hv (kk H locs ls hP hS h)
theorem v_dup2 (X : OKc C k cc own nL ret) {v w : Value} (hv : v.category = 1) (hw : w.category = 1) (d : decode cc pc = .ok (.dup2, 1)) (kk : V C k nL z M (pc + 1) lv (v :: w :: v :: w :: st)) : V C k nL z M pc lv (v :: w :: st) :=
  fun H locs ls hP hS h => lv_dup2_11 X.x X.b d hv hw (kk H locs ls hP hS h)
theorem v_pop (X : OKc C k cc own nL ret) {v : Value} (hv : v.category = 1) (d : decode cc pc = .ok (.pop, 1)) (kk : V C k nL z M (pc + 1) lv st) : V C k nL z M pc lv (v :: st) :=
  fun H locs ls hP hS h => lv_pop X.x X.b d hv (kk H locs ls hP hS h)
theorem v_goto (X : OKc C k cc own nL ret) {off : Int} (tgt : Nat) (d : decode cc pc = .ok (.goto off, 3)) (ht : (pc : Int) + off = (tgt : Int)) (kk : V C k nL z M tgt lv st) : V C k nL z M pc lv st :=
  fun H locs ls hP hS h => lv_goto X.x X.b d ht (kk H locs ls hP hS h)
theorem v_ifnull (X : OKc C k cc own nL ret) {off : Int} {a : Nat} (d : decode cc pc = .ok (.ifnull off, 3)) (kk : V C k nL z M (pc + 3) lv st) : V C k nL z M pc lv (.ref a :: st) :=
  fun H locs ls hP hS h => lv_ifnull X.x X.b d (kk H locs ls hP hS h)
theorem v_icmp_eq (X : OKc C k cc own nL ret) {off : Int} (tgt : Nat) (d : decode cc pc = .ok (.if_icmp .eq off, 3)) (ht : (pc : Int) + off = (tgt : Int)) (kt : x = y → V C k nL z M tgt lv st) (kf : ¬ x = y → V C k nL z M (pc + 3) lv st) : V C k nL z M pc lv (.int y :: .int x :: st) :=
  fun H locs ls hP hS h => lv_icmp_eq X.x X.b d ht (fun q => kt q H locs ls hP hS h) (fun q => kf q H locs ls hP hS h)
theorem v_icmp_ne (X : OKc C k cc own nL ret) {off : Int} (tgt : Nat) (d : decode cc pc = .ok (.if_icmp .ne off, 3)) (ht : (pc : Int) + off = (tgt : Int)) (kt : ¬ x = y → V C k nL z M tgt lv st) (kf : x = y → V C k nL z M (pc + 3) lv st) : V C k nL z M pc lv (.int y :: .int x :: st) :=
  fun H locs ls hP hS h => lv_icmp_ne X.x X.b d ht (fun q => kt q H locs ls hP hS h) (fun q => kf q H locs ls hP hS h)
theorem v_icmp_lt (X : OKc C k cc own nL ret) {off : Int} (tgt : Nat) (d : decode cc pc = .ok (.if_icmp .lt off, 3)) (ht : (pc : Int) + off = (tgt : Int)) (kt : x < y → V C k nL z M tgt lv st) (kf : ¬ x < y → V C k nL z M (pc + 3) lv st) : V C k nL z M pc lv (.int y :: .int x :: st) :=
  fun H locs ls hP hS h => lv_icmp_lt X.x X.b d ht (fun q => kt q H locs ls hP hS h) (fun q => kf q H locs ls hP hS h)
theorem v_icmp_ge (X : OKc C k cc own nL ret) {off : Int} (tgt : Nat) (d : decode cc pc = .ok (.if_icmp .ge off, 3)) (ht : (pc : Int) + off = (tgt : Int)) (kt : y ≤ x → V C k nL z M tgt lv st) (kf : ¬ y ≤ x → V C k nL z M (pc + 3) lv st) : V C k nL z M pc lv (.int y :: .int x :: st) :=
  fun H locs ls hP hS h => lv_icmp_ge X.x X.b d ht (fun q => kt q H locs ls hP hS h) (fun q => kf q H locs ls hP hS h)
theorem v_icmp_gt (X : OKc C k cc own nL ret) {off : Int} (tgt : Nat) (d : decode cc pc = .ok (.if_icmp .gt off, 3)) (ht : (pc : Int) + off = (tgt : Int)) (kt : y < x → V C k nL z M tgt lv st) (kf : ¬ y < x → V C k nL z M (pc + 3) lv st) : V C k nL z M pc lv (.int y :: .int x :: st) :=
  fun H locs ls hP hS h => lv_icmp_gt X.x X.b d ht (fun q => kt q H locs ls hP hS h) (fun q => kf q H locs ls hP hS h)
theorem v_icmp_le (X : OKc C k cc own nL ret) {off : Int} (tgt : Nat) (d : decode cc pc = .ok (.if_icmp .le off, 3)) (ht : (pc : Int) + off = (tgt : Int)) (kt : x ≤ y → V C k nL z M tgt lv st) (kf : ¬ x ≤ y → V C k nL z M (pc + 3) lv st) : V C k nL z M pc lv (.int y :: .int x :: st) :=
  fun H locs ls hP hS h => lv_icmp_le X.x X.b d ht (fun q => kt q H locs ls hP hS h) (fun q => kf q H locs ls hP hS h)
theorem v_if_eq (X : OKc C k cc own nL ret) {off : Int} (tgt : Nat) (d : decode cc pc = .ok (.ifCond .eq off, 3)) (ht : (pc : Int) + off = (tgt : Int)) (kt : x = 0 → V C k nL z M tgt lv st) (kf : ¬ x = 0 → V C k nL z M (pc + 3) lv st) : V C k nL z M pc lv (.int x :: st) :=
  fun H locs ls hP hS h => lv_if_eq X.x X.b d ht (fun q => kt q H locs ls hP hS h) (fun q => kf q H locs ls hP hS h)
theorem v_if_ne (X : OKc C k cc own nL ret) {off : Int} (tgt : Nat) (d : decode cc pc = .ok (.ifCond .ne off, 3)) (ht : (pc : Int) + off = (tgt : Int)) (kt : ¬ x = 0 → V C k nL z M tgt lv st) (kf : x = 0 → V C k nL z M (pc + 3) lv st) : V C k nL z M pc lv (.int x :: st) :=
  fun H locs ls hP hS h => lv_if_ne X.x X.b d ht (fun q => kt q H locs ls hP hS h) (fun q => kf q H locs ls hP hS h)
theorem v_if_lt (X : OKc C k cc own nL ret) {off : Int} (tgt : Nat) (d : decode cc pc = .ok (.ifCond .lt off, 3)) (ht : (pc : Int) + off = (tgt : Int)) (kt : x < 0 → V C k nL z M tgt lv st) (kf : ¬ x < 0 → V C k nL z M (pc + 3) lv st) : V C k nL z M pc lv (.int x :: st) :=
  fun H locs ls hP hS h => lv_if_lt X.x X.b d ht (fun q => kt q H locs ls hP hS h) (fun q => kf q H locs ls hP hS h)
theorem v_if_ge (X : OKc C k cc own nL ret) {off : Int} (tgt : Nat) (d : decode cc pc = .ok (.ifCond .ge off, 3)) (ht : (pc : Int) + off = (tgt : Int)) (kt : 0 ≤ x → V C k nL z M tgt lv st) (kf : ¬ 0 ≤ x → V C k nL z M (pc + 3) lv st) : V C k nL z M pc lv (.int x :: st) :=
  fun H locs ls hP hS h => lv_if_ge X.x X.b d ht (fun q => kt q H locs ls hP hS h) (fun q => kf q H locs ls hP hS h)
theorem v_if_gt (X : OKc C k cc own nL ret) {off : Int} (tgt : Nat) (d : decode cc pc = .ok (.ifCond .gt off, 3)) (ht : (pc : Int) + off = (tgt : Int)) (kt : 0 < x → V C k nL z M tgt lv st) (kf : ¬ 0 < x → V C k nL z M (pc + 3) lv st) : V C k nL z M pc lv (.int x :: st) :=
  fun H locs ls hP hS h => lv_if_gt X.x X.b d ht (fun q => kt q H locs ls hP hS h) (fun q => kf q H locs ls hP hS h)
theorem v_if_le (X : OKc C k cc own nL ret) {off : Int} (tgt : Nat) (d : decode cc pc = .ok (.ifCond .le off, 3)) (ht : (pc : Int) + off = (tgt : Int)) (kt : x ≤ 0 → V C k nL z M tgt lv st) (kf : ¬ x ≤ 0 → V C k nL z M (pc + 3) lv st) : V C k nL z M pc lv (.int x :: st) :=
  fun H locs ls hP hS h => lv_if_le X.x X.b d ht (fun q => kt q H locs ls hP hS h) (fun q => kf q H locs ls hP hS h)
theorem v_tswIn (X : OKc C k cc own nL ret) {dflt lo hi : Int} {offs : Array Int} {len : Nat} {off : Int} (tgt : Nat) (d : decode cc pc = .ok (.tableswitch dflt lo hi offs, len)) (h1 : ¬ x.toInt < lo) (h2 : ¬ hi < x.toInt) (ho : offs[(x.toInt - lo).toNat]? = some off) (ht : (pc : Int) + off = (tgt : Int)) (kk : V C k nL z M tgt lv st) : V C k nL z M pc lv (.int x :: st) :=
  fun H locs ls hP hS h => lv_tableIn X.x X.b d h1 h2 ho ht (kk H locs ls hP hS h)
theorem v_tswOut (X : OKc C k cc own nL ret) {dflt lo hi : Int} {offs : Array Int} {len : Nat} (tgt : Nat) (d : decode cc pc = .ok (.tableswitch dflt lo hi offs, len)) (h : x.toInt < lo ∨ hi < x.toInt) (ht : (pc : Int) + dflt = (tgt : Int)) (kk : V C k nL z M tgt lv st) : V C k nL z M pc lv (.int x :: st) :=
  fun H locs ls hP hS hl => lv_tableOut X.x X.b d h ht (kk H locs ls hP hS hl)
theorem v_lcmp (X : OKc C k cc own nL ret) {a b : Int64} (d : decode cc pc = .ok (.lcmp, 1)) (kk : V C k nL z M (pc + 1) lv (.int (lg_cmp a b) :: st)) : V C k nL z M pc lv (.long b :: .long a :: st) :=
  fun H locs ls hP hS h => W.lcmp X.x X.b d (kk H locs ls hP hS h)
end VL
/-! memory rows -/
def clsOK (ci : Nat) (Cn : String) (T : u_T) (Nf : Nat) (ty0 : Nat → FieldType) : Prop :=
  vwCl[ci]? = some (Cn, T, Nf) ∧ (∀ a, a < Nf → parseFieldDescriptor (T a).2.2.1 = some (ty0 a)) ∧ (∀ a, a < Nf → ∀ b, b < Nf → a ≠ b → (T a).2.1 ≠ (T b).2.1) ∧ ∀ w ∈ u_ws Cn T Nf, w ∈ ALL
theorem cls0 : clsOK 0 RX0 TX0 3 tyX0 := ⟨rfl, tyX0_ok, nmX0, inA0⟩
theorem cls1 : clsOK 1 RX1 TX1 2 tyX1 := ⟨rfl, tyX1_ok, nmX1, inA1⟩
theorem cls2 : clsOK 2 RX2 TX2 6 tyX2 := ⟨rfl, tyX2_ok, nmX2, inA2⟩
theorem cls3 : clsOK 3 RX3 TX3 4 tyX3 := ⟨rfl, tyX3_ok, nmX3, inA3⟩
theorem cls4 : clsOK 4 RX4 TX4 2 tyX4 := ⟨rfl, tyX4_ok, nmX4, inA4⟩
theorem cls5 : clsOK 5 RX5 TX5 3 tyX5 := ⟨rfl, tyX5_ok, nmX5, inA5⟩
theorem cls6 : clsOK 6 RX6 TX6 9 tyX6 := ⟨rfl, tyX6_ok, nmX6, inA6⟩
theorem cls7 : clsOK 7 RX7 TX7 8 tyX7 := ⟨rfl, tyX7_ok, nmX7, inA7⟩
section VM
variable {C : CT} {k : KX} {cc : ByteArray} {own : String} {nL : Nat} {ret : Option FieldType} {z : Nat × Nat} {M : Mem} {pc : Nat} {lv : List (Nat × Value)} {st : List Value}
theorem v_get (X : OKc C k cc own nL ret) {ci i Nf idx : Nat} {Cn ref : String} {T : u_T} {ty0 : Nat → FieldType} {fs : List Value} {v : Value} (cl : clsOK ci Cn T Nf ty0) (F : M i = .inr (ci, fs)) (hi : i < kN k) (f : Nat) (hf : f < Nf) (hlink : Cond.fieldLink own idx ref (T f).2.1 (T f).2.2.1 ∈ ALL) (hsame : (T f).1 = ref) (hv : fs[f]? = some v) (d : decode cc pc = .ok (.getfield idx, 3))
    (kk : V C k nL z M (pc + 3) lv (v :: st)) : V C k nL z M pc lv (.ref (ad k i) :: st) := by
  intro H locs ls hP hS h
  refine va_get (D := kD k) X.x X.b X.ts cl.2.2.2 X.ow X.K hP i (by rw [kws_at k M hi, F]) cl.1 f hf (X.ts _ hlink) (fun x hx => ?_) hv d (kk H locs ls hP hS h)
  rw [← hsame]; exact hx
theorem v_getN (X : OKc C k cc own nL ret) {ci i Nf idx : Nat} {Cn ref host : String} {T : u_T} {ty0 : Nat → FieldType} {fs : List Value} {v : Value} (cl : clsOK ci Cn T Nf ty0) (F : M i = .inr (ci, fs)) (hi : i < kN k) (f : Nat) (hf : f < Nf) (hlink : Cond.fieldLinkNest own idx ref (T f).2.1 (T f).2.2.1 host ∈ NWL) (hsame : (T f).1 = ref) (hv : fs[f]? = some v) (d : decode cc pc = .ok (.getfield idx, 3))
    (kk : V C k nL z M (pc + 3) lv (v :: st)) : V C k nL z M pc lv (.ref (ad k i) :: st) := by
  intro H locs ls hP hS h
  refine va_getN (D := kD k) X.x X.b X.ts cl.2.2.2 X.ow X.K hP i (by rw [kws_at k M hi, F]) cl.1 f hf (va_Nw.use rfl (X.nw _ hlink)) (fun x hx => ?_) hv d (kk H locs ls hP hS h)
  rw [← hsame]; exact hx
theorem v_put (X : OKc C k cc own nL ret) {ci i Nf idx : Nat} {Cn ref : String} {T : u_T} {ty0 : Nat → FieldType} {fs : List Value} {v : Value} (cl : clsOK ci Cn T Nf ty0) (F : M i = .inr (ci, fs)) (hi : i < kN k) (f : Nat) (hf : f < Nf) (hlink : Cond.fieldLink own idx ref (T f).2.1 (T f).2.2.1 ∈ ALL) (hsame : (T f).1 = ref) (hfin : (T f).2.2.2 = false) (hn : narrow (ty0 f) v = v) (hfit : fits (ty0 f) v = true) (hl : f < fs.length) (d : decode cc pc = .ok (.putfield idx, 3))
    (kk : ∀ M', M' = mup M i (.inr (ci, fs.set f v)) → V C k nL z M' (pc + 3) lv st) : V C k nL z M pc lv (v :: .ref (ad k i) :: st) := by
  intro H locs ls hP hS h
  refine va_put (D := kD k) X.x X.b X.ts cl.2.2.2 ty0 cl.2.1 cl.2.2.1 X.ow X.K hP X.D hS i (by rw [kws_at k M hi, F]) cl.1 f hf (X.ts _ hlink) (fun x hx => ?_) hfin (cl.2.1 f hf) hn hfit hl d (fun H1 locs1 hP1 _ hS1 => ?_)
  · rw [← hsame]; exact hx
  · rw [kws_set] at hP1
    exact kk _ rfl H1 locs1 ls hP1 hS1 h
theorem v_putN (X : OKc C k cc own nL ret) {ci i Nf idx : Nat} {Cn ref host : String} {T : u_T} {ty0 : Nat → FieldType} {fs : List Value} {v : Value} (cl : clsOK ci Cn T Nf ty0) (F : M i = .inr (ci, fs)) (hi : i < kN k) (f : Nat) (hf : f < Nf) (hlink : Cond.fieldLinkNest own idx ref (T f).2.1 (T f).2.2.1 host ∈ NWL) (hsame : (T f).1 = ref) (hfin : (T f).2.2.2 = false) (hn : narrow (ty0 f) v = v) (hfit : fits (ty0 f) v = true) (hl : f < fs.length) (d : decode cc pc = .ok (.putfield idx, 3))
    (kk : ∀ M', M' = mup M i (.inr (ci, fs.set f v)) → V C k nL z M' (pc + 3) lv st) : V C k nL z M pc lv (v :: .ref (ad k i) :: st) := by
  intro H locs ls hP hS h
  refine va_putN (D := kD k) X.x X.b X.ts cl.2.2.2 ty0 cl.2.1 cl.2.2.1 X.ow X.K hP X.D hS i (by rw [kws_at k M hi, F]) cl.1 f hf (va_Nw.use rfl (X.nw _ hlink)) (fun x hx => ?_) hfin (cl.2.1 f hf) hn hfit hl d (fun H1 locs1 hP1 _ hS1 => ?_)
  · rw [← hsame]; exact hx
  · rw [kws_set] at hP1
    exact kk _ rfl H1 locs1 ls hP1 hS1 h
theorem upd_map {α : Type} (φ : α → Int32) (g : Nat → α) (j : Nat) (x : α) : upd (fun q => φ (g q)) j (φ x) = fun q => φ (va_up g j x q) := by
  funext q
  by_cases h : q = j <;> simp [upd, va_up, h]
theorem v_iald (X : OKc C k cc own nL ret) {i j n : Nat} {α : Type} (φ : α → Int32) {g : Nat → α} (F : M i = .inl (kI k, n, .inl (fun q => φ (g q)))) (hi : i < kN k) (hj : j < n) (hn : n < 2 ^ 31) (d : decode cc pc = .ok (.iaload, 1))
    (kk : V C k nL z M (pc + 1) lv (.int (φ (g j)) :: st)) : V C k nL z M pc lv (.int (nI j) :: .ref (ad k i) :: st) := by
  intro H locs ls hP hS h
  refine va_iald (D := kD k) X.x X.b X.K hP i 0 (by rw [kws_at k M hi, F]) rfl (vp_in_nI hj hn) d ?_
  rw [nI_clamp (Nat.lt_trans hj hn)]
  exact kk H locs ls hP hS h
theorem v_iast (X : OKc C k cc own nL ret) {i j n : Nat} {α : Type} (φ : α → Int32) {g : Nat → α} (x : α) (F : M i = .inl (kI k, n, .inl (fun q => φ (g q)))) (hi : i < kN k) (hj : j < n) (hn : n < 2 ^ 31) (d : decode cc pc = .ok (.iastore, 1))
    (kk : ∀ M', M' = mup M i (.inl (kI k, n, .inl (fun q => φ (va_up g j x q)))) → V C k nL z M' (pc + 1) lv st) : V C k nL z M pc lv (.int (φ x) :: .int (nI j) :: .ref (ad k i) :: st) := by
  intro H locs ls hP hS h
  refine va_iast (D := kD k) X.x X.b X.K hP X.D hS i 0 (by rw [kws_at k M hi, F]) rfl (vp_in_nI hj hn) d (fun H1 locs1 hP1 _ hS1 => ?_)
  rw [nI_clamp (Nat.lt_trans hj hn), upd_map, kws_set] at hP1
  exact kk _ rfl H1 locs1 ls hP1 hS1 h
def bI (b : Bool) : Int32 := if b then 1 else 0
theorem bI_nar (b : Bool) : vp_nar .boolean (bI b) = bI b := by cases b <;> decide +kernel
theorem v_zald (X : OKc C k cc own nL ret) {i j n : Nat} {g : Nat → Bool} (F : M i = .inl (kZ k, n, .inl (fun q => bI (g q)))) (hi : i < kN k) (hj : j < n) (hn : n < 2 ^ 31) (d : decode cc pc = .ok (.baload, 1))
    (kk : V C k nL z M (pc + 1) lv (.int (bI (g j)) :: st)) : V C k nL z M pc lv (.int (nI j) :: .ref (ad k i) :: st) := by
  intro H locs ls hP hS h
  refine va_zald (D := kD k) X.x X.b X.K hP i 1 (by rw [kws_at k M hi, F]) rfl (vp_in_nI hj hn) d ?_
  rw [nI_clamp (Nat.lt_trans hj hn)]
  exact kk H locs ls hP hS h
theorem v_zast (X : OKc C k cc own nL ret) {i j n : Nat} {g : Nat → Bool} (x : Bool) (F : M i = .inl (kZ k, n, .inl (fun q => bI (g q)))) (hi : i < kN k) (hj : j < n) (hn : n < 2 ^ 31) (d : decode cc pc = .ok (.bastore, 1))
    (kk : ∀ M', M' = mup M i (.inl (kZ k, n, .inl (fun q => bI (va_up g j x q)))) → V C k nL z M' (pc + 1) lv st) : V C k nL z M pc lv (.int (bI x) :: .int (nI j) :: .ref (ad k i) :: st) := by
  intro H locs ls hP hS h
  refine va_zast (D := kD k) X.x X.b X.K hP X.D hS i 1 (by rw [kws_at k M hi, F]) rfl (vp_in_nI hj hn) d (fun H1 locs1 hP1 _ hS1 => ?_)
  rw [nI_clamp (Nat.lt_trans hj hn), bI_nar, upd_map, kws_set] at hP1
  exact kk _ rfl H1 locs1 ls hP1 hS1 h
theorem v_aald (X : OKc C k cc own nL ret) {i j n a : Nat} {g : Nat → Option Nat} (F : M i = .inl (kS k, n, .inr (.inr (.inr (.inr g))))) (hi : i < kN k) (hj : j < n) (hn : n < 2 ^ 31) (hg : g j = some a) (d : decode cc pc = .ok (.aaload, 1))
    (kk : V C k nL z M (pc + 1) lv (.ref a :: st)) : V C k nL z M pc lv (.int (nI j) :: .ref (ad k i) :: st) := by
  intro H locs ls hP hS h
  refine va_aldq (D := kD k) X.x X.b X.K hP i 3 (by rw [kws_at k M hi, F]) rfl (vp_in_nI hj hn) d ?_
  rw [nI_clamp (Nat.lt_trans hj hn), hg]
  exact kk H locs ls hP hS h
theorem v_aast (X : OKc C k cc own nL ret) {i j n a : Nat} {g : Nat → Option Nat} {vs : List Value} (F : M i = .inl (kS k, n, .inr (.inr (.inr (.inr g))))) (hi : i < kN k) (hj : j < n) (hn : n < 2 ^ 31) (Fa : M a = .inr (5, vs)) (ha : a < kN k) (d : decode cc pc = .ok (.aastore, 1))
    (kk : ∀ M', M' = mup M i (.inl (kS k, n, .inr (.inr (.inr (.inr (va_up g j (some (ad k a)))))))) → V C k nL z M' (pc + 1) lv st) : V C k nL z M pc lv (.ref (ad k a) :: .int (nI j) :: .ref (ad k i) :: st) := by
  intro H locs ls hP hS h
  refine va_astq (D := kD k) X.x X.b X.K hP X.D hS i 3 a 5 (r := (RX5, TX5, 3)) (by rw [kws_at k M hi, F]) rfl (by rw [kws_at k M ha, Fa]) rfl (vp_in_nI hj hn) d (fun H1 locs1 hP1 _ hS1 => ?_)
  rw [nI_clamp (Nat.lt_trans hj hn), kws_set] at hP1
  exact kk _ rfl H1 locs1 ls hP1 hS1 h
end VM
/-! contracts -/
def kQ (k : KX) (post : Option Value → Mem → Prop) (sz : Nat) : Array Value → State → Outcome → State → Prop := fun _ st o t => (∃ (v : Option Value) (M' : Mem), o = .returned v ∧ post v M' ∧ kB k M' t) ∧ va_F (kA k sz) st t
def kP (k : KX) (M : Mem) (sz : Nat) (As : List Value) : Array Value → State → Prop := va_Pc As (fun U => U.heap.size = sz ∧ kB k M U)
def AW (y : MethodName) (cc : ByteArray) (nL : Nat) (ret : Option FieldType) : List Cond := Cond.code y cc nL ret :: ALL
def CM (l : Launch) (y : MethodName) (cc : ByteArray) (nL : Nat) (ret : Option FieldType) (R : Room) (k : KX) (As : List Value) (M : Mem) (post : Option Value → Mem → Prop) : Prop :=
  ∀ sz, Met l y (AW y cc nL ret) R (kP k M sz As) (kQ k post sz) R.cells R.slots (kA k sz)
def RQ (C : CT) (k : KX) (R : Room) (post : Option Value → Mem → Prop) : Prop :=
  C_A C = kA k (C_s C).heap.size ∧ ∀ (H : Heap) (locs : List Loc) (g : JFrame), W (C_p C) (C_l C) (C_e C) (C_R C) (C_s C) (C_m C) (C_args C) (C_below C) (C_meth C) (C_c C) H locs R.cells R.slots (MQ (C_below C) (kQ k post (C_s C).heap.size) (C_args C) (C_s C) R.cells R.slots (kA k (C_s C).heap.size)) g → W (C_p C) (C_l C) (C_e C) (C_R C) (C_s C) (C_m C) (C_args C) (C_below C) (C_meth C) (C_c C) H locs R.cells R.slots (C_Q C) g
theorem CM.of {l : Launch} {y : MethodName} {cc : ByteArray} {nL : Nat} {ret : Option FieldType} {R : Room} {k : KX} {As : List Value} {M : Mem} {post : Option Value → Mem → Prop} (hy : plainName y.cls = true) (hsz : (lg_sl As).length ≤ nL)
    (body : ∀ C : CT, OKc C k cc y.cls nL ret → C_l C = l → C_R C = R → RQ C k R post → V C k nL (0, 0) M 0 (lv_args 0 As) []) : CM l y cc nL ret R k As M post := by
  intro sz
  refine Met.ofW (cc := cc) (maxL := nL) (ret := ret) hy rfl ?_
  intro p e s m args below meth c s₁ B hml hv
  obtain ⟨rfl, hsz1, hP, hK, hN, hI⟩ := hv
  have hts := atoms_spec (ws := AW y cc nL ret) B.pre
  have hown : s.vm.findClass y.cls = some m.cls := findClass_of_methodNamed B.named
  subst hsz1
  have hl := lv_entry As (n := nL) hsz
  rw [lg_entry_eq]
  have h := body (p, l, e, R, s, m, As.toArray, below, meth, c, MQ below (kQ k post s.heap.size) As.toArray s R.cells R.slots (kA k s.heap.size), kA k s.heap.size)
    ⟨B.exec, B.bytes, B.returns, hml, hown, fun w hw => hts w (List.mem_cons_of_mem _ hw), B.notSynchronized, hK, hN, hI, fun i hi => Or.inl ⟨i, hi, rfl⟩, fun q hq => Or.inr hq⟩ rfl rfl ⟨rfl, fun _ _ _ h => h⟩
  exact h s.heap [] _ hP va_S.rf hl
section VR
variable {C : CT} {k : KX} {cc : ByteArray} {own : String} {nL : Nat} {ret : Option FieldType} {z : Nat × Nat} {M : Mem} {pc : Nat} {lv : List (Nat × Value)} {st : List Value} {R : Room} {post : Option Value → Mem → Prop}
theorem v_iret {ty : FieldType} {v : Int32} (X : OKc C k cc own nL (some ty)) (rq : RQ C k R post) (hz : z.1 ≤ R.cells ∧ z.2 ≤ R.slots) (hn : narrow ty (.int v) = .int v) (d : decode cc pc = .ok (.ireturn, 1)) (h : post (some (.int v)) M) : V C k nL z M pc lv [.int v] := by
  intro H locs ls hP hS hl
  refine W.widen hz.1 hz.2 (rq.2 _ _ _ ?_)
  rw [rq.1] at hS
  exact W.zret X.x X.b X.r hn (fun t ht hW => ⟨⟨_, M, rfl, h, by rw [ht]; exact hP, va_K.moved hW.alike X.K, X.nw.warm hW, X.inj⟩, hS.F ht⟩) hS.2.2 d X.lk
theorem v_vret (X : OKc C k cc own nL none) (rq : RQ C k R post) (hz : z.1 ≤ R.cells ∧ z.2 ≤ R.slots) (d : decode cc pc = .ok (.return_, 1)) (h : post none M) : V C k nL z M pc lv [] := by
  intro H locs ls hP hS hl
  refine W.widen hz.1 hz.2 (rq.2 _ _ _ ?_)
  rw [rq.1] at hS
  exact W.vret X.x X.b X.r (fun t ht hW => ⟨⟨_, M, rfl, h, by rw [ht]; exact hP, va_K.moved hW.alike X.K, X.nw.warm hW, X.inj⟩, hS.F ht⟩) hS.2.2 d X.lk
end VR
/-! calls -/
theorem kP_blind {k : KX} {M : Mem} {sz : Nat} {As : List Value} : FrameBlind (kP k M sz As) := fun _ U _ _ h => ⟨h.1, h.2.1, h.2.2.1, va_K.moved (Vm.Alike.refl U.vm) h.2.2.2.1, NW.same (u := U) rfl h.2.2.2.2.1, h.2.2.2.2.2⟩
abbrev mOK (y : MethodName) (n : Nat) : Prop := y.cls ≠ "java/lang/invoke/MethodHandle" ∧ y.cls ≠ "java/lang/invoke/VarHandle" ∧ (parseMethodDescriptor y.desc).map (fun d => d.parameters.length) = some n
theorem mOK.len {y : MethodName} {n : Nat} (h : mOK y n) : ∀ sig, parseMethodDescriptor y.desc = some sig → n = sig.parameters.length := by
  intro sig hs
  have h2 := h.2.2
  rw [hs] at h2
  exact (Option.some.inj h2).symm
abbrev rOK (R' R : Room) (maxL : Nat) : Prop := R'.frames + 1 ≤ R.frames ∧ 8 + (maxL + 11) + R'.locals ≤ R.locals
section VC
variable {C : CT} {k : KX} {cc : ByteArray} {own : String} {nL : Nat} {ret : Option FieldType} {z : Nat × Nat} {M : Mem} {pc : Nat} {lv : List (Nat × Value)} {st0 rest : List Value} {R : Room} {post : Option Value → Mem → Prop}
theorem ALL_pay (X : OKc C k cc own nL ret) {y : MethodName} {cy : ByteArray} {nY : Nat} {rY : Option FieldType} (hc : Cond.code y cy nY rY ∈ ALL) : ∀ w ∈ AW y cy nY rY, ∀ (a' : Array Value) (U : State), (C_s C).WarmedH U.vm → w.before a' U = true := by
  intro w hw a' U hW
  have hw' : w ∈ ALL := by
    rcases List.mem_cons.mp hw with h | h
    · rw [h]; exact hc
    · exact h
  exact word_at hW (ALL_g w hw').2 (X.ts w hw')
theorem v_run {mc ms : Nat} {av : Array Value} (X : OKc C k cc own nL ret) (hr : ∀ (H : Heap) (locs : List Loc) (ls : Array Slot), va_P (kD k) vwCl (kws k M) H → lv_has ls nL lv → va_Run (C_p C) (C_l C) (C_e C) (C_R C) (C_s C) (C_m C) (C_args C) (C_below C) (C_meth C) (C_c C) H locs z.1 z.2 mc ms (F0 (C_m C) pc ls st0) rest (kQ k post H.size av) (kA k H.size))
    (kk : ∀ v M', post v M' → V C k nL (z.1 + mc, z.2 + ms) M' (pc + 3) lv (v.toList ++ rest)) : V C k nL z M pc lv st0 := by
  intro H locs ls hP hS hl T hT XX
  obtain ⟨v, st₀, t, T', L, h0, X', hL, e1, e2, ⟨⟨v2, M', hv, hp, hb⟩, hz, hk⟩, st⟩ := hr H locs ls hP hl T hT XX
  cases hv
  rw [h0] at hz hk
  have hAA : ∀ q, kA k H.size q → C_A C q := fun q h => h.elim (fun ⟨i, hi, e⟩ => e ▸ X.hA i hi) (fun h => X.hA2 q (Nat.le_trans hS.1 h))
  have hS' : va_S (C_A C) (C_s C).heap T'.heap (locs ++ L) := ⟨Nat.le_trans hS.1 (by rw [e1]; exact hz), fun q h1 h2 => by
      rw [e1, hk q (Nat.lt_of_lt_of_le h1 hS.1) (fun z => h2 (hAA q z))]; exact hS.2.1 q h1 h2, fun q hq => by
      rcases List.mem_append.mp hq with h | h
      · exact hS.2.2 q h
      · exact hAA _ (hL q h)⟩
  obtain ⟨t2, a1, b1⟩ := kk v M' hp T'.heap (locs ++ L) ls (by rw [e1]; exact hb.1) hS' hl T' rfl X'
  exact ⟨t2, st t2 a1, b1⟩
variable {l : Launch} {y : MethodName} {cy : ByteArray} {nY n idx : Nat} {rY : Option FieldType} {R' : Room} {As : List Value}
theorem v_callS (X : OKc C k cc own nL ret) (hl : C_l C = l) (hR : C_R C = R) (ct : CM l y cy nY rY R' k As M post) (hm : mOK y n) (hc : Cond.code y cy nY rY ∈ ALL) (hk : Cond.methodLink own idx y ∈ ALL) (hs : Cond.static y ∈ ALL) (hi : Cond.initialized y.cls ∈ ALL) (hRR : rOK R' R nY) (hn : As.length = n) (hst : st0 = As.reverse ++ rest) (hW : (rest.map fun v => v.category).sum ≤ 8) (h0 : R'.cells = 0 ∧ R'.slots = 0) (hz : z.1 ≤ R.cells ∧ z.2 ≤ R.slots) (d : decode cc pc = .ok (.invokestatic idx, 3))
    (kk : ∀ v M', post v M' → V C k nL z M' (pc + 3) lv (v.toList ++ rest)) : V C k nL z M pc lv st0 := by
  subst hl; subst hR
  refine v_run (mc := R'.cells) (ms := R'.slots) (av := As.toArray) X (fun H locs ls hP h => ?_) (by rw [h0.1, h0.2]; exact kk)
  refine va_runS (As := As) (rest := rest) (Ts := ALL) (own := own) (n := n) ⟨X.x, X.b, X.ml, X.ow, X.ts⟩ (ct H.size) ⟨⟨rfl, rfl, hRR.1, hRR.2, ALL_pay X hc, List.mem_cons_self, X.ts _ hc, X.ts _ hi, ⟨hm.1, hm.2.1⟩, hm.len, X.ts _ hk⟩, X.ts _ hs⟩ ⟨kP_blind, fun U hU hW' => ⟨rfl, by rw [hU], by rw [hU]; exact hP, va_K.moved hW'.alike X.K, X.nw.warm hW', X.inj⟩⟩ rfl hn h.1 hst (lv_room hW) d ⟨by rw [h0.1]; exact hz.1, by rw [h0.2]; exact hz.2⟩
theorem v_callSN (X : OKc C k cc own nL ret) (hl : C_l C = l) (hR : C_R C = R) {host : String} (ct : CM l y cy nY rY R' k As M post) (hm : mOK y n) (hc : Cond.code y cy nY rY ∈ ALL) (hk : Cond.methodLinkNest own idx y host ∈ NWL) (hs : Cond.static y ∈ ALL) (hi : Cond.initialized y.cls ∈ ALL) (hRR : rOK R' R nY) (hn : As.length = n) (hst : st0 = As.reverse ++ rest) (hW : (rest.map fun v => v.category).sum ≤ 8) (h0 : R'.cells = 0 ∧ R'.slots = 0) (hz : z.1 ≤ R.cells ∧ z.2 ≤ R.slots) (d : decode cc pc = .ok (.invokestatic idx, 3))
    (kk : ∀ v M', post v M' → V C k nL z M' (pc + 3) lv (v.toList ++ rest)) : V C k nL z M pc lv st0 := by
  subst hl; subst hR
  refine v_run (mc := R'.cells) (ms := R'.slots) (av := As.toArray) X (fun H locs ls hP h => ?_) (by rw [h0.1, h0.2]; exact kk)
  refine va_runSN (As := As) (rest := rest) (Ts := ALL) (own := own) (n := n) (host := host) ⟨X.x, X.b, X.ml, X.ow, X.ts⟩ (ct H.size) ⟨⟨⟨rfl, rfl, hRR.1, hRR.2, ALL_pay X hc, List.mem_cons_self⟩, X.ts _ hc, X.ts _ hi, ⟨hm.1, hm.2.1⟩, hm.len, va_Nw.use rfl (X.nw _ hk)⟩, X.ts _ hs, trivial⟩ ⟨kP_blind, fun U hU hW' => ⟨rfl, by rw [hU], by rw [hU]; exact hP, va_K.moved hW'.alike X.K, X.nw.warm hW', X.inj⟩⟩ rfl hn h.1 hst (lv_room hW) d ⟨by rw [h0.1]; exact hz.1, by rw [h0.2]; exact hz.2⟩
theorem v_callV (X : OKc C k cc own nL ret) (hl : C_l C = l) (hR : C_R C = R) {i ci Nf : Nat} {T : u_T} {ty0 : Nat → FieldType} (ct : CM l y cy nY rY R' k (.ref (ad k i) :: As) M post) (cl : clsOK ci y.cls T Nf ty0) (F : ∃ fs, M i = .inr (ci, fs)) (hi : i < kN k) (hm : mOK y n) (hc : Cond.code y cy nY rY ∈ ALL) (hk : Cond.methodLink own idx y ∈ ALL) (hs : Cond.instanceMethod y ∈ ALL) (hse : Cond.selects y.cls y y ∈ ALL) (hini : Cond.initialized y.cls ∈ ALL) (hRR : rOK R' R nY) (hn : As.length = n) (hst : st0 = As.reverse ++ .ref (ad k i) :: rest) (hW : (rest.map fun v => v.category).sum ≤ 8) (h0 : R'.cells = 0 ∧ R'.slots = 0) (hz : z.1 ≤ R.cells ∧ z.2 ≤ R.slots) (d : decode cc pc = .ok (.invokevirtual idx, 3))
    (kk : ∀ v M', post v M' → V C k nL z M' (pc + 3) lv (v.toList ++ rest)) : V C k nL z M pc lv st0 := by
  subst hl; subst hR
  obtain ⟨fs, F⟩ := F
  refine v_run (mc := R'.cells) (ms := R'.slots) (av := (Value.ref (ad k i) :: As).toArray) X (fun H locs ls hP h => ?_) (by rw [h0.1, h0.2]; exact kk)
  refine va_runV (As := As) (rest := rest) (Ts := ALL) (own := own) (n := n) (C := y.cls) (b := ad k i) ⟨X.x, X.b, X.ml, X.ow, X.ts⟩ (ct H.size) ⟨⟨rfl, rfl, hRR.1, hRR.2, ALL_pay X hc, List.mem_cons_self, X.ts _ hc, X.ts _ hini, ⟨hm.1, hm.2.1⟩, hm.len, X.ts _ hk⟩, X.ts _ hs, X.ts _ hse⟩ ⟨kP_blind, va_recv X.K hP cl.1 (by rw [kws_at k M hi, F]), fun U hU hW' => ⟨rfl, by rw [hU], by rw [hU]; exact hP, va_K.moved hW'.alike X.K, X.nw.warm hW', X.inj⟩⟩ rfl hn h.1 hst (lv_room hW) d ⟨by rw [h0.1]; exact hz.1, by rw [h0.2]; exact hz.2⟩
theorem v_callVN (X : OKc C k cc own nL ret) (hl : C_l C = l) (hR : C_R C = R) {host : String} {i ci Nf : Nat} {T : u_T} {ty0 : Nat → FieldType} (ct : CM l y cy nY rY R' k (.ref (ad k i) :: As) M post) (cl : clsOK ci y.cls T Nf ty0) (F : ∃ fs, M i = .inr (ci, fs)) (hi : i < kN k) (hm : mOK y n) (hc : Cond.code y cy nY rY ∈ ALL) (hk : Cond.methodLinkNest own idx y host ∈ NWL) (hs : Cond.instanceMethod y ∈ ALL) (hse : Cond.selects y.cls y y ∈ ALL) (hini : Cond.initialized y.cls ∈ ALL) (hRR : rOK R' R nY) (hn : As.length = n) (hst : st0 = As.reverse ++ .ref (ad k i) :: rest) (hW : (rest.map fun v => v.category).sum ≤ 8) (h0 : R'.cells = 0 ∧ R'.slots = 0) (hz : z.1 ≤ R.cells ∧ z.2 ≤ R.slots) (d : decode cc pc = .ok (.invokevirtual idx, 3))
    (kk : ∀ v M', post v M' → V C k nL z M' (pc + 3) lv (v.toList ++ rest)) : V C k nL z M pc lv st0 := by
  subst hl; subst hR
  obtain ⟨fs, F⟩ := F
  refine v_run (mc := R'.cells) (ms := R'.slots) (av := (Value.ref (ad k i) :: As).toArray) X (fun H locs ls hP h => ?_) (by rw [h0.1, h0.2]; exact kk)
  refine va_runVN (As := As) (rest := rest) (Ts := ALL) (own := own) (n := n) (C := y.cls) (b := ad k i) (host := host) ⟨X.x, X.b, X.ml, X.ow, X.ts⟩ (ct H.size) ⟨⟨⟨rfl, rfl, hRR.1, hRR.2, ALL_pay X hc, List.mem_cons_self⟩, X.ts _ hc, X.ts _ hini, ⟨hm.1, hm.2.1⟩, hm.len, va_Nw.use rfl (X.nw _ hk)⟩, X.ts _ hs, X.ts _ hse⟩ ⟨kP_blind, va_recv X.K hP cl.1 (by rw [kws_at k M hi, F]), fun U hU hW' => ⟨rfl, by rw [hU], by rw [hU]; exact hP, va_K.moved hW'.alike X.K, X.nw.warm hW', X.inj⟩⟩ rfl hn h.1 hst (lv_room hW) d ⟨by rw [h0.1]; exact hz.1, by rw [h0.2]; exact hz.2⟩
/-- how a call's end is taken: an exact answer, nothing changed; an answer; none -/
def pP (v : Value) (M : Mem) : Option Value → Mem → Prop := fun v' M' => v' = some v ∧ M' = M
def pI (P : Int32 → Mem → Prop) : Option Value → Mem → Prop := fun v' M' => ∃ r, v' = some (.int r) ∧ P r M'
def pV (P : Mem → Prop) : Option Value → Mem → Prop := fun v' M' => v' = none ∧ P M'
theorem vP_in {v : Value} (h : V C k nL z M pc lv (v :: rest)) : ∀ v' M', pP v M v' M' → V C k nL z M' pc lv (v'.toList ++ rest) := by
  rintro _ _ ⟨rfl, rfl⟩; exact h
theorem vI_in {P : Int32 → Mem → Prop} (h : ∀ r M', P r M' → V C k nL z M' pc lv (.int r :: rest)) : ∀ v' M', pI P v' M' → V C k nL z M' pc lv (v'.toList ++ rest) := by
  rintro _ M' ⟨r, rfl, hp⟩; exact h r M' hp
theorem vV_in {P : Mem → Prop} (h : ∀ M', P M' → V C k nL z M' pc lv rest) : ∀ v' M', pV P v' M' → V C k nL z M' pc lv (v'.toList ++ rest) := by
  rintro _ M' ⟨rfl, hp⟩; exact h M' hp
end VC
