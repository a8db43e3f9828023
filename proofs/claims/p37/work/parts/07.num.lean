/-! numbers: typed rows, nI n for a natural number, bI b for a truth value, oI o for a number or none (-9) -/
def oI (o : Option Nat) : Int32 := match o with | none => -9 | some n => nI n
theorem oI_none : oI none = -9 := rfl
theorem oI_some (n : Nat) : oI (some n) = nI n := rfl
theorem nI_ne_m9 {n : Nat} (h : n < 2 ^ 31) : nI n ≠ -9 := by
  intro e
  have h1 := nI_toInt h
  rw [e] at h1
  have h2 : (-9 : Int32).toInt = -9 := by decide
  omega
theorem oI_eq {o : Option Nat} (h : ∀ n, o = some n → n < 2 ^ 31) : oI o = -9 ↔ o = none := by
  cases o with
  | none => simp [oI]
  | some n => simp [oI, nI_ne_m9 (h n rfl)]
theorem nI_bv (n : Nat) : (nI n).toBitVec = BitVec.ofNat 32 n := rfl
theorem w_and (a b : Nat) : nI a &&& nI b = nI (a &&& b) := by
  apply Int32.toBitVec_inj.mp
  show (nI a).toBitVec &&& (nI b).toBitVec = _
  rw [nI_bv, nI_bv, nI_bv]
  apply BitVec.eq_of_getLsbD_eq
  intro i hi
  simp [hi]
theorem w_or (a b : Nat) : nI a ||| nI b = nI (a ||| b) := by
  apply Int32.toBitVec_inj.mp
  show (nI a).toBitVec ||| (nI b).toBitVec = _
  rw [nI_bv, nI_bv, nI_bv]
  apply BitVec.eq_of_getLsbD_eq
  intro i hi
  simp [hi]
theorem w_xor (a b : Nat) : nI a ^^^ nI b = nI (a ^^^ b) := by
  apply Int32.toBitVec_inj.mp
  show (nI a).toBitVec ^^^ (nI b).toBitVec = _
  rw [nI_bv, nI_bv, nI_bv]
  apply BitVec.eq_of_getLsbD_eq
  intro i hi
  simp [hi]
theorem w_cnt : ∀ n, n < 32 → ((nI n &&& 31).toBitVec.smod 32).toNat = n := by decide +kernel
theorem w_shl {a n : Nat} (hn : n < 32) : nI a <<< (nI n &&& 31) = nI (a <<< n) := by
  apply Int32.toBitVec_inj.mp
  apply BitVec.eq_of_toNat_eq
  rw [pk_shl (nI a) (nI n &&& 31) n (w_cnt n hn), nI_bv, nI_bv, BitVec.toNat_ofNat, BitVec.toNat_ofNat, Nat.shiftLeft_eq, Nat.mod_mul_mod]
theorem w_shr {a n : Nat} (ha : a < 2 ^ 31) (hn : n < 32) : nI a >>> (nI n &&& 31) = nI (a >>> n) := by
  rw [pk_shrN ha (nI n &&& 31) n (w_cnt n hn), Nat.shiftRight_eq_div_pow]
theorem nI_dec {n : Nat} (h : 0 < n) : nI n + Int32.ofInt (-1) = nI (n - 1) := by
  obtain ⟨m, rfl⟩ : ∃ m, n = m + 1 := ⟨n - 1, by omega⟩
  exact pk_m1 m
theorem narZ (b : Bool) : narrow .boolean (.int (bI b)) = .int (bI b) := by cases b <;> decide +kernel
theorem fitZ (b : Bool) : fits .boolean (.int (bI b)) = true := by cases b <;> decide +kernel
theorem bI_t : bI true = 1 := rfl
theorem bI_f : bI false = 0 := rfl
theorem bI_0 (b : Bool) : bI b = 0 ↔ b = false := by cases b <;> decide
theorem bI_inj {a b : Bool} : bI a = bI b ↔ a = b := by cases a <;> cases b <;> decide
theorem bI_n (b : Bool) : bI b = nI (if b then 1 else 0) := by cases b <;> rfl
section VN
variable {C : CT} {k : KX} {cc : ByteArray} {own : String} {nL : Nat} {ret : Option FieldType} {z : Nat × Nat} {M : Mem} {pc : Nat} {lv : List (Nat × Value)} {st : List Value} {a b : Nat}
theorem v_addN (X : OKc C k cc own nL ret) (d : decode cc pc = .ok (.iadd, 1)) (kk : V C k nL z M (pc + 1) lv (.int (nI (a + b)) :: st)) : V C k nL z M pc lv (.int (nI b) :: .int (nI a) :: st) := v_iadd X d (by rw [nI_add]; exact kk)
theorem v_subN (X : OKc C k cc own nL ret) (h : b ≤ a) (d : decode cc pc = .ok (.isub, 1)) (kk : V C k nL z M (pc + 1) lv (.int (nI (a - b)) :: st)) : V C k nL z M pc lv (.int (nI b) :: .int (nI a) :: st) := v_isub X d (by rw [pk_sub h]; exact kk)
theorem v_mulN (X : OKc C k cc own nL ret) (d : decode cc pc = .ok (.imul, 1)) (kk : V C k nL z M (pc + 1) lv (.int (nI (a * b)) :: st)) : V C k nL z M pc lv (.int (nI b) :: .int (nI a) :: st) := v_imul X d (by rw [pk_mul]; exact kk)
theorem v_divN (X : OKc C k cc own nL ret) (ha : a < 2 ^ 31) (h0 : 0 < b) (hb : b < 2 ^ 31) (d : decode cc pc = .ok (.idiv, 1)) (kk : V C k nL z M (pc + 1) lv (.int (nI (a / b)) :: st)) : V C k nL z M pc lv (.int (nI b) :: .int (nI a) :: st) := v_idiv X (nI_ne0 h0 hb) d (by rw [pk_div ha h0 hb]; exact kk)
theorem v_remN (X : OKc C k cc own nL ret) (ha : a < 2 ^ 31) (h0 : 0 < b) (hb : b < 2 ^ 31) (d : decode cc pc = .ok (.irem, 1)) (kk : V C k nL z M (pc + 1) lv (.int (nI (a % b)) :: st)) : V C k nL z M pc lv (.int (nI b) :: .int (nI a) :: st) := v_irem X (nI_ne0 h0 hb) d (by rw [pk_rem ha h0 hb]; exact kk)
theorem v_andN (X : OKc C k cc own nL ret) (d : decode cc pc = .ok (.iand, 1)) (kk : V C k nL z M (pc + 1) lv (.int (nI (a &&& b)) :: st)) : V C k nL z M pc lv (.int (nI b) :: .int (nI a) :: st) := v_iand X d (by rw [w_and]; exact kk)
theorem v_orN (X : OKc C k cc own nL ret) (d : decode cc pc = .ok (.ior, 1)) (kk : V C k nL z M (pc + 1) lv (.int (nI (a ||| b)) :: st)) : V C k nL z M pc lv (.int (nI b) :: .int (nI a) :: st) := v_ior X d (by rw [w_or]; exact kk)
theorem v_xorN (X : OKc C k cc own nL ret) (d : decode cc pc = .ok (.ixor, 1)) (kk : V C k nL z M (pc + 1) lv (.int (nI (a ^^^ b)) :: st)) : V C k nL z M pc lv (.int (nI b) :: .int (nI a) :: st) := v_ixor X d (by rw [w_xor]; exact kk)
theorem v_shlN (X : OKc C k cc own nL ret) (hn : b < 32) (d : decode cc pc = .ok (.ishl, 1)) (kk : V C k nL z M (pc + 1) lv (.int (nI (a <<< b)) :: st)) : V C k nL z M pc lv (.int (nI b) :: .int (nI a) :: st) := v_ishl X d (by rw [w_shl hn]; exact kk)
theorem v_shrN (X : OKc C k cc own nL ret) (ha : a < 2 ^ 31) (hn : b < 32) (d : decode cc pc = .ok (.ishr, 1)) (kk : V C k nL z M (pc + 1) lv (.int (nI (a >>> b)) :: st)) : V C k nL z M pc lv (.int (nI b) :: .int (nI a) :: st) := v_ishr X d (by rw [w_shr ha hn]; exact kk)
theorem v_ceqN (X : OKc C k cc own nL ret) {off : Int} (tgt : Nat) (ha : a < 2 ^ 31) (hb : b < 2 ^ 31) (d : decode cc pc = .ok (.if_icmp .eq off, 3)) (ht : (pc : Int) + off = (tgt : Int)) (kt : a = b → V C k nL z M tgt lv st) (kf : a ≠ b → V C k nL z M (pc + 3) lv st) : V C k nL z M pc lv (.int (nI b) :: .int (nI a) :: st) :=
  v_icmp_eq X tgt d ht (fun h => kt ((nI_eq ha hb).mp h)) (fun h => kf (fun e => h ((nI_eq ha hb).mpr e)))
theorem v_cneN (X : OKc C k cc own nL ret) {off : Int} (tgt : Nat) (ha : a < 2 ^ 31) (hb : b < 2 ^ 31) (d : decode cc pc = .ok (.if_icmp .ne off, 3)) (ht : (pc : Int) + off = (tgt : Int)) (kt : a ≠ b → V C k nL z M tgt lv st) (kf : a = b → V C k nL z M (pc + 3) lv st) : V C k nL z M pc lv (.int (nI b) :: .int (nI a) :: st) :=
  v_icmp_ne X tgt d ht (fun h => kt (fun e => h ((nI_eq ha hb).mpr e))) (fun h => kf ((nI_eq ha hb).mp h))
theorem v_cltN (X : OKc C k cc own nL ret) {off : Int} (tgt : Nat) (ha : a < 2 ^ 31) (hb : b < 2 ^ 31) (d : decode cc pc = .ok (.if_icmp .lt off, 3)) (ht : (pc : Int) + off = (tgt : Int)) (kt : a < b → V C k nL z M tgt lv st) (kf : b ≤ a → V C k nL z M (pc + 3) lv st) : V C k nL z M pc lv (.int (nI b) :: .int (nI a) :: st) :=
  v_icmp_lt X tgt d ht (fun h => kt ((nI_ltI ha hb).mp h)) (fun h => kf (Nat.le_of_not_lt (fun e => h ((nI_ltI ha hb).mpr e))))
theorem v_cgeN (X : OKc C k cc own nL ret) {off : Int} (tgt : Nat) (ha : a < 2 ^ 31) (hb : b < 2 ^ 31) (d : decode cc pc = .ok (.if_icmp .ge off, 3)) (ht : (pc : Int) + off = (tgt : Int)) (kt : b ≤ a → V C k nL z M tgt lv st) (kf : a < b → V C k nL z M (pc + 3) lv st) : V C k nL z M pc lv (.int (nI b) :: .int (nI a) :: st) :=
  v_icmp_ge X tgt d ht (fun h => kt ((nI_leI hb ha).mp h)) (fun h => kf (Nat.lt_of_not_le (fun e => h ((nI_leI hb ha).mpr e))))
theorem v_cgtN (X : OKc C k cc own nL ret) {off : Int} (tgt : Nat) (ha : a < 2 ^ 31) (hb : b < 2 ^ 31) (d : decode cc pc = .ok (.if_icmp .gt off, 3)) (ht : (pc : Int) + off = (tgt : Int)) (kt : b < a → V C k nL z M tgt lv st) (kf : a ≤ b → V C k nL z M (pc + 3) lv st) : V C k nL z M pc lv (.int (nI b) :: .int (nI a) :: st) :=
  v_icmp_gt X tgt d ht (fun h => kt ((nI_ltI hb ha).mp h)) (fun h => kf (Nat.le_of_not_lt (fun e => h ((nI_ltI hb ha).mpr e))))
theorem v_cleN (X : OKc C k cc own nL ret) {off : Int} (tgt : Nat) (ha : a < 2 ^ 31) (hb : b < 2 ^ 31) (d : decode cc pc = .ok (.if_icmp .le off, 3)) (ht : (pc : Int) + off = (tgt : Int)) (kt : a ≤ b → V C k nL z M tgt lv st) (kf : b < a → V C k nL z M (pc + 3) lv st) : V C k nL z M pc lv (.int (nI b) :: .int (nI a) :: st) :=
  v_icmp_le X tgt d ht (fun h => kt ((nI_leI ha hb).mp h)) (fun h => kf (Nat.lt_of_not_le (fun e => h ((nI_leI ha hb).mpr e))))
theorem v_ieqN (X : OKc C k cc own nL ret) {off : Int} (tgt : Nat) (ha : a < 2 ^ 31) (d : decode cc pc = .ok (.ifCond .eq off, 3)) (ht : (pc : Int) + off = (tgt : Int)) (kt : a = 0 → V C k nL z M tgt lv st) (kf : a ≠ 0 → V C k nL z M (pc + 3) lv st) : V C k nL z M pc lv (.int (nI a) :: st) :=
  v_if_eq X tgt d ht (fun h => kt ((nI_eq ha (by decide : 0 < 2 ^ 31)).mp h)) (fun h => kf (fun e => h ((nI_eq ha (by decide : 0 < 2 ^ 31)).mpr e)))
theorem v_ineN (X : OKc C k cc own nL ret) {off : Int} (tgt : Nat) (ha : a < 2 ^ 31) (d : decode cc pc = .ok (.ifCond .ne off, 3)) (ht : (pc : Int) + off = (tgt : Int)) (kt : a ≠ 0 → V C k nL z M tgt lv st) (kf : a = 0 → V C k nL z M (pc + 3) lv st) : V C k nL z M pc lv (.int (nI a) :: st) :=
  v_if_ne X tgt d ht (fun h => kt (fun e => h ((nI_eq ha (by decide : 0 < 2 ^ 31)).mpr e))) (fun h => kf ((nI_eq ha (by decide : 0 < 2 ^ 31)).mp h))
theorem v_igtN (X : OKc C k cc own nL ret) {off : Int} (tgt : Nat) (ha : a < 2 ^ 31) (d : decode cc pc = .ok (.ifCond .gt off, 3)) (ht : (pc : Int) + off = (tgt : Int)) (kt : 0 < a → V C k nL z M tgt lv st) (kf : a = 0 → V C k nL z M (pc + 3) lv st) : V C k nL z M pc lv (.int (nI a) :: st) :=
  v_if_gt X tgt d ht (fun h => kt (Nat.pos_of_ne_zero (fun e => by subst e; exact absurd h (by decide)))) (fun h => kf (Nat.eq_zero_of_not_pos (fun e => h ((nI_ltI (by decide : 0 < 2 ^ 31) ha).mpr e))))
theorem v_ileN (X : OKc C k cc own nL ret) {off : Int} (tgt : Nat) (ha : a < 2 ^ 31) (d : decode cc pc = .ok (.ifCond .le off, 3)) (ht : (pc : Int) + off = (tgt : Int)) (kt : a = 0 → V C k nL z M tgt lv st) (kf : 0 < a → V C k nL z M (pc + 3) lv st) : V C k nL z M pc lv (.int (nI a) :: st) :=
  v_if_le X tgt d ht (fun h => kt (Nat.eq_zero_of_not_pos (fun e => absurd h (nI_nle e ha)))) (fun h => kf (Nat.pos_of_ne_zero (fun e => by subst e; exact absurd (by decide) h)))
theorem v_iltN (X : OKc C k cc own nL ret) {off : Int} (ha : a < 2 ^ 31) (d : decode cc pc = .ok (.ifCond .lt off, 3)) (kf : V C k nL z M (pc + 3) lv st) : V C k nL z M pc lv (.int (nI a) :: st) := by
  intro H locs ls hP hS h T hT XX
  obtain ⟨t, a1, b1⟩ := kf H locs ls hP hS h T hT XX
  refine ⟨t, ?_, b1⟩
  have hn : ¬ (nI a < 0) := nI_pos ha
  jvm_step XX.here [XX.here.top, X.x, X.b, d, Op.ifCond.holds, hn]
  exact a1
theorem v_igeN (X : OKc C k cc own nL ret) {off : Int} (tgt : Nat) (ha : a < 2 ^ 31) (d : decode cc pc = .ok (.ifCond .ge off, 3)) (ht : (pc : Int) + off = (tgt : Int)) (kt : V C k nL z M tgt lv st) : V C k nL z M pc lv (.int (nI a) :: st) :=
  v_if_ge X tgt d ht (fun _ => kt) (fun h => absurd (nI_pos' ha) h)
theorem v_ieqB {b : Bool} (X : OKc C k cc own nL ret) {off : Int} (tgt : Nat) (d : decode cc pc = .ok (.ifCond .eq off, 3)) (ht : (pc : Int) + off = (tgt : Int)) (kt : b = false → V C k nL z M tgt lv st) (kf : b = true → V C k nL z M (pc + 3) lv st) : V C k nL z M pc lv (.int (bI b) :: st) :=
  v_if_eq X tgt d ht (fun h => kt ((bI_0 b).mp h)) (fun h => kf (by cases b; exact absurd rfl h; rfl))
theorem v_ineB {b : Bool} (X : OKc C k cc own nL ret) {off : Int} (tgt : Nat) (d : decode cc pc = .ok (.ifCond .ne off, 3)) (ht : (pc : Int) + off = (tgt : Int)) (kt : b = true → V C k nL z M tgt lv st) (kf : b = false → V C k nL z M (pc + 3) lv st) : V C k nL z M pc lv (.int (bI b) :: st) :=
  v_if_ne X tgt d ht (fun h => kt (by cases b; exact absurd rfl h; rfl)) (fun h => kf ((bI_0 b).mp h))
theorem v_ceqB {a b : Bool} (X : OKc C k cc own nL ret) {off : Int} (tgt : Nat) (d : decode cc pc = .ok (.if_icmp .eq off, 3)) (ht : (pc : Int) + off = (tgt : Int)) (kt : a = b → V C k nL z M tgt lv st) (kf : a ≠ b → V C k nL z M (pc + 3) lv st) : V C k nL z M pc lv (.int (bI b) :: .int (bI a) :: st) :=
  v_icmp_eq X tgt d ht (fun h => kt (bI_inj.mp h)) (fun h => kf (fun e => h (bI_inj.mpr e)))
theorem v_cneB {a b : Bool} (X : OKc C k cc own nL ret) {off : Int} (tgt : Nat) (d : decode cc pc = .ok (.if_icmp .ne off, 3)) (ht : (pc : Int) + off = (tgt : Int)) (kt : a ≠ b → V C k nL z M tgt lv st) (kf : a = b → V C k nL z M (pc + 3) lv st) : V C k nL z M pc lv (.int (bI b) :: .int (bI a) :: st) :=
  v_icmp_ne X tgt d ht (fun h => kt (fun e => h (bI_inj.mpr e))) (fun h => kf (bI_inj.mp h))
theorem v_maxN (X : OKc C k cc own nL ret) {R : Room} (hR : C_R C = R) {idx : Nat} {rest : List Value} (hl : Cond.methodLink own idx Lib.Math.max.name ∈ ALL) (hs : Cond.static Lib.Math.max.name ∈ ALL) (hi : Cond.initialized "java/lang/Math" ∈ ALL) (hc : Cond.code Lib.Math.max.name Lib.Math.max.code 2 (some .int) ∈ ALL) (hfr : 1 ≤ R.frames) (hlo : (rest.map fun v => v.category).sum + 13 ≤ R.locals) (hz : z.1 ≤ R.cells ∧ z.2 ≤ R.slots) (ha : a < 2 ^ 31) (hb : b < 2 ^ 31) (d : decode cc pc = .ok (.invokestatic idx, 3)) (kk : V C k nL z M (pc + 3) lv (.int (nI (max a b)) :: rest)) : V C k nL z M pc lv (.int (nI b) :: .int (nI a) :: rest) := by
  subst hR
  intro H locs ls hP hS h
  refine va_mmax X.x X.b (by rw [X.ml]; exact h.1.symm) X.ow (X.ts _ hl) (X.ts _ hs) (X.ts _ hi) (X.ts _ hc) hfr hlo hz.1 hz.2 d ?_
  have e : (if nI a < nI b then nI b else nI a) = nI (max a b) := by
    by_cases q : a < b
    · rw [if_pos ((nI_ltI ha hb).mpr q)]; congr 1; omega
    · rw [if_neg (fun w => q ((nI_ltI ha hb).mp w))]; congr 1; omega
  rw [e]
  exact kk H locs ls hP hS h
theorem v_minN (X : OKc C k cc own nL ret) {R : Room} (hR : C_R C = R) {idx : Nat} {rest : List Value} (hl : Cond.methodLink own idx Lib.Math.min.name ∈ ALL) (hs : Cond.static Lib.Math.min.name ∈ ALL) (hi : Cond.initialized "java/lang/Math" ∈ ALL) (hc : Cond.code Lib.Math.min.name Lib.Math.min.code 2 (some .int) ∈ ALL) (hfr : 1 ≤ R.frames) (hlo : (rest.map fun v => v.category).sum + 13 ≤ R.locals) (hz : z.1 ≤ R.cells ∧ z.2 ≤ R.slots) (ha : a < 2 ^ 31) (hb : b < 2 ^ 31) (d : decode cc pc = .ok (.invokestatic idx, 3)) (kk : V C k nL z M (pc + 3) lv (.int (nI (min a b)) :: rest)) : V C k nL z M pc lv (.int (nI b) :: .int (nI a) :: rest) := by
  subst hR
  intro H locs ls hP hS h
  refine va_mmin X.x X.b (by rw [X.ml]; exact h.1.symm) X.ow (X.ts _ hl) (X.ts _ hs) (X.ts _ hi) (X.ts _ hc) hfr hlo hz.1 hz.2 d ?_
  have e : (if nI b < nI a then nI b else nI a) = nI (min a b) := by
    by_cases q : b < a
    · rw [if_pos ((nI_ltI hb ha).mpr q)]; congr 1; omega
    · rw [if_neg (fun w => q ((nI_ltI hb ha).mp w))]; congr 1; omega
  rw [e]
  exact kk H locs ls hP hS h
end VN
/-- nothing changed but the cells lo .. lo+w-1 -/
def Fr (lo w : Nat) (M M' : Mem) : Prop := ∀ i, (i < lo ∨ lo + w ≤ i) → M' i = M i
theorem Fr.rf {lo w : Nat} {M : Mem} : Fr lo w M M := fun _ _ => rfl

theorem nw_0 : (Cond.methodLinkNest "CnfXorSolver" 9 ⟨"CnfXorSolver$FormulaText", "<init>", "()V"⟩ "CnfXorSolver") ∈ NWL := List.mem_of_getElem? (i := 0) rfl
theorem nw_1 : (Cond.methodLinkNest "CnfXorSolver$FormulaText" 21 ⟨"CnfXorSolver$Formula", "<init>", "()V"⟩ "CnfXorSolver") ∈ NWL := List.mem_of_getElem? (i := 1) rfl
theorem nw_2 : (Cond.fieldLinkNest "CnfXorSolver$Elimination" 23 "CnfXorSolver$Formula" "count" "I" "CnfXorSolver") ∈ NWL := List.mem_of_getElem? (i := 2) rfl
theorem nw_3 : (Cond.fieldLinkNest "CnfXorSolver$FormulaText" 35 "CnfXorSolver$Formula" "count" "I" "CnfXorSolver") ∈ NWL := List.mem_of_getElem? (i := 3) rfl
theorem nw_4 : (Cond.fieldLinkNest "CnfXorSolver$ModelTable" 23 "CnfXorSolver$Formula" "count" "I" "CnfXorSolver") ∈ NWL := List.mem_of_getElem? (i := 4) rfl
theorem nw_5 : (Cond.fieldLinkNest "CnfXorSolver" 106 "CnfXorSolver$Formula" "count" "I" "CnfXorSolver") ∈ NWL := List.mem_of_getElem? (i := 5) rfl
theorem nw_6 : (Cond.fieldLinkNest "CnfXorSolver" 64 "CnfXorSolver$FormulaText" "length" "I" "CnfXorSolver") ∈ NWL := List.mem_of_getElem? (i := 6) rfl
theorem nw_7 : (Cond.fieldLinkNest "CnfXorSolver" 87 "CnfXorSolver$FormulaText" "formula" "LCnfXorSolver$Formula;" "CnfXorSolver") ∈ NWL := List.mem_of_getElem? (i := 7) rfl
theorem nw_8 : (Cond.methodLinkNest "CnfXorSolver" 18 ⟨"CnfXorSolver$State", "<init>", "()V"⟩ "CnfXorSolver") ∈ NWL := List.mem_of_getElem? (i := 8) rfl
theorem nw_9 : (Cond.methodLinkNest "CnfXorSolver$State" 11 ⟨"CnfXorSolver$Formula", "<init>", "()V"⟩ "CnfXorSolver") ∈ NWL := List.mem_of_getElem? (i := 9) rfl
theorem nw_10 : (Cond.fieldLinkNest "CnfXorSolver$Trail" 40 "CnfXorSolver$State" "formula" "LCnfXorSolver$Formula;" "CnfXorSolver") ∈ NWL := List.mem_of_getElem? (i := 10) rfl
theorem nw_11 : (Cond.fieldLinkNest "CnfXorSolver" 83 "CnfXorSolver$State" "formula" "LCnfXorSolver$Formula;" "CnfXorSolver") ∈ NWL := List.mem_of_getElem? (i := 11) rfl
theorem nw_12 : (Cond.fieldLinkNest "CnfXorSolver$Trail" 50 "CnfXorSolver$State" "decisionCount" "I" "CnfXorSolver") ∈ NWL := List.mem_of_getElem? (i := 12) rfl
theorem nw_13 : (Cond.fieldLinkNest "CnfXorSolver" 186 "CnfXorSolver$State" "decisionCount" "I" "CnfXorSolver") ∈ NWL := List.mem_of_getElem? (i := 13) rfl
theorem nw_14 : (Cond.methodLinkNest "CnfXorSolver" 25 ⟨"CnfXorSolver$Trail", "<init>", "()V"⟩ "CnfXorSolver") ∈ NWL := List.mem_of_getElem? (i := 14) rfl
theorem nw_15 : (Cond.fieldLinkNest "CnfXorSolver" 185 "CnfXorSolver$Trail" "length" "I" "CnfXorSolver") ∈ NWL := List.mem_of_getElem? (i := 15) rfl
theorem nw_16 : (Cond.fieldLinkNest "CnfXorSolver" 169 "CnfXorSolver$Trail" "conflictNumber" "I" "CnfXorSolver") ∈ NWL := List.mem_of_getElem? (i := 16) rfl
theorem nw_17 : (Cond.methodLinkNest "CnfXorSolver$Memory" 28 ⟨"CnfXorSolver$State", "<init>", "()V"⟩ "CnfXorSolver") ∈ NWL := List.mem_of_getElem? (i := 17) rfl
theorem nw_18 : (Cond.fieldLinkNest "CnfXorSolver" 198 "CnfXorSolver$Memory" "rememberedCount" "I" "CnfXorSolver") ∈ NWL := List.mem_of_getElem? (i := 18) rfl
theorem nw_19 : (Cond.methodLinkNest "CnfXorSolver" 39 ⟨"CnfXorSolver$ModelTable", "<init>", "()V"⟩ "CnfXorSolver") ∈ NWL := List.mem_of_getElem? (i := 19) rfl
theorem nw_20 : (Cond.fieldLinkNest "CnfXorSolver" 279 "CnfXorSolver$ModelTable" "stale" "Z" "CnfXorSolver") ∈ NWL := List.mem_of_getElem? (i := 20) rfl
theorem nw_21 : (Cond.methodLinkNest "CnfXorSolver" 46 ⟨"CnfXorSolver$Elimination", "<init>", "()V"⟩ "CnfXorSolver") ∈ NWL := List.mem_of_getElem? (i := 21) rfl
theorem nw_22 : (Cond.fieldLinkNest "CnfXorSolver" 242 "CnfXorSolver$Elimination" "rowCount" "I" "CnfXorSolver") ∈ NWL := List.mem_of_getElem? (i := 22) rfl
theorem nw_23 : (Cond.fieldLinkNest "CnfXorSolver" 245 "CnfXorSolver$Elimination" "consistent" "Z" "CnfXorSolver") ∈ NWL := List.mem_of_getElem? (i := 23) rfl
theorem nw_24 : (Cond.methodLinkNest "CnfXorSolver$Formula" 27 ⟨"CnfXorSolver", "variablesOf", "(I)I"⟩ "CnfXorSolver") ∈ NWL := List.mem_of_getElem? (i := 24) rfl
theorem nw_25 : (Cond.methodLinkNest "CnfXorSolver$Formula" 36 ⟨"CnfXorSolver", "isViolated", "(II)Z"⟩ "CnfXorSolver") ∈ NWL := List.mem_of_getElem? (i := 25) rfl
theorem nw_26 : (Cond.methodLinkNest "CnfXorSolver$Trail" 91 ⟨"CnfXorSolver", "variablesOf", "(I)I"⟩ "CnfXorSolver") ∈ NWL := List.mem_of_getElem? (i := 26) rfl
theorem nw_27 : (Cond.methodLinkNest "CnfXorSolver$Trail" 94 ⟨"CnfXorSolver", "smallestVariable", "(I)I"⟩ "CnfXorSolver") ∈ NWL := List.mem_of_getElem? (i := 27) rfl
theorem nw_28 : (Cond.methodLinkNest "CnfXorSolver$Trail" 97 ⟨"CnfXorSolver", "isViolated", "(II)Z"⟩ "CnfXorSolver") ∈ NWL := List.mem_of_getElem? (i := 28) rfl
theorem nw_29 : (Cond.methodLinkNest "CnfXorSolver$Trail" 101 ⟨"CnfXorSolver", "isVariable", "(I)Z"⟩ "CnfXorSolver") ∈ NWL := List.mem_of_getElem? (i := 29) rfl
theorem nw_30 : (Cond.methodLinkNest "CnfXorSolver$Trail" 68 ⟨"CnfXorSolver", "variableOf", "(I)I"⟩ "CnfXorSolver") ∈ NWL := List.mem_of_getElem? (i := 30) rfl
theorem nw_31 : (Cond.methodLinkNest "CnfXorSolver$Trail" 104 ⟨"CnfXorSolver", "contains", "(II)Z"⟩ "CnfXorSolver") ∈ NWL := List.mem_of_getElem? (i := 31) rfl
theorem nw_32 : (Cond.methodLinkNest "CnfXorSolver$Trail" 74 ⟨"CnfXorSolver", "literalOf", "(IZ)I"⟩ "CnfXorSolver") ∈ NWL := List.mem_of_getElem? (i := 32) rfl
theorem nw_33 : (Cond.methodLinkNest "CnfXorSolver$ModelTable" 33 ⟨"CnfXorSolver", "isViolated", "(II)Z"⟩ "CnfXorSolver") ∈ NWL := List.mem_of_getElem? (i := 33) rfl
theorem nw_34 : (Cond.methodLinkNest "CnfXorSolver$Trail" 123 ⟨"CnfXorSolver", "clauseCode", "(II)I"⟩ "CnfXorSolver") ∈ NWL := List.mem_of_getElem? (i := 34) rfl
theorem nw_35 : (Cond.methodLinkNest "CnfXorSolver$Elimination" 32 ⟨"CnfXorSolver", "isParityCode", "(I)Z"⟩ "CnfXorSolver") ∈ NWL := List.mem_of_getElem? (i := 35) rfl
theorem nw_36 : (Cond.methodLinkNest "CnfXorSolver$Elimination" 44 ⟨"CnfXorSolver", "contains", "(II)Z"⟩ "CnfXorSolver") ∈ NWL := List.mem_of_getElem? (i := 36) rfl
theorem nw_37 : (Cond.methodLinkNest "CnfXorSolver$Elimination" 48 ⟨"CnfXorSolver", "firstPart", "(I)I"⟩ "CnfXorSolver") ∈ NWL := List.mem_of_getElem? (i := 37) rfl
theorem nw_38 : (Cond.methodLinkNest "CnfXorSolver$Elimination" 51 ⟨"CnfXorSolver", "smallestVariable", "(I)I"⟩ "CnfXorSolver") ∈ NWL := List.mem_of_getElem? (i := 38) rfl
theorem nw_39 : (Cond.methodLinkNest "CnfXorSolver$Elimination" 54 ⟨"CnfXorSolver", "isVariable", "(I)Z"⟩ "CnfXorSolver") ∈ NWL := List.mem_of_getElem? (i := 39) rfl
theorem nw_40 : (Cond.methodLinkNest "CnfXorSolver$FormulaText" 79 ⟨"CnfXorSolver", "isVariable", "(I)Z"⟩ "CnfXorSolver") ∈ NWL := List.mem_of_getElem? (i := 40) rfl
theorem nw_41 : (Cond.methodLinkNest "CnfXorSolver$FormulaText" 82 ⟨"CnfXorSolver", "contains", "(II)Z"⟩ "CnfXorSolver") ∈ NWL := List.mem_of_getElem? (i := 41) rfl
theorem nw_42 : (Cond.methodLinkNest "CnfXorSolver$FormulaText" 48 ⟨"CnfXorSolver", "clauseCode", "(II)I"⟩ "CnfXorSolver") ∈ NWL := List.mem_of_getElem? (i := 42) rfl
theorem nw_43 : (Cond.methodLinkNest "CnfXorSolver$FormulaText" 72 ⟨"CnfXorSolver", "parityCode", "(II)I"⟩ "CnfXorSolver") ∈ NWL := List.mem_of_getElem? (i := 43) rfl
theorem mo_X0_init : mOK yX0_init 0 := by decide +kernel
theorem mo_X0_run : mOK yX0_run 1 := by decide +kernel
theorem mo_X0_reduced : mOK yX0_reduced 1 := by decide +kernel
theorem mo_X0_insert : mOK yX0_insert 1 := by decide +kernel
theorem mo_X0_rowAt : mOK yX0_rowAt 1 := by decide +kernel
theorem mo_X1_init : mOK yX1_init 0 := by decide +kernel
theorem mo_X1_has : mOK yX1_has 1 := by decide +kernel
theorem mo_X1_isFull : mOK yX1_isFull 0 := by decide +kernel
theorem mo_X1_codeAt : mOK yX1_codeAt 1 := by decide +kernel
theorem mo_X1_add : mOK yX1_add 1 := by decide +kernel
theorem mo_X1_removeAt : mOK yX1_removeAt 1 := by decide +kernel
theorem mo_X1_copyFrom : mOK yX1_copyFrom 1 := by decide +kernel
theorem mo_X1_firstViolatedOrUnit : mOK yX1_firstViolatedOrUnit 2 := by decide +kernel
theorem mo_X2_init : mOK yX2_init 0 := by decide +kernel
theorem mo_X2_put : mOK yX2_put 1 := by decide +kernel
theorem mo_X2_read : mOK yX2_read 0 := by decide +kernel
theorem mo_X2_startItem : mOK yX2_startItem 0 := by decide +kernel
theorem mo_X2_takes : mOK yX2_takes 1 := by decide +kernel
theorem mo_X2_takesFirst : mOK yX2_takesFirst 1 := by decide +kernel
theorem mo_X2_takesClauseLetter : mOK yX2_takesClauseLetter 1 := by decide +kernel
theorem mo_X2_takesBit : mOK yX2_takesBit 1 := by decide +kernel
theorem mo_X2_takesInParity : mOK yX2_takesInParity 1 := by decide +kernel
theorem mo_X2_endsItem : mOK yX2_endsItem 1 := by decide +kernel
theorem mo_X2_isNewLetter : mOK yX2_isNewLetter 3 := by decide +kernel
theorem mo_X3_init : mOK yX3_init 0 := by decide +kernel
theorem mo_X3_remember : mOK yX3_remember 1 := by decide +kernel
theorem mo_X3_forgetOldest : mOK yX3_forgetOldest 0 := by decide +kernel
theorem mo_X3_takeBack : mOK yX3_takeBack 1 := by decide +kernel
theorem mo_X3_forgetAll : mOK yX3_forgetAll 0 := by decide +kernel
theorem mo_X3_isFilled : mOK yX3_isFilled 1 := by decide +kernel
theorem mo_X3_fillSlot : mOK yX3_fillSlot 2 := by decide +kernel
theorem mo_X3_copySlot : mOK yX3_copySlot 2 := by decide +kernel
theorem mo_X3_emptySlots : mOK yX3_emptySlots 0 := by decide +kernel
theorem mo_X3_copyInto : mOK yX3_copyInto 2 := by decide +kernel
theorem mo_X4_init : mOK yX4_init 0 := by decide +kernel
theorem mo_X4_refresh : mOK yX4_refresh 1 := by decide +kernel
theorem mo_X4_violatedBy : mOK yX4_violatedBy 2 := by decide +kernel
theorem mo_X4_countModels : mOK yX4_countModels 0 := by decide +kernel
theorem mo_X4_modelAt : mOK yX4_modelAt 1 := by decide +kernel
theorem mo_X4_allSatisfy : mOK yX4_allSatisfy 1 := by decide +kernel
theorem mo_X4_canSatisfy : mOK yX4_canSatisfy 1 := by decide +kernel
theorem mo_X5_init : mOK yX5_init 0 := by decide +kernel
theorem mo_X5_decisionAt : mOK yX5_decisionAt 1 := by decide +kernel
theorem mo_X5_addDecision : mOK yX5_addDecision 1 := by decide +kernel
theorem mo_X5_keepDecisions : mOK yX5_keepDecisions 1 := by decide +kernel
theorem mo_X5_copyFrom : mOK yX5_copyFrom 1 := by decide +kernel
theorem mo_X6_init : mOK yX6_init 0 := by decide +kernel
theorem mo_X6_build : mOK yX6_build 1 := by decide +kernel
theorem mo_X6_allows : mOK yX6_allows 1 := by decide +kernel
theorem mo_X6_startLevel : mOK yX6_startLevel 1 := by decide +kernel
theorem mo_X6_propagate : mOK yX6_propagate 1 := by decide +kernel
theorem mo_X6_assign : mOK yX6_assign 3 := by decide +kernel
theorem mo_X6_isAssigned : mOK yX6_isAssigned 1 := by decide +kernel
theorem mo_X6_isTrue : mOK yX6_isTrue 1 := by decide +kernel
theorem mo_X6_literalAt : mOK yX6_literalAt 1 := by decide +kernel
theorem mo_X6_reasonOf : mOK yX6_reasonOf 1 := by decide +kernel
theorem mo_X6_learnedVariables : mOK yX6_learnedVariables 1 := by decide +kernel
theorem mo_X6_backjumpLevel : mOK yX6_backjumpLevel 1 := by decide +kernel
theorem mo_X6_falseClause : mOK yX6_falseClause 1 := by decide +kernel
theorem mo_X7_init : mOK yX7_init 0 := by decide +kernel
theorem mo_X7_append : mOK yX7_append 1 := by decide +kernel
theorem mo_X7_clearText : mOK yX7_clearText 0 := by decide +kernel
theorem mo_X7_errorPosition : mOK yX7_errorPosition 0 := by decide +kernel
theorem mo_X7_load : mOK yX7_load 0 := by decide +kernel
theorem mo_X7_constraintCount : mOK yX7_constraintCount 0 := by decide +kernel
theorem mo_X7_isParity : mOK yX7_isParity 1 := by decide +kernel
theorem mo_X7_variables : mOK yX7_variables 1 := by decide +kernel
theorem mo_X7_negated : mOK yX7_negated 1 := by decide +kernel
theorem mo_X7_addClause : mOK yX7_addClause 2 := by decide +kernel
theorem mo_X7_addParity : mOK yX7_addParity 2 := by decide +kernel
theorem mo_X7_removeConstraint : mOK yX7_removeConstraint 1 := by decide +kernel
theorem mo_X7_resolve : mOK yX7_resolve 3 := by decide +kernel
theorem mo_X7_sum : mOK yX7_sum 2 := by decide +kernel
theorem mo_X7_decide : mOK yX7_decide 1 := by decide +kernel
theorem mo_X7_backtrack : mOK yX7_backtrack 1 := by decide +kernel
theorem mo_X7_learn : mOK yX7_learn 0 := by decide +kernel
theorem mo_X7_undo : mOK yX7_undo 0 := by decide +kernel
theorem mo_X7_level : mOK yX7_level 0 := by decide +kernel
theorem mo_X7_value : mOK yX7_value 1 := by decide +kernel
theorem mo_X7_trailLiteral : mOK yX7_trailLiteral 1 := by decide +kernel
theorem mo_X7_reason : mOK yX7_reason 1 := by decide +kernel
theorem mo_X7_conflict : mOK yX7_conflict 0 := by decide +kernel
theorem mo_X7_learnedClause : mOK yX7_learnedClause 0 := by decide +kernel
theorem mo_X7_modelCount : mOK yX7_modelCount 0 := by decide +kernel
theorem mo_X7_model : mOK yX7_model 1 := by decide +kernel
theorem mo_X7_impliesClause : mOK yX7_impliesClause 2 := by decide +kernel
theorem mo_X7_impliesParity : mOK yX7_impliesParity 2 := by decide +kernel
theorem mo_X7_core : mOK yX7_core 0 := by decide +kernel
theorem mo_X7_rank : mOK yX7_rank 0 := by decide +kernel
theorem mo_X7_isConsistent : mOK yX7_isConsistent 0 := by decide +kernel
theorem mo_X7_eliminatedRow : mOK yX7_eliminatedRow 1 := by decide +kernel
theorem mo_X7_solve : mOK yX7_solve 0 := by decide +kernel
theorem mo_X7_save : mOK yX7_save 1 := by decide +kernel
theorem mo_X7_restore : mOK yX7_restore 1 := by decide +kernel
theorem mo_X7_rebuild : mOK yX7_rebuild 0 := by decide +kernel
theorem mo_X7_addConstraint : mOK yX7_addConstraint 1 := by decide +kernel
theorem mo_X7_learnInto : mOK yX7_learnInto 2 := by decide +kernel
theorem mo_X7_decideOpenVariables : mOK yX7_decideOpenVariables 0 := by decide +kernel
theorem mo_X7_requireConstraint : mOK yX7_requireConstraint 1 := by decide +kernel
theorem mo_X7_requireRoom : mOK yX7_requireRoom 0 := by decide +kernel
theorem mo_X7_requireAnalysis : mOK yX7_requireAnalysis 0 := by decide +kernel
theorem mo_X7_requireVariable : mOK yX7_requireVariable 1 := by decide +kernel
theorem mo_X7_requireSlot : mOK yX7_requireSlot 1 := by decide +kernel
theorem mo_X7_requireClause : mOK yX7_requireClause 2 := by decide +kernel
theorem mo_X7_requireParity : mOK yX7_requireParity 2 := by decide +kernel
theorem mo_X7_isSet : mOK yX7_isSet 1 := by decide +kernel
theorem mo_X7_isVariable : mOK yX7_isVariable 1 := by decide +kernel
theorem mo_X7_contains : mOK yX7_contains 2 := by decide +kernel
theorem mo_X7_smallestVariable : mOK yX7_smallestVariable 1 := by decide +kernel
theorem mo_X7_literalOf : mOK yX7_literalOf 2 := by decide +kernel
theorem mo_X7_variableOf : mOK yX7_variableOf 1 := by decide +kernel
theorem mo_X7_clauseCode : mOK yX7_clauseCode 2 := by decide +kernel
theorem mo_X7_parityCode : mOK yX7_parityCode 2 := by decide +kernel
theorem mo_X7_isParityCode : mOK yX7_isParityCode 1 := by decide +kernel
theorem mo_X7_firstPart : mOK yX7_firstPart 1 := by decide +kernel
theorem mo_X7_secondPart : mOK yX7_secondPart 1 := by decide +kernel
theorem mo_X7_variablesOf : mOK yX7_variablesOf 1 := by decide +kernel
theorem mo_X7_isViolated : mOK yX7_isViolated 2 := by decide +kernel
theorem mo_J6_bitCount_0f7a4 : mOK yJ6_bitCount_0f7a4 1 := by decide +kernel
theorem mo_J9_max_7cf53 : mOK yJ9_max_7cf53 2 := by decide +kernel
theorem mo_J9_min_7cf53 : mOK yJ9_min_7cf53 2 := by decide +kernel
theorem mo_J0_charAt_5068e : mOK yJ0_charAt_5068e 1 := by decide +kernel
theorem mo_J0_isLatin1_aae02 : mOK yJ0_isLatin1_aae02 0 := by decide +kernel
theorem mo_J0_checkIndex_df160 : mOK yJ0_checkIndex_df160 2 := by decide +kernel
theorem mo_J1_charAt_3b067 : mOK yJ1_charAt_3b067 2 := by decide +kernel
theorem mo_J2_getChar_3b067 : mOK yJ2_getChar_3b067 2 := by decide +kernel
theorem mo_J2_length_9d52b : mOK yJ2_length_9d52b 1 := by decide +kernel
theorem mo_J2_charAt_3b067 : mOK yJ2_charAt_3b067 2 := by decide +kernel
theorem mo_J2_checkIndex_2214a : mOK yJ2_checkIndex_2214a 2 := by decide +kernel
theorem mo_J3_checkIndex_8e157 : mOK yJ3_checkIndex_8e157 3 := by decide +kernel
theorem mo_L_cell : mOK yL_cell 2 := by decide +kernel
theorem mo_L_append : mOK yL_append 2 := by decide +kernel
theorem mo_L_loadText : mOK yL_loadText 1 := by decide +kernel
theorem mo_L_parity : mOK yL_parity 2 := by decide +kernel
theorem mo_L_first : mOK yL_first 2 := by decide +kernel
theorem mo_L_second : mOK yL_second 2 := by decide +kernel
theorem mo_L_clause : mOK yL_clause 3 := by decide +kernel
theorem mo_L_sumOfBits : mOK yL_sumOfBits 3 := by decide +kernel
theorem mo_L_remove : mOK yL_remove 2 := by decide +kernel
theorem mo_L_resolve : mOK yL_resolve 4 := by decide +kernel
theorem mo_L_sum : mOK yL_sum 3 := by decide +kernel
theorem mo_L_decide : mOK yL_decide 2 := by decide +kernel
theorem mo_L_backtrack : mOK yL_backtrack 2 := by decide +kernel
theorem mo_L_learn : mOK yL_learn 1 := by decide +kernel
theorem mo_L_undo : mOK yL_undo 1 := by decide +kernel
theorem mo_L_value : mOK yL_value 2 := by decide +kernel
theorem mo_L_trail : mOK yL_trail 2 := by decide +kernel
theorem mo_L_reason : mOK yL_reason 2 := by decide +kernel
theorem mo_L_learned : mOK yL_learned 1 := by decide +kernel
theorem mo_L_clauseHolds : mOK yL_clauseHolds 3 := by decide +kernel
theorem mo_L_parityHolds : mOK yL_parityHolds 3 := by decide +kernel
theorem mo_L_row : mOK yL_row 2 := by decide +kernel
theorem mo_L_save : mOK yL_save 2 := by decide +kernel
theorem mo_L_restore : mOK yL_restore 2 := by decide +kernel
theorem mo_L_errors : mOK yL_errors 1 := by decide +kernel
theorem mo_L_undone : mOK yL_undone 2 := by decide +kernel
theorem mo_L_load : mOK yL_load 3 := by decide +kernel
theorem mo_L_act : mOK yL_act 3 := by decide +kernel
theorem mo_L_now : mOK yL_now 1 := by decide +kernel
theorem mo_L_alike : mOK yL_alike 2 := by decide +kernel
theorem mo_L_odd : mOK yL_odd 1 := by decide +kernel
theorem mo_L_holds : mOK yL_holds 3 := by decide +kernel
theorem mo_L_built : mOK yL_built 1 := by decide +kernel
theorem mo_L_ahead : mOK yL_ahead 2 := by decide +kernel
