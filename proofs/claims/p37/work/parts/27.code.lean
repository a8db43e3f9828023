/-! codes of clauses and parities -/
theorem tb255 (i : Nat) : Nat.testBit 255 i = decide (i < 8) := by
  rw [show (255 : Nat) = 2 ^ 8 - 1 by decide, Nat.testBit_two_pow_sub_one]
theorem tb_clause (p n i : Nat) : (xClause p n).testBit i = ((decide (8 ≤ i) && n.testBit (i - 8)) || p.testBit i) := by
  unfold xClause; rw [Nat.testBit_or, Nat.testBit_shiftLeft]
theorem xFirst_clause {p n : Nat} (hp : p < 256) : xFirst (xClause p n) = p := by
  refine ext8 (xFirst_lt _) hp (fun i hi => ?_)
  unfold xFirst
  rw [Nat.testBit_and, tb255, tb_clause, decide_eq_true hi, Bool.and_true, decide_eq_false (by omega), Bool.false_and, Bool.false_or]
theorem xSecond_clause {p n : Nat} (hp : p < 256) (hn : n < 256) : xSecond (xClause p n) = n := by
  refine ext8 (xSecond_lt _) hn (fun i hi => ?_)
  unfold xSecond
  rw [Nat.testBit_and, tb255, Nat.testBit_shiftRight, tb_clause, decide_eq_true hi, Bool.and_true, decide_eq_true (by omega), hi_false hp (by omega), Bool.true_and, Bool.or_false, show 8 + i - 8 = i by omega]
theorem xPar_clause {p n : Nat} (hp : p < 256) (hn : n < 256) : xPar (xClause p n) = false := by
  unfold xPar
  rw [tb_clause, hi_false hp (by omega), hi_false hn (by omega), Bool.and_false, Bool.or_false]
theorem xClause_lt {p n : Nat} (hp : p < 256) (hn : n < 256) : xClause p n < 65536 := by
  unfold xClause
  refine or_lt8 16 ?_ (by omega)
  rw [Nat.shiftLeft_eq]; omega
theorem xOK_clause {p n : Nat} (hp : p < 256) (hn : n < 256) (h : p &&& n = 0) : xOK (xClause p n) := by
  refine ⟨by have := xClause_lt hp hn; omega, fun w => ?_, fun _ => ?_⟩
  · rw [xPar_clause hp hn] at w; cases w
  · rw [xFirst_clause hp, xSecond_clause hp hn]; exact h
theorem tb_parity (m b i : Nat) : (xParity m b).testBit i = ((decide (16 = i) || (decide (8 ≤ i) && b.testBit (i - 8))) || m.testBit i) := by
  unfold xParity; rw [Nat.testBit_or, Nat.testBit_or, Nat.testBit_shiftLeft, show (65536 : Nat) = 2 ^ 16 by decide, Nat.testBit_two_pow]
theorem xFirst_parity {m b : Nat} (hm : m < 256) : xFirst (xParity m b) = m := by
  refine ext8 (xFirst_lt _) hm (fun i hi => ?_)
  unfold xFirst
  rw [Nat.testBit_and, tb255, tb_parity, decide_eq_true hi, Bool.and_true, decide_eq_false (by omega), decide_eq_false (by omega), Bool.false_and, Bool.false_or, Bool.false_or]
theorem xSecond_parity {m b : Nat} (hm : m < 256) (hb : b < 256) : xSecond (xParity m b) = b := by
  refine ext8 (xSecond_lt _) hb (fun i hi => ?_)
  unfold xSecond
  rw [Nat.testBit_and, tb255, Nat.testBit_shiftRight, tb_parity, decide_eq_true hi, Bool.and_true, decide_eq_false (by omega), decide_eq_true (by omega), hi_false hm (by omega), Bool.true_and, Bool.or_false, Bool.false_or, show 8 + i - 8 = i by omega]
theorem xPar_parity (m b : Nat) : xPar (xParity m b) = true := by
  unfold xPar; rw [tb_parity]; rfl
theorem xParity_lt {m b : Nat} (hm : m < 256) (hb : b < 256) : xParity m b < 131072 := by
  unfold xParity
  refine or_lt8 17 (or_lt8 17 (by decide) ?_) (by omega)
  rw [Nat.shiftLeft_eq]; omega
theorem xOK_parity {m b : Nat} (hm : m < 256) (hb : b < 2) : xOK (xParity m b) := by
  refine ⟨xParity_lt hm (by omega), fun _ => ?_, fun w => ?_⟩
  · rw [xSecond_parity hm (by omega)]; exact hb
  · rw [xPar_parity] at w; cases w
theorem and_zero {a b : Nat} (h : ∀ i, a.testBit i = true → b.testBit i = true → False) : a &&& b = 0 := by
  apply Nat.eq_of_testBit_eq
  intro i
  rw [Nat.testBit_and, Nat.zero_testBit]
  cases h1 : a.testBit i with
  | false => rfl
  | true =>
    cases h2 : b.testBit i with
    | false => rfl
    | true => exact (h i h1 h2).elim
theorem and_zero_tb {a b i : Nat} (h : a &&& b = 0) (h1 : a.testBit i = true) : b.testBit i = false := by
  have := congrArg (fun x => x.testBit i) h
  simp only [Nat.testBit_and, Nat.zero_testBit, h1, Bool.true_and] at this
  exact this
theorem falseCl_ok {tr : List Ent} {set : Nat} (hs : set < 256) : xOK (falseCl tr set) := by
  refine xOK_clause (mdiff_lt hs) (and_ltl hs) (and_zero (fun i h1 h2 => ?_))
  have hi : i < 8 := tb_lt8 (mdiff_lt hs) h1
  rw [mdiff_tb (by omega)] at h1
  rw [Nat.testBit_and] at h2
  simp_all
theorem ana_lt {cs : List Nat} {pr : Nat} : ∀ (t : List Ent) (x : Nat), x < 256 → ana cs pr t x < 256
  | [], _, h => h
  | e :: t, x, h => by
    unfold ana
    split
    · exact h
    · split
      · exact ana_lt t _ (mdiff_lt (or_lt256 h (xVars_lt _)))
      · exact ana_lt t _ h
theorem lrn_lt {cs : List Nat} {tr : List Ent} {c : Nat} : lrnVars cs tr c < 256 := ana_lt _ _ (xVars_lt _)
/-! what a text that is read holds -/
def tsX (s : TS) : Prop := (s.2.1 = 1 → s.2.2.1 &&& s.2.2.2 = 0) ∧ (s.2.1 = 3 → s.2.2.2 < 2) ∧ (s.2.1 = 0 → s.2.2.1 = 0 ∧ s.2.2.2 = 0) ∧ (s.2.1 = 2 → s.2.2.1 = 0) ∧ ∀ x ∈ s.1, xOK x
theorem newL_not {c b u : Nat} (h : newL c b u = true) : u.testBit (c - b) = false := by
  unfold newL at h
  rw [Bool.and_eq_true, Bool.not_eq_true'] at h
  exact h.2
theorem or1_and {a b v : Nat} (h : a &&& b = 0) (hb : b.testBit v = false) : (a ||| 1 <<< v) &&& b = 0 := by
  refine and_zero (fun i h1 h2 => ?_)
  rw [Nat.testBit_or, bit1] at h1
  rcases (Bool.or_eq_true _ _).mp h1 with h1 | h1
  · rw [and_zero_tb h h1] at h2; cases h2
  · rw [← of_decide_eq_true h1, hb] at h2; cases h2
theorem and_comm0 {a b : Nat} (h : a &&& b = 0) : b &&& a = 0 := by rw [Nat.and_comm]; exact h
theorem clL_x {cs : List Nat} {i1 i2 c : Nat} (h : i1 &&& i2 = 0) (hx : ∀ x ∈ cs, xOK x) : tsX (clL (cs, 1, i1, i2) c).2 := by
  unfold clL
  split
  · rename_i hn
    have h1 := newL_not hn
    rw [Nat.testBit_or, Bool.or_eq_false_iff] at h1
    exact ⟨fun _ => or1_and h h1.2, fun w => (by cases w), fun w => (by cases w), fun w => (by cases w), hx⟩
  · split
    · rename_i hn
      have h1 := newL_not hn
      rw [Nat.testBit_or, Bool.or_eq_false_iff] at h1
      exact ⟨fun _ => and_comm0 (or1_and (and_comm0 h) h1.1), fun w => (by cases w), fun w => (by cases w), fun w => (by cases w), hx⟩
    · exact ⟨fun _ => h, fun w => (by cases w), fun w => (by cases w), fun w => (by cases w), hx⟩
theorem endS_x {s : TS} {x : Nat} (hx : ∀ x ∈ s.1, xOK x) (h : xOK x) : tsX (endS s x).2 := by
  refine ⟨fun w => (by cases w), fun w => (by cases w), fun _ => ⟨rfl, rfl⟩, fun w => (by cases w), fun y hy => ?_⟩
  rcases List.mem_append.mp hy with h1 | h1
  · exact hx y h1
  · rw [List.mem_singleton.mp h1]; exact h
theorem txStep_x {s : TS} {c : Nat} (h : tsX s) (ho : tsOK s) (hc : c < 256) : tsX (txStep s c).2 := by
  obtain ⟨cs, pl, i1, i2⟩ := s
  have h0 := h
  obtain ⟨h1, h2, h3, h4, h5⟩ := h
  obtain ⟨o1, o2, o3, o4, o5⟩ := ho
  simp only [] at h1 h2 h3 h4 h5 o1 o2 o3 o4 o5
  rcases (show pl = 0 ∨ pl = 1 ∨ pl = 2 ∨ pl = 3 by omega) with rfl | rfl | rfl | rfl
  · rw [txStep_0]
    obtain ⟨rfl, rfl⟩ := h3 rfl
    unfold fstS
    split
    · exact h0
    · split
      · exact ⟨fun w => (by cases w), fun w => (by cases w), fun w => (by cases w), fun _ => rfl, h5⟩
      · exact clL_x (show 0 &&& 0 = 0 by decide) h5
  · by_cases hc : c = 59
    · rw [txStep_1c _ _ _ hc]; exact endS_x h5 (xOK_clause o2 o3 (h1 rfl))
    · rw [txStep_1n _ _ _ hc]; exact clL_x (h1 rfl) h5
  · rw [txStep_2]
    unfold bitS
    split
    · exact ⟨fun w => (by cases w), fun _ => (by show c - 48 < 2; omega), fun w => (by cases w), fun w => (by cases w), h5⟩
    · exact h0
  · rw [txStep_3]
    unfold parS
    split
    · split
      · exact h0
      · exact endS_x h5 (xOK_parity o2 (h2 rfl))
    · split
      · exact ⟨fun w => (by cases w), fun _ => h2 rfl, fun w => (by cases w), fun w => (by cases w), h5⟩
      · exact h0
theorem txRun_x {tx : List Nat} (hch : ∀ c ∈ tx, c < 256) : ∀ (n i : Nat) (s : TS), i + n = tx.length → tsX s → tsOK s → tsX (txRun tx n i s).2 ∧ tsOK (txRun tx n i s).2
  | 0, i, s, _, h1, h2 => ⟨h1, h2⟩
  | n + 1, i, s, hi, h1, h2 => by
    have hc : cAt tx i < 256 := hch _ (cAt_mem (by omega))
    unfold txRun
    split
    · exact txRun_x hch n (i + 1) _ (by omega) (txStep_x h1 h2 hc) (txStep_ok h2)
    · exact ⟨txStep_x h1 h2 hc, txStep_ok h2⟩
theorem rdText_ok {tx : List Nat} (hch : ∀ c ∈ tx, c < 256) : csOK (rdText tx).2.1 := by
  have h := txRun_x hch tx.length 0 ([], 0, 0, 0) (by omega) ⟨fun w => (by cases w), fun w => (by cases w), fun _ => ⟨rfl, rfl⟩, fun w => (by cases w), fun x hx => (by cases hx)⟩ ⟨(show 0 ≤ 3 by decide), (show 0 < 256 by decide), (show 0 < 256 by decide), (show 0 ≤ 24 by decide), fun w => absurd rfl w⟩
  exact ⟨h.2.2.2.2.1, h.1.2.2.2.2⟩
/-! core, and solving -/
noncomputable def coreF (cs : List Nat) (m : Nat) : Nat → Nat
  | 0 => m
  | i + 1 => if canS cs (mdiff (coreF cs m i) (1 <<< i)) then coreF cs m i else mdiff (coreF cs m i) (1 <<< i)
noncomputable def coreO (cs : List Nat) : Option Nat := if canS cs (1 <<< cs.length - 1) then none else some (coreF cs (1 <<< cs.length - 1) cs.length)
theorem coreF_lt {cs : List Nat} {m : Nat} (hm : m < 16777216) : ∀ i, coreF cs m i < 16777216
  | 0 => hm
  | i + 1 => by
    unfold coreF
    split
    · exact coreF_lt hm i
    · exact mdiff_lt (coreF_lt hm i)
theorem core_t {cs : List Nat} {m i : Nat} (h : canS cs (mdiff (coreF cs m i) (1 <<< i)) = true) : coreF cs m (i + 1) = coreF cs m i := by
  show (if _ then _ else _) = _; rw [if_pos h]
theorem core_f {cs : List Nat} {m i : Nat} (h : canS cs (mdiff (coreF cs m i) (1 <<< i)) = false) : coreF cs m (i + 1) = mdiff (coreF cs m i) (1 <<< i) := by
  show (if _ then _ else _) = _; rw [if_neg (by simp [h])]
theorem one_shl_lt {n : Nat} (h : n ≤ 24) : 1 <<< n ≤ 16777216 ∧ 1 ≤ 1 <<< n := by
  rw [Nat.one_shiftLeft]
  exact ⟨by rw [show (16777216 : Nat) = 2 ^ 24 by decide]; exact Nat.pow_le_pow_right (by decide) h, Nat.one_le_two_pow⟩
def dstep (c : List Nat) (d : List Nat) (v : Nat) : List Nat := if (build c d).2 = none ∧ (tA (build c d).1).testBit v = false then sNew c (d ++ [2 * v]) else d
def decF (c : List Nat) (d : List Nat) : Nat → List Nat
  | 0 => d
  | v + 1 => dstep c (decF c d v) v
def solveF : Nat → Nat → List Nat → List Nat → Int32
  | 0, _, _, _ => -90
  | f + 1, n, c, d => match (build c (decF c d 8)).2 with
    | none => nI n
    | some q => if (decF c d 8).length = 0 then -1 - nI n else if 24 ≤ c.length then -90 else
      let L := lrnVars c (build c (decF c d 8)).1 q
      let c2 := c ++ [falseCl (build c (decF c d 8)).1 L]
      solveF f (n + 1) c2 (sNew c2 ((decF c d 8).take (bjLev (build c (decF c d 8)).1 L)))
def dOK (c d : List Nat) : Prop := (∀ x ∈ d, x < 16) ∧ tL (build c d).1 = d.length ∧ d.length ≤ 8
theorem dOK.new {c d' : List Nat} (h : ∀ x ∈ d', x < 16) (hl : d'.length ≤ 8) : dOK c (sNew c d') := by
  obtain ⟨h1, h2⟩ := sNew_spec c d'
  exact ⟨sNew_16 h, by rw [h1, h2], by unfold sNew; rw [List.length_take]; omega⟩
theorem dstep_t {c d : List Nat} {v : Nat} (h1 : (build c d).2 = none) (h2 : (tA (build c d).1).testBit v = false) : dstep c d v = sNew c (d ++ [2 * v]) := by
  unfold dstep; rw [if_pos ⟨h1, h2⟩]
theorem dstep_f {c d : List Nat} {v : Nat} (h : (tA (build c d).1).testBit v = true) : dstep c d v = d := by
  unfold dstep; rw [if_neg (by simp [h])]
theorem dstep_c {c d : List Nat} {v : Nat} (h : (build c d).2 ≠ none) : dstep c d v = d := by
  unfold dstep; rw [if_neg (fun w => h w.1)]
theorem decF_c {c d e : List Nat} {v : Nat} (he : decF c d v = e) (h : (build c e).2 ≠ none) : ∀ m, decF c d (v + m) = e
  | 0 => he
  | m + 1 => by
    show dstep c (decF c d (v + m)) (v + m) = e
    rw [decF_c he h m]; exact dstep_c h
theorem SolAt.cp {k : KX} {M M' : Mem} {cs ds c d : List Nat} {mem : List SD} {sl : Nat → Option SD} {tx : List Nat} {tr : List Ent} {cf : Option Nat} (h : SolAt k M cs ds mem sl tx) (hf : ∀ i, (i < 21 ∨ 29 ≤ i) → M' i = M i) (hS : StAt k M' 21 c d) (hT : TrAt k M' 25 tr cf) : SolAt k M' cs ds mem sl tx := by
  obtain ⟨h1, F0, h2, h3, h4, h5, h6, h7, -, -, h10⟩ := h
  exact ⟨h1, by rw [hf 0 (by omega)]; exact F0, h2.fr (fun i _ _ => hf i (by omega)), h3.fr (fun i _ _ => hf i (by omega)), h4.fr (fun i _ _ => hf i (by omega)), h5.fr (fun i _ _ => hf i (by omega)), h6.fr (fun i _ _ => hf i (by omega)), h7.fr (fun i _ _ => hf i (by omega)), ⟨c, d, hS⟩, ⟨tr, cf, hT⟩, h10⟩
theorem solve_none {f n : Nat} {c d : List Nat} {R : Int32} (h : solveF (f + 1) n c d = R) (h1 : (build c (decF c d 8)).2 = none) : R = nI n := by
  rw [← h, solveF, h1]
theorem solve_zero {f n : Nat} {c d : List Nat} {R : Int32} {q : Nat} (h : solveF (f + 1) n c d = R) (h1 : (build c (decF c d 8)).2 = some q) (h2 : (decF c d 8).length = 0) : R = -1 - nI n := by
  rw [← h, solveF, h1]; simp only []; rw [if_pos h2]
theorem solve_full {f n : Nat} {c d : List Nat} {R : Int32} {q : Nat} (h : solveF (f + 1) n c d = R) (h1 : (build c (decF c d 8)).2 = some q) (h2 : (decF c d 8).length ≠ 0) (h3 : 24 ≤ c.length) : R = -90 := by
  rw [← h, solveF, h1]; simp only []; rw [if_neg h2, if_pos h3]
theorem solve_next {f n : Nat} {c d : List Nat} {R : Int32} {q : Nat} (h : solveF (f + 1) n c d = R) (h1 : (build c (decF c d 8)).2 = some q) (h2 : (decF c d 8).length ≠ 0) (h3 : c.length < 24) :
    solveF f (n + 1) (c ++ [falseCl (build c (decF c d 8)).1 (lrnVars c (build c (decF c d 8)).1 q)]) (sNew (c ++ [falseCl (build c (decF c d 8)).1 (lrnVars c (build c (decF c d 8)).1 q)]) ((decF c d 8).take (bjLev (build c (decF c d 8)).1 (lrnVars c (build c (decF c d 8)).1 q)))) = R := by
  rw [← h, solveF, h1]; simp only []; rw [if_neg h2, if_neg (by omega)]
