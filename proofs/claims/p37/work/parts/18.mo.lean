/-! the table of models (17, 18), the elimination (19, 20) -/
def vsetF (cs : List Nat) (a : Nat) : Nat → Nat
  | 0 => 0
  | n + 1 => if xViol (cAt cs n) a then vsetF cs a n ||| (1 <<< n) else vsetF cs a n
def vset (cs : List Nat) (a : Nat) : Nat := vsetF cs a cs.length
def cntP (p : Nat → Bool) : Nat → Nat
  | 0 => 0
  | n + 1 => cntP p n + (if p n then 1 else 0)
def nthF (p : Nat → Bool) (x : Int32) : Nat → Nat → Nat → Option Nat
  | 0, _, _ => none
  | n + 1, a, f => if p a then (if nI f = x then some a else nthF p x n (a + 1) (f + 1)) else nthF p x n (a + 1) f
def isMod (cs : List Nat) (a : Nat) : Bool := decide (vset cs a = 0)
theorem vsetF_lt {cs : List Nat} {a : Nat} : ∀ n, n ≤ 24 → vsetF cs a n < 2 ^ 24
  | 0, _ => by show 0 < 2 ^ 24; decide
  | n + 1, h => by
    unfold vsetF
    have h1 := vsetF_lt (cs := cs) (a := a) n (by omega)
    split
    · exact or_lt8 24 h1 (by rw [Nat.one_shiftLeft]; exact Nat.pow_lt_pow_right (by decide) (by omega))
    · exact h1
theorem vset_lt {cs : List Nat} {a : Nat} (h : cs.length ≤ 24) : vset cs a < 16777216 := vsetF_lt _ h
theorem cntP_le (p : Nat → Bool) : ∀ n, cntP p n ≤ n
  | 0 => Nat.le_refl _
  | n + 1 => by
    have := cntP_le p n
    unfold cntP; split <;> omega
theorem cnt_t {p : Nat → Bool} {n : Nat} (h : p n = true) : cntP p (n + 1) = cntP p n + 1 := by
  show cntP p n + (if p n then 1 else 0) = _; rw [if_pos h]
theorem cnt_f {p : Nat → Bool} {n : Nat} (h : p n = false) : cntP p (n + 1) = cntP p n := by
  show cntP p n + (if p n then 1 else 0) = _; rw [if_neg (by simp [h])]; rfl
theorem nth_at {p : Nat → Bool} {x : Int32} {N a f : Nat} (h : a < N) : nthF p x (N - a) a f = if p a then (if nI f = x then some a else nthF p x (N - (a + 1)) (a + 1) (f + 1)) else nthF p x (N - (a + 1)) (a + 1) f := by
  obtain ⟨m, hm⟩ : ∃ m, N - a = m + 1 := ⟨N - a - 1, by omega⟩
  rw [hm, show N - (a + 1) = m by omega]; rfl
def MoAt (k : KX) (M : Mem) (cs : List Nat) : Prop := 19 ≤ kN k ∧ ∃ (st : Bool) (f : Nat → Nat), M 17 = .inr (4, [.ref (ad k 18), .int (bI st)]) ∧ M 18 = .inl (kI k, 256, .inl (fun q => nI (f q))) ∧ (st = false → ∀ a, a < 256 → f a = vset cs a)
def MoOK (k : KX) (M : Mem) (cs : List Nat) : Prop := 19 ≤ kN k ∧ ∃ (f : Nat → Nat), M 17 = .inr (4, [.ref (ad k 18), .int (bI false)]) ∧ M 18 = .inl (kI k, 256, .inl (fun q => nI (f q))) ∧ ∀ a, a < 256 → f a = vset cs a
theorem MoAt.fr {k : KX} {M M' : Mem} {cs : List Nat} (h : MoAt k M cs) (hf : ∀ i, 17 ≤ i → i < 19 → M' i = M i) : MoAt k M' cs := by
  obtain ⟨h1, st, f, F0, F1, h2⟩ := h
  exact ⟨h1, st, f, by rw [hf 17 (by omega) (by omega)]; exact F0, by rw [hf 18 (by omega) (by omega)]; exact F1, h2⟩
theorem MoOK.fr {k : KX} {M M' : Mem} {cs : List Nat} (h : MoOK k M cs) (hf : ∀ i, 17 ≤ i → i < 19 → M' i = M i) : MoOK k M' cs := by
  obtain ⟨h1, f, F0, F1, h2⟩ := h
  exact ⟨h1, f, by rw [hf 17 (by omega) (by omega)]; exact F0, by rw [hf 18 (by omega) (by omega)]; exact F1, h2⟩
theorem MoOK.at {k : KX} {M : Mem} {cs : List Nat} (h : MoOK k M cs) : MoAt k M cs := by
  obtain ⟨h1, f, F0, F1, h2⟩ := h; exact ⟨h1, false, f, F0, F1, fun _ => h2⟩
theorem MoAt.obj {k : KX} {M : Mem} {cs : List Nat} (h : MoAt k M cs) : ∃ fs, M 17 = .inr (4, fs) := by
  obtain ⟨_, st, f, F0, _⟩ := h; exact ⟨_, F0⟩
theorem MoOK.obj {k : KX} {M : Mem} {cs : List Nat} (h : MoOK k M cs) : ∃ fs, M 17 = .inr (4, fs) := by
  obtain ⟨_, f, F0, _⟩ := h; exact ⟨_, F0⟩
abbrev EL : Type := (Nat → Nat) × Nat × Bool
def redF (r : Nat → Nat) : Nat → Nat → Nat
  | 0, x => x
  | n + 1, x => if (redF r n x).testBit n then redF r n x ^^^ r n else redF r n x
def xRow (x : Nat) : Nat := x &&& 4294901759
def subF (r : Nat → Nat) (pv row : Nat) : Nat → Nat := fun v => if (r v).testBit pv then r v ^^^ row else r v
def insF (e : EL) (row : Nat) : EL := match lowO (xFirst row) with
  | none => (e.1, e.2.1, e.2.2 && decide (row = 0))
  | some pv => (va_up (subF e.1 pv row) pv row, e.2.1 + 1, e.2.2)
def elF (cs : List Nat) : Nat → EL
  | 0 => (fun _ => 0, 0, true)
  | n + 1 => if xPar (cAt cs n) then insF (elF cs n) (redF (elF cs n).1 8 (xRow (cAt cs n))) else elF cs n
def elRun (cs : List Nat) : EL := elF cs cs.length
def ElAt (k : KX) (M : Mem) : Prop := 21 ≤ kN k ∧ ∃ (r : Nat → Nat) (n : Nat) (c : Bool), M 19 = .inr (0, [.ref (ad k 20), .int (nI n), .int (bI c)]) ∧ M 20 = .inl (kI k, 8, .inl (fun q => nI (r q)))
def ElOK (k : KX) (M : Mem) (e : EL) : Prop := 21 ≤ kN k ∧ ∃ (r : Nat → Nat), M 19 = .inr (0, [.ref (ad k 20), .int (nI e.2.1), .int (bI e.2.2)]) ∧ M 20 = .inl (kI k, 8, .inl (fun q => nI (r q))) ∧ ∀ v, v < 8 → r v = e.1 v
theorem ElAt.fr {k : KX} {M M' : Mem} (h : ElAt k M) (hf : ∀ i, 19 ≤ i → i < 21 → M' i = M i) : ElAt k M' := by
  obtain ⟨h1, r, n, c, F0, F1⟩ := h
  exact ⟨h1, r, n, c, by rw [hf 19 (by omega) (by omega)]; exact F0, by rw [hf 20 (by omega) (by omega)]; exact F1⟩
theorem ElOK.fr {k : KX} {M M' : Mem} {e : EL} (h : ElOK k M e) (hf : ∀ i, 19 ≤ i → i < 21 → M' i = M i) : ElOK k M' e := by
  obtain ⟨h1, r, F0, F1, h2⟩ := h
  exact ⟨h1, r, by rw [hf 19 (by omega) (by omega)]; exact F0, by rw [hf 20 (by omega) (by omega)]; exact F1, h2⟩
theorem ElOK.at {k : KX} {M : Mem} {e : EL} (h : ElOK k M e) : ElAt k M := by
  obtain ⟨h1, r, F0, F1, h2⟩ := h; exact ⟨h1, r, _, _, F0, F1⟩
theorem ElAt.obj {k : KX} {M : Mem} (h : ElAt k M) : ∃ fs, M 19 = .inr (0, fs) := by
  obtain ⟨_, r, n, c, F0, _⟩ := h; exact ⟨_, F0⟩
theorem ElOK.obj {k : KX} {M : Mem} {e : EL} (h : ElOK k M e) : ∃ fs, M 19 = .inr (0, fs) := by
  obtain ⟨_, r, F0, _⟩ := h; exact ⟨_, F0⟩
def elB (e : EL) : Prop := (∀ v, v < 8 → e.1 v < 65536) ∧ e.2.1 ≤ 24
theorem redF_lt {r : Nat → Nat} (hr : ∀ v, v < 8 → r v < 65536) {x : Nat} (hx : x < 65536) : ∀ n, n ≤ 8 → redF r n x < 65536
  | 0, _ => hx
  | n + 1, h => by
    unfold redF
    have h1 := redF_lt hr hx n (by omega)
    split
    · exact Nat.xor_lt_two_pow (n := 16) h1 (hr n (by omega))
    · exact h1
theorem red_t {r : Nat → Nat} {n x : Nat} (h : (redF r n x).testBit n = true) : redF r (n + 1) x = redF r n x ^^^ r n := by
  show (if _ then _ else _) = _; rw [if_pos h]
theorem red_f {r : Nat → Nat} {n x : Nat} (h : (redF r n x).testBit n = false) : redF r (n + 1) x = redF r n x := by
  show (if _ then _ else _) = _; rw [if_neg (by simp [h])]
theorem redF_congr {r r' : Nat → Nat} {x : Nat} : ∀ n, (∀ v, v < n → r v = r' v) → redF r n x = redF r' n x
  | 0, _ => rfl
  | n + 1, h => by
    unfold redF
    rw [redF_congr n (fun v hv => h v (by omega)), h n (by omega)]
theorem xRow_lt {x : Nat} (h : x < 131072) : xRow x < 65536 := by
  unfold xRow
  rw [show (65536 : Nat) = 2 ^ 16 by decide]
  apply Nat.lt_pow_two_of_testBit
  intro j hj
  rw [Nat.testBit_and]
  by_cases e : j = 16
  · subst e
    rw [show Nat.testBit 4294901759 16 = false by decide, Bool.and_false]
  · have h1 : x.testBit j = false := Nat.testBit_lt_two_pow (Nat.lt_of_lt_of_le h (by rw [show (131072 : Nat) = 2 ^ 17 by decide]; exact Nat.pow_le_pow_right (by decide) (by omega)))
    rw [h1, Bool.false_and]
section NTH
variable {p : Nat → Bool} {x : Int32} {N i w : Nat} {R : Option Nat}
theorem nth_miss (h : nthF p x (N - i) i w = R) (hi : i < N) (hb : p i = false) : nthF p x (N - (i + 1)) (i + 1) w = R := by
  rw [nth_at hi, if_neg (by simp [hb])] at h; exact h
theorem nth_next (h : nthF p x (N - i) i w = R) (hi : i < N) (hb : p i = true) (hx : ¬ nI w = x) : nthF p x (N - (i + 1)) (i + 1) (w + 1) = R := by
  rw [nth_at hi, if_pos hb, if_neg hx] at h; exact h
theorem nth_hit (h : nthF p x (N - i) i w = R) (hi : i < N) (hb : p i = true) (hx : nI w = x) : R = some i := by
  rw [nth_at hi, if_pos hb, if_pos hx] at h; exact h.symm
theorem nth_end (h : nthF p x (N - i) i w = R) (hi : N ≤ i) : R = none := by
  rw [show N - i = 0 by omega] at h; exact h.symm
end NTH
theorem isMod_t {cs : List Nat} {a : Nat} (h : vset cs a = 0) : isMod cs a = true := decide_eq_true h
theorem isMod_f {cs : List Nat} {a : Nat} (h : vset cs a ≠ 0) : isMod cs a = false := decide_eq_false h
noncomputable def pB (P : Prop) : Bool := @decide P (Classical.propDecidable P)
theorem pB_t {P : Prop} (h : P) : pB P = true := @decide_eq_true P (Classical.propDecidable P) h
theorem pB_f {P : Prop} (h : ¬ P) : pB P = false := @decide_eq_false P (Classical.propDecidable P) h
theorem pB_iff {P Q : Prop} (h : P ↔ Q) : pB P = pB Q := by rw [show P = Q from propext h]
noncomputable def allS (cs : List Nat) (x : Nat) : Bool := pB (∀ a, a < 256 → isMod cs a = true → xViol x a = false)
noncomputable def canS (cs : List Nat) (m : Nat) : Bool := pB (∃ a, a < 256 ∧ vset cs a &&& m = 0)
theorem allS_no {cs : List Nat} {x a : Nat} (ha : a < 256) (h1 : vset cs a = 0) (h2 : xViol x a = true) : allS cs x = false := by
  refine pB_f (fun h => ?_)
  have := h a ha (decide_eq_true h1)
  rw [h2] at this; cases this
theorem sat_step {cs : List Nat} {x i : Nat} (hh : ∀ a, a < i → isMod cs a = true → xViol x a = false) (h : isMod cs i = true → xViol x i = false) : ∀ a, a < i + 1 → isMod cs a = true → xViol x a = false := by
  intro a ha
  by_cases e : a = i
  · subst e; exact h
  · exact hh a (by omega)
theorem can_step {cs : List Nat} {m i : Nat} (hh : ∀ a, a < i → vset cs a &&& m ≠ 0) (h : vset cs i &&& m ≠ 0) : ∀ a, a < i + 1 → vset cs a &&& m ≠ 0 := by
  intro a ha
  by_cases e : a = i
  · subst e; exact h
  · exact hh a (by omega)
theorem lowO_lt {a v : Nat} (h : lowO a = some v) : v < 8 := by
  unfold lowO at h
  rw [lowFrom_fst] at h
  have := fst_lt _ _ _ h
  omega
theorem inL_lowO_t {a : Nat} (h : inL (oI (lowO a)) 8 = true) : ∃ v, v < 8 ∧ lowO a = some v := by
  cases e : lowO a with
  | none => rw [e, oI_none, inL_m9] at h; cases h
  | some v => exact ⟨v, lowO_lt e, rfl⟩
theorem inL_lowO_f {a : Nat} (h : inL (oI (lowO a)) 8 = false) : lowO a = none := by
  cases e : lowO a with
  | none => rfl
  | some v =>
    have := lowO_lt e
    rw [e, oI_some, inL_n (by omega) (by decide)] at h
    simp at h; omega
theorem insF_none {e : EL} {row : Nat} (h : lowO (xFirst row) = none) : insF e row = (e.1, e.2.1, e.2.2 && decide (row = 0)) := by
  unfold insF; rw [h]
theorem insF_some {e : EL} {row pv : Nat} (h : lowO (xFirst row) = some pv) : insF e row = (va_up (subF e.1 pv row) pv row, e.2.1 + 1, e.2.2) := by
  unfold insF; rw [h]
theorem sub_step {r h : Nat → Nat} {pv row i x : Nat} (hh : ∀ v, v < 8 → h v = if v < i then subF r pv row v else r v) (hx : x = subF r pv row i) : ∀ v, v < 8 → va_up h i x v = if v < i + 1 then subF r pv row v else r v := by
  intro v hv
  by_cases e : v = i
  · subst e; rw [up_s, if_pos (by omega)]; exact hx
  · rw [up_n _ _ e, hh v hv]
    by_cases e2 : v < i
    · rw [if_pos e2, if_pos (by omega)]
    · rw [if_neg e2, if_neg (by omega)]
theorem sub_skip {r h : Nat → Nat} {pv row i : Nat} (hh : ∀ v, v < 8 → h v = if v < i then subF r pv row v else r v) (hi : i < 8) (hb : (r i).testBit pv = false) : ∀ v, v < 8 → h v = if v < i + 1 then subF r pv row v else r v := by
  intro v hv
  rw [hh v hv]
  by_cases e : v = i
  · subst e; rw [if_neg (by omega), if_pos (by omega)]; unfold subF; rw [if_neg (by simp [hb])]
  · by_cases e2 : v < i
    · rw [if_pos e2, if_pos (by omega)]
    · rw [if_neg e2, if_neg (by omega)]
theorem sub_end {r h : Nat → Nat} {pv row i : Nat} (hi : 8 ≤ i) (hh : ∀ v, v < 8 → h v = if v < i then subF r pv row v else r v) : ∀ v, v < 8 → va_up h pv row v = va_up (subF r pv row) pv row v := by
  intro v hv
  by_cases e : v = pv
  · subst e; rw [up_s, up_s]
  · rw [up_n _ _ e, up_n _ _ e, hh v hv, if_pos (by omega)]
theorem insF_congr {r : Nat → Nat} {e : EL} {row : Nat} (h : ∀ v, v < 8 → r v = e.1 v) : (insF (r, e.2.1, e.2.2) row).2 = (insF e row).2 ∧ ∀ v, v < 8 → (insF (r, e.2.1, e.2.2) row).1 v = (insF e row).1 v := by
  cases hl : lowO (xFirst row) with
  | none => rw [insF_none hl, insF_none hl]; exact ⟨rfl, h⟩
  | some pv =>
    rw [insF_some hl, insF_some hl]
    refine ⟨rfl, fun v hv => ?_⟩
    by_cases e1 : v = pv
    · subst e1; simp only [up_s]
    · simp only [up_n _ _ e1, subF, h v hv]
theorem insF_B {e : EL} {row : Nat} (h : ∀ v, v < 8 → e.1 v < 65536) (hr : row < 65536) : ∀ v, v < 8 → (insF e row).1 v < 65536 := by
  intro v hv
  cases hl : lowO (xFirst row) with
  | none => rw [insF_none hl]; exact h v hv
  | some pv =>
    rw [insF_some hl]
    show va_up (subF e.1 pv row) pv row v < 65536
    by_cases e1 : v = pv
    · subst e1; rw [up_s]; exact hr
    · rw [up_n _ _ e1]; unfold subF
      split
      · exact Nat.xor_lt_two_pow (n := 16) (h v hv) hr
      · exact h v hv
theorem insF_n {e : EL} {row : Nat} : (insF e row).2.1 ≤ e.2.1 + 1 := by
  cases hl : lowO (xFirst row) with
  | none => rw [insF_none hl]; exact Nat.le_succ _
  | some pv => rw [insF_some hl]; exact Nat.le_refl _
theorem elF_t {cs : List Nat} {n : Nat} (h : xPar (cAt cs n) = true) : elF cs (n + 1) = insF (elF cs n) (redF (elF cs n).1 8 (xRow (cAt cs n))) := by
  show (if _ then _ else _) = _; rw [if_pos h]
theorem elF_f {cs : List Nat} {n : Nat} (h : xPar (cAt cs n) = false) : elF cs (n + 1) = elF cs n := by
  show (if _ then _ else _) = _; rw [if_neg (by simp [h])]
theorem elF_B {cs : List Nat} (hc : ∀ i, cAt cs i < 131072) : ∀ n, (∀ v, v < 8 → (elF cs n).1 v < 65536) ∧ (elF cs n).2.1 ≤ n
  | 0 => ⟨fun v _ => by show 0 < 65536; decide, Nat.le_refl _⟩
  | n + 1 => by
    obtain ⟨h1, h2⟩ := elF_B hc n
    cases hp : xPar (cAt cs n) with
    | false => rw [elF_f hp]; exact ⟨h1, by omega⟩
    | true =>
      rw [elF_t hp]
      refine ⟨insF_B h1 (redF_lt h1 (xRow_lt (hc n)) 8 (by decide)), ?_⟩
      have := insF_n (e := elF cs n) (row := redF (elF cs n).1 8 (xRow (cAt cs n)))
      omega
def rowF (e : EL) (x : Int32) : Option Nat := (nthF (fun v => decide (e.1 v ≠ 0)) x 8 0 0).map e.1
