/-! the pure picture: constraints as codes, the trail as a list of entries (newest first), and what is computed of them -/
def mdiff (a b : Nat) : Nat := a &&& (b ^^^ 4294967295)
def pcN : Nat → Nat → Nat
  | 0, _ => 0
  | n + 1, a => pcN n a + (if a.testBit n then 1 else 0)
def lowFrom (a : Nat) : Nat → Nat → Option Nat
  | 0, _ => none
  | n + 1, v => if a.testBit v then some v else lowFrom a n (v + 1)
/-- the smallest variable of a set -/
def lowO (a : Nat) : Option Nat := lowFrom a 8 0
def low (a : Nat) : Nat := (lowO a).getD 0
def xFirst (x : Nat) : Nat := x &&& 255
def xSecond (x : Nat) : Nat := (x >>> 8) &&& 255
def xPar (x : Nat) : Bool := x.testBit 16
def xVars (x : Nat) : Nat := if xPar x then x &&& 255 else (x ||| (x >>> 8)) &&& 255
def xViol (x t : Nat) : Bool := if xPar x then !(decide (pcN 8 (xFirst x &&& t) % 2 = xSecond x)) else decide (xFirst x &&& t = 0) && decide (mdiff (xSecond x) t = 0)
def xClause (p n : Nat) : Nat := (n <<< 8) ||| p
def xParity (m b : Nat) : Nat := 65536 ||| (b <<< 8) ||| m
/-- a code that a formula may hold -/
def xOK (x : Nat) : Prop := x < 131072 ∧ (xPar x = true → xSecond x < 2) ∧ (xPar x = false → xFirst x &&& xSecond x = 0)
def cAt (cs : List Nat) (i : Nat) : Nat := cs.getD i 0
def csOK (cs : List Nat) : Prop := cs.length ≤ 24 ∧ ∀ x ∈ cs, xOK x
/-- violated, or unit -/
def xAct (x A T : Nat) : Bool := decide (pcN 8 (mdiff (xVars x) A) ≤ 1) && (xViol x T || xViol x (T ||| mdiff (xVars x) A))
def fstFrom (p : Nat → Bool) : Nat → Nat → Option Nat
  | 0, _ => none
  | n + 1, i => if p i then some i else fstFrom p n (i + 1)
def fstAct (cs : List Nat) (A T : Nat) : Option Nat := fstFrom (fun i => xAct (cAt cs i) A T) cs.length 0
abbrev Ent : Type := Nat × Bool × Option Nat
def tA : List Ent → Nat
  | [] => 0
  | e :: t => tA t ||| (1 <<< e.1)
def tT : List Ent → Nat
  | [] => 0
  | e :: t => if e.2.1 then tT t ||| (1 <<< e.1) else tT t
def tL : List Ent → Nat
  | [] => 0
  | e :: t => tL t + (if e.2.2 = none then 1 else 0)
def tB : List Ent → Nat
  | [] => 0
  | e :: t => if e.2.2 = none then tA t else tB t
def tOrd : List Ent → Nat → Nat
  | [], _ => 0
  | e :: t, j => if j = t.length then e.1 else tOrd t j
def tLev : List Ent → Nat → Nat
  | [], _ => 0
  | e :: t, v => if v = e.1 then tL (e :: t) else tLev t v
def tRsn : List Ent → Nat → Option Nat
  | [], _ => none
  | e :: t, v => if v = e.1 then e.2.2 else tRsn t v
def tPl : List Ent → Nat → Nat
  | [], _ => 0
  | e :: t, v => if v = e.1 then t.length else tPl t v
def propF (cs : List Nat) : Nat → List Ent → List Ent × Option Nat
  | 0, tr => (tr, none)
  | n + 1, tr => match fstAct cs (tA tr) (tT tr) with
    | none => (tr, none)
    | some i => if mdiff (xVars (cAt cs i)) (tA tr) = 0 then (tr, some i) else propF cs n ((low (mdiff (xVars (cAt cs i)) (tA tr)), xViol (cAt cs i) (tT tr), some i) :: tr)
def prop (cs : List Nat) (tr : List Ent) : List Ent × Option Nat := propF cs 9 tr
def okDec (s : List Ent × Option Nat) (d : Nat) : Bool := decide (s.2 = none) && !((tA s.1).testBit (d / 2))
def buildF (cs : List Nat) : List Nat → List Ent × Option Nat → List Ent × Option Nat
  | [], s => s
  | d :: ds, s => if okDec s d then buildF cs ds (prop cs ((d / 2, decide (d % 2 = 0), none) :: s.1)) else s
def build (cs ds : List Nat) : List Ent × Option Nat := buildF cs ds (prop cs [])
/-- the pass from the trail's end; pr: the variables of the present level -/
def ana (cs : List Nat) (pr : Nat) : List Ent → Nat → Nat
  | [], set => set
  | e :: t, set => if pcN 8 (set &&& pr) ≤ 1 then set else if set.testBit e.1 then ana cs pr t (mdiff (set ||| xVars (cAt cs (e.2.2.getD 24))) (1 <<< e.1)) else ana cs pr t set
def lrnVars (cs : List Nat) (tr : List Ent) (cf : Nat) : Nat := ana cs (mdiff (tA tr) (tB tr)) tr (xVars (cAt cs cf))
def bjF (p : Nat → Bool) (lv : Nat → Nat) : Nat → Nat
  | 0 => 0
  | n + 1 => if p n then max (bjF p lv n) (lv n) else bjF p lv n
def bjLev (tr : List Ent) (set : Nat) : Nat := bjF (fun v => (set &&& tB tr).testBit v) (tLev tr) 8
def falseCl (tr : List Ent) (set : Nat) : Nat := xClause (mdiff set (tT tr)) (set &&& tT tr)
/-! first rows over them -/
theorem pP_i {v w : Int32} {M : Mem} (h : v = w) : pP (.int w) M (some (.int v)) M := ⟨by rw [h], rfl⟩
theorem pP_n {M : Mem} : pV (fun M' => M' = M) none M := ⟨rfl, rfl⟩
theorem tb_and1 (A v : Nat) : A >>> v &&& 1 = if A.testBit v then 1 else 0 := by
  rw [Nat.and_one_is_mod, Nat.shiftRight_eq_div_pow, Nat.testBit_eq_decide_div_mod_eq]
  have := Nat.mod_two_eq_zero_or_one (A / 2 ^ v)
  rcases this with h | h <;> simp [h]
theorem tb_lt (A v : Nat) : A >>> v &&& 1 < 2 ^ 31 := by
  rw [tb_and1]; split <;> decide
theorem tb_1 {A v : Nat} (h : A >>> v &&& 1 = 1) : A.testBit v = true := by
  rw [tb_and1] at h; split at h
  · assumption
  · cases h
theorem tb_0 {A v : Nat} (h : A >>> v &&& 1 ≠ 1) : A.testBit v = false := by
  rw [tb_and1] at h; split at h
  · exact absurd rfl h
  · rename_i h2; simpa using h2
theorem and_le_r (a b : Nat) : a &&& b ≤ b := Nat.and_le_right
theorem and_lt {a b c : Nat} (h : b < c) : a &&& b < c := Nat.lt_of_le_of_lt Nat.and_le_right h
theorem and_ltl {a b c : Nat} (h : a < c) : a &&& b < c := Nat.lt_of_le_of_lt Nat.and_le_left h
theorem mdiff_le (a b : Nat) : mdiff a b ≤ a := Nat.and_le_left
theorem mdiff_lt {a b c : Nat} (h : a < c) : mdiff a b < c := Nat.lt_of_le_of_lt (mdiff_le a b) h
theorem tb_m1 {i : Nat} (h : i < 32) : Nat.testBit 4294967295 i = true := by
  have : (4294967295 : Nat) = 2 ^ 32 - 1 := by decide
  rw [this, Nat.testBit_two_pow_sub_one]; simpa using h
theorem mdiff_tb {a b i : Nat} (h : i < 32) : (mdiff a b).testBit i = (a.testBit i && !(b.testBit i)) := by
  unfold mdiff; rw [Nat.testBit_and, Nat.testBit_xor, tb_m1 h]; cases a.testBit i <;> cases b.testBit i <;> rfl
theorem or_lt8 {a b : Nat} (n : Nat) (h1 : a < 2 ^ n) (h2 : b < 2 ^ n) : a ||| b < 2 ^ n := Nat.or_lt_two_pow h1 h2
theorem xVars_lt (x : Nat) : xVars x < 256 := by
  unfold xVars; split <;> exact and_lt (by decide)
theorem xFirst_lt (x : Nat) : xFirst x < 256 := and_lt (by decide)
theorem xSecond_lt (x : Nat) : xSecond x < 256 := and_lt (by decide)
theorem low_at {A i : Nat} (hi : i < 8) : lowFrom A (8 - i) i = if A.testBit i then some i else lowFrom A (8 - (i + 1)) (i + 1) := by
  obtain ⟨n, hn⟩ : ∃ n, 8 - i = n + 1 := ⟨7 - i, by omega⟩
  rw [hn, show 8 - (i + 1) = n by omega]; rfl
theorem low_hit {A i : Nat} (h : lowFrom A (8 - i) i = lowO A) (hi : i < 8) (ht : A.testBit i = true) : lowO A = some i := by
  rw [← h, low_at hi, if_pos ht]
theorem low_miss {A i : Nat} (h : lowFrom A (8 - i) i = lowO A) (hi : i < 8) (ht : A.testBit i = false) : lowFrom A (8 - (i + 1)) (i + 1) = lowO A := by
  rw [← h, low_at hi, if_neg (by simp [ht])]
theorem low_end {A i : Nat} (h : lowFrom A (8 - i) i = lowO A) (hi : 8 ≤ i) : lowO A = none := by
  rw [← h, show 8 - i = 0 by omega]; rfl
def inR (x : Int32) (m : Nat) : Bool := decide (¬ x < 0) && decide (¬ nI m < x)
def inL (x : Int32) (m : Nat) : Bool := decide (¬ x < 0) && decide (¬ nI m ≤ x)
theorem inR_n {j m : Nat} (hj : j < 2 ^ 31) (hm : m < 2 ^ 31) : inR (nI j) m = decide (j ≤ m) := by
  unfold inR
  rw [decide_eq_true (nI_pos hj), Bool.true_and, decide_eq_decide, nI_ltI hm hj]; omega
theorem inL_n {j m : Nat} (hj : j < 2 ^ 31) (hm : m < 2 ^ 31) : inL (nI j) m = decide (j < m) := by
  unfold inL
  rw [decide_eq_true (nI_pos hj), Bool.true_and, decide_eq_decide, nI_leI hm hj]; omega
theorem inR_of {x : Int32} {m : Nat} (hm : m < 2 ^ 31) (h : inR x m = true) : ∃ j, j ≤ m ∧ x = nI j := by
  simp only [inR, Bool.and_eq_true, decide_eq_true_eq] at h
  obtain ⟨j, hj, rfl⟩ := nI_of h.1
  exact ⟨j, Nat.le_of_not_lt (fun e => h.2 ((nI_ltI hm hj).mpr e)), rfl⟩
theorem inL_of {x : Int32} {m : Nat} (hm : m < 2 ^ 31) (h : inL x m = true) : ∃ j, j < m ∧ x = nI j := by
  simp only [inL, Bool.and_eq_true, decide_eq_true_eq] at h
  obtain ⟨j, hj, rfl⟩ := nI_of h.1
  exact ⟨j, Nat.lt_of_not_le (fun e => h.2 ((nI_leI hm hj).mpr e)), rfl⟩
theorem nI_0' : (0 : Int32) = nI 0 := rfl
theorem par_and (x : Nat) : (x &&& 65536 = 0) ↔ xPar x = false := by
  have e : (65536 : Nat) = 2 ^ 16 := by decide
  unfold xPar
  rw [e]
  constructor
  · intro h
    have h1 : (x &&& 2 ^ 16).testBit 16 = false := by rw [h]; exact Nat.zero_testBit 16
    rw [Nat.testBit_and, Nat.testBit_two_pow_self, Bool.and_true] at h1
    exact h1
  · intro h
    apply Nat.eq_of_testBit_eq
    intro i
    rw [Nat.testBit_and, Nat.testBit_two_pow, Nat.zero_testBit]
    by_cases hi : 16 = i
    · subst hi; simp [h]
    · simp [hi]
/-! pictures of the class's objects -/
def FmAt (k : KX) (M : Mem) (b : Nat) (cs : List Nat) : Prop := b + 2 ≤ kN k ∧ cs.length ≤ 24 ∧ ∃ f : Nat → Nat, M b = .inr (1, [.ref (ad k (b + 1)), .int (nI cs.length)]) ∧ M (b + 1) = .inl (kI k, 24, .inl (fun q => nI (f q))) ∧ ∀ j, j < cs.length → f j = cAt cs j
theorem FmAt.fr {k : KX} {M M' : Mem} {b : Nat} {cs : List Nat} (h : FmAt k M b cs) (hf : ∀ i, b ≤ i → i < b + 2 → M' i = M i) : FmAt k M' b cs := by
  obtain ⟨h1, h2, f, F0, F1, h3⟩ := h
  exact ⟨h1, h2, f, by rw [hf b (by omega) (by omega)]; exact F0, by rw [hf (b + 1) (by omega) (by omega)]; exact F1, h3⟩
def StAt (k : KX) (M : Mem) (b : Nat) (cs ds : List Nat) : Prop := b + 4 ≤ kN k ∧ FmAt k M (b + 1) cs ∧ ds.length ≤ 8 ∧ ∃ g : Nat → Nat, M b = .inr (5, [.ref (ad k (b + 1)), .ref (ad k (b + 3)), .int (nI ds.length)]) ∧ M (b + 3) = .inl (kI k, 8, .inl (fun q => nI (g q))) ∧ ∀ j, j < ds.length → g j = cAt ds j
theorem StAt.fr {k : KX} {M M' : Mem} {b : Nat} {cs ds : List Nat} (h : StAt k M b cs ds) (hf : ∀ i, b ≤ i → i < b + 4 → M' i = M i) : StAt k M' b cs ds := by
  obtain ⟨h1, hF, h2, f, F0, F1, h3⟩ := h
  exact ⟨h1, hF.fr (fun i a c => hf i (by omega) (by omega)), h2, f, by rw [hf b (by omega) (by omega)]; exact F0, by rw [hf (b + 3) (by omega) (by omega)]; exact F1, h3⟩
def cAtI (cs : List Nat) (x : Int32) : Nat := if inL x cs.length then cAt cs x.toNatClampNeg else 0
theorem cAt_out {cs : List Nat} {j : Nat} (h : cs.length ≤ j) : cAt cs j = 0 := by
  unfold cAt; rw [List.getD_eq_getElem?_getD, List.getElem?_eq_none h]; rfl
theorem cAtI_n {cs : List Nat} {j : Nat} (hj : j < 2 ^ 31) (hl : cs.length < 2 ^ 31) : cAtI cs (nI j) = cAt cs j := by
  unfold cAtI
  rw [inL_n hj hl, nI_clamp hj]
  by_cases h : j < cs.length
  · rw [if_pos (by simpa using h)]
  · rw [if_neg (by simpa using h), cAt_out (Nat.le_of_not_lt h)]
theorem inL_m9 (m : Nat) : inL (-9) m = false := by
  unfold inL
  have : (-9 : Int32) < 0 := by decide
  simp [this]
theorem cAtI_o {cs : List Nat} {o : Option Nat} (ho : ∀ n, o = some n → n < 2 ^ 31) (hl : cs.length ≤ 24) : cAtI cs (oI o) = cAt cs (o.getD 24) := by
  cases o with
  | none => unfold cAtI; rw [oI_none, inL_m9]; exact (cAt_out hl).symm
  | some n => exact cAtI_n (ho n rfl) (by omega)
theorem cAt_app {cs : List Nat} {x j : Nat} : cAt (cs ++ [x]) j = if j = cs.length then x else cAt cs j := by
  unfold cAt
  rw [List.getD_eq_getElem?_getD, List.getD_eq_getElem?_getD]
  by_cases h : j < cs.length
  · rw [List.getElem?_append_left h, if_neg (by omega)]
  · rw [List.getElem?_append_right (by omega)]
    by_cases h2 : j = cs.length
    · subst h2; simp
    · rw [if_neg h2, List.getElem?_eq_none (by simp; omega), List.getElem?_eq_none (by omega)]
theorem cAt_er {cs : List Nat} {i j : Nat} : cAt (cs.eraseIdx i) j = if j < i then cAt cs j else cAt cs (j + 1) := by
  unfold cAt
  rw [List.getD_eq_getElem?_getD, List.getElem?_eraseIdx]
  split <;> rw [List.getD_eq_getElem?_getD]
theorem cAt_take {cs : List Nat} {i j : Nat} (h : j < i) : cAt (cs.take i) j = cAt cs j := by
  unfold cAt
  rw [List.getD_eq_getElem?_getD, List.getElem?_take, if_pos h, List.getD_eq_getElem?_getD]
theorem cAt_mem {cs : List Nat} {j : Nat} (h : j < cs.length) : cAt cs j ∈ cs := by
  unfold cAt
  rw [List.getD_eq_getElem?_getD, List.getElem?_eq_getElem h]; exact List.getElem_mem h
theorem cAt_ok {cs : List Nat} (h : csOK cs) (j : Nat) : cAt cs j < 131072 := by
  by_cases hj : j < cs.length
  · exact (h.2 _ (cAt_mem hj)).1
  · rw [cAt_out (by omega)]; decide
theorem up_s {α : Type} (f : Nat → α) (j : Nat) (x : α) : va_up f j x j = x := by simp [va_up]
theorem up_n {α : Type} (f : Nat → α) {i j : Nat} (x : α) (h : i ≠ j) : va_up f j x i = f i := by simp [va_up, h]
theorem fst_at {p : Nat → Bool} {n i : Nat} (hi : i < n) : fstFrom p (n - i) i = if p i then some i else fstFrom p (n - (i + 1)) (i + 1) := by
  obtain ⟨m, hm⟩ : ∃ m, n - i = m + 1 := ⟨n - i - 1, by omega⟩
  rw [hm, show n - (i + 1) = m by omega]; rfl
theorem fst_lt {p : Nat → Bool} : ∀ (n i j : Nat), fstFrom p n i = some j → i ≤ j ∧ j < i + n ∧ p j = true ∧ ∀ q, i ≤ q → q < j → p q = false
  | 0, i, j, h => by cases h
  | n + 1, i, j, h => by
    unfold fstFrom at h
    by_cases hp : p i = true
    · rw [if_pos hp] at h; cases h
      exact ⟨Nat.le_refl _, by omega, hp, fun q h1 h2 => by omega⟩
    · rw [if_neg hp] at h
      obtain ⟨a, b, c, d⟩ := fst_lt n (i + 1) j h
      refine ⟨by omega, by omega, c, fun q h1 h2 => ?_⟩
      by_cases hq : q = i
      · subst hq; simpa using hp
      · exact d q (by omega) h2
theorem fst_none {p : Nat → Bool} : ∀ (n i : Nat), fstFrom p n i = none → ∀ q, i ≤ q → q < i + n → p q = false
  | 0, i, _, q, h1, h2 => by omega
  | n + 1, i, h, q, h1, h2 => by
    unfold fstFrom at h
    by_cases hp : p i = true
    · rw [if_pos hp] at h; cases h
    · rw [if_neg hp] at h
      by_cases hq : q = i
      · subst hq; simpa using hp
      · exact fst_none n (i + 1) h q (by omega) (by omega)
theorem pcN_le : ∀ (n a : Nat), pcN n a ≤ n
  | 0, _ => Nat.le_refl _
  | n + 1, a => by
    have := pcN_le n a
    unfold pcN; split <;> omega
theorem pc8_le (a : Nat) : pcN 8 a ≤ 8 := pcN_le 8 a
theorem fa_app {cs : List Nat} {f : Nat → Nat} {x : Nat} (hf : ∀ j, j < cs.length → f j = cAt cs j) : ∀ j, j < (cs ++ [x]).length → va_up f cs.length x j = cAt (cs ++ [x]) j := by
  intro j hj
  rw [cAt_app]
  by_cases e : j = cs.length
  · rw [if_pos e, e, up_s]
  · rw [if_neg e, up_n _ _ e]; exact hf j (by simp at hj; omega)
theorem rm_step {cs : List Nat} {f h : Nat → Nat} {j q : Nat} (hq : j ≤ q) (hh : ∀ i, i < cs.length → h i = if i < j ∨ q ≤ i then f i else f (i + 1)) (hv : h (q + 1) = f (q + 1)) : ∀ i, i < cs.length → va_up h q (h (q + 1)) i = if i < j ∨ q + 1 ≤ i then f i else f (i + 1) := by
  intro i hi
  by_cases e : i = q
  · rw [e, up_s, if_neg (by omega)]; exact hv
  · rw [up_n _ _ e, hh i hi]
    by_cases e2 : i < j ∨ q ≤ i
    · rw [if_pos e2, if_pos (by omega)]
    · rw [if_neg e2, if_neg (by omega)]
theorem rm_end {cs : List Nat} {f h : Nat → Nat} {j q : Nat} (hj : j < cs.length) (hq : cs.length - 1 ≤ q) (hf : ∀ j, j < cs.length → f j = cAt cs j) (hh : ∀ i, i < cs.length → h i = if i < j ∨ q ≤ i then f i else f (i + 1)) : ∀ i, i < (cs.eraseIdx j).length → h i = cAt (cs.eraseIdx j) i := by
  intro i hi
  rw [List.length_eraseIdx_of_lt hj] at hi
  rw [cAt_er, hh i (by omega)]
  by_cases e : i < j
  · rw [if_pos (Or.inl e), if_pos e]; exact hf i (by omega)
  · rw [if_neg (by omega), if_neg e]; exact hf _ (by omega)
theorem cp_step {cs : List Nat} {h : Nat → Nat} {q x : Nat} (hh : ∀ i, i < q → h i = cAt cs i) (hv : x = cAt cs q) : ∀ i, i < q + 1 → va_up h q x i = cAt cs i := by
  intro i hi
  by_cases e : i = q
  · rw [e, up_s]; exact hv
  · rw [up_n _ _ e]; exact hh i (by omega)
theorem FmAt.obj {k : KX} {M : Mem} {b : Nat} {cs : List Nat} (h : FmAt k M b cs) : ∃ fs, M b = .inr (1, fs) := by
  obtain ⟨_, _, f, F0, _⟩ := h; exact ⟨_, F0⟩
theorem StAt.obj {k : KX} {M : Mem} {b : Nat} {cs ds : List Nat} (h : StAt k M b cs ds) : ∃ fs, M b = .inr (5, fs) := by
  obtain ⟨_, _, _, g, F0, _⟩ := h; exact ⟨_, F0⟩
