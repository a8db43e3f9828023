/-! the pure picture: constraints as codes, the trail as a list of entries (newest first), and what is computed of them -/
def mdiff (a b : Nat) : Nat := a &&& (b ^^^ 4294967295)
def pcN : Nat → Nat → Nat
  | 0, _ => 0
  | n + 1, a => pcN n a + (if a.testBit n then 1 else 0)
def lowFrom (a : Nat) : Nat → Nat → Option Nat
  | 0, _ => none
  | n + 1, v => if a.testBit v then some v else lowFrom a n (v + 1)
/-- the smallest variable of a set -/
def lowO (a : Nat) : Option Nat := lowFrom a 8 0
def low (a : Nat) : Nat := (lowO a).getD 0
def xFirst (x : Nat) : Nat := x &&& 255
def xSecond (x : Nat) : Nat := (x >>> 8) &&& 255
def xPar (x : Nat) : Bool := x.testBit 16
def xVars (x : Nat) : Nat := if xPar x then x &&& 255 else (x ||| (x >>> 8)) &&& 255
def xViol (x t : Nat) : Bool := if xPar x then !(decide (pcN 8 (xFirst x &&& t) % 2 = xSecond x)) else decide (xFirst x &&& t = 0) && decide (mdiff (xSecond x) t = 0)
def xClause (p n : Nat) : Nat := (n <<< 8) ||| p
def xParity (m b : Nat) : Nat := 65536 ||| (b <<< 8) ||| m
/-- a code that a formula may hold -/
def xOK (x : Nat) : Prop := x < 131072 ∧ (xPar x = true → xSecond x < 2) ∧ (xPar x = false → xFirst x &&& xSecond x = 0)
def cAt (cs : List Nat) (i : Nat) : Nat := cs.getD i 0
def csOK (cs : List Nat) : Prop := cs.length ≤ 24 ∧ ∀ x ∈ cs, xOK x
/-- violated, or unit -/
def xAct (x A T : Nat) : Bool := decide (pcN 8 (mdiff (xVars x) A) ≤ 1) && (xViol x T || xViol x (T ||| mdiff (xVars x) A))
def fstFrom (p : Nat → Bool) : Nat → Nat → Option Nat
  | 0, _ => none
  | n + 1, i => if p i then some i else fstFrom p n (i + 1)
def fstAct (cs : List Nat) (A T : Nat) : Option Nat := fstFrom (fun i => xAct (cAt cs i) A T) cs.length 0
abbrev Ent : Type := Nat × Bool × Option Nat
def tA : List Ent → Nat
  | [] => 0
  | e :: t => tA t ||| (1 <<< e.1)
def tT : List Ent → Nat
  | [] => 0
  | e :: t => if e.2.1 then tT t ||| (1 <<< e.1) else tT t
def tL : List Ent → Nat
  | [] => 0
  | e :: t => tL t + (if e.2.2 = none then 1 else 0)
def tB : List Ent → Nat
  | [] => 0
  | e :: t => if e.2.2 = none then tA t else tB t
def tOrd : List Ent → Nat → Nat
  | [], _ => 0
  | e :: t, j => if j = t.length then e.1 else tOrd t j
def tLev : List Ent → Nat → Nat
  | [], _ => 0
  | e :: t, v => if v = e.1 then tL (e :: t) else tLev t v
def tRsn : List Ent → Nat → Option Nat
  | [], _ => none
  | e :: t, v => if v = e.1 then e.2.2 else tRsn t v
def tPl : List Ent → Nat → Nat
  | [], _ => 0
  | e :: t, v => if v = e.1 then t.length else tPl t v
def propF (cs : List Nat) : Nat → List Ent → List Ent × Option Nat
  | 0, tr => (tr, none)
  | n + 1, tr => match fstAct cs (tA tr) (tT tr) with
    | none => (tr, none)
    | some i => if mdiff (xVars (cAt cs i)) (tA tr) = 0 then (tr, some i) else propF cs n ((low (mdiff (xVars (cAt cs i)) (tA tr)), xViol (cAt cs i) (tT tr), some i) :: tr)
def prop (cs : List Nat) (tr : List Ent) : List Ent × Option Nat := propF cs 9 tr
def okDec (s : List Ent × Option Nat) (d : Nat) : Bool := decide (s.2 = none) && !((tA s.1).testBit (d / 2))
def buildF (cs : List Nat) : List Nat → List Ent × Option Nat → List Ent × Option Nat
  | [], s => s
  | d :: ds, s => if okDec s d then buildF cs ds (prop cs ((d / 2, decide (d % 2 = 0), none) :: s.1)) else s
def build (cs ds : List Nat) : List Ent × Option Nat := buildF cs ds (prop cs [])
/-- the pass from the trail's end; pr: the variables of the present level -/
def ana (cs : List Nat) (pr : Nat) : List Ent → Nat → Nat
  | [], set => set
  | e :: t, set => if pcN 8 (set &&& pr) ≤ 1 then set else if set.testBit e.1 then ana cs pr t (mdiff (set ||| xVars (cAt cs (e.2.2.getD 24))) (1 <<< e.1)) else ana cs pr t set
def lrnVars (cs : List Nat) (tr : List Ent) (cf : Nat) : Nat := ana cs (mdiff (tA tr) (tB tr)) tr (xVars (cAt cs cf))
def bjF (p : Nat → Bool) (lv : Nat → Nat) : Nat → Nat
  | 0 => 0
  | n + 1 => if p n then max (bjF p lv n) (lv n) else bjF p lv n
def bjLev (tr : List Ent) (set : Nat) : Nat := bjF (fun v => (set &&& tB tr).testBit v) (tLev tr) 8
def falseCl (tr : List Ent) (set : Nat) : Nat := xClause (mdiff set (tT tr)) (set &&& tT tr)
/-! first rows over them -/
theorem pP_i {v w : Int32} {M : Mem} (h : v = w) : pP (.int w) M (some (.int v)) M := ⟨by rw [h], rfl⟩
theorem pP_n {M : Mem} : pV (fun M' => M' = M) none M := ⟨rfl, rfl⟩
theorem tb_and1 (A v : Nat) : A >>> v &&& 1 = if A.testBit v then 1 else 0 := by
  rw [Nat.and_one_is_mod, Nat.shiftRight_eq_div_pow, Nat.testBit_eq_decide_div_mod_eq]
  have := Nat.mod_two_eq_zero_or_one (A / 2 ^ v)
  rcases this with h | h <;> simp [h]
theorem tb_lt (A v : Nat) : A >>> v &&& 1 < 2 ^ 31 := by
  rw [tb_and1]; split <;> decide
theorem tb_1 {A v : Nat} (h : A >>> v &&& 1 = 1) : A.testBit v = true := by
  rw [tb_and1] at h; split at h
  · assumption
  · cases h
theorem tb_0 {A v : Nat} (h : A >>> v &&& 1 ≠ 1) : A.testBit v = false := by
  rw [tb_and1] at h; split at h
  · exact absurd rfl h
  · rename_i h2; simpa using h2
theorem and_le_r (a b : Nat) : a &&& b ≤ b := Nat.and_le_right
theorem and_lt {a b c : Nat} (h : b < c) : a &&& b < c := Nat.lt_of_le_of_lt Nat.and_le_right h
theorem and_ltl {a b c : Nat} (h : a < c) : a &&& b < c := Nat.lt_of_le_of_lt Nat.and_le_left h
theorem mdiff_le (a b : Nat) : mdiff a b ≤ a := Nat.and_le_left
theorem mdiff_lt {a b c : Nat} (h : a < c) : mdiff a b < c := Nat.lt_of_le_of_lt (mdiff_le a b) h
theorem tb_m1 {i : Nat} (h : i < 32) : Nat.testBit 4294967295 i = true := by
  have : (4294967295 : Nat) = 2 ^ 32 - 1 := by decide
  rw [this, Nat.testBit_two_pow_sub_one]; simpa using h
theorem mdiff_tb {a b i : Nat} (h : i < 32) : (mdiff a b).testBit i = (a.testBit i && !(b.testBit i)) := by
  unfold mdiff; rw [Nat.testBit_and, Nat.testBit_xor, tb_m1 h]; cases a.testBit i <;> cases b.testBit i <;> rfl
theorem or_lt8 {a b : Nat} (n : Nat) (h1 : a < 2 ^ n) (h2 : b < 2 ^ n) : a ||| b < 2 ^ n := Nat.or_lt_two_pow h1 h2
theorem xVars_lt (x : Nat) : xVars x < 256 := by
  unfold xVars; split <;> exact and_lt (by decide)
theorem xFirst_lt (x : Nat) : xFirst x < 256 := and_lt (by decide)
theorem xSecond_lt (x : Nat) : xSecond x < 256 := and_lt (by decide)
theorem low_at {A i : Nat} (hi : i < 8) : lowFrom A (8 - i) i = if A.testBit i then some i else lowFrom A (8 - (i + 1)) (i + 1) := by
  obtain ⟨n, hn⟩ : ∃ n, 8 - i = n + 1 := ⟨7 - i, by omega⟩
  rw [hn, show 8 - (i + 1) = n by omega]; rfl
theorem low_hit {A i : Nat} (h : lowFrom A (8 - i) i = lowO A) (hi : i < 8) (ht : A.testBit i = true) : lowO A = some i := by
  rw [← h, low_at hi, if_pos ht]
theorem low_miss {A i : Nat} (h : lowFrom A (8 - i) i = lowO A) (hi : i < 8) (ht : A.testBit i = false) : lowFrom A (8 - (i + 1)) (i + 1) = lowO A := by
  rw [← h, low_at hi, if_neg (by simp [ht])]
theorem low_end {A i : Nat} (h : lowFrom A (8 - i) i = lowO A) (hi : 8 ≤ i) : lowO A = none := by
  rw [← h, show 8 - i = 0 by omega]; rfl
def inR (x : Int32) (m : Nat) : Bool := decide (¬ x < 0) && decide (¬ nI m < x)
def inL (x : Int32) (m : Nat) : Bool := decide (¬ x < 0) && decide (¬ nI m ≤ x)
theorem inR_n {j m : Nat} (hj : j < 2 ^ 31) (hm : m < 2 ^ 31) : inR (nI j) m = decide (j ≤ m) := by
  unfold inR
  rw [decide_eq_true (nI_pos hj), Bool.true_and, decide_eq_decide, nI_ltI hm hj]; omega
theorem inL_n {j m : Nat} (hj : j < 2 ^ 31) (hm : m < 2 ^ 31) : inL (nI j) m = decide (j < m) := by
  unfold inL
  rw [decide_eq_true (nI_pos hj), Bool.true_and, decide_eq_decide, nI_leI hm hj]; omega
theorem inR_of {x : Int32} {m : Nat} (hm : m < 2 ^ 31) (h : inR x m = true) : ∃ j, j ≤ m ∧ x = nI j := by
  simp only [inR, Bool.and_eq_true, decide_eq_true_eq] at h
  obtain ⟨j, hj, rfl⟩ := nI_of h.1
  exact ⟨j, Nat.le_of_not_lt (fun e => h.2 ((nI_ltI hm hj).mpr e)), rfl⟩
theorem inL_of {x : Int32} {m : Nat} (hm : m < 2 ^ 31) (h : inL x m = true) : ∃ j, j < m ∧ x = nI j := by
  simp only [inL, Bool.and_eq_true, decide_eq_true_eq] at h
  obtain ⟨j, hj, rfl⟩ := nI_of h.1
  exact ⟨j, Nat.lt_of_not_le (fun e => h.2 ((nI_leI hm hj).mpr e)), rfl⟩
theorem nI_0' : (0 : Int32) = nI 0 := rfl
theorem par_and (x : Nat) : (x &&& 65536 = 0) ↔ xPar x = false := by
  have e : (65536 : Nat) = 2 ^ 16 := by decide
  unfold xPar
  rw [e]
  constructor
  · intro h
    have h1 : (x &&& 2 ^ 16).testBit 16 = false := by rw [h]; exact Nat.zero_testBit 16
    rw [Nat.testBit_and, Nat.testBit_two_pow_self, Bool.and_true] at h1
    exact h1
  · intro h
    apply Nat.eq_of_testBit_eq
    intro i
    rw [Nat.testBit_and, Nat.testBit_two_pow, Nat.zero_testBit]
    by_cases hi : 16 = i
    · subst hi; simp [h]
    · simp [hi]
