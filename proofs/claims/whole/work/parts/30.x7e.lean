theorem and1_f {a v : Nat} : (a &&& 1 <<< v = 0) ↔ a.testBit v = false := by
  constructor
  · intro h
    have := congrArg (fun x => x.testBit v) h
    simp only [Nat.testBit_and, bit1, Nat.zero_testBit, decide_true, Bool.and_true] at this
    exact this
  · intro h
    refine and_zero (fun i h1 h2 => ?_)
    rw [bit1] at h2
    rw [← of_decide_eq_true h2, h] at h1; cases h1
theorem and1_t {a v : Nat} : (a &&& 1 <<< v ≠ 0) ↔ a.testBit v = true := by
  rw [Ne, and1_f]; simp
def rsP (cs : List Nat) (i j v : Nat) : Nat := mdiff (xFirst (cAt cs i) ||| xFirst (cAt cs j)) (1 <<< v)
def rsN (cs : List Nat) (i j v : Nat) : Nat := mdiff (xSecond (cAt cs i) ||| xSecond (cAt cs j)) (1 <<< v)
/-- may be resolved -/
def rsOK (cs : List Nat) (i j v : Nat) : Prop := xPar (cAt cs i) = false ∧ xPar (cAt cs j) = false ∧ (xFirst (cAt cs i)).testBit v = true ∧ (xSecond (cAt cs j)).testBit v = true ∧ rsP cs i j v &&& rsN cs i j v = 0 ∧ cs.length < 24
def smOK (cs : List Nat) (i j : Nat) : Prop := xPar (cAt cs i) = true ∧ xPar (cAt cs j) = true ∧ cs.length < 24
theorem rsP_lt {cs : List Nat} {i j v : Nat} : rsP cs i j v < 256 := mdiff_lt (or_lt256 (xFirst_lt _) (xFirst_lt _))
theorem rsN_lt {cs : List Nat} {i j v : Nat} : rsN cs i j v < 256 := mdiff_lt (or_lt256 (xSecond_lt _) (xSecond_lt _))
theorem xSec2 {cs : List Nat} (h : csOK cs) {j : Nat} (hj : j < cs.length) (hp : xPar (cAt cs j) = true) : xSecond (cAt cs j) < 2 := (h.2 _ (cAt_mem hj)).2.1 hp
