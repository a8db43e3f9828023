/-! models, purely -/
theorem vsetF_lt2 {cs : List Nat} {a : Nat} : ∀ n, vsetF cs a n < 2 ^ n
  | 0 => by show 0 < 2 ^ 0; decide
  | n + 1 => by
    have h := vsetF_lt2 (cs := cs) (a := a) n
    have h2 : vsetF cs a n < 2 ^ (n + 1) := by rw [Nat.pow_succ]; omega
    unfold vsetF
    split
    · exact Nat.or_lt_two_pow h2 (by rw [Nat.one_shiftLeft]; exact Nat.pow_lt_pow_right (by decide) (by omega))
    · exact h2
theorem vset_all (cs : List Nat) (a : Nat) : vset cs a &&& (1 <<< cs.length - 1) = vset cs a := by
  rw [Nat.one_shiftLeft, Nat.and_two_pow_sub_one_eq_mod]
  exact Nat.mod_eq_of_lt (vsetF_lt2 _)
theorem isMod_all (cs : List Nat) (a : Nat) : decide (vset cs a &&& (1 <<< cs.length - 1) = 0) = isMod cs a := by rw [vset_all]; rfl
theorem and_or0 {a b m : Nat} : (a ||| b) &&& m = 0 ↔ a &&& m = 0 ∧ b &&& m = 0 := by
  rw [Nat.and_or_distrib_right]
  constructor
  · intro h
    have hz : ∀ x y : Nat, x ||| y = 0 → x = 0 ∧ y = 0 := fun x y h => by
      constructor
      · apply Nat.eq_of_testBit_eq; intro i
        have := congrArg (fun z => z.testBit i) h
        simp only [Nat.testBit_or, Nat.zero_testBit, Bool.or_eq_false_iff] at this
        rw [this.1, Nat.zero_testBit]
      · apply Nat.eq_of_testBit_eq; intro i
        have := congrArg (fun z => z.testBit i) h
        simp only [Nat.testBit_or, Nat.zero_testBit, Bool.or_eq_false_iff] at this
        rw [this.2, Nat.zero_testBit]
    exact hz _ _ h
  · intro h; rw [h.1, h.2]; rfl
theorem vsm_step {cs : List Nat} {a m n : Nat} : vsetF cs a (n + 1) &&& m = 0 ↔ vsetF cs a n &&& m = 0 ∧ ¬ (m.testBit n = true ∧ xViol (cAt cs n) a = true) := by
  have e : vsetF cs a (n + 1) = if xViol (cAt cs n) a then vsetF cs a n ||| (1 <<< n) else vsetF cs a n := rfl
  rw [e]
  cases h : xViol (cAt cs n) a with
  | false => rw [if_neg (by simp)]; simp
  | true =>
    rw [if_pos rfl, and_or0]
    have : 1 <<< n &&& m = 0 ↔ m.testBit n = false := by rw [Nat.and_comm]; exact and1_f
    rw [this]; simp
theorem vsm_mono {cs : List Nat} {a m i : Nat} (h : vsetF cs a i &&& m ≠ 0) : ∀ n, i ≤ n → vsetF cs a n &&& m ≠ 0
  | 0, hn => by rw [show i = 0 by omega] at h; exact h
  | n + 1, hn => by
    by_cases e : i = n + 1
    · rw [e] at h; exact h
    · have := vsm_mono h n (by omega)
      intro w
      exact this (vsm_step.mp w).1
theorem all_step {cs : List Nat} {x a : Nat} {b c : Bool} (h : b = true ↔ ∀ q, q < a → isMod cs q = true → xViol x q = false) (hc : c = true ↔ b = true ∧ (isMod cs a = true → xViol x a = false)) : c = true ↔ ∀ q, q < a + 1 → isMod cs q = true → xViol x q = false := by
  rw [hc, h]
  constructor
  · intro w q hq
    by_cases e : q = a
    · subst e; exact w.2
    · exact w.1 q (by omega)
  · intro w; exact ⟨fun q hq => w q (by omega), w a (by omega)⟩
theorem all_end {cs : List Nat} {x : Nat} {b : Bool} (h : b = true ↔ ∀ q, q < 256 → isMod cs q = true → xViol x q = false) : b = allS cs x := by
  cases b with
  | true => exact (pB_t (h.mp rfl)).symm
  | false => exact (pB_f (fun w => by have := h.mpr w; cases this)).symm
def canP (cs : List Nat) (m a : Nat) (b : Bool) : Prop := (b = true ∧ canS cs m = true) ∨ (b = false ∧ ∀ q, q < a → vset cs q &&& m ≠ 0)
theorem canP.step {cs : List Nat} {m a : Nat} (ha : a < 256) (h : canP cs m a false) : canP cs m (a + 1) (decide (vset cs a &&& m = 0)) := by
  rcases h with h | h
  · cases h.1
  · by_cases e : vset cs a &&& m = 0
    · exact Or.inl ⟨decide_eq_true e, pB_t ⟨a, ha, e⟩⟩
    · exact Or.inr ⟨decide_eq_false e, can_step h.2 e⟩
theorem canP.end_ {cs : List Nat} {m a : Nat} {b : Bool} (h : canP cs m a b) (ha : 256 ≤ a ∨ b = true) : b = canS cs m := by
  rcases h with h | h
  · rw [h.1, h.2]
  · rcases ha with ha | ha
    · rw [h.1]
      exact (pB_f (fun ⟨q, hq, w⟩ => h.2 q (by omega) w)).symm
    · rw [ha] at h; cases h.1
