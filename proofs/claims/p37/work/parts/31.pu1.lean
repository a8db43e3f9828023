/-! pure: constraints, models, cores -/
theorem bool_of {a b : Bool} (h : a = true ↔ b = true) : a = b := by
  cases a <;> cases b <;> simp_all
theorem nz_tb {a : Nat} (h : a ≠ 0) : ∃ i, a.testBit i = true := by
  refine Classical.byContradiction fun hn => h (Nat.eq_of_testBit_eq fun i => ?_)
  rw [Nat.zero_testBit]
  cases e : a.testBit i with
  | false => rfl
  | true => exact absurd ⟨i, e⟩ hn
theorem xVars_par {x : Nat} (h : xPar x = true) : xVars x = xFirst x := by
  unfold xVars xFirst; rw [if_pos h]
theorem xVars_cl {x : Nat} (h : xPar x = false) : xVars x = xFirst x ||| xSecond x := by
  unfold xVars xFirst xSecond
  rw [if_neg (by simp [h])]
  apply Nat.eq_of_testBit_eq
  intro i
  simp only [Nat.testBit_and, Nat.testBit_or]
  cases x.testBit i <;> cases (x >>> 8).testBit i <;> cases Nat.testBit 255 i <;> rfl
theorem vars_first {x i : Nat} (h : (xFirst x).testBit i = true) : (xVars x).testBit i = true := by
  cases hp : xPar x with
  | true => rw [xVars_par hp]; exact h
  | false => rw [xVars_cl hp, Nat.testBit_or, h]; rfl
theorem vars_second {x i : Nat} (hp : xPar x = false) (h : (xSecond x).testBit i = true) : (xVars x).testBit i = true := by
  rw [xVars_cl hp, Nat.testBit_or, h, Bool.or_true]
/-- a constraint's truth hangs on its variables alone -/
theorem viol_congr {x a b : Nat} (h : ∀ i, (xVars x).testBit i = true → a.testBit i = b.testBit i) : xViol x a = xViol x b := by
  have e1 : xFirst x &&& a = xFirst x &&& b := by
    apply Nat.eq_of_testBit_eq
    intro i
    rw [Nat.testBit_and, Nat.testBit_and]
    cases hi : (xFirst x).testBit i with
    | false => rfl
    | true => rw [h i (vars_first hi)]
  unfold xViol
  rw [e1]
  cases hp : xPar x with
  | true => rfl
  | false =>
    have e2 : mdiff (xSecond x) a = mdiff (xSecond x) b := by
      unfold mdiff
      apply Nat.eq_of_testBit_eq
      intro i
      rw [Nat.testBit_and, Nat.testBit_and, Nat.testBit_xor, Nat.testBit_xor]
      cases hi : (xSecond x).testBit i with
      | false => rfl
      | true => rw [h i (vars_second hp hi)]
    rw [e2]
theorem mdiff_0 {a b : Nat} (ha : a < 256) : mdiff a b = 0 ↔ ∀ i, a.testBit i = true → b.testBit i = true := by
  constructor
  · intro h i hi
    have h1 : (mdiff a b).testBit i = false := by rw [h]; exact Nat.zero_testBit i
    rw [mdiff_tb (by have := tb_lt8 ha hi; omega), hi, Bool.true_and, Bool.not_eq_false'] at h1
    exact h1
  · intro h
    apply Nat.eq_of_testBit_eq
    intro i
    rw [Nat.zero_testBit]
    by_cases hi : i < 8
    · rw [mdiff_tb (by omega)]
      cases ha2 : a.testBit i with
      | false => rfl
      | true => rw [h i ha2]; rfl
    · exact hi_false (mdiff_lt ha) (by omega)
theorem and_0 {a b : Nat} : a &&& b = 0 ↔ ∀ i, a.testBit i = true → b.testBit i = false :=
  ⟨fun h i hi => and_zero_tb h hi, fun h => and_zero (fun i h1 h2 => by rw [h i h1] at h2; cases h2)⟩
/-- a clause is violated where all its literals are false -/
theorem viol_cl {x a : Nat} (hp : xPar x = false) : xViol x a = true ↔ (∀ i, (xFirst x).testBit i = true → a.testBit i = false) ∧ ∀ i, (xSecond x).testBit i = true → a.testBit i = true := by
  unfold xViol
  rw [if_neg (by simp [hp]), Bool.and_eq_true, decide_eq_true_eq, decide_eq_true_eq, and_0, mdiff_0 (xSecond_lt x)]
theorem viol_par {x a : Nat} (hp : xPar x = true) : xViol x a = true ↔ pcN 8 (xFirst x &&& a) % 2 ≠ xSecond x := by
  unfold xViol
  rw [if_pos hp]; simp
/-- of the two values of a variable at most one violates -/
theorem viol_flip {x T v : Nat} (hx : xOK x) (hv : v < 8) (hm : (xVars x).testBit v = true) (hT : T.testBit v = false) (h1 : xViol x T = true) (h2 : xViol x (T ||| 1 <<< v) = true) : False := by
  cases hp : xPar x with
  | true =>
    rw [viol_par hp] at h1 h2
    rw [xVars_par hp] at hm
    have e : xFirst x &&& (T ||| 1 <<< v) = (xFirst x &&& T) ||| 1 <<< v := by
      apply Nat.eq_of_testBit_eq
      intro i
      rw [Nat.testBit_and, Nat.testBit_or, Nat.testBit_or, Nat.testBit_and, bit1]
      by_cases hi : v = i
      · subst hi; rw [hm]; simp
      · simp [hi]
    have e2 : pcN 8 ((xFirst x &&& T) ||| 1 <<< v) = pcN 8 (xFirst x &&& T) + 1 := pcN_or (by rw [Nat.testBit_and, hT, Bool.and_false]) 8 hv
    rw [e, e2] at h2
    have h3 := hx.2.1 hp
    omega
  | false =>
    rw [viol_cl hp] at h1 h2
    rw [xVars_cl hp, Nat.testBit_or, Bool.or_eq_true] at hm
    rcases hm with hm | hm
    · have := h2.1 v hm
      rw [Nat.testBit_or, bit1] at this
      simp at this
    · have := h1.2 v hm
      rw [hT] at this; cases this
/-! models -/
theorem vsetF_tb {cs : List Nat} {a : Nat} : ∀ n i, (vsetF cs a n).testBit i = (decide (i < n) && xViol (cAt cs i) a)
  | 0, i => by show Nat.testBit 0 i = _; simp
  | n + 1, i => by
    unfold vsetF
    have ih := vsetF_tb (cs := cs) (a := a) n i
    by_cases e : n = i
    · subst e
      split
      · rename_i h; rw [Nat.testBit_or, bit1, h]; simp
      · rename_i h; rw [ih]; simp [h]
    · have e2 : decide (i < n + 1) = decide (i < n) := by
        rw [decide_eq_decide]; omega
      rw [e2]
      split
      · rw [Nat.testBit_or, bit1, ih]; simp [e]
      · exact ih
theorem vset_tb {cs : List Nat} {a i : Nat} : (vset cs a).testBit i = (decide (i < cs.length) && xViol (cAt cs i) a) := vsetF_tb _ _
theorem isMod_iff {cs : List Nat} {a : Nat} : isMod cs a = true ↔ ∀ i, i < cs.length → xViol (cAt cs i) a = false := by
  unfold isMod
  rw [decide_eq_true_eq]
  constructor
  · intro h i hi
    have h1 : (vset cs a).testBit i = false := by rw [h]; exact Nat.zero_testBit i
    rw [vset_tb, decide_eq_true hi, Bool.true_and] at h1
    exact h1
  · intro h
    apply Nat.eq_of_testBit_eq
    intro i
    rw [Nat.zero_testBit, vset_tb]
    by_cases hi : i < cs.length
    · rw [h i hi, Bool.and_false]
    · simp [hi]
theorem cnt_mono {p : Nat → Bool} {a : Nat} : ∀ b, a ≤ b → cntP p a ≤ cntP p b
  | 0, h => by rw [Nat.le_zero.mp h]; exact Nat.le_refl _
  | b + 1, h => by
    by_cases e : a = b + 1
    · rw [e]; exact Nat.le_refl _
    · have h1 := cnt_mono (p := p) b (show a ≤ b by omega)
      have h2 : cntP p b ≤ cntP p (b + 1) := Nat.le_add_right _ _
      omega
theorem cnt_congr {p q : Nat → Bool} : ∀ n, (∀ a, a < n → p a = q a) → cntP p n = cntP q n
  | 0, _ => rfl
  | n + 1, h => by
    unfold cntP
    rw [cnt_congr n (fun a ha => h a (by omega)), h n (by omega)]
theorem cnt_le2 {p q : Nat → Bool} : ∀ n, (∀ a, a < n → p a = true → q a = true) → cntP p n ≤ cntP q n
  | 0, _ => Nat.le_refl _
  | n + 1, h => by
    have h1 := cnt_le2 n (fun a ha => h a (show a < n + 1 by omega))
    cases hp : p n with
    | false =>
      rw [cnt_f hp]
      have h2 : cntP q n ≤ cntP q (n + 1) := Nat.le_add_right _ _
      omega
    | true => rw [cnt_t hp, cnt_t (h n (by omega) hp)]; omega
theorem cnt_pos {p : Nat → Bool} : ∀ n, 0 < cntP p n ↔ ∃ a, a < n ∧ p a = true
  | 0 => ⟨fun h => absurd h (Nat.not_lt_zero _), fun ⟨a, h, _⟩ => absurd h (Nat.not_lt_zero _)⟩
  | n + 1 => by
    have ih := cnt_pos (p := p) n
    cases hp : p n with
    | true => rw [cnt_t hp]; exact ⟨fun _ => ⟨n, by omega, hp⟩, fun _ => by omega⟩
    | false =>
      rw [cnt_f hp, ih]
      constructor
      · rintro ⟨a, h1, h2⟩; exact ⟨a, by omega, h2⟩
      · rintro ⟨a, h1, h2⟩
        have : a ≠ n := fun e => by subst e; rw [hp] at h2; cases h2
        exact ⟨a, by omega, h2⟩
/-- every number below the count is the place of one -/
theorem cnt_at {p : Nat → Bool} : ∀ (n k : Nat), k < cntP p n → ∃ t, t < n ∧ p t = true ∧ cntP p t = k
  | 0, k, h => absurd h (Nat.not_lt_zero _)
  | n + 1, k, h => by
    cases hp : p n with
    | false =>
      rw [cnt_f hp] at h
      obtain ⟨t, h1, h2, h3⟩ := cnt_at (p := p) n k h
      exact ⟨t, by omega, h2, h3⟩
    | true =>
      rw [cnt_t hp] at h
      by_cases e : k = cntP p n
      · exact ⟨n, by omega, hp, e.symm⟩
      · obtain ⟨t, h1, h2, h3⟩ := cnt_at (p := p) n k (by omega)
        exact ⟨t, by omega, h2, h3⟩
theorem cnt_lt {p : Nat → Bool} {t n : Nat} (h : t < n) (hp : p t = true) : cntP p t < cntP p n := by
  have h1 := cnt_mono (p := p) (a := t + 1) n h
  rw [cnt_t hp] at h1; omega
theorem nth_at' {p : Nat → Bool} {w t : Nat} (hw : w < 2 ^ 31) (hp : p t = true) : ∀ (n a f : Nat), a ≤ t → t < a + n → w + cntP p a = f + cntP p t → nthF p (nI w) n a f = some t
  | 0, a, f, h1, h2, _ => by omega
  | n + 1, a, f, h1, h2, h3 => by
    unfold nthF
    by_cases e : a = t
    · subst e
      rw [if_pos hp, if_pos (by rw [show f = w by omega])]
    · have hm := cnt_mono (p := p) (a := a + 1) t (by omega)
      cases hpa : p a with
      | true =>
        rw [cnt_t hpa] at hm
        rw [if_pos rfl, if_neg (fun q => by have := (nI_eq (a := f) (b := w) (by omega) hw).mp q; omega)]
        exact nth_at' hw hp n (a + 1) (f + 1) (by omega) (by omega) (by rw [cnt_t hpa]; omega)
      | false =>
        rw [if_neg (by simp)]
        exact nth_at' hw hp n (a + 1) f (by omega) (by omega) (by rw [cnt_f hpa]; omega)
theorem nth_no {p : Nat → Bool} {w : Nat} (hw : w < 2 ^ 31) : ∀ (n a f : Nat), f + cntP p (a + n) ≤ w + cntP p a → nthF p (nI w) n a f = none
  | 0, _, _, _ => rfl
  | n + 1, a, f, h => by
    unfold nthF
    have hm := cnt_mono (p := p) (a := a + 1) (a + (n + 1)) (by omega)
    cases hpa : p a with
    | true =>
      rw [cnt_t hpa] at hm
      rw [if_pos rfl, if_neg (fun q => by have := (nI_eq (a := f) (b := w) (by omega) hw).mp q; omega)]
      exact nth_no hw n (a + 1) (f + 1) (by rw [cnt_t hpa, show a + 1 + n = a + (n + 1) by omega]; omega)
    | false =>
      rw [if_neg (by simp)]
      exact nth_no hw n (a + 1) f (by rw [cnt_f hpa, show a + 1 + n = a + (n + 1) by omega]; omega)
theorem nth_neg {p : Nat → Bool} {x : Int32} (hx : x < 0) : ∀ (n a f : Nat), f + n < 2 ^ 31 → nthF p x n a f = none
  | 0, _, _, _ => rfl
  | n + 1, a, f, h => by
    unfold nthF
    split
    · rw [if_neg (fun q => by rw [← q] at hx; exact nI_pos (show f < 2 ^ 31 by omega) hx)]
      exact nth_neg hx n _ _ (by omega)
    · exact nth_neg hx n _ _ (by omega)
theorem mod_at {cs : List Nat} {a : Nat} (ha : a < 256) (h : isMod cs a = true) : nthF (isMod cs) (nI (cntP (isMod cs) a)) 256 0 0 = some a :=
  nth_at' (by have := cntP_le (isMod cs) a; omega) h 256 0 0 (Nat.zero_le _) (by omega) (by show _ + 0 = 0 + _; omega)
theorem mod_end {cs : List Nat} : nthF (isMod cs) (nI (cntP (isMod cs) 256)) 256 0 0 = none :=
  nth_no (by have := cntP_le (isMod cs) 256; omega) 256 0 0 (by show 0 + _ ≤ _ + 0; simp)
theorem mod_256 {cs : List Nat} : nthF (isMod cs) (nI 256) 256 0 0 = none :=
  nth_no (by decide) 256 0 0 (by have := cntP_le (isMod cs) 256; show 0 + _ ≤ 256 + 0; simp; exact this)
theorem mod_m1 {cs : List Nat} : nthF (isMod cs) (-1) 256 0 0 = none := nth_neg (by decide) 256 0 0 (by decide)
/-! cores -/
theorem pB_true {P : Prop} (h : pB P = true) : P := @of_decide_eq_true P (Classical.propDecidable P) h
theorem pB_false {P : Prop} (h : pB P = false) : ¬ P := @of_decide_eq_false P (Classical.propDecidable P) h
theorem vsetF_lt2 {cs : List Nat} {a : Nat} : ∀ n, vsetF cs a n < 2 ^ n := fun n =>
  Nat.lt_pow_two_of_testBit _ (fun i hi => by rw [vsetF_tb, decide_eq_false (by omega), Bool.false_and])
theorem vset_all {cs : List Nat} {a : Nat} : vset cs a &&& (1 <<< cs.length - 1) = vset cs a := by
  apply Nat.eq_of_testBit_eq
  intro i
  rw [Nat.testBit_and, Nat.one_shiftLeft, Nat.testBit_two_pow_sub_one, vset_tb]
  cases decide (i < cs.length) <;> simp
theorem coreF_can {cs : List Nat} {m : Nat} (h : canS cs m = false) : ∀ i, canS cs (coreF cs m i) = false
  | 0 => h
  | i + 1 => by
    cases e : canS cs (mdiff (coreF cs m i) (1 <<< i)) with
    | true => rw [core_t e]; exact coreF_can h i
    | false => rw [core_f e]; exact e
theorem core_none {cs : List Nat} : coreO cs = none ↔ 0 < cntP (isMod cs) 256 := by
  rw [cnt_pos]
  unfold coreO
  constructor
  · intro h
    split at h
    · rename_i h1
      obtain ⟨a, ha, h2⟩ := pB_true h1
      rw [vset_all] at h2
      exact ⟨a, ha, decide_eq_true h2⟩
    · cases h
  · rintro ⟨a, ha, h⟩
    have h1 : canS cs (1 <<< cs.length - 1) = true := pB_t ⟨a, ha, by rw [vset_all]; exact of_decide_eq_true h⟩
    rw [if_pos h1]
theorem core_some {cs : List Nat} {c : Nat} (h : coreO cs = some c) {a : Nat} (ha : a < 256) : ∃ i, i < cs.length ∧ xViol (cAt cs i) a = true ∧ c.testBit i = true := by
  unfold coreO at h
  split at h
  · cases h
  · rename_i h1
    have h2 := coreF_can (Bool.eq_false_iff.mpr h1) cs.length
    rw [Option.some.inj h] at h2
    have h3 : vset cs a &&& c ≠ 0 := fun q => pB_false h2 ⟨a, ha, q⟩
    obtain ⟨i, hi⟩ := nz_tb h3
    rw [Nat.testBit_and, vset_tb, Bool.and_eq_true, Bool.and_eq_true, decide_eq_true_eq] at hi
    exact ⟨i, hi.1.1, hi.1.2, hi.2⟩
theorem core_lt {cs : List Nat} {c : Nat} (hl : cs.length ≤ 24) (h : coreO cs = some c) : c < 16777216 := by
  unfold coreO at h
  split at h
  · cases h
  · rw [← Option.some.inj h]
    have := one_shl_lt hl
    exact coreF_lt (by omega) _
