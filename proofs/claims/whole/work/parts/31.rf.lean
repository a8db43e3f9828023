/-! the reference, purely -/
def rAt (f : Nat → Nat) (i x : Nat) : Prop := f (1 + i) = (if xPar x then 1 else 0) ∧ f (25 + i) = xFirst x ∧ f (49 + i) = xSecond x ∧ x < 131072
def rowOK (f : Nat → Nat) (cs ds : List Nat) : Prop := f 0 = cs.length ∧ f 73 = ds.length ∧ (∀ i, i < cs.length → rAt f i (cAt cs i)) ∧ ∀ j, j < ds.length → f (74 + j) = cAt ds j
theorem xVars_par {x : Nat} (h : xPar x = true) : xVars x = xFirst x := by unfold xVars xFirst; rw [if_pos h]
theorem xVars_cl {x : Nat} (h : xPar x = false) : xVars x = xFirst x ||| xSecond x := by
  unfold xVars xFirst xSecond; rw [if_neg (by simp [h]), Nat.and_or_distrib_right]
theorem pc24 {a : Nat} (h : a < 256) : pcN 24 a = pcN 8 a := by
  have : ∀ n, pcN (8 + n) a = pcN 8 a := by
    intro n
    induction n with
    | zero => rfl
    | succ n ih =>
      show pcN (8 + n) a + (if a.testBit (8 + n) then 1 else 0) = _
      rw [ih, hi_false h (by omega)]; rfl
  exact this 16
theorem pc0 : ∀ a, a < 256 → pcN 8 a = 0 → a = 0 := by decide +kernel
theorem pc1 : ∀ a, a < 256 → pcN 8 a = 1 → a = 1 <<< low a := by decide +kernel
def rSt (x A T : Nat) : Nat := if xPar x then (if pcN 8 (mdiff (xVars x) A) = 1 then 1 else if pcN 8 (mdiff (xVars x) A) = 0 ∧ xViol x T = true then 2 else 0)
  else if (xFirst x &&& A &&& T ≠ 0 ∨ mdiff (xSecond x &&& A) T ≠ 0) ∨ 1 < pcN 8 (mdiff (xVars x) A) then 0 else if pcN 8 (mdiff (xVars x) A) = 1 then 1 else 2
theorem md0 {a b : Nat} (ha : a < 256) : mdiff a b = 0 ↔ ∀ i, i < 8 → a.testBit i = true → b.testBit i = true := by
  constructor
  · intro h i hi h1
    have := congrArg (fun x => x.testBit i) h
    simp only [mdiff_tb (show i < 32 by omega), Nat.zero_testBit, h1, Bool.true_and] at this
    simpa using this
  · intro h
    refine ext8 (mdiff_lt ha) (by decide) (fun i hi => ?_)
    rw [mdiff_tb (by omega), Nat.zero_testBit]
    cases h1 : a.testBit i with
    | false => rfl
    | true => rw [h i hi h1]; rfl
theorem an0 {a b : Nat} (ha : a < 256) : a &&& b = 0 ↔ ∀ i, i < 8 → a.testBit i = true → b.testBit i = false := by
  constructor
  · intro h i _ h1; exact and_zero_tb h h1
  · intro h
    refine and_zero (fun i h1 h2 => ?_)
    rw [h i (tb_lt8 ha h1) h1] at h2; cases h2
def tsub (T A : Nat) : Prop := ∀ i, T.testBit i = true → A.testBit i = true
theorem pc_flip {f T v : Nat} (hf : f < 256) (hv : v < 8) (h1 : f.testBit v = true) (h2 : T.testBit v = false) : pcN 8 (f &&& (T ||| 1 <<< v)) = pcN 8 (f &&& T) + 1 := by
  have e : f &&& (T ||| 1 <<< v) = (f &&& T) ||| 1 <<< v := by
    apply Nat.eq_of_testBit_eq
    intro i
    rw [Nat.testBit_and, Nat.testBit_or, Nat.testBit_or, Nat.testBit_and, bit1]
    by_cases e : v = i
    · subst e; simp [h1]
    · simp [e]
  rw [e]
  refine pcN_or ?_ 8 hv
  rw [Nat.testBit_and, h2, Bool.and_false]
theorem viol_par {x t : Nat} (h : xPar x = true) : xViol x t = !(decide (pcN 8 (xFirst x &&& t) % 2 = xSecond x)) := by unfold xViol; rw [if_pos h]
theorem viol_cl {x t : Nat} (h : xPar x = false) : xViol x t = (decide (xFirst x &&& t = 0) && decide (mdiff (xSecond x) t = 0)) := by unfold xViol; rw [if_neg (by simp [h])]
/-- one open variable of a parity: the two ways differ -/
theorem par_flip {x A T v : Nat} (hx : xOK x) (hp : xPar x = true) (hT : tsub T A) (hv : v < 8) (h1 : (xVars x).testBit v = true) (h2 : A.testBit v = false) : xViol x (T ||| 1 <<< v) = !(xViol x T) := by
  have hTv : T.testBit v = false := by
    cases h : T.testBit v with
    | false => rfl
    | true => rw [hT v h] at h2; cases h2
  rw [xVars_par hp] at h1
  rw [viol_par hp, viol_par hp, pc_flip (xFirst_lt x) hv h1 hTv]
  have h3 := hx.2.1 hp
  rw [Bool.not_not]
  by_cases e : pcN 8 (xFirst x &&& T) % 2 = xSecond x
  · rw [decide_eq_true e, decide_eq_false (by omega)]; rfl
  · rw [decide_eq_false e, decide_eq_true (by omega)]; rfl
section RST
variable {x A T : Nat}
theorem cl_hold (hp : xPar x = false) (hT : tsub T A) : (¬ (xFirst x &&& A &&& T ≠ 0 ∨ mdiff (xSecond x &&& A) T ≠ 0)) ↔ ((∀ i, i < 8 → (xFirst x).testBit i = true → T.testBit i = false) ∧ ∀ i, i < 8 → (xSecond x).testBit i = true → A.testBit i = true → T.testBit i = true) := by
  have e1 : xFirst x &&& A &&& T = xFirst x &&& T := by
    apply Nat.eq_of_testBit_eq
    intro i
    rw [Nat.testBit_and, Nat.testBit_and, Nat.testBit_and]
    cases h : T.testBit i with
    | false => rw [Bool.and_false, Bool.and_false]
    | true => rw [hT i h, Bool.and_true]
  rw [e1, not_or, Decidable.not_not, Decidable.not_not, an0 (xFirst_lt x), md0 (and_ltl (xSecond_lt x))]
  refine and_congr Iff.rfl ⟨fun h i hi h1 h2 => h i hi (by rw [Nat.testBit_and, h1, h2]; rfl), fun h i hi h1 => ?_⟩
  rw [Nat.testBit_and, Bool.and_eq_true] at h1
  exact h i hi h1.1 h1.2
theorem cl_viol (hp : xPar x = false) (t : Nat) : xViol x t = true ↔ ((∀ i, i < 8 → (xFirst x).testBit i = true → t.testBit i = false) ∧ ∀ i, i < 8 → (xSecond x).testBit i = true → t.testBit i = true) := by
  rw [viol_cl hp, Bool.and_eq_true, decide_eq_true_eq, decide_eq_true_eq, an0 (xFirst_lt x), md0 (xSecond_lt x)]
theorem cl_disj (hx : xOK x) (hp : xPar x = false) {i : Nat} (h1 : (xFirst x).testBit i = true) : (xSecond x).testBit i = false := and_zero_tb (hx.2.2 hp) h1
theorem xV_tb (hp : xPar x = false) (i : Nat) : (xVars x).testBit i = ((xFirst x).testBit i || (xSecond x).testBit i) := by rw [xVars_cl hp, Nat.testBit_or]
theorem op_tb {i : Nat} (hi : i < 8) : (mdiff (xVars x) A).testBit i = ((xVars x).testBit i && !(A.testBit i)) := mdiff_tb (by omega)
theorem rSt_pos (hx : xOK x) (hT : tsub T A) : decide (0 < rSt x A T) = xAct x A T := by
  have hO : mdiff (xVars x) A < 256 := mdiff_lt (xVars_lt x)
  unfold rSt xAct
  rcases (show pcN 8 (mdiff (xVars x) A) = 0 ∨ pcN 8 (mdiff (xVars x) A) = 1 ∨ 1 < pcN 8 (mdiff (xVars x) A) by omega) with h0 | h1 | h2
  · have e := pc0 _ hO h0
    rw [e, Nat.or_zero, Bool.or_self, pcN_0]
    cases hp : xPar x with
    | true =>
      cases hv : xViol x T <;> simp
    | false =>
      rw [e] at hO
      have hVA : ∀ i, i < 8 → (xVars x).testBit i = true → A.testBit i = true := (md0 (xVars_lt x)).mp e
      by_cases hh : xFirst x &&& A &&& T ≠ 0 ∨ mdiff (xSecond x &&& A) T ≠ 0
      · have : xViol x T = false := by
          cases hv : xViol x T with
          | false => rfl
          | true =>
            have h3 := (cl_viol hp T).mp hv
            exact absurd hh ((cl_hold hp hT).mpr ⟨h3.1, fun i hi a _ => h3.2 i hi a⟩)
        rw [this, if_neg (by simp), if_pos (Or.inl hh)]; rfl
      · have h4 := (cl_hold hp hT).mp hh
        have : xViol x T = true := (cl_viol hp T).mpr ⟨h4.1, fun i hi a => h4.2 i hi a (hVA i hi (by rw [xV_tb hp, a, Bool.or_true]))⟩
        rw [this, if_neg (by simp), if_neg (by intro w; rcases w with w | w; exact hh w; omega)]; rfl
  · have e := pc1 _ hO h1
    have hne : mdiff (xVars x) A ≠ 0 := fun w => by rw [w, pcN_0] at h1; cases h1
    obtain ⟨v1, v2, v3⟩ := open_fresh hne
    generalize hv : low (mdiff (xVars x) A) = v at e v1 v2 v3
    rw [h1]
    cases hp : xPar x with
    | true =>
      rw [e, par_flip hx hp hT v1 v3 v2]
      cases xViol x T <;> simp
    | false =>
      have hop : ∀ i, i < 8 → (xVars x).testBit i = true → A.testBit i = false → i = v := fun i hi a b => by
        have h5 := op_tb (x := x) (A := A) hi
        rw [a, b, e, bit1] at h5
        have := of_decide_eq_true (h5.trans rfl)
        exact this.symm
      have hTA : ∀ i, (T ||| 1 <<< v).testBit i = (T.testBit i || decide (v = i)) := fun i => by rw [Nat.testBit_or, bit1]
      by_cases hh : xFirst x &&& A &&& T ≠ 0 ∨ mdiff (xSecond x &&& A) T ≠ 0
      · have a1 : xViol x T = false := by
          cases hv : xViol x T with
          | false => rfl
          | true =>
            have h3 := (cl_viol hp T).mp hv
            exact absurd hh ((cl_hold hp hT).mpr ⟨h3.1, fun i hi a _ => h3.2 i hi a⟩)
        have a2 : xViol x (T ||| 1 <<< v) = false := by
          cases hv : xViol x (T ||| 1 <<< v) with
          | false => rfl
          | true =>
            have h3 := (cl_viol hp _).mp hv
            refine absurd hh ((cl_hold hp hT).mpr ⟨fun i hi a => ?_, fun i hi a b => ?_⟩)
            · have := h3.1 i hi a
              rw [hTA, Bool.or_eq_false_iff] at this; exact this.1
            · have := h3.2 i hi a
              rw [hTA, Bool.or_eq_true] at this
              rcases this with q | q
              · exact q
              · rw [← of_decide_eq_true q, v2] at b; cases b
        rw [e, a1, a2, if_neg (by simp), if_pos (Or.inl hh)]; rfl
      · have h4 := (cl_hold hp hT).mp hh
        have : (xViol x T || xViol x (T ||| 1 <<< v)) = true := by
          cases hf : (xFirst x).testBit v with
          | true =>
            have : xViol x T = true := (cl_viol hp T).mpr ⟨h4.1, fun i hi a => by
              cases hA : A.testBit i with
              | true => exact h4.2 i hi a hA
              | false =>
                have := hop i hi (by rw [xV_tb hp, a, Bool.or_true]) hA
                subst this
                rw [cl_disj hx hp hf] at a; cases a⟩
            rw [this, Bool.true_or]
          | false =>
            have : xViol x (T ||| 1 <<< v) = true := (cl_viol hp _).mpr ⟨fun i hi a => by
              rw [hTA, h4.1 i hi a, Bool.false_or]
              exact decide_eq_false (fun w => by subst w; rw [hf] at a; cases a), fun i hi a => by
              rw [hTA]
              cases hA : A.testBit i with
              | true => rw [h4.2 i hi a hA, Bool.true_or]
              | false => rw [decide_eq_true (hop i hi (by rw [xV_tb hp, a, Bool.or_true]) hA).symm, Bool.or_true]⟩
            rw [this, Bool.or_true]
        rw [e, this, if_neg (by simp), if_neg (by intro w; rcases w with w | w; exact hh w; omega)]; rfl
  · rw [decide_eq_false (show ¬ pcN 8 (mdiff (xVars x) A) ≤ 1 by omega), Bool.false_and]
    cases hp : xPar x with
    | true => rw [if_pos rfl, if_neg (by omega), if_neg (by omega)]; rfl
    | false => rw [if_neg (by simp), if_pos (Or.inr h2)]; rfl
theorem rSt_2 (h : xAct x A T = true) (hx : xOK x) (hT : tsub T A) : rSt x A T = 2 ↔ mdiff (xVars x) A = 0 := by
  have hO : mdiff (xVars x) A < 256 := mdiff_lt (xVars_lt x)
  have h1 : 0 < rSt x A T := of_decide_eq_true ((rSt_pos hx hT).trans h)
  have hle : pcN 8 (mdiff (xVars x) A) ≤ 1 := by
    unfold xAct at h
    rw [Bool.and_eq_true] at h
    exact of_decide_eq_true h.1
  unfold rSt at h1 ⊢
  constructor
  · intro h2
    refine pc0 _ hO ?_
    split at h2
    · split at h2
      · cases h2
      · rename_i w; omega
    · split at h2
      · cases h2
      · split at h2
        · cases h2
        · rename_i w; omega
  · intro e
    rw [e, pcN_0] at h1 ⊢
    split at h1
    · rename_i hp
      rw [if_pos hp]
      rw [if_neg (by decide)] at h1 ⊢
      split at h1
      · rename_i w; rw [if_pos w]
      · cases h1
    · rename_i hp
      rw [if_neg hp]
      split at h1
      · cases h1
      · rename_i w; rw [if_neg w, if_neg (by decide)]
theorem rTrue (h : xAct x A T = true) (hx : xOK x) (hT : tsub T A) (ho : mdiff (xVars x) A ≠ 0) : (if xPar x then !(xViol x (T ||| 1 <<< low (mdiff (xVars x) A))) else (xFirst x).testBit (low (mdiff (xVars x) A))) = xViol x T := by
  have hO : mdiff (xVars x) A < 256 := mdiff_lt (xVars_lt x)
  have h1 := h
  unfold xAct at h1
  rw [Bool.and_eq_true] at h1
  have hle := of_decide_eq_true h1.1
  have hpc : pcN 8 (mdiff (xVars x) A) = 1 := by
    rcases (show pcN 8 (mdiff (xVars x) A) = 0 ∨ pcN 8 (mdiff (xVars x) A) = 1 by omega) with q | q
    · exact absurd (pc0 _ hO q) ho
    · exact q
  have e := pc1 _ hO hpc
  obtain ⟨v1, v2, v3⟩ := open_fresh ho
  have h1b := h1.2
  generalize hv : low (mdiff (xVars x) A) = v at e v1 v2 v3
  cases hp : xPar x with
  | true => rw [if_pos rfl, par_flip hx hp hT v1 v3 v2, Bool.not_not]
  | false =>
    rw [if_neg (by simp)]
    rw [e] at h1b
    have hTv : T.testBit v = false := by
      cases q : T.testBit v with
      | false => rfl
      | true => rw [hT v q] at v2; cases v2
    cases hf : (xFirst x).testBit v with
    | false =>
      cases hq : xViol x T with
      | false => rfl
      | true =>
        have h3 := (cl_viol hp T).mp hq
        rw [xV_tb hp, hf, Bool.false_or] at v3
        rw [h3.2 v v1 v3] at hTv; cases hTv
    | true =>
      cases hq : xViol x T with
      | true => rfl
      | false =>
        rw [hq, Bool.false_or] at h1b
        have h3 := (cl_viol hp _).mp h1b
        have := h3.1 v v1 hf
        rw [Nat.testBit_or, bit1, decide_eq_true rfl, Bool.or_true] at this
        cases this
end RST
theorem trOK.TA {tr : List Ent} : tsub (tT tr) (tA tr) := fun _ h => tT_sub h
