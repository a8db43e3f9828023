/-! elimination, purely -/
theorem lowO_eq {a v : Nat} (hv : v < 8) (h1 : a.testBit v = true) (h2 : ∀ u, u < v → a.testBit u = false) : lowO a = some v := by
  unfold lowO
  rw [lowFrom_fst]
  cases h : fstFrom a.testBit 8 0 with
  | none => have := fst_none 8 0 h v (Nat.zero_le _) (by omega); rw [h1] at this; cases this
  | some w =>
    obtain ⟨a1, a2, a3, a4⟩ := fst_lt 8 0 w h
    rcases Nat.lt_trichotomy w v with q | q | q
    · rw [h2 w q] at a3; cases a3
    · rw [q]
    · rw [a4 v (Nat.zero_le _) q] at h1; cases h1
theorem lowO_inv {a v : Nat} (h : lowO a = some v) : v < 8 ∧ a.testBit v = true ∧ ∀ u, u < v → a.testBit u = false := by
  unfold lowO at h
  rw [lowFrom_fst] at h
  obtain ⟨a1, a2, a3, a4⟩ := fst_lt 8 0 v h
  exact ⟨by omega, a3, fun u hu => a4 u (Nat.zero_le _) hu⟩
theorem xFirst_tb (x : Nat) {i : Nat} (hi : i < 8) : (xFirst x).testBit i = x.testBit i := by
  unfold xFirst; rw [Nat.testBit_and, tb255, decide_eq_true hi, Bool.and_true]
theorem low_row : ∀ y, y < 512 → y ≠ 0 → y ≠ 256 → (lowO (xFirst y)).isSome = true := by decide +kernel
theorem lowO_xF {y : Nat} : lowO (xFirst y) = lowO y := by
  cases h : lowO (xFirst y) with
  | some v =>
    obtain ⟨a, b, c⟩ := lowO_inv h
    rw [xFirst_tb y a] at b
    exact (lowO_eq a b (fun u hu => by have := c u hu; rw [xFirst_tb y (by omega)] at this; exact this)).symm
  | none =>
    cases h2 : lowO y with
    | none => rfl
    | some v =>
      obtain ⟨a, b, c⟩ := lowO_inv h2
      have := lowO_eq (a := xFirst y) a (by rw [xFirst_tb y a]; exact b) (fun u hu => by rw [xFirst_tb y (by omega)]; exact c u hu)
      rw [h] at this; cases this
theorem mask16 : ∀ i, i < 16 → Nat.testBit 4294901759 i = true := by decide
theorem xRow_eq {x : Nat} (h : x < 131072) : xRow x = 256 * xSecond x + xFirst x := by
  rw [xClause_add (xFirst_lt x)]
  apply Nat.eq_of_testBit_eq
  intro i
  rw [tb_clause]
  unfold xRow
  rw [Nat.testBit_and]
  have hf : ∀ j, (xFirst x).testBit j = (x.testBit j && decide (j < 8)) := fun j => by unfold xFirst; rw [Nat.testBit_and, tb255]
  have hs : ∀ j, (xSecond x).testBit j = (x.testBit (8 + j) && decide (j < 8)) := fun j => by unfold xSecond; rw [Nat.testBit_and, tb255, Nat.testBit_shiftRight]
  rw [hf, hs]
  rcases Nat.lt_or_ge i 16 with q | q
  · rw [mask16 i q, Bool.and_true]
    rcases Nat.lt_or_ge i 8 with q2 | q2
    · rw [decide_eq_true q2, decide_eq_false (by omega), Bool.false_and, Bool.false_or, Bool.and_true]
    · rw [decide_eq_false (by omega : ¬ i < 8), decide_eq_true q2, decide_eq_true (by omega), show 8 + (i - 8) = i by omega]; simp
  · rw [decide_eq_false (by omega : ¬ i < 8), decide_eq_false (by omega : ¬ i - 8 < 8), Bool.and_false, Bool.and_false, Bool.and_false, Bool.or_false]
    by_cases e : i = 16
    · subst e; rw [show Nat.testBit 4294901759 16 = false by decide, Bool.and_false]
    · have h1 : x.testBit i = false := Nat.testBit_lt_two_pow (Nat.lt_of_lt_of_le h (by rw [show (131072 : Nat) = 2 ^ 17 by decide]; exact Nat.pow_le_pow_right (by decide) (by omega)))
      rw [h1, Bool.false_and]
def elX (x : Nat) : Nat := if xPar x then 256 * xSecond x + xFirst x else 0
theorem elX_lt {x : Nat} (hx : xOK x) : elX x < 512 := by
  unfold elX
  split
  · rename_i h; have := hx.2.1 h; have := xFirst_lt x; omega
  · decide
theorem red_0 (r : Nat → Nat) : ∀ n, redF r n 0 = 0
  | 0 => rfl
  | n + 1 => by rw [red_f (by rw [red_0 r n, Nat.zero_testBit]), red_0 r n]
theorem elF_s {cs : List Nat} (h : csOK cs) {i : Nat} (hi : i < cs.length) : elF cs (i + 1) = insF (elF cs i) (redF (elF cs i).1 8 (elX (cAt cs i))) := by
  unfold elX
  cases hp : xPar (cAt cs i) with
  | true => rw [if_pos rfl, elF_t hp, xRow_eq (h.2 _ (cAt_mem hi)).1]
  | false =>
    rw [if_neg (by simp), red_0, elF_f hp, insF_none (show lowO (xFirst 0) = none by decide), decide_eq_true rfl, Bool.and_true]
def RedP (r : Nat → Nat) : Prop := ∀ v, v < 8 → r v < 512 ∧ (r v ≠ 0 → (r v).testBit v = true ∧ (∀ u, u < v → (r v).testBit u = false) ∧ ∀ w, w < 8 → w ≠ v → (r w).testBit v = false)
def LinP (r li : Nat → Nat) (n : Nat) (pv : Nat → Nat) : Prop := (∀ j, j < n → pv j < 8 ∧ r (pv j) ≠ 0 ∧ li j = r (pv j)) ∧ (∀ i j, i < j → j < n → pv i < pv j) ∧ ∀ v, v < 8 → r v ≠ 0 → ∃ j, j < n ∧ pv j = v
theorem LinP.low {r li pv : Nat → Nat} {n j : Nat} (h : LinP r li n pv) (hr : RedP r) (hj : j < n) : lowO (r (pv j)) = some (pv j) := by
  obtain ⟨a, b, c⟩ := h.1 j hj
  obtain ⟨d, e⟩ := hr _ a
  exact lowO_eq a (e b).1 (e b).2.1
def bb (pv : Nat → Nat) : Nat → Nat
  | 0 => 0
  | j + 1 => pv j + 1
theorem red_gap {r : Nat → Nat} {x a : Nat} : ∀ m, (∀ v, a ≤ v → v < a + m → r v = 0) → redF r (a + m) x = redF r a x
  | 0, _ => rfl
  | m + 1, h => by
    have e := red_gap (r := r) (x := x) m (fun v h1 h2 => h v h1 (by omega))
    show (if (redF r (a + m) x).testBit (a + m) then redF r (a + m) x ^^^ r (a + m) else redF r (a + m) x) = _
    rw [h (a + m) (by omega) (by omega), Nat.xor_zero, ite_self, e]
theorem LinP.mono {r li pv : Nat → Nat} {n i j : Nat} (h : LinP r li n pv) (hi : i < n) (hj : j < n) (hl : pv i < pv j) : i < j := by
  rcases Nat.lt_trichotomy i j with q | q | q
  · exact q
  · subst q; omega
  · have := h.2.1 j i q hi; omega
theorem LinP.gap {r li pv : Nat → Nat} {n j : Nat} (h : LinP r li n pv) (hj : j < n) : ∀ v, bb pv j ≤ v → v < pv j → r v = 0 := by
  intro v h1 h2
  rcases Nat.eq_zero_or_pos (r v) with q | q
  · exact q
  · exfalso
    have := h.1 j hj
    obtain ⟨i, hi, rfl⟩ := h.2.2 v (by omega) (by omega)
    have hij := h.mono hi hj h2
    cases j with
    | zero => omega
    | succ j =>
      have h1' : pv j + 1 ≤ pv i := h1
      by_cases e : i = j
      · subst e; omega
      · have := h.2.1 i j (by omega) (by omega); omega
theorem LinP.red {r li pv : Nat → Nat} {n j x : Nat} (h : LinP r li n pv) (hj : j < n) : redF r (bb pv (j + 1)) x = if (redF r (bb pv j) x).testBit (pv j) then redF r (bb pv j) x ^^^ li j else redF r (bb pv j) x := by
  have hb : bb pv j ≤ pv j := by
    cases j with
    | zero => exact Nat.zero_le _
    | succ j => have := h.2.1 j (j + 1) (by omega) hj; show pv j + 1 ≤ _; omega
  have e := red_gap (r := r) (x := x) (a := bb pv j) (pv j - bb pv j) (fun v h1 h2 => h.gap hj v h1 (by omega))
  rw [show bb pv j + (pv j - bb pv j) = pv j by omega] at e
  rw [(h.1 j hj).2.2]
  show (if (redF r (pv j) x).testBit (pv j) then redF r (pv j) x ^^^ r (pv j) else redF r (pv j) x) = _
  rw [e]
theorem LinP.red_end {r li pv : Nat → Nat} {n x : Nat} (h : LinP r li n pv) : redF r 8 x = redF r (bb pv n) x := by
  have hb : bb pv n ≤ 8 := by
    cases n with
    | zero => exact Nat.zero_le _
    | succ n => have := (h.1 n (by omega)).1; show pv n + 1 ≤ 8; omega
  have e := red_gap (r := r) (x := x) (a := bb pv n) (8 - bb pv n) (fun v h1 h2 => by
    rcases Nat.eq_zero_or_pos (r v) with q | q
    · exact q
    · exfalso
      obtain ⟨i, hi, rfl⟩ := h.2.2 v (by omega) (by omega)
      cases n with
      | zero => omega
      | succ n =>
        have h1' : pv n + 1 ≤ pv i := h1
        by_cases e : i = n
        · subst e; omega
        · have := h.2.1 i n (by omega) (by omega); omega)
  rw [show bb pv n + (8 - bb pv n) = 8 by omega] at e
  exact e
theorem red_lt {r : Nat → Nat} (hr : RedP r) {x : Nat} (hx : x < 512) : ∀ n, n ≤ 8 → redF r n x < 512
  | 0, _ => hx
  | n + 1, h => by
    unfold redF
    have h1 := red_lt hr hx n (by omega)
    split
    · exact Nat.xor_lt_two_pow (n := 9) h1 (hr n (by omega)).1
    · exact h1
theorem red_clear {r : Nat → Nat} (hr : RedP r) {x : Nat} : ∀ n, n ≤ 8 → ∀ w, w < n → r w ≠ 0 → (redF r n x).testBit w = false
  | 0, _, w, hw, _ => absurd hw (Nat.not_lt_zero _)
  | n + 1, hn, w, hw, h0 => by
    have e : redF r (n + 1) x = if (redF r n x).testBit n then redF r n x ^^^ r n else redF r n x := rfl
    rw [e]
    by_cases ew : w = n
    · subst ew
      split
      · rename_i hb
        rw [Nat.testBit_xor, hb, ((hr w (by omega)).2 h0).1]; rfl
      · rename_i hb; simpa using hb
    · have h1 := red_clear hr (x := x) n (by omega) w (by omega) h0
      split
      · rw [Nat.testBit_xor, h1, ((hr w (by omega)).2 h0).2.2 n (by omega) (fun z => ew z.symm)]; rfl
      · exact h1
section INS
variable {r : Nat → Nat} {y p0 : Nat}
theorem sub_0 {v : Nat} (h : r v = 0) : subF r p0 y v = 0 := by unfold subF; rw [h, Nat.zero_testBit, if_neg (by simp)]
theorem sub_tb {v i : Nat} : (subF r p0 y v).testBit i = ((r v).testBit i ^^ ((r v).testBit p0 && y.testBit i)) := by
  unfold subF
  split
  · rename_i h; rw [Nat.testBit_xor, h, Bool.true_and]
  · rename_i h; rw [show (r v).testBit p0 = false by simpa using h, Bool.false_and, Bool.xor_false]
theorem sub_ne (hr : RedP r) (hc : ∀ w, w < 8 → r w ≠ 0 → y.testBit w = false) {v : Nat} (hv : v < 8) (h : r v ≠ 0) : (subF r p0 y v).testBit v = true := by
  rw [sub_tb, ((hr v hv).2 h).1, hc v hv h, Bool.and_false]; rfl
theorem ins_red (hr : RedP r) (hy : y < 512) (hc : ∀ w, w < 8 → r w ≠ 0 → y.testBit w = false) (hp : lowO y = some p0) : RedP (va_up (subF r p0 y) p0 y) := by
  obtain ⟨p1, p2, p3⟩ := lowO_inv hp
  have hr0 : r p0 = 0 := by
    rcases Nat.eq_zero_or_pos (r p0) with q | q
    · exact q
    · have := hc p0 p1 (by omega); rw [p2] at this; cases this
  intro v hv
  by_cases e : v = p0
  · subst e
    rw [up_s]
    refine ⟨hy, fun _ => ⟨p2, p3, fun w hw hwv => ?_⟩⟩
    rw [up_n _ _ hwv, sub_tb, p2, Bool.and_true, Bool.xor_self]
  · rw [up_n _ _ e]
    refine ⟨?_, fun h0 => ?_⟩
    · unfold subF
      split
      · exact Nat.xor_lt_two_pow (n := 9) (hr v hv).1 hy
      · exact (hr v hv).1
    · have h1 : r v ≠ 0 := fun w => h0 (sub_0 w)
      obtain ⟨a, b, c⟩ := (hr v hv).2 h1
      refine ⟨sub_ne hr hc hv h1, fun u hu => ?_, fun w hw hwv => ?_⟩
      · rw [sub_tb, b u hu]
        cases q : (r v).testBit p0 with
        | false => rfl
        | true =>
          have : v < p0 := by
            rcases Nat.lt_trichotomy v p0 with z | z | z
            · exact z
            · exact absurd z e
            · rw [b p0 z] at q; cases q
          rw [p3 u (by omega)]; rfl
      · by_cases e2 : w = p0
        · rw [e2, up_s]; exact hc v hv h1
        · rw [up_n _ _ e2, sub_tb, c w hw hwv, hc v hv h1, Bool.and_false]; rfl
def InsP (r li : Nat → Nat) (n : Nat) (pv : Nat → Nat) (y p0 a : Nat) : Prop := a ≤ n ∧ (∀ j, j < a → li j = subF r p0 y (pv j)) ∧ (∀ j, a < j → j ≤ n → li j = subF r p0 y (pv (j - 1))) ∧ ∀ j, a ≤ j → j < n → p0 < pv j
theorem InsP.start {li pv : Nat → Nat} {n : Nat} (h : ∀ j, j < n → li j = subF r p0 y (pv j)) : InsP r li n pv y p0 n := ⟨Nat.le_refl _, h, fun j h1 h2 => by omega, fun j h1 h2 => by omega⟩
theorem InsP.step {li pv : Nat → Nat} {n a : Nat} (h : InsP r li n pv y p0 a) (ha : 0 < a) (hg : p0 < pv (a - 1)) : InsP r (va_up li a (li (a - 1))) n pv y p0 (a - 1) := by
  obtain ⟨h1, h2, h3, h4⟩ := h
  refine ⟨by omega, fun j hj => by rw [up_n _ _ (by omega)]; exact h2 j (by omega), fun j hj hjn => ?_, fun j hj hjn => ?_⟩
  · by_cases e : j = a
    · rw [e, up_s]; exact h2 (a - 1) (by omega)
    · rw [up_n _ _ e]; exact h3 j (by omega) hjn
  · by_cases e : j = a - 1
    · rw [e]; exact hg
    · exact h4 j (by omega) hjn
theorem InsP.end_ {li l0 pv : Nat → Nat} {n a : Nat} (h : InsP r li n pv y p0 a) (hL : LinP r l0 n pv) (hr : RedP r) (hc : ∀ w, w < 8 → r w ≠ 0 → y.testBit w = false) (hp : lowO y = some p0) (ha : a = 0 ∨ pv (a - 1) ≤ p0) : LinP (va_up (subF r p0 y) p0 y) (va_up li a y) (n + 1) (fun j => if j < a then pv j else if j = a then p0 else pv (j - 1)) := by
  obtain ⟨p1, p2, p3⟩ := lowO_inv hp
  obtain ⟨h1, h2, h3, h4⟩ := h
  have hy0 : y ≠ 0 := fun w => by rw [w, Nat.zero_testBit] at p2; cases p2
  have hne : ∀ j, j < n → pv j ≠ p0 := fun j hj w => by
    have := hc (pv j) (hL.1 j hj).1 (hL.1 j hj).2.1
    rw [w, p2] at this; cases this
  have hlt : ∀ j, j < a → pv j < p0 := fun j hj => by
    rcases ha with q | q
    · omega
    · have h6 := hne (a - 1) (by omega)
      by_cases e : j = a - 1
      · subst e; omega
      · have := hL.2.1 j (a - 1) (by omega) (by omega); omega
  refine ⟨fun j hj => ?_, fun i j hij hj => ?_, fun v hv h0 => ?_⟩
  · by_cases e1 : j < a
    · simp only [if_pos e1]
      have h5 := hL.1 j (by omega)
      refine ⟨h5.1, ?_, ?_⟩
      · rw [up_n _ _ (hne j (by omega))]
        intro w
        have := sub_ne (p0 := p0) hr hc h5.1 h5.2.1
        rw [w, Nat.zero_testBit] at this; cases this
      · rw [up_n _ _ (by omega), up_n _ _ (hne j (by omega))]; exact h2 j e1
    · by_cases e2 : j = a
      · simp only [if_neg e1, if_pos e2]
        exact ⟨p1, by rw [up_s]; exact hy0, by rw [e2, up_s, up_s]⟩
      · simp only [if_neg e1, if_neg e2]
        have h5 := hL.1 (j - 1) (by omega)
        refine ⟨h5.1, ?_, ?_⟩
        · rw [up_n _ _ (hne (j - 1) (by omega))]
          intro w
          have := sub_ne (p0 := p0) hr hc h5.1 h5.2.1
          rw [w, Nat.zero_testBit] at this; cases this
        · rw [up_n _ _ e2, up_n _ _ (hne (j - 1) (by omega))]; exact h3 j (by omega) (by omega)
  · simp only []
    split
    · rename_i e1
      split
      · exact hL.2.1 i j hij (by omega)
      · split
        · exact hlt i e1
        · rename_i e2 e3
          have := hlt i e1
          have := h4 (j - 1) (by omega) (by omega)
          omega
    · rename_i e1
      split
      · rename_i e2
        rw [if_neg (show ¬ j < a by omega), if_neg (show ¬ j = a by omega)]
        exact h4 (j - 1) (by omega) (by omega)
      · rename_i e2
        rw [if_neg (show ¬ j < a by omega), if_neg (show ¬ j = a by omega)]
        exact hL.2.1 (i - 1) (j - 1) (by omega) (by omega)
  · by_cases e : v = p0
    · exact ⟨a, by omega, by simp only [if_neg (Nat.lt_irrefl a), if_pos]; exact e.symm⟩
    · rw [up_n _ _ e] at h0
      obtain ⟨j, hj, hjv⟩ := hL.2.2 v hv (fun w => h0 (sub_0 w))
      by_cases e1 : j < a
      · exact ⟨j, by omega, by simp only [if_pos e1]; exact hjv⟩
      · exact ⟨j + 1, by omega, by simp only [if_neg (show ¬ j + 1 < a by omega), if_neg (show ¬ j + 1 = a by omega)]; exact hjv⟩
end INS
theorem nth_lin {r li pv : Nat → Nat} {n : Nat} (h : LinP r li n pv) : ∀ (m a f : Nat), a + m = 8 → f ≤ n → (∀ i, i < f → pv i < a) → (∀ i, f ≤ i → i < n → a ≤ pv i) → ∀ x : Int32, (∀ j, f ≤ j → j < n → x = nI j → nthF (fun v => decide (r v ≠ 0)) x m a f = some (pv j)) ∧ ((∀ j, f ≤ j → j < n → x ≠ nI j) → nthF (fun v => decide (r v ≠ 0)) x m a f = none)
  | 0, a, f, ha, hf, h1, h2, x => by
    refine ⟨fun j hj hjn _ => ?_, fun _ => rfl⟩
    have := h2 j hj hjn
    have := (h.1 j hjn).1
    omega
  | m + 1, a, f, ha, hf, h1, h2, x => by
    have hn8 : n ≤ 2 ^ 30 := by
      rcases Nat.lt_or_ge (2 ^ 30) n with q | q
      · exfalso
        have hh : ∀ j, j < n → j ≤ pv j := fun j => by
          induction j with
          | zero => intro _; exact Nat.zero_le _
          | succ j ih => intro hj; have := ih (by omega); have := h.2.1 j (j + 1) (by omega) hj; omega
        have := hh 9 (by omega)
        have := (h.1 9 (by omega)).1
        omega
      · exact q
    unfold nthF
    by_cases hp : r a ≠ 0
    · rw [if_pos (decide_eq_true hp)]
      obtain ⟨i, hi, hia⟩ := h.2.2 a (by omega) hp
      have hif : i = f := by
        rcases Nat.lt_trichotomy i f with q | q | q
        · have := h1 i q; omega
        · exact q
        · have := h2 f (Nat.le_refl _) (by omega); have := h.2.1 f i q hi; omega
      subst hif
      have ih := nth_lin h m (a + 1) (i + 1) (by omega) (by omega) (fun w hw => by
        by_cases e : w = i
        · rw [e, hia]; omega
        · have := h1 w (by omega); omega) (fun w hw hwn => by have := h.2.1 i w (by omega) hwn; omega) x
      by_cases hx : nI i = x
      · rw [if_pos hx]
        refine ⟨fun j hj hjn hxj => ?_, fun hno => absurd hx.symm (hno i (Nat.le_refl _) hi)⟩
        have : j = i := by
          have := (nI_eq (by omega) (by omega)).mp (hxj.symm.trans hx.symm); omega
        rw [this, hia]
      · rw [if_neg hx]
        exact ⟨fun j hj hjn hxj => ih.1 j (by have : j ≠ i := fun w => hx (by rw [hxj, w]); omega) hjn hxj, fun hno => ih.2 (fun j hj hjn => hno j (by omega) hjn)⟩
    · rw [if_neg (by simpa using hp)]
      exact nth_lin h m (a + 1) f (by omega) hf (fun w hw => by have := h1 w hw; omega) (fun w hw hwn => by
        have h6 := h2 w hw hwn
        have : pv w ≠ a := fun z => hp (by rw [← z]; exact (h.1 w hwn).2.1)
        omega) x
def LinE (cs : List Nat) (i : Nat) (li : Nat → Nat) (n : Nat) (so : Bool) : Prop := n = (elF cs i).2.1 ∧ so = (elF cs i).2.2 ∧ RedP (elF cs i).1 ∧ ∃ pv, LinP (elF cs i).1 li n pv
theorem LinE.zero (cs : List Nat) (li : Nat → Nat) : LinE cs 0 li 0 true := ⟨rfl, rfl, fun v _ => ⟨by show 0 < 512; decide, fun h => absurd rfl h⟩, fun _ => 0, fun j hj => absurd hj (Nat.not_lt_zero _), fun i j _ hj => absurd hj (Nat.not_lt_zero _), fun v _ h => absurd rfl h⟩
theorem rowF_in {cs : List Nat} {li : Nat → Nat} {n : Nat} {so : Bool} (h : LinE cs cs.length li n so) {j : Nat} (hj : j < n) : rowF (elRun cs) (nI j) = some (li j) := by
  obtain ⟨h1, h2, h3, pv, h4⟩ := h
  unfold rowF elRun
  rw [(nth_lin h4 8 0 0 (by omega) (Nat.zero_le _) (fun i hi => absurd hi (Nat.not_lt_zero _)) (fun i _ _ => Nat.zero_le _) (nI j)).1 j (Nat.zero_le _) hj rfl]
  show some _ = _
  rw [(h4.1 j hj).2.2]
theorem rowF_out {cs : List Nat} {li : Nat → Nat} {n : Nat} {so : Bool} (h : LinE cs cs.length li n so) {x : Int32} (hn : n < 2 ^ 31) (hx : inL x n = false) : rowF (elRun cs) x = none := by
  obtain ⟨h1, h2, h3, pv, h4⟩ := h
  unfold rowF elRun
  rw [(nth_lin h4 8 0 0 (by omega) (Nat.zero_le _) (fun i hi => absurd hi (Nat.not_lt_zero _)) (fun i _ _ => Nat.zero_le _) x).2 (fun j _ hj w => by rw [w, inL_n (by omega) hn, decide_eq_true hj] at hx; cases hx)]
  rfl
