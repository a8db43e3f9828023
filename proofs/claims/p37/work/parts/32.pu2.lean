/-! pure: the eliminated system is the parities' own -/
def pbt (x : Nat) : Nat → Bool
  | 0 => false
  | n + 1 => Bool.xor (pbt x n) (x.testBit n)
theorem pbt_pc (x : Nat) : ∀ n, pcN n x % 2 = if pbt x n then 1 else 0
  | 0 => rfl
  | n + 1 => by
    have ih := pbt_pc x n
    unfold pcN pbt
    cases h1 : pbt x n <;> cases h2 : x.testBit n <;> simp [h1] at ih ⊢ <;> omega
theorem pbt_xor {x y : Nat} : ∀ n, pbt (x ^^^ y) n = Bool.xor (pbt x n) (pbt y n)
  | 0 => rfl
  | n + 1 => by
    unfold pbt
    rw [pbt_xor n, Nat.testBit_xor]
    cases pbt x n <;> cases pbt y n <;> cases x.testBit n <;> cases y.testBit n <;> rfl
/-- whether an assignment breaks a row -/
def rb (r a : Nat) : Bool := Bool.xor (pbt (r &&& 255 &&& a) 8) (r.testBit 8)
theorem rb_xor {r s a : Nat} : rb (r ^^^ s) a = Bool.xor (rb r a) (rb s a) := by
  have e : (r ^^^ s) &&& 255 &&& a = (r &&& 255 &&& a) ^^^ (s &&& 255 &&& a) := by
    apply Nat.eq_of_testBit_eq
    intro i
    simp only [Nat.testBit_and, Nat.testBit_xor]
    cases r.testBit i <;> cases s.testBit i <;> cases Nat.testBit 255 i <;> cases a.testBit i <;> rfl
  unfold rb
  rw [e, pbt_xor, Nat.testBit_xor]
  cases pbt (r &&& 255 &&& a) 8 <;> cases pbt (s &&& 255 &&& a) 8 <;> cases r.testBit 8 <;> cases s.testBit 8 <;> rfl
theorem pbt_0 : pbt 0 8 = false := by decide
theorem rb_0 {a : Nat} : rb 0 a = false := by
  unfold rb
  rw [Nat.zero_and, Nat.zero_and, pbt_0, Nat.zero_testBit]; rfl
theorem pbt_1 : ∀ j, j < 8 → pbt (1 <<< j) 8 = true := by decide
theorem rb_flip {r a j : Nat} (hj : j < 8) : rb r (a ^^^ 1 <<< j) = Bool.xor (rb r a) (r.testBit j) := by
  have e : r &&& 255 &&& (a ^^^ 1 <<< j) = (r &&& 255 &&& a) ^^^ (if r.testBit j then 1 <<< j else 0) := by
    apply Nat.eq_of_testBit_eq
    intro i
    rw [Nat.testBit_and, Nat.testBit_and, Nat.testBit_xor, Nat.testBit_xor, Nat.testBit_and, Nat.testBit_and, bit1, tb255]
    by_cases hi : j = i
    · subst hi
      rw [decide_eq_true hj, decide_eq_true rfl]
      cases h : r.testBit j with
      | false => simp
      | true => simp [bit1]
    · rw [decide_eq_false hi]
      have h0 : (if r.testBit j = true then 1 <<< j else 0).testBit i = false := by
        split
        · rw [bit1, decide_eq_false hi]
        · exact Nat.zero_testBit i
      rw [h0]; simp
  unfold rb
  rw [e, pbt_xor]
  cases h : r.testBit j with
  | false => simp [pbt_0]
  | true =>
    have h1 := pbt_1 j hj
    simp only [if_true, h1]
    cases pbt (r &&& 255 &&& a) 8 <;> cases r.testBit 8 <;> rfl
theorem shr8 {l : Nat} (h : l < 512) : l >>> 8 = if l.testBit 8 then 1 else 0 := by
  rw [Nat.shiftRight_eq_div_pow, Nat.testBit_eq_decide_div_mod_eq]
  have h1 : l / 2 ^ 8 < 2 := by omega
  rcases (show l / 2 ^ 8 = 0 ∨ l / 2 ^ 8 = 1 by omega) with e | e <;> rw [e] <;> rfl
theorem rb_iff {l a : Nat} (h : l < 512) : pcN 8 (l &&& 255 &&& a) % 2 = l >>> 8 ↔ rb l a = false := by
  rw [shr8 h, pbt_pc]
  unfold rb
  cases pbt (l &&& 255 &&& a) 8 <;> cases l.testBit 8 <;> simp
theorem tb_m {i : Nat} : Nat.testBit 4294901759 i = (decide (i < 32) && !decide (i = 16)) := by
  by_cases h : i < 32
  · have : ∀ i, i < 32 → Nat.testBit 4294901759 i = (decide (i < 32) && !decide (i = 16)) := by decide
    exact this i h
  · rw [decide_eq_false h, Bool.false_and]
    exact Nat.testBit_lt_two_pow (Nat.lt_of_lt_of_le (show 4294901759 < 2 ^ 32 by decide) (Nat.pow_le_pow_right (by decide) (by omega)))
theorem xSecond_tb {x i : Nat} : (xSecond x).testBit i = (x.testBit (8 + i) && decide (i < 8)) := by
  unfold xSecond; rw [Nat.testBit_and, Nat.testBit_shiftRight, tb255]
theorem xFirst_tb {x i : Nat} : (xFirst x).testBit i = (x.testBit i && decide (i < 8)) := by
  unfold xFirst; rw [Nat.testBit_and, tb255]
theorem xRow_512 {x : Nat} (hx : xOK x) (hp : xPar x = true) : xRow x < 512 := by
  rw [show (512 : Nat) = 2 ^ 9 by decide]
  apply Nat.lt_pow_two_of_testBit
  intro i hi
  unfold xRow
  rw [Nat.testBit_and, tb_m]
  by_cases h16 : i = 16
  · simp [h16]
  · by_cases h17 : 17 ≤ i
    · rw [Nat.testBit_lt_two_pow (Nat.lt_of_lt_of_le hx.1 (by rw [show (131072 : Nat) = 2 ^ 17 by decide]; exact Nat.pow_le_pow_right (by decide) h17)), Bool.false_and]
    · have h1 : (xSecond x).testBit (i - 8) = false := Nat.testBit_lt_two_pow (Nat.lt_of_lt_of_le (hx.2.1 hp) (by rw [show (2 : Nat) = 2 ^ 1 by decide]; exact Nat.pow_le_pow_right (by decide) (by omega)))
      rw [xSecond_tb, show 8 + (i - 8) = i by omega, decide_eq_true (show i - 8 < 8 by omega), Bool.and_true] at h1
      rw [h1, Bool.false_and]
theorem xRow_viol {x a : Nat} (hx : xOK x) (hp : xPar x = true) : xViol x a = false ↔ rb (xRow x) a = false := by
  have h0 : xViol x a = false ↔ pcN 8 (xFirst x &&& a) % 2 = xSecond x := by
    have := viol_par (x := x) (a := a) hp
    cases h : xViol x a with
    | true => simp [this.mp h]
    | false =>
      constructor
      · intro _
        refine Classical.byContradiction fun q => ?_
        rw [this.mpr q] at h; cases h
      · intro _; rfl
  have e1 : xRow x &&& 255 = xFirst x := by
    apply Nat.eq_of_testBit_eq
    intro i
    unfold xRow xFirst
    rw [Nat.testBit_and, Nat.testBit_and, Nat.testBit_and, tb_m, tb255]
    by_cases hi : i < 8
    · rw [decide_eq_true hi, decide_eq_true (show i < 32 by omega), decide_eq_false (show ¬ i = 16 by omega)]; simp
    · simp [hi]
  have e2 : xSecond x = if (xRow x).testBit 8 then 1 else 0 := by
    have h1 : (xRow x).testBit 8 = (xSecond x).testBit 0 := by
      rw [xSecond_tb]
      unfold xRow
      rw [Nat.testBit_and, tb_m]; simp
    have h2 := hx.2.1 hp
    rw [h1]
    rcases (show xSecond x = 0 ∨ xSecond x = 1 by omega) with e | e <;> rw [e] <;> rfl
  rw [h0, e2]
  unfold rb
  rw [e1, pbt_pc]
  cases pbt (xFirst x &&& a) 8 <;> cases (xRow x).testBit 8 <;> simp
def elRows (r : Nat → Nat) : Prop := (∀ v, v < 8 → r v < 512) ∧ ∀ v, v < 8 → r v ≠ 0 → (r v).testBit v = true ∧ (∀ j, j < v → (r v).testBit j = false) ∧ ∀ u, u < 8 → u ≠ v → (r u).testBit v = false
def elSat (r : Nat → Nat) (a : Nat) : Prop := ∀ v, v < 8 → rb (r v) a = false
theorem red_spec {r : Nat → Nat} (hr : elRows r) {x : Nat} (hx : x < 512) : ∀ n, n ≤ 8 → redF r n x < 512 ∧ (∀ v, v < n → r v ≠ 0 → (redF r n x).testBit v = false) ∧ ∀ a, elSat r a → rb (redF r n x) a = rb x a
  | 0, _ => ⟨hx, fun v h => absurd h (Nat.not_lt_zero _), fun _ _ => rfl⟩
  | n + 1, h => by
    obtain ⟨h1, h2, h3⟩ := red_spec hr hx n (by omega)
    cases hb : (redF r n x).testBit n with
    | true =>
      rw [red_t hb]
      refine ⟨Nat.xor_lt_two_pow (n := 9) h1 (hr.1 n (by omega)), fun v hv h0 => ?_, fun a ha => ?_⟩
      · rw [Nat.testBit_xor]
        by_cases e : v = n
        · subst e; rw [hb, (hr.2 v (by omega) h0).1]; rfl
        · rw [h2 v (by omega) h0, (hr.2 v (by omega) h0).2.2 n (by omega) (fun q => e q.symm)]; rfl
      · rw [rb_xor, h3 a ha, ha n (by omega), Bool.xor_false]
    | false =>
      rw [red_f hb]
      refine ⟨h1, fun v hv h0 => ?_, h3⟩
      by_cases e : v = n
      · subst e; exact hb
      · exact h2 v (by omega) h0
theorem cnt_add {p q : Nat → Bool} {j : Nat} (hp : p j = false) (hq : q j = true) : ∀ n, j < n → (∀ v, v < n → v ≠ j → p v = q v) → cntP q n = cntP p n + 1
  | 0, h, _ => absurd h (Nat.not_lt_zero _)
  | n + 1, h, hh => by
    by_cases e : j = n
    · subst e
      rw [cnt_t hq, cnt_f hp, cnt_congr j (fun a ha => hh a (by omega) (by omega))]
    · have ih := cnt_add hp hq n (by omega) (fun v hv h2 => hh v (by omega) h2)
      have h2 := hh n (by omega) (fun q => e q.symm)
      cases hq2 : q n with
      | true => rw [cnt_t hq2, cnt_t (h2.trans hq2), ih]
      | false => rw [cnt_f hq2, cnt_f (h2.trans hq2), ih]
def elInv (cs : List Nat) (k : Nat) (e : EL) : Prop := elRows e.1 ∧ e.2.1 = cntP (fun v => decide (e.1 v ≠ 0)) 8 ∧ ∀ a, (∀ i, i < k → xPar (cAt cs i) = true → xViol (cAt cs i) a = false) ↔ (e.2.2 = true ∧ elSat e.1 a)
theorem all_succ {P : Nat → Prop} {k : Nat} : (∀ i, i < k + 1 → P i) ↔ (∀ i, i < k → P i) ∧ P k := by
  constructor
  · intro h; exact ⟨fun i hi => h i (by omega), h k (by omega)⟩
  · rintro ⟨h1, h2⟩ i hi
    by_cases e : i = k
    · subst e; exact h2
    · exact h1 i (by omega)
theorem elInv_row {cs : List Nat} {k row : Nat} {e : EL} (h : elInv cs k e) (hx : xOK (cAt cs k)) (hp : xPar (cAt cs k) = true) (hrow : redF e.1 8 (xRow (cAt cs k)) = row) : elInv cs (k + 1) (insF e row) := by
  obtain ⟨hR, hn, hA⟩ := h
  obtain ⟨q1, q2, q3⟩ := red_spec hR (xRow_512 hx hp) 8 (Nat.le_refl _)
  rw [hrow] at q1 q2 q3
  have hA2 : ∀ a, (∀ i, i < k + 1 → xPar (cAt cs i) = true → xViol (cAt cs i) a = false) ↔ (e.2.2 = true ∧ elSat e.1 a) ∧ rb row a = false := by
    intro a
    rw [all_succ (P := fun i => xPar (cAt cs i) = true → xViol (cAt cs i) a = false), hA a]
    constructor
    · rintro ⟨h1, h2⟩
      exact ⟨h1, by rw [q3 a h1.2]; exact (xRow_viol hx hp).mp (h2 hp)⟩
    · rintro ⟨h1, h2⟩
      refine ⟨h1, fun _ => (xRow_viol hx hp).mpr ?_⟩
      rw [q3 a h1.2] at h2; exact h2
  cases hl : lowO (xFirst row) with
  | none =>
    rw [insF_none hl]
    have h0 : xFirst row = 0 := by
      refine Classical.byContradiction fun q => ?_
      obtain ⟨v, hv, -⟩ := lowO_some q (xFirst_lt _)
      rw [hl] at hv; cases hv
    refine ⟨hR, hn, fun a => ?_⟩
    rw [hA2 a]
    have e1 : rb row a = row.testBit 8 := by
      show Bool.xor (pbt (xFirst row &&& a) 8) (row.testBit 8) = _
      rw [h0, Nat.zero_and, pbt_0, Bool.false_xor]
    have e2 : row = 0 ↔ row.testBit 8 = false := by
      constructor
      · intro q; rw [q]; exact Nat.zero_testBit 8
      · intro q
        apply Nat.eq_of_testBit_eq
        intro i
        rw [Nat.zero_testBit]
        rcases Nat.lt_trichotomy i 8 with hi | hi | hi
        · have h1 : (xFirst row).testBit i = false := by rw [h0]; exact Nat.zero_testBit i
          rw [xFirst_tb, decide_eq_true hi, Bool.and_true] at h1
          exact h1
        · rw [hi]; exact q
        · exact Nat.testBit_lt_two_pow (Nat.lt_of_lt_of_le q1 (by rw [show (512 : Nat) = 2 ^ 9 by decide]; exact Nat.pow_le_pow_right (by decide) hi))
    show (e.2.2 = true ∧ elSat e.1 a) ∧ rb row a = false ↔ (e.2.2 && decide (row = 0)) = true ∧ elSat e.1 a
    rw [e1, ← e2, Bool.and_eq_true, decide_eq_true_eq]
    constructor
    · rintro ⟨⟨a1, a2⟩, a3⟩; exact ⟨⟨a1, a3⟩, a2⟩
    · rintro ⟨⟨a1, a3⟩, a2⟩; exact ⟨⟨a1, a2⟩, a3⟩
  | some pv =>
    rw [insF_some hl]
    obtain ⟨v0, hv0, p1, p2, p3⟩ := lowO_some (a := xFirst row) (fun q => by rw [q, lowO_zero] at hl; cases hl) (xFirst_lt _)
    rw [hl] at hv0
    cases hv0
    rw [xFirst_tb, decide_eq_true p1, Bool.and_true] at p2
    have p4 : ∀ j, j < pv → row.testBit j = false := fun j hj => by
      have := p3 j hj
      rw [xFirst_tb, decide_eq_true (show j < 8 by omega), Bool.and_true] at this
      exact this
    obtain ⟨r', hr'⟩ : ∃ r' : Nat → Nat, r' = va_up (subF e.1 pv row) pv row := ⟨_, rfl⟩
    have hpv : r' pv = row := by rw [hr', up_s]
    have hs : ∀ v, v ≠ pv → r' v = if (e.1 v).testBit pv then e.1 v ^^^ row else e.1 v := fun v hv => by
      rw [hr', up_n _ _ hv]; rfl
    have hb : ∀ v j, v ≠ pv → (r' v).testBit j = Bool.xor ((e.1 v).testBit j) ((e.1 v).testBit pv && row.testBit j) := fun v j hv => by
      rw [hs v hv]
      cases (e.1 v).testBit pv with
      | true => rw [if_pos rfl, Nat.testBit_xor, Bool.true_and]
      | false => rw [if_neg (by simp), Bool.false_and, Bool.xor_false]
    have hrb : ∀ v a, v ≠ pv → rb (r' v) a = Bool.xor (rb (e.1 v) a) ((e.1 v).testBit pv && rb row a) := fun v a hv => by
      rw [hs v hv]
      cases (e.1 v).testBit pv with
      | true => rw [if_pos rfl, rb_xor, Bool.true_and]
      | false => rw [if_neg (by simp), Bool.false_and, Bool.xor_false]
    have hz : e.1 pv = 0 := by
      refine Classical.byContradiction fun q => ?_
      rw [q2 pv p1 q] at p2; cases p2
    have hnz : ∀ v, v < 8 → v ≠ pv → (r' v ≠ 0 ↔ e.1 v ≠ 0) := fun v hv hne => by
      constructor
      · intro h q
        apply h
        rw [hs v hne, q, Nat.zero_testBit, if_neg (by simp)]
      · intro h q
        have := hb v v hne
        rw [q, Nat.zero_testBit, (hR.2 v hv h).1, q2 v hv h, Bool.and_false] at this
        cases this
    have hrow0 : row ≠ 0 := fun q => by rw [q, Nat.zero_testBit] at p2; cases p2
    rw [← hr']
    show elRows r' ∧ e.2.1 + 1 = cntP (fun v => decide (r' v ≠ 0)) 8 ∧ ∀ a, (∀ i, i < k + 1 → xPar (cAt cs i) = true → xViol (cAt cs i) a = false) ↔ (e.2.2 = true ∧ elSat r' a)
    refine ⟨⟨fun v hv => ?_, fun v hv h0 => ?_⟩, ?_, fun a => ?_⟩
    · by_cases hne : v = pv
      · rw [hne, hpv]; exact q1
      · rw [hs v hne]
        split
        · exact Nat.xor_lt_two_pow (n := 9) (hR.1 v hv) q1
        · exact hR.1 v hv
    · by_cases hne : v = pv
      · subst hne
        rw [hpv]
        refine ⟨p2, p4, fun u hu hne => ?_⟩
        rw [hb u v hne, p2, Bool.and_true, Bool.xor_self]
      · have h1 := (hnz v hv hne).mp h0
        obtain ⟨a1, a2, a3⟩ := hR.2 v hv h1
        refine ⟨by rw [hb v v hne, a1, q2 v hv h1, Bool.and_false]; rfl, fun j hj => ?_, fun u hu hue => ?_⟩
        · rw [hb v j hne, a2 j hj, Bool.false_xor]
          cases ht : (e.1 v).testBit pv with
          | false => rfl
          | true =>
            have : ¬ pv < v := fun q => by rw [a2 pv q] at ht; cases ht
            rw [p4 j (by omega)]; rfl
        · by_cases hup : u = pv
          · rw [hup, hpv]; exact q2 v hv h1
          · rw [hb u v hup, a3 u hu hue, q2 v hv h1, Bool.and_false]; rfl
    · rw [hn]
      refine (cnt_add (j := pv) ?_ ?_ 8 p1 (fun v hv hne => ?_)).symm
      · rw [hz]; rfl
      · rw [hpv]; exact decide_eq_true hrow0
      · rw [decide_eq_decide]; exact (hnz v hv hne).symm
    · rw [hA2 a]
      show (e.2.2 = true ∧ elSat e.1 a) ∧ rb row a = false ↔ e.2.2 = true ∧ elSat r' a
      constructor
      · rintro ⟨⟨a1, a2⟩, a3⟩
        refine ⟨a1, fun v hv => ?_⟩
        by_cases hne : v = pv
        · rw [hne, hpv]; exact a3
        · rw [hrb v a hne, a2 v hv, a3, Bool.and_false]; rfl
      · rintro ⟨a1, a2⟩
        have a3 : rb row a = false := by have := a2 pv p1; rw [hpv] at this; exact this
        refine ⟨⟨a1, fun v hv => ?_⟩, a3⟩
        by_cases hne : v = pv
        · rw [hne, hz]; exact rb_0
        · have := a2 v hv
          rw [hrb v a hne, a3, Bool.and_false, Bool.xor_false] at this
          exact this
theorem el_inv {cs : List Nat} (hc : csOK cs) : ∀ k, k ≤ cs.length → elInv cs k (elF cs k)
  | 0, _ => ⟨⟨fun v _ => by show 0 < 512; decide, fun v _ h => absurd rfl h⟩, by show 0 = cntP (fun v => decide ((0 : Nat) ≠ 0)) 8; decide, fun a => ⟨fun _ => ⟨rfl, fun v _ => rb_0⟩, fun _ i h => absurd h (Nat.not_lt_zero _)⟩⟩
  | k + 1, h => by
    have ih := el_inv hc k (by omega)
    have hx : xOK (cAt cs k) := hc.2 _ (cAt_mem h)
    cases hp : xPar (cAt cs k) with
    | true => rw [elF_t hp]; exact elInv_row ih hx hp rfl
    | false =>
      rw [elF_f hp]
      refine ⟨ih.1, ih.2.1, fun a => ?_⟩
      rw [all_succ (P := fun i => xPar (cAt cs i) = true → xViol (cAt cs i) a = false), ih.2.2 a]
      exact ⟨fun q => q.1, fun q => ⟨q, fun q2 => by rw [hp] at q2; cases q2⟩⟩
/-! counting -/
theorem cntP_countP (p : Nat → Bool) : ∀ n, cntP p n = (List.range n).countP p
  | 0 => rfl
  | n + 1 => by
    unfold cntP
    rw [cntP_countP p n, List.range_succ, List.countP_append]
    simp [List.countP_cons]
set_option maxRecDepth 100000 in
theorem perm_flip : ∀ j, j < 8 → ((List.range 256).map (fun a => a ^^^ 1 <<< j)).isPerm (List.range 256) = true := by decide +kernel
theorem cnt_flip {p : Nat → Bool} {j : Nat} (hj : j < 8) : cntP (fun a => p (a ^^^ 1 <<< j)) 256 = cntP p 256 := by
  rw [cntP_countP, cntP_countP, ← (List.isPerm_iff.mp (perm_flip j hj)).countP_eq p, List.countP_map]
  rfl
theorem cnt_split {p q : Nat → Bool} : ∀ n, cntP (fun a => p a && q a) n + cntP (fun a => p a && !q a) n = cntP p n
  | 0 => rfl
  | n + 1 => by
    have ih := cnt_split (p := p) (q := q) n
    unfold cntP
    cases p n <;> cases q n <;> simp <;> omega
theorem xor_256 {a j : Nat} (ha : a < 256) (hj : j < 8) : a ^^^ 1 <<< j < 256 := Nat.xor_lt_two_pow (n := 8) ha (bit1_lt hj)
theorem cnt_half {p q : Nat → Bool} {j : Nat} (hj : j < 8) (hp : ∀ a, p (a ^^^ 1 <<< j) = p a) (hq : ∀ a, q (a ^^^ 1 <<< j) = !q a) : 2 * cntP (fun a => p a && q a) 256 = cntP p 256 := by
  have h1 := cnt_split (p := p) (q := q) 256
  have h2 := cnt_flip (p := fun a => p a && q a) hj
  have h3 : cntP (fun a => p (a ^^^ 1 <<< j) && q (a ^^^ 1 <<< j)) 256 = cntP (fun a => p a && !q a) 256 := cnt_congr 256 (fun a _ => by rw [hp, hq])
  have h4 : cntP (fun a => p a && !q a) 256 = cntP (fun a => p a && q a) 256 := h3.symm.trans h2
  omega
def sF (r : Nat → Nat) : Nat → Nat → Bool
  | 0, _ => true
  | j + 1, a => sF r j a && !rb (r j) a
theorem sF_iff {r : Nat → Nat} {a : Nat} : ∀ j, sF r j a = true ↔ ∀ v, v < j → rb (r v) a = false
  | 0 => ⟨fun _ v h => absurd h (Nat.not_lt_zero _), fun _ => rfl⟩
  | j + 1 => by
    rw [all_succ (P := fun v => rb (r v) a = false), ← sF_iff j]
    show (sF r j a && !rb (r j) a) = true ↔ _
    rw [Bool.and_eq_true, Bool.not_eq_true']
theorem sF_cnt {r : Nat → Nat} (hr : elRows r) : ∀ j, j ≤ 8 → cntP (sF r j) 256 * 2 ^ cntP (fun v => decide (r v ≠ 0)) j = 256
  | 0, _ => by
    have h : cntP (sF r 0) 256 = cntP (fun _ => true) 256 := cnt_congr 256 (fun a _ => rfl)
    have h2 : ∀ n, cntP (fun _ => true) n = n := fun n => by
      induction n with
      | zero => rfl
      | succ n ih => rw [cnt_t rfl, ih]
    rw [h, h2]; rfl
  | j + 1, hj => by
    have ih := sF_cnt hr j (by omega)
    by_cases h0 : r j = 0
    · rw [cnt_f (p := fun v => decide (r v ≠ 0)) (n := j) (decide_eq_false (fun q => q h0))]
      rw [cnt_congr (q := sF r j) 256 (fun a _ => by show (sF r j a && !rb (r j) a) = _; rw [h0, rb_0, Bool.not_false, Bool.and_true])]
      exact ih
    · rw [cnt_t (p := fun v => decide (r v ≠ 0)) (n := j) (decide_eq_true h0)]
      obtain ⟨a1, a2, a3⟩ := hr.2 j (by omega) h0
      have hh := cnt_half (p := sF r j) (q := fun a => !rb (r j) a) (j := j) (by omega) (fun a => ?_) (fun a => ?_)
      · have e : cntP (sF r (j + 1)) 256 = cntP (fun a => sF r j a && !rb (r j) a) 256 := cnt_congr 256 (fun a _ => rfl)
        rw [e, Nat.pow_succ, Nat.mul_comm (2 ^ _) 2, ← Nat.mul_assoc, Nat.mul_comm _ 2, hh]
        exact ih
      · refine bool_of ?_
        rw [sF_iff, sF_iff]
        constructor <;> intro h v hv
        · have := h v hv
          rw [rb_flip (by omega), a3 v (by omega) (by omega), Bool.xor_false] at this
          exact this
        · rw [rb_flip (by omega), a3 v (by omega) (by omega), Bool.xor_false]
          exact h v hv
      · show (!rb (r j) (a ^^^ 1 <<< j)) = _
        rw [rb_flip (by omega), a1]
        cases rb (r j) a <;> rfl
/-! what the law counts and compares -/
def pF (cs : List Nat) (a : Nat) : Nat → Bool
  | 0 => true
  | k + 1 => pF cs a k && (!xViol (cAt cs k) a || !xPar (cAt cs k))
theorem pF_iff {cs : List Nat} {a : Nat} : ∀ k, pF cs a k = true ↔ ∀ i, i < k → xPar (cAt cs i) = true → xViol (cAt cs i) a = false
  | 0 => ⟨fun _ v h => absurd h (Nat.not_lt_zero _), fun _ => rfl⟩
  | k + 1 => by
    rw [all_succ (P := fun i => xPar (cAt cs i) = true → xViol (cAt cs i) a = false), ← pF_iff k]
    show (pF cs a k && (!xViol (cAt cs k) a || !xPar (cAt cs k))) = true ↔ _
    rw [Bool.and_eq_true]
    cases xViol (cAt cs k) a <;> cases xPar (cAt cs k) <;> simp
theorem el_par {cs : List Nat} (hc : csOK cs) {a : Nat} : pF cs a cs.length = true ↔ (elRun cs).2.2 = true ∧ elSat (elRun cs).1 a := by
  rw [pF_iff]; exact (el_inv hc _ (Nat.le_refl _)).2.2 a
theorem el_8 {cs : List Nat} (hc : csOK cs) : (elRun cs).2.1 ≤ 8 := by
  rw [show (elRun cs).2.1 = _ from (el_inv hc _ (Nat.le_refl _)).2.1]; exact cntP_le _ 8
theorem el_cnt {cs : List Nat} (hc : csOK cs) (h : (elRun cs).2.2 = true) : cntP (fun a => pF cs a cs.length) 256 = 256 >>> (elRun cs).2.1 := by
  obtain ⟨h1, h2, h3⟩ := el_inv hc _ (Nat.le_refl _)
  have h4 := sF_cnt h1 8 (Nat.le_refl _)
  have e : cntP (fun a => pF cs a cs.length) 256 = cntP (sF (elRun cs).1 8) 256 := cnt_congr 256 (fun a _ => bool_of (by
    rw [el_par hc, sF_iff]; exact ⟨fun q => q.2, fun q => ⟨h, q⟩⟩))
  rw [e, show (elRun cs).2.1 = _ from h2, Nat.shiftRight_eq_div_pow]
  refine (Nat.div_eq_of_eq_mul_left (Nat.two_pow_pos _) ?_).symm
  exact h4.symm
theorem el_cons {cs : List Nat} (hc : csOK cs) : (elRun cs).2.2 = true ↔ 0 < cntP (fun a => pF cs a cs.length) 256 := by
  constructor
  · intro h
    rw [el_cnt hc h, Nat.shiftRight_eq_div_pow]
    have := el_8 hc
    exact Nat.div_pos (show 2 ^ (elRun cs).2.1 ≤ 2 ^ 8 from Nat.pow_le_pow_right (by decide) this) (Nat.two_pow_pos _)
  · intro h
    obtain ⟨a, _, ha⟩ := (cnt_pos _).mp h
    exact ((el_par hc).mp ha).1
def elLine (cs : List Nat) (k : Nat) : Nat := (rowF (elRun cs) (nI k)).getD 0
theorem el_at {cs : List Nat} {t : Nat} (ht : t < 8) (h0 : (elRun cs).1 t ≠ 0) : rowF (elRun cs) (nI (cntP (fun v => decide ((elRun cs).1 v ≠ 0)) t)) = some ((elRun cs).1 t) := by
  unfold rowF
  rw [nth_at' (p := fun v => decide ((elRun cs).1 v ≠ 0)) (t := t) (by have := cntP_le (fun v => decide ((elRun cs).1 v ≠ 0)) t; omega) (decide_eq_true h0) 8 0 0 (Nat.zero_le _) (by omega) (by show _ + 0 = 0 + _; omega)]
  rfl
theorem el_row {cs : List Nat} (hc : csOK cs) {k : Nat} (hk : k < (elRun cs).2.1) : ∃ t, t < 8 ∧ (elRun cs).1 t ≠ 0 ∧ rowF (elRun cs) (nI k) = some ((elRun cs).1 t) ∧ elLine cs k = (elRun cs).1 t ∧ elLine cs k < 512 := by
  obtain ⟨h1, h2, h3⟩ := el_inv hc _ (Nat.le_refl _)
  rw [show (elRun cs).2.1 = _ from h2] at hk
  obtain ⟨t, t1, t2, t3⟩ := cnt_at 8 k hk
  have h4 := el_at (cs := cs) t1 (of_decide_eq_true t2)
  have e : cntP (fun v => decide ((elRun cs).1 v ≠ 0)) t = k := t3
  rw [e] at h4
  have e2 : elLine cs k = (elRun cs).1 t := by unfold elLine; rw [h4]; rfl
  exact ⟨t, t1, of_decide_eq_true t2, h4, e2, by rw [e2]; exact h1.1 t t1⟩
def rF (cs : List Nat) (a : Nat) : Nat → Bool
  | 0 => true
  | k + 1 => rF cs a k && decide (pcN 8 (elLine cs k &&& 255 &&& a) % 2 = elLine cs k >>> 8)
theorem rF_iff {cs : List Nat} {a : Nat} : ∀ k, rF cs a k = true ↔ ∀ i, i < k → pcN 8 (elLine cs i &&& 255 &&& a) % 2 = elLine cs i >>> 8
  | 0 => ⟨fun _ v h => absurd h (Nat.not_lt_zero _), fun _ => rfl⟩
  | k + 1 => by
    rw [all_succ (P := fun i => pcN 8 (elLine cs i &&& 255 &&& a) % 2 = elLine cs i >>> 8), ← rF_iff k]
    show (rF cs a k && decide (pcN 8 (elLine cs k &&& 255 &&& a) % 2 = elLine cs k >>> 8)) = true ↔ _
    rw [Bool.and_eq_true, decide_eq_true_eq]
theorem el_rows {cs : List Nat} (hc : csOK cs) (h : (elRun cs).2.2 = true) {a : Nat} : rF cs a (elRun cs).2.1 = pF cs a cs.length := by
  obtain ⟨h1, h2, h3⟩ := el_inv hc _ (Nat.le_refl _)
  refine bool_of ?_
  rw [rF_iff, el_par hc]
  constructor
  · intro q
    refine ⟨h, fun v hv => ?_⟩
    by_cases h0 : (elRun cs).1 v = 0
    · rw [h0]; exact rb_0
    · have h4 := el_at hv h0
      have hk : cntP (fun v => decide ((elRun cs).1 v ≠ 0)) v < (elRun cs).2.1 := by
        rw [show (elRun cs).2.1 = _ from h2]; exact cnt_lt hv (decide_eq_true h0)
      have h5 := q _ hk
      have e2 : elLine cs (cntP (fun v => decide ((elRun cs).1 v ≠ 0)) v) = (elRun cs).1 v := by unfold elLine; rw [h4]; rfl
      rw [e2] at h5
      exact (rb_iff (h1.1 v hv)).mp h5
  · rintro ⟨_, q⟩ i hi
    obtain ⟨t, t1, t2, t3, t4, t5⟩ := el_row hc hi
    rw [rb_iff t5, t4]
    exact q t t1
