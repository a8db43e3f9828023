/-! the reference's trail -/
def tLit : List Ent → Nat → Nat
  | [], _ => 0
  | e :: t, j => if j = t.length then 2 * e.1 + (if e.2.1 then 0 else 1) else tLit t j
theorem tLit_eq : ∀ {tr : List Ent}, trOK tr → ∀ {j : Nat}, j < tr.length → tLit tr j = 2 * tOrd tr j + (if (tT tr).testBit (tOrd tr j) then 0 else 1)
  | [], _, j, h => absurd h (Nat.not_lt_zero _)
  | e :: t, hk, j, h => by
    have hnT : (tT t).testBit e.1 = false := by
      cases q : (tT t).testBit e.1 with
      | false => rfl
      | true => have := tT_sub q; rw [hk.2.1] at this; cases this
    unfold tLit tOrd
    by_cases q : j = t.length
    · rw [if_pos q, if_pos q]
      show _ = 2 * e.1 + (if (if e.2.1 then tT t ||| 1 <<< e.1 else tT t).testBit e.1 then 0 else 1)
      cases hb : e.2.1 with
      | true => simp [Nat.testBit_or, bit1]
      | false => simp [hnT]
    · have hj : j < t.length := by simp at h; omega
      rw [if_neg q, if_neg q, tLit_eq hk.2.2.2 hj]
      have h2 := tOrd_tb hk.2.2.2 hj
      have hne : e.1 ≠ tOrd t j := fun w => by rw [← w, hk.2.1] at h2; cases h2.2
      have : (tT (e :: t)).testBit (tOrd t j) = (tT t).testBit (tOrd t j) := by
        show (if e.2.1 then tT t ||| 1 <<< e.1 else tT t).testBit (tOrd t j) = (tT t).testBit (tOrd t j)
        split
        · rw [Nat.testBit_or, bit1, decide_eq_false hne, Bool.or_false]
        · rfl
      rw [this]
def OR (k : KX) (n : Nat) (f : Nat → Option Nat) : va_E := .inl (kI k, n, .inl (fun zq => oI (f zq)))
def RtAt (k : KX) (M : Mem) (tr : List Ent) : Prop := 107 ≤ kN k ∧ trOK tr ∧ ∃ (t l p : Nat → Nat) (r : Nat → Option Nat), M 99 = IR k 8 t ∧ M 100 = IR k 8 l ∧ M 101 = .inl (kI k, 8, .inl (fun zq => oI (r zq))) ∧ M 102 = IR k 8 p ∧ (∀ j, j < tr.length → t j = tLit tr j) ∧ (∀ v, v < 8 → r v = tRsn tr v) ∧ ∀ v, v < 8 → (tA tr).testBit v = true → l v = tLev tr v ∧ p v = tPl tr v
theorem RtAt.fr {k : KX} {M M' : Mem} {tr : List Ent} (h : RtAt k M tr) (hf : ∀ i, 99 ≤ i → i < 103 → M' i = M i) : RtAt k M' tr := by
  obtain ⟨h1, hk, t, l, p, r, F0, F1, F2, F3, h2⟩ := h
  exact ⟨h1, hk, t, l, p, r, by rw [hf 99 (by omega) (by omega)]; exact F0, by rw [hf 100 (by omega) (by omega)]; exact F1, by rw [hf 101 (by omega) (by omega)]; exact F2, by rw [hf 102 (by omega) (by omega)]; exact F3, h2⟩
theorem RtAt.push {k : KX} {M' : Mem} {tr : List Ent} {t l p : Nat → Nat} {r : Nat → Option Nat} {v lv : Nat} {b : Bool} {re : Option Nat} (hN : 107 ≤ kN k) (hk : trOK tr) (h1 : ∀ j, j < tr.length → t j = tLit tr j) (h2 : ∀ v, v < 8 → r v = tRsn tr v) (h3 : ∀ v, v < 8 → (tA tr).testBit v = true → l v = tLev tr v ∧ p v = tPl tr v)
    (hv : v < 8) (hf : (tA tr).testBit v = false) (hr : ∀ n, re = some n → n < 24) (hL : lv = tL ((v, b, re) :: tr)) {tx : Nat} (htx : tx = 2 * v + (if b then 0 else 1))
    (F0 : M' 99 = IR k 8 (va_up t tr.length tx)) (F1 : M' 100 = IR k 8 (va_up l v lv)) (F2 : M' 101 = .inl (kI k, 8, .inl (fun zq => oI (va_up r v re zq)))) (F3 : M' 102 = IR k 8 (va_up p v tr.length)) : RtAt k M' ((v, b, re) :: tr) := by
  refine ⟨hN, ⟨hv, hf, hr, hk⟩, _, _, _, _, F0, F1, F2, F3, fun j hj => ?_, fun u hu => ?_, fun u hu hb => ?_⟩
  · unfold tLit
    by_cases e : j = tr.length
    · rw [if_pos e, e, up_s]; exact htx
    · rw [if_neg e, up_n _ _ e]; exact h1 j (by simp at hj; omega)
  · unfold tRsn
    by_cases e : u = v
    · rw [if_pos e, e, up_s]
    · rw [if_neg e, up_n _ _ e]; exact h2 u hu
  · rw [tA_tb] at hb
    unfold tLev tPl
    by_cases e : u = v
    · rw [if_pos e, if_pos e, e, up_s, up_s]; exact ⟨hL, rfl⟩
    · rw [if_neg e, if_neg e, up_n _ _ e, up_n _ _ e]
      exact h3 u hu (by rw [decide_eq_false (fun w : v = u => e w.symm), Bool.or_false] at hb; exact hb)
def FrT (M M' : Mem) : Prop := ∀ i, i ≠ 93 → (i < 99 ∨ 103 ≤ i) → M' i = M i
theorem FrT.rf {M : Mem} : FrT M M := fun _ _ _ => rfl
theorem rSt_le (x A T : Nat) : rSt x A T ≤ 2 := by
  unfold rSt; repeat' split
  all_goals omega
theorem propF_s {cs : List Nat} {n : Nat} {t : List Ent} {R : List Ent × Option Nat} (h : propF cs (n + 1) t = R) : (match fstAct cs (tA t) (tT t) with
    | none => (t, none)
    | some i => if mdiff (xVars (cAt cs i)) (tA t) = 0 then (t, some i) else propF cs n ((low (mdiff (xVars (cAt cs i)) (tA t)), xViol (cAt cs i) (tT t), some i) :: t)) = R := h
def csRow (f : Nat → Nat) (cs : List Nat) : Prop := f 0 = cs.length ∧ ∀ i, i < cs.length → rAt f i (cAt cs i)
theorem rowOK.c {f : Nat → Nat} {cs ds : List Nat} (h : rowOK f cs ds) : csRow f cs := ⟨h.1, h.2.2.1⟩
theorem csRow.cong {f g : Nat → Nat} {cs : List Nat} (h : csRow f cs) (hc : cs.length ≤ 24) (he : ∀ q, q < 73 → g q = f q) : csRow g cs := by
  obtain ⟨h0, h2⟩ := h
  refine ⟨by rw [he 0 (by omega)]; exact h0, fun i hi => ?_⟩
  obtain ⟨a, b, c, d⟩ := h2 i hi
  exact ⟨by rw [he _ (by omega)]; exact a, by rw [he _ (by omega)]; exact b, by rw [he _ (by omega)]; exact c, d⟩
section VP
variable {C : CT} {k : KX} {cc : ByteArray} {own : String} {nL : Nat} {ret : Option FieldType} {z : Nat × Nat} {M : Mem} {pc : Nat} {lv : List (Nat × Value)} {st : List Value} {q : Nat}
theorem v_iltP (X : OKc C k cc own nL ret) {off : Int} (tgt : Nat) (hq : q < 2 ^ 31) (d : decode cc pc = .ok (.ifCond .lt off, 3)) (ht : (pc : Int) + off = (tgt : Int)) (kt : q = 0 → V C k nL z M tgt lv st) (kf : ∀ j, q = j + 1 → V C k nL z M (pc + 3) lv st) : V C k nL z M pc lv (.int (pm q) :: st) := by
  refine v_if_lt X tgt d ht (fun h => ?_) (fun h => ?_)
  · cases q with
    | zero => exact kt rfl
    | succ j => rw [pm_s] at h; exact absurd h (nI_pos (by omega))
  · cases q with
    | zero => exact absurd pm_0 h
    | succ j => exact kf j rfl
end VP
