/-! the reference's building -/
theorem RtAt.nil {k : KX} {M' : Mem} {t l p : Nat → Nat} {r : Nat → Option Nat} (hN : 107 ≤ kN k) (F0 : M' 99 = IR k 8 t) (F1 : M' 100 = IR k 8 l) (F2 : M' 101 = .inl (kI k, 8, .inl (fun zq => oI (r zq)))) (F3 : M' 102 = IR k 8 p) (hr : ∀ v, v < 8 → r v = none) : RtAt k M' [] :=
  ⟨hN, trivial, t, l, p, r, F0, F1, F2, F3, fun j hj => absurd hj (Nat.not_lt_zero _), fun v hv => (hr v hv).trans rfl, fun v _ hb => by rw [show tA [] = 0 from rfl, Nat.zero_testBit] at hb; cases hb⟩
def FrB (b : Nat) (M M' : Mem) : Prop := ∀ i, i ≠ 93 → i ≠ b → (i < 99 ∨ 103 ≤ i) → M' i = M i
theorem none_up {r : Nat → Option Nat} {v : Nat} (h : ∀ q, q < v → r q = none) : ∀ q, q < v + 1 → va_up r v none q = none := by
  intro q hq
  by_cases e : q = v
  · rw [e, up_s]
  · rw [up_n _ _ e]; exact h q (by omega)
theorem tL_0 (cs : List Nat) : tL (prop cs []).1 = 0 := tL_prop 9 []
/-- how far the decisions have been taken over -/
def bdSt (cs ds : List Nat) (j d : Nat) (sx : List Ent × Option Nat) : Prop := (d = j ∧ buildF cs (ds.drop j) sx = build cs ds) ∨ (d < j ∧ sx = build cs ds)
theorem bdSt.eq {cs ds : List Nat} {j : Nat} {sx : List Ent × Option Nat} (h : bdSt cs ds j j sx) : buildF cs (ds.drop j) sx = build cs ds := by
  rcases h with h | h
  · exact h.2
  · omega
theorem bdSt.ne {cs ds : List Nat} {j d : Nat} {sx : List Ent × Option Nat} (h : bdSt cs ds j d sx) (hn : d ≠ j) : bdSt cs ds (j + 1) d sx := by
  rcases h with h | h
  · exact absurd h.1 hn
  · exact Or.inr ⟨by omega, h.2⟩
theorem bdSt.end_ {cs ds : List Nat} {j d : Nat} {sx : List Ent × Option Nat} (h : bdSt cs ds j d sx) (hj : ds.length ≤ j) : sx = build cs ds := by
  rcases h with h | h
  · exact build_end h.2 hj
  · exact h.2
theorem bdSt.le {cs ds : List Nat} {j d : Nat} {sx : List Ent × Option Nat} (h : bdSt cs ds j d sx) : d ≤ j := by
  rcases h with h | h <;> omega
