/-! the reference's objects -/
abbrev RO (k : KX) (rf ac nx as ts tz lv : Nat) (cf : Option Nat) (lp ln sz sp lc : Nat) (so : Bool) : va_E := .inr (8, [.int (nI rf), .ref (ad k 94), .ref (ad k 95), .ref (ad k 96), .int (nI ac), .int (nI nx), .ref (ad k 97), .ref (ad k 98), .int (nI as), .int (nI ts), .ref (ad k 99), .int (nI tz), .int (nI lv), .ref (ad k 100), .ref (ad k 101), .ref (ad k 102), .int (oI cf), .int (nI lp), .int (nI ln), .ref (ad k 103), .int (nI sz), .int (nI sp), .ref (ad k 104), .ref (ad k 105), .int (nI lc), .int (bI so)])
abbrev IR (k : KX) (n : Nat) (f : Nat → Nat) : va_E := .inl (kI k, n, .inl (fun q => nI (f q)))
def inB (x lo hi : Int32) : Bool := decide (lo ≤ x) && decide (x ≤ hi)
theorem i64_lt {x y : Int32} : x.toInt64 < y.toInt64 ↔ x < y := by
  rw [Int64.lt_iff_toInt_lt, Int32.lt_iff_toInt_lt, Int32.toInt_toInt64, Int32.toInt_toInt64]
theorem inB_R {x : Int32} {m : Nat} : inB x (nI 0) (nI m) = inR x m := by
  exact congr (congrArg and (decide_eq_decide.mpr Int32.not_lt.symm)) (decide_eq_decide.mpr Int32.not_lt.symm)
theorem inB_L {x : Int32} {n : Nat} (hn : n < 2 ^ 31) : inB x (nI 0) (nI n - nI 1) = inL x n := by
  refine congr (congrArg and (decide_eq_decide.mpr Int32.not_lt.symm)) (decide_eq_decide.mpr ?_)
  rw [← Int32.not_lt]
  cases n with
  | zero =>
    rw [show nI 0 - nI 1 = (-1 : Int32) from rfl, show nI 0 = (0 : Int32) from rfl, Int32.lt_iff_toInt_lt, Int32.le_iff_toInt_le, show (-1 : Int32).toInt = -1 by decide, show (0 : Int32).toInt = 0 by decide]
    omega
  | succ m =>
    rw [pk_sub (by omega), show m + 1 - 1 = m by omega, Int32.lt_iff_toInt_lt, Int32.le_iff_toInt_le, nI_toInt (by omega), nI_toInt hn]
    omega
theorem rAt.lt {f : Nat → Nat} {i x : Nat} (h : rAt f i x) : f (1 + i) < 2 ^ 31 := by rw [h.1]; split <;> decide
theorem rAt.p1 {f : Nat → Nat} {i x : Nat} (h : rAt f i x) : f (1 + i) = 1 ↔ xPar x = true := by rw [h.1]; cases xPar x <;> simp
theorem rAt.p0 {f : Nat → Nat} {i x : Nat} (h : rAt f i x) : f (1 + i) ≠ 1 ↔ xPar x = false := by rw [Ne, h.p1]; simp
theorem rAt.pB {f : Nat → Nat} {i x : Nat} (h : rAt f i x) : decide (f (1 + i) = 1) = xPar x := by rw [h.1]; cases xPar x <;> simp
theorem ext_up {f h : Nat → Nat} {i : Nat} (hh : ∀ q, q < i → h q = f q) : ∀ q, q < i + 1 → va_up h i (f i) q = f q := by
  intro q hq
  by_cases e : q = i
  · rw [e, up_s]
  · rw [up_n _ _ e]; exact hh q (by omega)
theorem rowOK.cong {f g : Nat → Nat} {cs ds : List Nat} (h : rowOK f cs ds) (hc : cs.length ≤ 24) (hd : ds.length ≤ 8) (he : ∀ q, q < 82 → g q = f q) : rowOK g cs ds := by
  obtain ⟨h0, h1, h2, h3⟩ := h
  refine ⟨by rw [he 0 (by omega)]; exact h0, by rw [he 73 (by omega)]; exact h1, fun i hi => ?_, fun j hj => by rw [he _ (by omega)]; exact h3 j hj⟩
  obtain ⟨a, b, c, d⟩ := h2 i hi
  exact ⟨by rw [he _ (by omega)]; exact a, by rw [he _ (by omega)]; exact b, by rw [he _ (by omega)]; exact c, d⟩
def addF (f : Nat → Nat) (k a b : Nat) : Nat → Nat := va_up (va_up (va_up (va_up f (1 + f 0) k) (25 + f 0) a) (49 + f 0) b) 0 (f 0 + 1)
theorem addF_ok {f : Nat → Nat} {cs ds : List Nat} (h : rowOK f cs ds) (hc : cs.length < 24) {x : Nat} (hx : x < 131072) : rowOK (addF f (if xPar x then 1 else 0) (xFirst x) (xSecond x)) (cs ++ [x]) ds := by
  obtain ⟨h0, h1, h2, h3⟩ := h
  have E : ∀ q, q ≠ 0 → q ≠ 1 + f 0 → q ≠ 25 + f 0 → q ≠ 49 + f 0 → addF f (if xPar x then 1 else 0) (xFirst x) (xSecond x) q = f q := fun q a b c d => by
    unfold addF; rw [up_n _ _ a, up_n _ _ d, up_n _ _ c, up_n _ _ b]
  refine ⟨by unfold addF; rw [up_s, h0]; simp, by rw [E 73 (by omega) (by omega) (by omega) (by omega)]; exact h1, fun i hi => ?_, fun j hj => by rw [E _ (by omega) (by omega) (by omega) (by omega)]; exact h3 j hj⟩
  rw [cAt_app]
  simp only [List.length_append, List.length_singleton] at hi
  by_cases e : i = cs.length
  · rw [if_pos e, e]
    refine ⟨?_, ?_, ?_, hx⟩
    · unfold addF; rw [up_n _ _ (by omega), up_n _ _ (by omega), up_n _ _ (by omega), h0, up_s]
    · unfold addF; rw [up_n _ _ (by omega), up_n _ _ (by omega), h0, up_s]
    · unfold addF; rw [up_n _ _ (by omega), h0, up_s]
  · rw [if_neg e]
    obtain ⟨a, b, c, d⟩ := h2 i (by omega)
    exact ⟨by rw [E _ (by omega) (by omega) (by omega) (by omega)]; exact a, by rw [E _ (by omega) (by omega) (by omega) (by omega)]; exact b, by rw [E _ (by omega) (by omega) (by omega) (by omega)]; exact c, d⟩
