/-! the reference's reader, purely -/
theorem cAt_pos {tx : List Nat} {i : Nat} (h : cAt tx i ≠ 0) : i < tx.length := by
  rcases Nat.lt_or_ge i tx.length with q | q
  · exact q
  · exact absurd (cAt_out q) h
theorem cAt_256 {tx : List Nat} (h : ∀ c ∈ tx, c < 256) (i : Nat) : cAt tx i < 256 := by
  rcases Nat.lt_or_ge i tx.length with q | q
  · exact h _ (cAt_mem q)
  · rw [cAt_out q]; decide
theorem inB_N {c lo hi : Nat} (hc : c < 2 ^ 31) (h1 : lo < 2 ^ 31) (h2 : hi < 2 ^ 31) : inB (nI c) (nI lo) (nI hi) = decide (lo ≤ c ∧ c ≤ hi) := by
  unfold inB
  rw [Bool.decide_and]
  exact congr (congrArg and (decide_eq_decide.mpr (nI_leI h1 hc))) (decide_eq_decide.mpr (nI_leI hc h2))
theorem in_bit : ∀ c, c < 256 → inR (nI c - nI 48) 1 = decide (c = 48 ∨ c = 49) := by decide +kernel
section RD
variable {tx : List Nat} {s : Nat} {cs : List Nat} {R : Option Nat × TS} {f g b : Nat}
theorem rp_eq (h : txRun tx (tx.length - s) s (cs, 0, 0, 0) = R) (hs : s < tx.length) (hc : cAt tx s = 61) (hl : cs.length < 24) : txRun tx (tx.length - (s + 1)) (s + 1) (cs, 2, 0, 0) = R := by
  have e : txStep (cs, 0, 0, 0) (cAt tx s) = (true, (cs, 2, 0, 0)) := by rw [txStep_0, fstS, if_neg (by show ¬ 24 ≤ cs.length; omega), if_pos hc]
  have := tx_go h hs (by rw [e])
  rw [e] at this; exact this
theorem rp_bitno (h : txRun tx (tx.length - s) s (cs, 2, 0, 0) = R) (hs : s ≤ tx.length) (hc : ¬ (cAt tx s = 48 ∨ cAt tx s = 49)) : R.1 = some s := by
  rcases Nat.lt_or_ge s tx.length with q | q
  · have e : txStep (cs, 2, 0, 0) (cAt tx s) = (false, (cs, 2, 0, 0)) := by rw [txStep_2, bitS, if_neg hc]
    rw [tx_stop h q (by rw [e])]
  · rw [tx_end h (by omega)]; rfl
theorem rp_bit (h : txRun tx (tx.length - s) s (cs, 2, 0, 0) = R) (hc : cAt tx s = 48 ∨ cAt tx s = 49) : s < tx.length ∧ txRun tx (tx.length - (s + 1)) (s + 1) (cs, 3, 0, cAt tx s - 48) = R := by
  have hs : s < tx.length := cAt_pos (by omega)
  have e : txStep (cs, 2, 0, 0) (cAt tx s) = (true, (cs, 3, 0, cAt tx s - 48)) := by rw [txStep_2, bitS, if_pos hc]
  have := tx_go h hs (by rw [e])
  rw [e] at this; exact ⟨hs, this⟩
theorem rp_let (h : txRun tx (tx.length - s) s (cs, 3, f, b) = R) (hn : newL (cAt tx s) 97 f = true) : s < tx.length ∧ txRun tx (tx.length - (s + 1)) (s + 1) (cs, 3, f ||| 1 <<< (cAt tx s - 97), b) = R := by
  have hr := newL_rng hn
  have hs : s < tx.length := cAt_pos (by omega)
  have e : txStep (cs, 3, f, b) (cAt tx s) = (true, (cs, 3, f ||| 1 <<< (cAt tx s - 97), b)) := by rw [txStep_3, parS, if_neg (by omega), if_pos hn]
  have := tx_go h hs (by rw [e])
  rw [e] at this; exact ⟨hs, this⟩
theorem rp_yes (h : txRun tx (tx.length - s) s (cs, 3, f, b) = R) (hf : f ≠ 0) (hc : cAt tx s = 59) : s < tx.length ∧ txRun tx (tx.length - (s + 1)) (s + 1) (cs ++ [xParity f b], 0, 0, 0) = R := by
  have hs : s < tx.length := cAt_pos (by omega)
  have e : txStep (cs, 3, f, b) (cAt tx s) = (true, (cs ++ [xParity f b], 0, 0, 0)) := by rw [txStep_3, parS, if_pos hc, if_neg hf]; rfl
  have := tx_go h hs (by rw [e])
  rw [e] at this; exact ⟨hs, this⟩
theorem rp_no (h : txRun tx (tx.length - s) s (cs, 3, f, b) = R) (hs : s ≤ tx.length) (hn : newL (cAt tx s) 97 f = false) (hc : ¬ (f ≠ 0 ∧ cAt tx s = 59)) : R.1 = some s := by
  rcases Nat.lt_or_ge s tx.length with q | q
  · have e : (txStep (cs, 3, f, b) (cAt tx s)).1 = false := by
      rw [txStep_3, parS]
      by_cases e2 : cAt tx s = 59
      · rw [if_pos e2, if_pos (show f = 0 from Decidable.byContradiction fun w => hc ⟨w, e2⟩)]
      · rw [if_neg e2, if_neg (by simp [hn])]
    rw [tx_stop h q e]
  · rw [tx_end h (by omega)]; rfl
def plc (f g : Nat) : Nat := if f ||| g = 0 then 0 else 1
theorem rc_step (hl : cs.length < 24) {c : Nat} (hz : f ||| g = 0 → c ≠ 61) (h59 : f ||| g ≠ 0 → c ≠ 59) : txStep (cs, plc f g, f, g) c = clL (cs, 1, f, g) c := by
  unfold plc
  by_cases e : f ||| g = 0
  · rw [if_pos e, txStep_0, fstS, if_neg (by show ¬ 24 ≤ cs.length; omega), if_neg (hz e)]
  · rw [if_neg e, txStep_1n _ _ _ (h59 e)]
theorem or_ne {a v : Nat} : a ||| 1 <<< v ≠ 0 := by
  intro h
  have := congrArg (fun x => x.testBit v) h
  simp only [Nat.testBit_or, bit1, decide_true, Bool.or_true, Nat.zero_testBit] at this
  cases this
theorem or3 {a b c : Nat} (h : a ||| b = 0) : a = 0 ∧ b = 0 := by
  constructor
  · apply Nat.eq_of_testBit_eq; intro i
    have := congrArg (fun z => z.testBit i) h
    simp only [Nat.testBit_or, Nat.zero_testBit, Bool.or_eq_false_iff] at this
    rw [this.1, Nat.zero_testBit]
  · apply Nat.eq_of_testBit_eq; intro i
    have := congrArg (fun z => z.testBit i) h
    simp only [Nat.testBit_or, Nat.zero_testBit, Bool.or_eq_false_iff] at this
    rw [this.2, Nat.zero_testBit]
theorem plc_a {v : Nat} : plc (f ||| 1 <<< v) g = 1 := if_neg (fun w => or_ne (or3 (c := 0) w).1)
theorem plc_b {v : Nat} : plc f (g ||| 1 <<< v) = 1 := if_neg (fun w => or_ne (or3 (c := 0) w).2)
theorem rc_a (h : txRun tx (tx.length - s) s (cs, plc f g, f, g) = R) (hl : cs.length < 24) (hz : f ||| g = 0 → cAt tx s ≠ 61) (hn : newL (cAt tx s) 97 (f ||| g) = true) : s < tx.length ∧ txRun tx (tx.length - (s + 1)) (s + 1) (cs, plc (f ||| 1 <<< (cAt tx s - 97)) g, f ||| 1 <<< (cAt tx s - 97), g) = R := by
  have hr := newL_rng hn
  have hs : s < tx.length := cAt_pos (by omega)
  have e : txStep (cs, plc f g, f, g) (cAt tx s) = (true, (cs, 1, f ||| 1 <<< (cAt tx s - 97), g)) := by rw [rc_step hl hz (fun _ => by omega), clL, if_pos hn]
  have := tx_go h hs (by rw [e])
  rw [e] at this; rw [plc_a]; exact ⟨hs, this⟩
theorem rc_b (h : txRun tx (tx.length - s) s (cs, plc f g, f, g) = R) (hl : cs.length < 24) (hz : f ||| g = 0 → cAt tx s ≠ 61) (hn : newL (cAt tx s) 65 (f ||| g) = true) : s < tx.length ∧ txRun tx (tx.length - (s + 1)) (s + 1) (cs, plc f (g ||| 1 <<< (cAt tx s - 65)), f, g ||| 1 <<< (cAt tx s - 65)) = R := by
  have hr := newL_rng hn
  have hs : s < tx.length := cAt_pos (by omega)
  have hna : newL (cAt tx s) 97 (f ||| g) = false := by unfold newL; rw [decide_eq_false (by omega), Bool.false_and]
  have e : txStep (cs, plc f g, f, g) (cAt tx s) = (true, (cs, 1, f, g ||| 1 <<< (cAt tx s - 65))) := by rw [rc_step hl hz (fun _ => by omega), clL, if_neg (by simp [hna]), if_pos hn]
  have := tx_go h hs (by rw [e])
  rw [e] at this; rw [plc_b]; exact ⟨hs, this⟩
theorem rc_yes (h : txRun tx (tx.length - s) s (cs, plc f g, f, g) = R) (hf : f ||| g ≠ 0) (hc : cAt tx s = 59) : s < tx.length ∧ txRun tx (tx.length - (s + 1)) (s + 1) (cs ++ [xClause f g], 0, 0, 0) = R := by
  have hs : s < tx.length := cAt_pos (by omega)
  have e : txStep (cs, plc f g, f, g) (cAt tx s) = (true, (cs ++ [xClause f g], 0, 0, 0)) := by unfold plc; rw [if_neg hf, txStep_1c _ _ _ hc]; rfl
  have := tx_go h hs (by rw [e])
  rw [e] at this; exact ⟨hs, this⟩
theorem rc_no (h : txRun tx (tx.length - s) s (cs, plc f g, f, g) = R) (hs : s ≤ tx.length) (hl : cs.length < 24) (hz : f ||| g = 0 → s < tx.length ∧ cAt tx s ≠ 61) (ha : newL (cAt tx s) 97 (f ||| g) = false) (hb : newL (cAt tx s) 65 (f ||| g) = false) (hc : ¬ (f ||| g ≠ 0 ∧ cAt tx s = 59)) : R.1 = some s := by
  rcases Nat.lt_or_ge s tx.length with q | q
  · have e : (txStep (cs, plc f g, f, g) (cAt tx s)).1 = false := by
      rw [rc_step hl (fun w => (hz w).2) (fun w w2 => hc ⟨w, w2⟩), clL, if_neg (by rw [ha]; simp), if_neg (by rw [hb]; simp)]
    rw [tx_stop h q e]
  · have hf : f ||| g ≠ 0 := fun w => by have := (hz w).1; omega
    rw [tx_end h (by omega)]
    show (if plc f g = 0 then none else some s) = some s
    unfold plc; rw [if_neg hf]; rfl
theorem rd_full (h : txRun tx (tx.length - s) s (cs, 0, 0, 0) = R) (hs : s < tx.length) (hl : 24 ≤ cs.length) : R.1 = some s := by
  have e : (txStep (cs, 0, 0, 0) (cAt tx s)).1 = false := by rw [txStep_0, fstS, if_pos (show 24 ≤ cs.length from hl)]
  rw [tx_stop h hs e]
end RD
theorem row_zero {h : Nat → Nat} (hz : ∀ q, q < 82 → h q = 0) : rowOK h [] [] := ⟨hz 0 (by omega), hz 73 (by omega), fun i hi => absurd hi (Nat.not_lt_zero _), fun j hj => absurd hj (Nat.not_lt_zero _)⟩
theorem zero_up {h : Nat → Nat} {i : Nat} (hz : ∀ q, q < i → h q = 0) : ∀ q, q < i + 1 → va_up h i 0 q = 0 := by
  intro q hq
  by_cases e : q = i
  · rw [e, up_s]
  · rw [up_n _ _ e]; exact hz q (by omega)
theorem rdText_0 (tx : List Nat) : txRun tx (tx.length - 0) 0 ([], 0, 0, 0) = rdText tx := rfl
