/-! the text's reader: an automaton over characters (constraints, place, first, second) -/
abbrev TS : Type := List Nat × Nat × Nat × Nat
def newL (c b used : Nat) : Bool := decide (b ≤ c ∧ c < b + 8) && !(used.testBit (c - b))
def clL (s : TS) (c : Nat) : Bool × TS :=
  if newL c 97 (s.2.2.1 ||| s.2.2.2) then (true, (s.1, s.2.1, s.2.2.1 ||| 1 <<< (c - 97), s.2.2.2))
  else if newL c 65 (s.2.2.1 ||| s.2.2.2) then (true, (s.1, s.2.1, s.2.2.1, s.2.2.2 ||| 1 <<< (c - 65))) else (false, s)
def fstS (s : TS) (c : Nat) : Bool × TS := if 24 ≤ s.1.length then (false, s) else if c = 61 then (true, (s.1, 2, s.2.2.1, s.2.2.2)) else clL (s.1, 1, s.2.2.1, s.2.2.2) c
def bitS (s : TS) (c : Nat) : Bool × TS := if c = 48 ∨ c = 49 then (true, (s.1, 3, s.2.2.1, c - 48)) else (false, s)
def endS (s : TS) (x : Nat) : Bool × TS := (true, (s.1 ++ [x], 0, 0, 0))
def parS (s : TS) (c : Nat) : Bool × TS := if c = 59 then (if s.2.2.1 = 0 then (false, s) else endS s (xParity s.2.2.1 s.2.2.2)) else if newL c 97 s.2.2.1 then (true, (s.1, s.2.1, s.2.2.1 ||| 1 <<< (c - 97), s.2.2.2)) else (false, s)
def clS (s : TS) (c : Nat) : Bool × TS := if c = 59 then endS s (xClause s.2.2.1 s.2.2.2) else clL s c
def txStep (s : TS) (c : Nat) : Bool × TS := if s.2.1 = 0 then fstS s c else if s.2.1 = 1 then clS s c else if s.2.1 = 2 then bitS s c else parS s c
/-- reads on from place i; the place of the error, and the last state -/
def txRun (tx : List Nat) : Nat → Nat → TS → Option Nat × TS
  | 0, i, s => (if s.2.1 = 0 then none else some i, s)
  | n + 1, i, s => if (txStep s (cAt tx i)).1 then txRun tx n (i + 1) (txStep s (cAt tx i)).2 else (some i, (txStep s (cAt tx i)).2)
def rdText (tx : List Nat) : Option Nat × TS := txRun tx tx.length 0 ([], 0, 0, 0)
def tsOK (s : TS) : Prop := s.2.1 ≤ 3 ∧ s.2.2.1 < 256 ∧ s.2.2.2 < 256 ∧ s.1.length ≤ 24 ∧ (s.2.1 ≠ 0 → s.1.length < 24)
def TsAt (k : KX) (M : Mem) (n : Nat) (s : TS) : Prop := 5 ≤ kN k ∧ M 1 = .inr (2, [.ref (ad k 2), .int (nI n), .ref (ad k 3), .int (nI s.2.1), .int (nI s.2.2.1), .int (nI s.2.2.2)]) ∧ FmAt k M 3 s.1
theorem TsAt.obj {k : KX} {M : Mem} {n : Nat} {s : TS} (h : TsAt k M n s) : ∃ fs, M 1 = .inr (2, fs) := ⟨_, h.2.1⟩
theorem TsAt.fr {k : KX} {M M' : Mem} {n : Nat} {s : TS} (h : TsAt k M n s) (hf : ∀ i, 1 ≤ i → i < 5 → M' i = M i) : TsAt k M' n s :=
  ⟨h.1, by rw [hf 1 (by omega) (by omega)]; exact h.2.1, h.2.2.fr (fun i a b => hf i (by omega) (by omega))⟩
def TFr (M M' : Mem) : Prop := ∀ i, i ≠ 1 → i ≠ 3 → i ≠ 4 → M' i = M i
theorem inL_sub {c b : Nat} (hc : c < 256) (hb : b < 256) : inL (nI c - nI b) 8 = decide (b ≤ c ∧ c < b + 8) := by
  by_cases h : b ≤ c
  · rw [pk_sub h, inL_n (by omega) (by decide), decide_eq_decide]; omega
  · have h1 : nI c - nI b < 0 := pk_sneg (by omega) (by omega)
    rw [decide_eq_false (fun w => h w.1)]
    unfold inL
    rw [decide_eq_false (fun w => w h1)]; rfl
theorem newL_rng {c b used : Nat} (h : newL c b used = true) : b ≤ c ∧ c < b + 8 := by
  unfold newL at h
  rw [Bool.and_eq_true] at h
  exact of_decide_eq_true h.1
theorem clL_ok {s : TS} {c : Nat} (h : tsOK s) : tsOK (clL s c).2 := by
  obtain ⟨h1, h2, h3, h4, h5⟩ := h
  unfold clL
  split
  · rename_i hn
    have := newL_rng hn
    exact ⟨h1, or_lt256 h2 (bit1_lt (by omega)), h3, h4, h5⟩
  · split
    · rename_i hn
      have := newL_rng hn
      exact ⟨h1, h2, or_lt256 h3 (bit1_lt (by omega)), h4, h5⟩
    · exact ⟨h1, h2, h3, h4, h5⟩
theorem txStep_ok {s : TS} {c : Nat} (h : tsOK s) : tsOK (txStep s c).2 := by
  have h0 := h
  obtain ⟨h1, h2, h3, h4, h5⟩ := h
  unfold txStep
  split
  · unfold fstS
    split
    · exact h0
    · split
      · exact ⟨(show 2 ≤ 3 by decide), h2, h3, h4, fun _ => by show s.1.length < 24; omega⟩
      · exact clL_ok ⟨(show 1 ≤ 3 by decide), h2, h3, h4, fun _ => by show s.1.length < 24; omega⟩
  · rename_i hne
    have h6 := h5 hne
    split
    · unfold clS
      split
      · exact ⟨Nat.zero_le _, (show 0 < 256 by decide), (show 0 < 256 by decide), by show (s.1 ++ [_]).length ≤ 24; simp; omega, fun w => absurd rfl w⟩
      · exact clL_ok h0
    · split
      · unfold bitS
        split
        · exact ⟨(show 3 ≤ 3 by decide), h2, by show c - 48 < 256; omega, h4, fun _ => h6⟩
        · exact h0
      · unfold parS
        split
        · split
          · exact h0
          · exact ⟨Nat.zero_le _, (show 0 < 256 by decide), (show 0 < 256 by decide), by show (s.1 ++ [_]).length ≤ 24; simp; omega, fun w => absurd rfl w⟩
        · split
          · rename_i hn
            have := newL_rng hn
            exact ⟨h1, or_lt256 h2 (bit1_lt (by omega)), h3, h4, h5⟩
          · exact h0
theorem tx_at {tx : List Nat} {i : Nat} {s : TS} {R : Option Nat × TS} (h : txRun tx (tx.length - i) i s = R) (hi : i < tx.length) : (if (txStep s (cAt tx i)).1 then txRun tx (tx.length - (i + 1)) (i + 1) (txStep s (cAt tx i)).2 else (some i, (txStep s (cAt tx i)).2)) = R := by
  rw [← h, show tx.length - i = (tx.length - (i + 1)) + 1 by omega]; rfl
theorem tx_go {tx : List Nat} {i : Nat} {s : TS} {R : Option Nat × TS} (h : txRun tx (tx.length - i) i s = R) (hi : i < tx.length) (hb : (txStep s (cAt tx i)).1 = true) : txRun tx (tx.length - (i + 1)) (i + 1) (txStep s (cAt tx i)).2 = R := by
  have := tx_at h hi
  rw [if_pos hb] at this; exact this
theorem tx_stop {tx : List Nat} {i : Nat} {s : TS} {R : Option Nat × TS} (h : txRun tx (tx.length - i) i s = R) (hi : i < tx.length) (hb : (txStep s (cAt tx i)).1 = false) : R = (some i, (txStep s (cAt tx i)).2) := by
  have := tx_at h hi
  rw [if_neg (by simp [hb])] at this; exact this.symm
theorem tx_end {tx : List Nat} {i : Nat} {s : TS} {R : Option Nat × TS} (h : txRun tx (tx.length - i) i s = R) (hi : i = tx.length) : R = (if s.2.1 = 0 then none else some i, s) := by
  rw [hi, Nat.sub_self] at h; rw [← h, hi]; rfl
def TxAt (k : KX) (M : Mem) (tx : List Nat) : Prop := tx.length ≤ 90 ∧ (∀ c ∈ tx, c < 256) ∧ ∃ (s : TS) (f : Nat → Nat), TsAt k M tx.length s ∧ M 2 = .inl (kI k, 90, .inl (fun q => nI (f q))) ∧ ∀ j, j < tx.length → f j = cAt tx j
theorem TxAt.fr {k : KX} {M M' : Mem} {tx : List Nat} (h : TxAt k M tx) (hf : ∀ i, 1 ≤ i → i < 5 → M' i = M i) : TxAt k M' tx := by
  obtain ⟨h1, h2, s, f, hs, F2, h3⟩ := h
  exact ⟨h1, h2, s, f, hs.fr hf, by rw [hf 2 (by omega) (by omega)]; exact F2, h3⟩
theorem TxAt.obj {k : KX} {M : Mem} {tx : List Nat} (h : TxAt k M tx) : ∃ fs, M 1 = .inr (2, fs) := by
  obtain ⟨_, _, s, f, hs, _⟩ := h; exact hs.obj
theorem txStep_0 (cs : List Nat) (i1 i2 c : Nat) : txStep (cs, 0, i1, i2) c = fstS (cs, 0, i1, i2) c := rfl
theorem txStep_1c (cs : List Nat) (i1 i2 : Nat) {c : Nat} (h : c = 59) : txStep (cs, 1, i1, i2) c = endS (cs, 1, i1, i2) (xClause i1 i2) := by
  show clS (cs, 1, i1, i2) c = _; unfold clS; rw [if_pos h]
theorem txStep_1n (cs : List Nat) (i1 i2 : Nat) {c : Nat} (h : c ≠ 59) : txStep (cs, 1, i1, i2) c = clL (cs, 1, i1, i2) c := by
  show clS (cs, 1, i1, i2) c = _; unfold clS; rw [if_neg h]
theorem txStep_2 (cs : List Nat) (i1 i2 c : Nat) : txStep (cs, 2, i1, i2) c = bitS (cs, 2, i1, i2) c := rfl
theorem txStep_3 (cs : List Nat) (i1 i2 c : Nat) : txStep (cs, 3, i1, i2) c = parS (cs, 3, i1, i2) c := rfl
