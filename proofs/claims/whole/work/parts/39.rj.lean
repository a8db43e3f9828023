/-! the reference whole -/
def DiP (di : Nat → Nat) (nx : Nat) (mem : List SD) : Prop := nx < 14 ∧ mem.length ≤ 14 ∧ ∀ j, j < mem.length → rowOK (fun q => di (82 * ((nx + 14 - mem.length + j) % 14) + q)) (mem.getD j ([], [])).1 (mem.getD j ([], [])).2
def KeP (kp : Nat → Nat) (ik : Nat → Bool) (sl : Nat → Option SD) : Prop := ∀ j, j < 2 → ik j = (sl j).isSome ∧ ∀ s, sl j = some s → rowOK (fun q => kp (82 * j + q)) s.1 s.2
def RefAt (k : KX) (M : Mem) (w : Nat) (cs ds : List Nat) (mem : List SD) (sl : Nat → Option SD) (tx : List Nat) : Prop :=
  107 ≤ kN k ∧ vOK cs ds mem sl ∧ tx.length ≤ 90 ∧ (∀ c ∈ tx, c < 256) ∧ ∃ (nx lp ln sp lc : Nat) (so : Bool) (nw tl di kp : Nat → Nat) (ik : Nat → Bool) (sc rd li : Nat → Nat),
  M 93 = RO k w mem.length nx (tA (build cs ds).1) (tT (build cs ds).1) (build cs ds).1.length (tL (build cs ds).1) (build cs ds).2 lp ln tx.length sp lc so ∧
  M 94 = IR k 82 nw ∧ M 95 = IR k 82 tl ∧ M 96 = IR k 1148 di ∧ M 97 = IR k 164 kp ∧ M 98 = .inl (kZ k, 2, .inl (fun zq => bI (ik zq))) ∧ RtAt k M (build cs ds).1 ∧ M 103 = IR k 90 sc ∧ M 104 = IR k 82 rd ∧ M 105 = IR k 24 li ∧
  rowOK nw cs ds ∧ DiP di nx mem ∧ KeP kp ik sl ∧ ∀ j, j < tx.length → sc j = cAt tx j
theorem RefAt.fr {k : KX} {M M' : Mem} {w : Nat} {cs ds : List Nat} {mem : List SD} {sl : Nat → Option SD} {tx : List Nat} (h : RefAt k M w cs ds mem sl tx) (hf : ∀ i, 93 ≤ i → i < 106 → M' i = M i) : RefAt k M' w cs ds mem sl tx := by
  obtain ⟨h1, h2, h3, h4, nx, lp, ln, sp, lc, so, nw, tl, di, kp, ik, sc, rd, li, F93, F94, F95, F96, F97, F98, hT, F103, F104, F105, h5⟩ := h
  refine ⟨h1, h2, h3, h4, nx, lp, ln, sp, lc, so, nw, tl, di, kp, ik, sc, rd, li, ?_, ?_, ?_, ?_, ?_, ?_, hT.fr (fun i a b => hf i (by omega) (by omega)), ?_, ?_, ?_, h5⟩
  all_goals (rw [hf _ (by omega) (by omega)]; assumption)
theorem RefAt.obj {k : KX} {M : Mem} {w : Nat} {cs ds : List Nat} {mem : List SD} {sl : Nat → Option SD} {tx : List Nat} (h : RefAt k M w cs ds mem sl tx) : ∃ fs, M 93 = .inr (8, fs) := by
  obtain ⟨h1, h2, h3, h4, nx, lp, ln, sp, lc, so, nw, tl, di, kp, ik, sc, rd, li, F93, h5⟩ := h
  exact ⟨_, F93⟩
theorem rowOK.sh {f g : Nat → Nat} {cs ds : List Nat} {a b : Nat} (h : rowOK (fun q => f (a + q)) cs ds) (hs : sOK (cs, ds)) (he : ∀ q, q < 82 → g (b + q) = f (a + q)) : rowOK (fun q => g (b + q)) cs ds := h.cong hs.1.1 hs.2.2 he
theorem remF_len (mem : List SD) (s : SD) (h : mem.length ≤ 14) : (remF mem s).length = if mem.length < 14 then mem.length + 1 else 14 := by
  unfold remF
  split
  · rw [if_neg (by omega)]; simp; omega
  · rw [if_pos (by omega)]; simp
theorem remF_get (mem : List SD) (s : SD) (h : mem.length ≤ 14) {j : Nat} (hj : j < (remF mem s).length) : (remF mem s).getD j ([], []) = if j + 1 = (remF mem s).length then s else if mem.length < 14 then mem.getD j ([], []) else mem.getD (j + 1) ([], []) := by
  rw [remF_len mem s h] at hj ⊢
  unfold remF
  rw [getD_app]
  split at hj
  · rename_i h2
    rw [if_neg (show ¬ 14 ≤ mem.length by omega), if_pos h2, if_pos h2]
    by_cases e : j = mem.length
    · rw [if_pos e, if_pos (by omega)]
    · rw [if_neg e, if_neg (by omega)]
  · rename_i h2
    rw [if_pos (show 14 ≤ mem.length by omega), if_neg h2, if_neg h2, List.length_tail]
    by_cases e : j = 13
    · rw [if_pos (by omega), if_pos (by omega)]
    · rw [if_neg (by omega), if_neg (by omega), getD_tail]
/-- the diary, with what is now written at its next place -/
theorem DiP.add {di d2 nw : Nat → Nat} {nx : Nat} {mem : List SD} {s : SD} (h : DiP di nx mem) (hm : ∀ x ∈ mem, sOK x) (hs : sOK s) (hr : rowOK nw s.1 s.2) (hd : ∀ x, x < 1148 → d2 x = if 82 * nx ≤ x ∧ x < 82 * nx + 82 then nw (x - 82 * nx) else di x) : DiP d2 ((nx + 1) % 14) (remF mem s) := by
  obtain ⟨h1, h2, h3⟩ := h
  have hL := remF_len mem s h2
  refine ⟨by omega, by rw [hL]; split <;> omega, fun j hj => ?_⟩
  rw [remF_get mem s h2 hj, hL]
  rw [hL] at hj
  have hml : ∀ i, i < mem.length → sOK (mem.getD i ([], [])) := fun i hi => by
    rw [List.getD_eq_getElem?_getD, List.getElem?_eq_getElem hi]; exact hm _ (List.getElem_mem hi)
  split at hj
  · rename_i h4
    rw [if_pos h4]
    by_cases e : j = mem.length
    · rw [if_pos (by omega)]
      refine hr.cong hs.1.1 hs.2.2 (fun q hq => ?_)
      show d2 _ = _
      rw [hd _ (by omega), if_pos (by omega)]
      congr 1; omega
    · rw [if_neg (by omega)]
      rw [if_pos h4]
      refine (h3 j (by omega)).sh (hml j (by omega)) (fun q hq => ?_)
      have e3 : ((nx + 1) % 14 + 14 - (mem.length + 1) + j) % 14 = (nx + 14 - mem.length + j) % 14 := by omega
      rw [e3, hd _ (by omega), if_neg (by omega)]
  · rename_i h4
    rw [if_neg h4]
    by_cases e : j = 13
    · rw [if_pos (by omega)]
      refine hr.cong hs.1.1 hs.2.2 (fun q hq => ?_)
      show d2 _ = _
      rw [hd _ (by omega), if_pos (by omega)]
      congr 1; omega
    · rw [if_neg (by omega)]
      rw [if_neg h4]
      refine (h3 (j + 1) (by omega)).sh (hml (j + 1) (by omega)) (fun q hq => ?_)
      have e3 : ((nx + 1) % 14 + 14 - 14 + j) % 14 = (nx + 14 - mem.length + (j + 1)) % 14 := by omega
      rw [e3, hd _ (by omega), if_neg (by omega)]
theorem di_step {di d2 nw : Nat → Nat} {nx i : Nat} (hi : i < 82) (h : ∀ x, x < 1148 → d2 x = if 82 * nx ≤ x ∧ x < 82 * nx + i then nw (x - 82 * nx) else di x) : ∀ x, x < 1148 → va_up d2 (82 * nx + i) (nw i) x = if 82 * nx ≤ x ∧ x < 82 * nx + (i + 1) then nw (x - 82 * nx) else di x := by
  intro x hx
  by_cases e : x = 82 * nx + i
  · subst e; rw [up_s, if_pos (by omega)]; congr 1; omega
  · rw [up_n _ _ e, h x hx]
    by_cases e2 : 82 * nx ≤ x ∧ x < 82 * nx + i
    · rw [if_pos e2, if_pos (by omega)]
    · rw [if_neg e2, if_neg (by omega)]
def FrR (M M' : Mem) : Prop := ∀ i, i < 93 ∨ 106 ≤ i → M' i = M i
