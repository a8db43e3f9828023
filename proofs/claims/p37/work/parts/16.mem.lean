/-! the memory of states: objects at 13, its rows at 14, 15, 16; the fourteen remembered states at 29 + 4 j, the two slots at 85 + 4 j -/
abbrev SD : Type := List Nat × List Nat
def MeAt (k : KX) (M : Mem) (mem : List SD) (sl : Nat → Option SD) : Prop := 93 ≤ kN k ∧ mem.length ≤ 14 ∧ ∃ (p : Nat → Nat) (g g2 : Nat → Option Nat) (fl : Nat → Bool) (c c2 : Nat → SD),
  (∀ j, j < 14 → p j < 14) ∧ (∀ i j, i < 14 → j < 14 → p i = p j → i = j) ∧
  M 13 = .inr (3, [.ref (ad k 14), .ref (ad k 15), .ref (ad k 16), .int (nI mem.length)]) ∧ M 14 = .inl (kS k, 14, .inr (.inr (.inr (.inr g)))) ∧ M 15 = .inl (kS k, 2, .inr (.inr (.inr (.inr g2)))) ∧ M 16 = .inl (kZ k, 2, .inl (fun q => bI (fl q))) ∧
  (∀ j, j < 14 → g j = some (ad k (29 + 4 * p j)) ∧ StAt k M (29 + 4 * p j) (c j).1 (c j).2) ∧ (∀ j, j < mem.length → c j = mem.getD j ([], [])) ∧
  (∀ j, j < 2 → g2 j = some (ad k (85 + 4 * j)) ∧ StAt k M (85 + 4 * j) (c2 j).1 (c2 j).2) ∧ (∀ j, j < 2 → fl j = (sl j).isSome ∧ ∀ s, sl j = some s → c2 j = s)
theorem MeAt.fr {k : KX} {M M' : Mem} {mem : List SD} {sl : Nat → Option SD} (h : MeAt k M mem sl) (hf : ∀ i, 13 ≤ i → (i < 17 ∨ (29 ≤ i ∧ i < 93)) → M' i = M i) : MeAt k M' mem sl := by
  obtain ⟨h1, h2, p, g, g2, fl, c, c2, hp, hi, F0, F1, F2, F3, hg, hc, hg2, hs⟩ := h
  refine ⟨h1, h2, p, g, g2, fl, c, c2, hp, hi, by rw [hf 13 (by omega) (by omega)]; exact F0, by rw [hf 14 (by omega) (by omega)]; exact F1, by rw [hf 15 (by omega) (by omega)]; exact F2, by rw [hf 16 (by omega) (by omega)]; exact F3, fun j hj => ⟨(hg j hj).1, (hg j hj).2.fr (fun i a b => hf i (by omega) ?_)⟩, hc, fun j hj => ⟨(hg2 j hj).1, (hg2 j hj).2.fr (fun i a b => hf i (by omega) (by omega))⟩, hs⟩
  have := hp j hj; omega
theorem MeAt.obj {k : KX} {M : Mem} {mem : List SD} {sl : Nat → Option SD} (h : MeAt k M mem sl) : ∃ fs, M 13 = .inr (3, fs) := by
  obtain ⟨h1, h2, p, g, g2, fl, c, c2, hp, hi, F0, _⟩ := h; exact ⟨_, F0⟩
def remF (mem : List SD) (s : SD) : List SD := (if 14 ≤ mem.length then mem.tail else mem) ++ [s]
theorem getD_app {α : Type} {l : List α} {x d : α} {j : Nat} : (l ++ [x]).getD j d = if j = l.length then x else l.getD j d := by
  rw [List.getD_eq_getElem?_getD, List.getD_eq_getElem?_getD]
  by_cases h : j < l.length
  · rw [List.getElem?_append_left h, if_neg (by omega)]
  · rw [List.getElem?_append_right (by omega)]
    by_cases h2 : j = l.length
    · subst h2; simp
    · rw [if_neg h2, List.getElem?_eq_none (by simp; omega), List.getElem?_eq_none (by omega)]
theorem getD_tail {α : Type} {l : List α} {d : α} {j : Nat} : l.tail.getD j d = l.getD (j + 1) d := by
  cases l with
  | nil => simp
  | cons a l => simp
theorem va_up_obj {k : KX} {M : Mem} {p : Nat → Nat} {c : Nat → SD} (h : ∀ j, j < 14 → StAt k M (29 + 4 * p j) (c j).1 (c j).2) : ∀ j, j < 14 → ∃ vs, M (29 + 4 * p j) = .inr (5, vs) := fun j hj => (h j hj).obj
/-- a remembered state is written: the others stay -/
theorem me_keep {k : KX} {M M' : Mem} {p : Nat → Nat} {c : Nat → SD} {q : Nat} {s : SD} (hq : q < 14) (hp : ∀ j, j < 14 → p j < 14) (hi : ∀ i j, i < 14 → j < 14 → p i = p j → i = j)
    (h : ∀ j, j < 14 → StAt k M (29 + 4 * p j) (c j).1 (c j).2) (hn : StAt k M' (29 + 4 * p q) s.1 s.2) (hf : Fr (29 + 4 * p q) 4 M M') : ∀ j, j < 14 → StAt k M' (29 + 4 * p j) (va_up c q s j).1 (va_up c q s j).2 := by
  intro j hj
  by_cases e : j = q
  · subst e; rw [up_s]; exact hn
  · rw [up_n _ _ e]
    have h1 : p j ≠ p q := fun w => e (hi j q hj hq w)
    exact (h j hj).fr (fun i a b => hf i (by omega))
def MeP (k : KX) (M : Mem) (mem : List SD) (sl : Nat → Option SD) (p : Nat → Nat) (g g2 : Nat → Option Nat) (fl : Nat → Bool) (c c2 : Nat → SD) : Prop :=
  93 ≤ kN k ∧ mem.length ≤ 14 ∧ (∀ j, j < 14 → p j < 14) ∧ (∀ i j, i < 14 → j < 14 → p i = p j → i = j) ∧
  M 13 = .inr (3, [.ref (ad k 14), .ref (ad k 15), .ref (ad k 16), .int (nI mem.length)]) ∧ M 14 = .inl (kS k, 14, .inr (.inr (.inr (.inr g)))) ∧ M 15 = .inl (kS k, 2, .inr (.inr (.inr (.inr g2)))) ∧ M 16 = .inl (kZ k, 2, .inl (fun q => bI (fl q))) ∧
  (∀ j, j < 14 → g j = some (ad k (29 + 4 * p j)) ∧ StAt k M (29 + 4 * p j) (c j).1 (c j).2) ∧ (∀ j, j < mem.length → c j = mem.getD j ([], [])) ∧
  (∀ j, j < 2 → g2 j = some (ad k (85 + 4 * j)) ∧ StAt k M (85 + 4 * j) (c2 j).1 (c2 j).2) ∧ (∀ j, j < 2 → fl j = (sl j).isSome ∧ ∀ s, sl j = some s → c2 j = s)
theorem MeAt.op {k : KX} {M : Mem} {mem : List SD} {sl : Nat → Option SD} (h : MeAt k M mem sl) : ∃ p g g2 fl c c2, MeP k M mem sl p g g2 fl c c2 := by
  obtain ⟨h1, h2, p, g, g2, fl, c, c2, h⟩ := h
  exact ⟨p, g, g2, fl, c, c2, h1, h2, h⟩
theorem MeP.cl {k : KX} {M : Mem} {mem : List SD} {sl : Nat → Option SD} {p : Nat → Nat} {g g2 : Nat → Option Nat} {fl : Nat → Bool} {c c2 : Nat → SD} (h : MeP k M mem sl p g g2 fl c c2) : MeAt k M mem sl := by
  obtain ⟨h1, h2, h⟩ := h
  exact ⟨h1, h2, p, g, g2, fl, c, c2, h⟩
section ME
variable {k : KX} {M M' : Mem} {mem : List SD} {sl : Nat → Option SD} {p : Nat → Nat} {g g2 h : Nat → Option Nat} {fl : Nat → Bool} {c c2 : Nat → SD}
theorem MeP.push (hm : MeP k M mem sl p g g2 fl c c2) {s : SD} (hl : mem.length < 14) (F0 : M' 13 = .inr (3, [.ref (ad k 14), .ref (ad k 15), .ref (ad k 16), .int (nI (mem.length + 1))]))
    (hn : StAt k M' (29 + 4 * p mem.length) s.1 s.2) (hf : ∀ i, i ≠ 13 → (i < 29 + 4 * p mem.length ∨ 29 + 4 * p mem.length + 4 ≤ i) → M' i = M i) : MeAt k M' (mem ++ [s]) sl := by
  obtain ⟨h1, h2, hp, hi, G0, G1, G2, G3, hg, hc, hg2, hs⟩ := hm
  have hq := hp _ hl
  refine ⟨h1, by simp; omega, p, g, g2, fl, va_up c mem.length s, c2, hp, hi, F0.trans (by simp), by rw [hf 14 (by omega) (by omega)]; exact G1, by rw [hf 15 (by omega) (by omega)]; exact G2, by rw [hf 16 (by omega) (by omega)]; exact G3, fun j hj => ⟨(hg j hj).1, ?_⟩, fun j hj => ?_, fun j hj => ⟨(hg2 j hj).1, (hg2 j hj).2.fr (fun i a b => hf i (by omega) (by omega))⟩, hs⟩
  · by_cases e : j = mem.length
    · subst e; rw [up_s]; exact hn
    · rw [up_n _ _ e]
      have h1 : p j ≠ p mem.length := fun w => e (hi j _ hj hl w)
      exact (hg j hj).2.fr (fun i a b => hf i (by omega) (by omega))
  · rw [getD_app]
    by_cases e : j = mem.length
    · rw [if_pos e, e, up_s]
    · rw [if_neg e, up_n _ _ e]; exact hc j (by simp at hj; omega)
theorem MeP.cut (hm : MeP k M mem sl p g g2 fl c c2) {mem' : List SD} (hl : mem'.length ≤ mem.length) (he : ∀ j, j < mem'.length → mem.getD j ([], []) = mem'.getD j ([], [])) (F0 : M' 13 = .inr (3, [.ref (ad k 14), .ref (ad k 15), .ref (ad k 16), .int (nI mem'.length)]))
    (hf : ∀ i, (14 ≤ i ∧ i < 17) ∨ (29 ≤ i ∧ i < 93) → M' i = M i) : MeAt k M' mem' sl := by
  obtain ⟨h1, h2, hp, hi, G0, G1, G2, G3, hg, hc, hg2, hs⟩ := hm
  refine ⟨h1, by omega, p, g, g2, fl, c, c2, hp, hi, F0, by rw [hf 14 (by omega)]; exact G1, by rw [hf 15 (by omega)]; exact G2, by rw [hf 16 (by omega)]; exact G3, fun j hj => ⟨(hg j hj).1, (hg j hj).2.fr (fun i a b => hf i ?_)⟩, fun j hj => by rw [hc j (by omega), he j hj], fun j hj => ⟨(hg2 j hj).1, (hg2 j hj).2.fr (fun i a b => hf i (by omega))⟩, hs⟩
  have := hp j hj; omega
theorem MeP.rot (hm : MeP k M mem sl p g g2 fl c c2) (hl : mem.length = 14) (F0 : M' 13 = .inr (3, [.ref (ad k 14), .ref (ad k 15), .ref (ad k 16), .int (nI 13)])) (F1 : M' 14 = .inl (kS k, 14, .inr (.inr (.inr (.inr h))))) (hh : ∀ j, j < 14 → h j = if j < 13 then g (j + 1) else g 0)
    (hf : Fr 13 2 M M') : MeAt k M' mem.tail sl := by
  obtain ⟨h1, h2, hp, hi, G0, G1, G2, G3, hg, hc, hg2, hs⟩ := hm
  refine ⟨h1, by simp; omega, fun j => if j < 13 then p (j + 1) else p 0, h, g2, fl, fun j => if j < 13 then c (j + 1) else c 0, c2, fun j hj => ?_, fun i j hi1 hj1 he => ?_, F0.trans (by simp [hl]), F1, by rw [hf 15 (by omega)]; exact G2, by rw [hf 16 (by omega)]; exact G3, fun j hj => ?_, fun j hj => ?_, fun j hj => ⟨(hg2 j hj).1, (hg2 j hj).2.fr (fun i a b => hf i (by omega))⟩, hs⟩
  · simp only []
    split
    · exact hp _ (by omega)
    · exact hp _ (by omega)
  · simp only [] at he
    split at he <;> split at he
    · have := hi _ _ (by omega) (by omega) he; omega
    · have := hi _ _ (by omega) (by omega) he; omega
    · have := hi _ _ (by omega) (by omega) he; omega
    · omega
  · rw [hh j hj]
    by_cases e : j < 13
    · simp only [if_pos e]
      have := hp (j + 1) (by omega)
      exact ⟨(hg (j + 1) (by omega)).1, (hg (j + 1) (by omega)).2.fr (fun i a b => hf i (by omega))⟩
    · simp only [if_neg e]
      have := hp 0 (by omega)
      exact ⟨(hg 0 (by omega)).1, (hg 0 (by omega)).2.fr (fun i a b => hf i (by omega))⟩
  · have hj2 : j < 13 := by simp at hj; omega
    simp only [if_pos hj2]
    rw [hc (j + 1) (by omega), getD_tail]
theorem MeP.fill (hm : MeP k M mem sl p g g2 fl c c2) {s : SD} {q : Nat} (hq : q < 2) (F3 : M' 16 = .inl (kZ k, 2, .inl (fun z => bI (va_up fl q true z))))
    (hn : StAt k M' (85 + 4 * q) s.1 s.2) (hf : ∀ i, i ≠ 16 → (i < 85 + 4 * q ∨ 85 + 4 * q + 4 ≤ i) → M' i = M i) : MeAt k M' mem (va_up sl q (some s)) := by
  obtain ⟨h1, h2, hp, hi, G0, G1, G2, G3, hg, hc, hg2, hs⟩ := hm
  refine ⟨h1, h2, p, g, g2, va_up fl q true, c, va_up c2 q s, hp, hi, by rw [hf 13 (by omega) (by omega)]; exact G0, by rw [hf 14 (by omega) (by omega)]; exact G1, by rw [hf 15 (by omega) (by omega)]; exact G2, F3, fun j hj => ⟨(hg j hj).1, (hg j hj).2.fr (fun i a b => hf i ?_ ?_)⟩, hc, fun j hj => ⟨(hg2 j hj).1, ?_⟩, fun j hj => ?_⟩
  · omega
  · have := hp j hj; omega
  · by_cases e : j = q
    · subst e; rw [up_s]; exact hn
    · rw [up_n _ _ e]; exact (hg2 j hj).2.fr (fun i a b => hf i (by omega) (by omega))
  · by_cases e : j = q
    · subst e; rw [up_s, up_s, up_s]; exact ⟨rfl, fun s' h => Option.some.inj h⟩
    · rw [up_n _ _ e, up_n _ _ e, up_n _ _ e]; exact hs j hj
theorem MeP.empty (hm : MeP k M mem sl p g g2 fl c c2) {f : Nat → Bool} (F3 : M' 16 = .inl (kZ k, 2, .inl (fun z => bI (f z)))) (hff : ∀ j, j < 2 → f j = false) (hf : ∀ i, i ≠ 16 → M' i = M i) : MeAt k M' mem (fun _ => none) := by
  obtain ⟨h1, h2, hp, hi, G0, G1, G2, G3, hg, hc, hg2, hs⟩ := hm
  exact ⟨h1, h2, p, g, g2, f, c, c2, hp, hi, by rw [hf 13 (by omega)]; exact G0, by rw [hf 14 (by omega)]; exact G1, by rw [hf 15 (by omega)]; exact G2, F3, fun j hj => ⟨(hg j hj).1, (hg j hj).2.fr (fun i a b => hf i (by omega))⟩, hc, fun j hj => ⟨(hg2 j hj).1, (hg2 j hj).2.fr (fun i a b => hf i (by omega))⟩, fun j hj => ⟨hff j hj, fun s h => by cases h⟩⟩
end ME
