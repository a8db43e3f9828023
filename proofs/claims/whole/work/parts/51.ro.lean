/-! solving, purely -/
theorem hasN_all : ∀ a, a < 256 → ∀ v, v < 8 → (((nI (a ^^^ 4294967295) >>> (nI v &&& 31)) &&& nI 1 = nI 1) ↔ a.testBit v = false) := by decide +kernel
theorem pc8_all : ∀ a, a < 256 → pcN 8 a = 8 → a = 255 := by decide +kernel
theorem tb255' : ∀ v, v < 8 → Nat.testBit 255 v = true := by decide
theorem low_free : ∀ a, a < 256 → a ≠ 255 → low (mdiff 255 a) < 8 ∧ a.testBit (low (mdiff 255 a)) = false ∧ ∀ u, u < 8 → u < low (mdiff 255 a) → a.testBit u = true := by decide +kernel
theorem buildF_app {cs b : List Nat} : ∀ (d : List Nat) (s : List Ent × Option Nat), tL (buildF cs d s).1 = tL s.1 + d.length → buildF cs (d ++ b) s = buildF cs b (buildF cs d s)
  | [], s, _ => rfl
  | x :: d, s, h => by
    by_cases ho : okDec s x = true
    · rw [List.cons_append, buildF, if_pos ho, buildF, if_pos ho]
      rw [buildF, if_pos ho] at h
      refine buildF_app d _ ?_
      rw [h]
      have e : tL (prop cs ((x / 2, decide (x % 2 = 0), none) :: s.1)).1 = tL s.1 + 1 := (tL_prop 9 _).trans rfl
      rw [e]; simp only [List.length_cons]; omega
    · rw [buildF, if_neg ho] at h
      simp only [List.length_cons] at h; omega
theorem propF_A {cs : List Nat} {v : Nat} : ∀ (n : Nat) (tr : List Ent), (tA tr).testBit v = true → (tA (propF cs n tr).1).testBit v = true
  | 0, _, h => h
  | n + 1, tr, h => by
    unfold propF
    split
    · exact h
    · split
      · exact h
      · exact propF_A n _ (by rw [tA_tb, h]; rfl)
theorem build_dec {cs d : List Nat} {u : Nat} (hd : tL (build cs d).1 = d.length) (h1 : (build cs d).2 = none) (h2 : (tA (build cs d).1).testBit u = false) : build cs (d ++ [2 * u]) = prop cs ((u, true, none) :: (build cs d).1) := by
  have e0 : tL (prop cs []).1 = 0 := tL_prop 9 []
  show buildF cs (d ++ [2 * u]) (prop cs []) = _
  rw [buildF_app d _ (by show tL (build cs d).1 = _; rw [hd, e0, Nat.zero_add])]
  show buildF cs [2 * u] (build cs d) = _
  have e1 : 2 * u / 2 = u := by omega
  have e2 : 2 * u % 2 = 0 := by omega
  have ok : okDec (build cs d) (2 * u) = true := by simp only [okDec, e1, h1, h2]; rfl
  rw [buildF, if_pos ok, e1, e2]; rfl
theorem decF_run {c d0 d : List Nat} {v : Nat} (h : decF c d0 v = d) : ∀ m, (∀ u, u < v + m → (tA (build c d).1).testBit u = true) → decF c d0 (v + m) = d
  | 0, _ => h
  | m + 1, hA => by
    show dstep c (decF c d0 (v + m)) (v + m) = d
    rw [decF_run h m (fun u hu => hA u (by omega))]
    exact dstep_f (hA (v + m) (by omega))
theorem decF_full {c d0 d : List Nat} {v : Nat} (h : decF c d0 v = d) (hv : v ≤ 8) (ha : tA (build c d).1 = 255) : decF c d0 8 = d := by
  have := decF_run h (8 - v) (fun u hu => by rw [ha]; exact tb255' u (by omega))
  rw [show v + (8 - v) = 8 by omega] at this; exact this
theorem decF_next {c d0 d : List Nat} {v u : Nat} (h : decF c d0 v = d) (hA : ∀ w, w < v → (tA (build c d).1).testBit w = true) (h1 : (build c d).2 = none) (h2 : (tA (build c d).1).testBit u = false) (hl : ∀ w, w < u → (tA (build c d).1).testBit w = true) : v ≤ u ∧ decF c d0 (u + 1) = sNew c (d ++ [2 * u]) := by
  have hvu : v ≤ u := by
    rcases Nat.lt_or_ge u v with q | q
    · rw [hA u q] at h2; cases h2
    · exact q
  have := decF_run h (u - v) (fun w hw => hl w (by omega))
  rw [show v + (u - v) = u by omega] at this
  refine ⟨hvu, ?_⟩
  show dstep c (decF c d0 u) u = _
  rw [this]; exact dstep_t h1 h2
theorem decF_cf {c d0 d : List Nat} {v : Nat} (h : decF c d0 v = d) (hv : v ≤ 8) (h1 : (build c d).2 ≠ none) : decF c d0 8 = d := by
  have := decF_c h h1 (8 - v)
  rw [show v + (8 - v) = 8 by omega] at this; exact this
theorem next_A {c d : List Nat} {u : Nat} (hd : tL (build c d).1 = d.length) (h1 : (build c d).2 = none) (h2 : (tA (build c d).1).testBit u = false) (hl : ∀ w, w < u → (tA (build c d).1).testBit w = true) : ∀ w, w < u + 1 → (tA (build c (sNew c (d ++ [2 * u]))).1).testBit w = true := by
  intro w hw
  rw [(sNew_spec _ _).1, build_dec hd h1 h2]
  refine propF_A 9 _ ?_
  rw [tA_tb]
  by_cases e : u = w
  · rw [decide_eq_true e, Bool.or_true]
  · rw [hl w (by omega), Bool.true_or]
