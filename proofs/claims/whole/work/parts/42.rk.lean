/-! rows that change -/
theorem inR_L {x : Int32} {m : Nat} (hm : m + 1 < 2 ^ 31) : inR x m = inL x (m + 1) := by
  rw [← inB_R, ← inB_L hm, pk_sub (by omega)]; rfl
theorem inR_7 {x : Int32} : inR x 7 = inL x 8 := inR_L (by decide)
theorem inR_15 {x : Int32} : inR x 15 = inL x 16 := inR_L (by decide)
theorem inR_1 {x : Int32} : inR x 1 = inL x 2 := inR_L (by decide)
theorem inR_23 {x : Int32} : inR x 23 = inL x 24 := inR_L (by decide)
def up1 (f : Nat → Nat) (a : Nat) : Nat → Nat := va_up f a (f (a + 1))
theorem up1_s (f : Nat → Nat) (a : Nat) : up1 f a a = f (a + 1) := up_s _ _ _
theorem up1_n (f : Nat → Nat) {a x : Nat} (h : x ≠ a) : up1 f a x = f x := up_n _ _ h
def rm3 (h : Nat → Nat) (q : Nat) : Nat → Nat := up1 (up1 (up1 h (1 + q)) (25 + q)) (49 + q)
def rmP (g h : Nat → Nat) (n j q : Nat) : Prop := h 0 = n ∧ (∀ x, 73 ≤ x → h x = g x) ∧ ∀ i, i < 24 → h (1 + i) = (if j ≤ i ∧ i < q then g (1 + (i + 1)) else g (1 + i)) ∧ h (25 + i) = (if j ≤ i ∧ i < q then g (25 + (i + 1)) else g (25 + i)) ∧ h (49 + i) = (if j ≤ i ∧ i < q then g (49 + (i + 1)) else g (49 + i))
theorem rmP.step {g h : Nat → Nat} {n j q : Nat} (hp : rmP g h n j q) (hj : j ≤ q) (hq : q < 23) : rmP g (rm3 h q) n j (q + 1) := by
  obtain ⟨h0, h1, h2⟩ := hp
  have E : ∀ x, x ≠ 1 + q → x ≠ 25 + q → x ≠ 49 + q → rm3 h q x = h x := fun x a b c => by unfold rm3; rw [up1_n _ c, up1_n _ b, up1_n _ a]
  refine ⟨by rw [E 0 (by omega) (by omega) (by omega)]; exact h0, fun x hx => by rw [E x (by omega) (by omega) (by omega)]; exact h1 x hx, fun i hi => ?_⟩
  obtain ⟨a, b, c⟩ := h2 i hi
  by_cases e : i = q
  · subst e
    obtain ⟨a', b', c'⟩ := h2 (i + 1) (by omega)
    rw [if_neg (by omega)] at a' b' c'
    rw [if_pos (by omega), if_pos (by omega), if_pos (by omega)]
    refine ⟨?_, ?_, ?_⟩
    · unfold rm3; rw [up1_n _ (by omega), up1_n _ (by omega), up1_s]; exact a'
    · unfold rm3; rw [up1_n _ (by omega), up1_s, up1_n _ (by omega)]; exact b'
    · unfold rm3; rw [up1_s, up1_n _ (by omega), up1_n _ (by omega)]; exact c'
  · rw [E _ (by omega) (by omega) (by omega), E _ (by omega) (by omega) (by omega), E _ (by omega) (by omega) (by omega), a, b, c]
    by_cases e2 : j ≤ i ∧ i < q
    · rw [if_pos e2, if_pos e2, if_pos e2, if_pos (by omega), if_pos (by omega), if_pos (by omega)]; exact ⟨rfl, rfl, rfl⟩
    · rw [if_neg e2, if_neg e2, if_neg e2, if_neg (by omega), if_neg (by omega), if_neg (by omega)]; exact ⟨rfl, rfl, rfl⟩
theorem rmP.end_ {g h : Nat → Nat} {cs ds : List Nat} {j q : Nat} (hp : rmP g h (cs.length - 1) j q) (hr : rowOK g cs ds) (hc : cs.length ≤ 24) (hj : j < cs.length) (hq : q = cs.length - 1) : rowOK h (cs.eraseIdx j) ds := by
  obtain ⟨h0, h1, h2⟩ := hp
  obtain ⟨r0, r1, r2, r3⟩ := hr
  refine ⟨by rw [h0, List.length_eraseIdx_of_lt hj], by rw [h1 73 (by omega)]; exact r1, fun i hi => ?_, fun j hj => by rw [h1 _ (by omega)]; exact r3 j hj⟩
  rw [List.length_eraseIdx_of_lt hj] at hi
  rw [cAt_er]
  obtain ⟨a, b, c⟩ := h2 i (by omega)
  by_cases e : i < j
  · rw [if_pos e]
    obtain ⟨x, y, z, w⟩ := r2 i (by omega)
    rw [if_neg (by omega)] at a b c
    exact ⟨a.trans x, b.trans y, c.trans z, w⟩
  · rw [if_neg e]
    obtain ⟨x, y, z, w⟩ := r2 (i + 1) (by omega)
    rw [if_pos (by omega)] at a b c
    exact ⟨a.trans x, b.trans y, c.trans z, w⟩
theorem rmP.start {g : Nat → Nat} {n j : Nat} : rmP g (va_up g 0 n) n j j := by
  refine ⟨up_s _ _ _, fun x hx => up_n _ _ (by omega), fun i hi => ?_⟩
  rw [if_neg (by omega), if_neg (by omega), if_neg (by omega), up_n _ _ (by omega), up_n _ _ (by omega), up_n _ _ (by omega)]
  exact ⟨rfl, rfl, rfl⟩
theorem rowOK.dec {f : Nat → Nat} {cs ds : List Nat} (h : rowOK f cs ds) (hc : cs.length ≤ 24) (d : Nat) : rowOK (va_up (va_up f (74 + ds.length) d) 73 (ds.length + 1)) cs (ds ++ [d]) := by
  obtain ⟨h0, h1, h2, h3⟩ := h
  have E : ∀ q, q ≠ 73 → q ≠ 74 + ds.length → va_up (va_up f (74 + ds.length) d) 73 (ds.length + 1) q = f q := fun q a b => by rw [up_n _ _ a, up_n _ _ b]
  refine ⟨by rw [E 0 (by omega) (by omega)]; exact h0, by rw [up_s]; simp, fun i hi => ?_, fun j hj => ?_⟩
  · obtain ⟨a, b, c, e⟩ := h2 i hi
    exact ⟨by rw [E _ (by omega) (by omega)]; exact a, by rw [E _ (by omega) (by omega)]; exact b, by rw [E _ (by omega) (by omega)]; exact c, e⟩
  · rw [cAt_app]
    simp only [List.length_append, List.length_singleton] at hj
    by_cases e : j = ds.length
    · rw [if_pos e, e, up_n _ _ (by omega), up_s]
    · rw [if_neg e, E _ (by omega) (by omega)]; exact h3 j (by omega)
theorem rowOK.take {f : Nat → Nat} {cs ds : List Nat} (h : rowOK f cs ds) (hc : cs.length ≤ 24) {n : Nat} (hn : n ≤ ds.length) : rowOK (va_up f 73 n) cs (ds.take n) := by
  obtain ⟨h0, h1, h2, h3⟩ := h
  have hl : (ds.take n).length = n := by rw [List.length_take]; omega
  refine ⟨by rw [up_n _ _ (by omega)]; exact h0, by rw [up_s, hl], fun i hi => ?_, fun j hj => ?_⟩
  · obtain ⟨a, b, c, e⟩ := h2 i hi
    exact ⟨by rw [up_n _ _ (by omega)]; exact a, by rw [up_n _ _ (by omega)]; exact b, by rw [up_n _ _ (by omega)]; exact c, e⟩
  · rw [hl] at hj
    rw [up_n _ _ (by omega), h3 j (by omega), cAt_take hj]
theorem DiP.back {di : Nat → Nat} {nx : Nat} {ini : List SD} {sd : SD} (h : DiP di nx (ini ++ [sd])) : DiP di ((nx + 14 - 1) % 14) ini ∧ rowOK (fun q => di (82 * ((nx + 14 - 1) % 14) + q)) sd.1 sd.2 := by
  obtain ⟨h1, h2, h3⟩ := h
  simp only [List.length_append, List.length_singleton] at h2 h3
  refine ⟨⟨by omega, by omega, fun j hj => ?_⟩, ?_⟩
  · have := h3 j (by omega)
    rw [getD_app, if_neg (by omega)] at this
    rw [show ((nx + 14 - 1) % 14 + 14 - ini.length + j) % 14 = (nx + 14 - (ini.length + 1) + j) % 14 by omega]
    exact this
  · have := h3 ini.length (by omega)
    rw [getD_app, if_pos rfl] at this
    rw [show (nx + 14 - 1) % 14 = (nx + 14 - (ini.length + 1) + ini.length) % 14 by omega]
    exact this
theorem DiP.nil {di : Nat → Nat} {nx : Nat} (h : nx < 14) : DiP di nx [] := ⟨h, Nat.zero_le _, fun j hj => absurd hj (Nat.not_lt_zero _)⟩
theorem ke_step {kp k2 nw : Nat → Nat} {s i : Nat} (hi : i < 82) (h : ∀ x, k2 x = if 82 * s ≤ x ∧ x < 82 * s + i then nw (x - 82 * s) else kp x) : ∀ x, va_up k2 (82 * s + i) (nw i) x = if 82 * s ≤ x ∧ x < 82 * s + (i + 1) then nw (x - 82 * s) else kp x := by
  intro x
  by_cases e : x = 82 * s + i
  · subst e; rw [up_s, if_pos (by omega)]; congr 1; omega
  · rw [up_n _ _ e, h x]
    by_cases e2 : 82 * s ≤ x ∧ x < 82 * s + i
    · rw [if_pos e2, if_pos (by omega)]
    · rw [if_neg e2, if_neg (by omega)]
theorem KeP.put {kp k2 nw : Nat → Nat} {ik : Nat → Bool} {sl : Nat → Option SD} {s : Nat} {x : SD} (h : KeP kp ik sl) (hsl : ∀ j s, sl j = some s → sOK s) (hx : sOK x) (hr : rowOK nw x.1 x.2) (hk : ∀ q, k2 q = if 82 * s ≤ q ∧ q < 82 * s + 82 then nw (q - 82 * s) else kp q) : KeP k2 (va_up ik s true) (va_up sl s (some x)) := by
  intro j hj
  by_cases e : j = s
  · subst e
    rw [up_s, up_s]
    refine ⟨rfl, fun y hy => ?_⟩
    cases hy
    refine hr.cong hx.1.1 hx.2.2 (fun q hq => ?_)
    show k2 _ = _
    rw [hk, if_pos (by omega)]; congr 1; omega
  · rw [up_n _ _ e, up_n _ _ e]
    refine ⟨(h j hj).1, fun y hy => ((h j hj).2 y hy).sh (hsl j y hy) (fun q hq => ?_)⟩
    rw [hk, if_neg (by omega)]
