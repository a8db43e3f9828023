/-! analysis, purely -/
def trX (cs : List Nat) : List Ent → Prop
  | [] => True
  | e :: t => trX cs t ∧ ∀ i, e.2.2 = some i → i < cs.length ∧ ∀ v, (xVars (cAt cs i)).testBit v = true → (tA t).testBit v = true ∨ v = e.1
def cfX (cs : List Nat) (tr : List Ent) (cf : Option Nat) : Prop := ∀ q, cf = some q → q < cs.length ∧ ∀ v, (xVars (cAt cs q)).testBit v = true → (tA tr).testBit v = true
theorem propF_X {cs : List Nat} : ∀ (n : Nat) (tr : List Ent), trX cs tr → trX cs (propF cs n tr).1 ∧ cfX cs (propF cs n tr).1 (propF cs n tr).2
  | 0, tr, h => ⟨h, fun q hq => by cases hq⟩
  | n + 1, tr, h => by
    unfold propF
    split
    · exact ⟨h, fun q hq => by cases hq⟩
    · rename_i i hi
      have hs := fstAct_spec hi
      split
      · rename_i ho
        refine ⟨h, fun q hq => ?_⟩
        cases hq
        exact ⟨hs.1, fun v hv => (md0 (xVars_lt _)).mp ho v (tb_lt8 (xVars_lt _) hv) hv⟩
      · rename_i ho
        refine propF_X n _ ⟨h, fun j hj => ?_⟩
        cases hj
        refine ⟨hs.1, fun v hv => ?_⟩
        have hO : mdiff (xVars (cAt cs i)) (tA tr) < 256 := mdiff_lt (xVars_lt _)
        have ha := hs.2
        unfold xAct at ha
        rw [Bool.and_eq_true] at ha
        have hle := of_decide_eq_true ha.1
        have hpc : pcN 8 (mdiff (xVars (cAt cs i)) (tA tr)) = 1 := by
          rcases (show pcN 8 (mdiff (xVars (cAt cs i)) (tA tr)) = 0 ∨ pcN 8 (mdiff (xVars (cAt cs i)) (tA tr)) = 1 by omega) with w | w
          · exact absurd (pc0 _ hO w) ho
          · exact w
        have e := pc1 _ hO hpc
        have hv8 := tb_lt8 (xVars_lt _) hv
        cases hA : (tA tr).testBit v with
        | true => exact Or.inl rfl
        | false =>
          have h5 := op_tb (x := cAt cs i) (A := tA tr) hv8
          rw [hv, hA, e, bit1] at h5
          exact Or.inr (of_decide_eq_true (h5.trans rfl)).symm
theorem buildF_X {cs : List Nat} : ∀ (ds : List Nat) (s : List Ent × Option Nat), trX cs s.1 ∧ cfX cs s.1 s.2 → trX cs (buildF cs ds s).1 ∧ cfX cs (buildF cs ds s).1 (buildF cs ds s).2
  | [], s, h => h
  | d :: ds, s, h => by
    unfold buildF
    split
    · exact buildF_X ds _ (propF_X 9 _ ⟨h.1, fun i hi => by cases hi⟩)
    · exact h
theorem build_X (cs ds : List Nat) : trX cs (build cs ds).1 ∧ cfX cs (build cs ds).1 (build cs ds).2 := buildF_X ds _ (propF_X 9 [] trivial)
theorem tLev_tL : ∀ {tr : List Ent} {v : Nat}, tLev tr v ≤ tL tr
  | [], _ => Nat.le_refl _
  | e :: t, v => by
    unfold tLev
    split
    · exact Nat.le_refl _
    · have := tLev_tL (tr := t) (v := v)
      show _ ≤ tL t + _
      omega
theorem tLev_top : ∀ {tr : List Ent}, trOK tr → ∀ {v : Nat}, (tA tr).testBit v = true → (tLev tr v = tL tr ↔ (tB tr).testBit v = false)
  | [], _, v, h => by rw [show tA [] = 0 from rfl, Nat.zero_testBit] at h; cases h
  | e :: t, hk, v, h => by
    rw [tA_tb] at h
    by_cases ev : v = e.1
    · subst ev
      have h1 : tLev (e :: t) e.1 = tL (e :: t) := if_pos rfl
      have h2 : (tB (e :: t)).testBit e.1 = false := by
        show (if e.2.2 = none then tA t else tB t).testBit e.1 = false
        split
        · exact hk.2.1
        · cases q : (tB t).testBit e.1 with
          | false => rfl
          | true => have := tB_sub q; rw [hk.2.1] at this; cases this
      rw [h1, h2]; simp
    · have hA : (tA t).testBit v = true := by rw [decide_eq_false (fun w : e.1 = v => ev w.symm), Bool.or_false] at h; exact h
      have h1 : tLev (e :: t) v = tLev t v := if_neg ev
      rw [h1]
      show tLev t v = tL t + (if e.2.2 = none then 1 else 0) ↔ (if e.2.2 = none then tA t else tB t).testBit v = false
      by_cases en : e.2.2 = none
      · rw [if_pos en, if_pos en, hA]
        have := tLev_tL (tr := t) (v := v)
        simp; omega
      · rw [if_neg en, if_neg en, Nat.add_zero]
        exact tLev_top hk.2.2.2 hA
theorem tPl_lt : ∀ {t : List Ent} {u : Nat}, (tA t).testBit u = true → tPl t u < t.length
  | [], u, h => by rw [show tA [] = 0 from rfl, Nat.zero_testBit] at h; cases h
  | e :: t, u, h => by
    unfold tPl
    by_cases e1 : u = e.1
    · rw [if_pos e1]; simp
    · rw [tA_tb, decide_eq_false (fun w : e.1 = u => e1 w.symm), Bool.or_false] at h
      have := tPl_lt h
      rw [if_neg e1]; simp; omega
theorem tPl_app {t : List Ent} : ∀ {p : List Ent}, trOK (p ++ t) → ∀ {v : Nat}, (tA t).testBit v = true → tPl (p ++ t) v = tPl t v
  | [], _, _, _ => rfl
  | e :: p, hk, v, h => by
    show (if v = e.1 then _ else tPl (p ++ t) v) = _
    have h1 := tA_app t p h
    have h2 : (tA (p ++ t)).testBit e.1 = false := hk.2.1
    rw [if_neg (fun q => by subst q; rw [h2] at h1; cases h1), tPl_app hk.2.2.2 h]
def sub8 (x A : Nat) : Prop := ∀ v, x.testBit v = true → A.testBit v = true
theorem first_in {x : Nat} (h0 : x ≠ 0) (hx : x < 256) : ∀ {suf : List Ent}, sub8 x (tA suf) → ∃ p2 e t, suf = p2 ++ e :: t ∧ x.testBit e.1 = true ∧ (∀ y ∈ p2, x.testBit y.1 = false) ∧ sub8 x (tA (e :: t))
  | [], h => by
    exfalso
    refine h0 (ext8 hx (by decide) (fun i hi => ?_))
    rw [Nat.zero_testBit]
    cases q : x.testBit i with
    | false => rfl
    | true => have := h i q; rw [show tA [] = 0 from rfl, Nat.zero_testBit] at this; cases this
  | e :: t, h => by
    cases q : x.testBit e.1 with
    | true => exact ⟨[], e, t, rfl, q, (fun y hy => by cases hy), h⟩
    | false =>
      have h2 : sub8 x (tA t) := fun v hv => by
        have := h v hv
        rw [tA_tb, Bool.or_eq_true] at this
        rcases this with w | w
        · exact w
        · rw [← of_decide_eq_true w, q] at hv; cases hv
      obtain ⟨p2, e2, t2, a, b, c, d⟩ := first_in h0 hx h2
      refine ⟨e :: p2, e2, t2, by rw [a]; rfl, b, fun y hy => ?_, d⟩
      rcases List.mem_cons.mp hy with w | w
      · rw [w]; exact q
      · exact c y w
theorem ana_skip {cs : List Nat} {pr x : Nat} {s : List Ent} (h : 1 < pcN 8 (x &&& pr)) : ∀ {p2 : List Ent}, (∀ y ∈ p2, x.testBit y.1 = false) → ana cs pr (p2 ++ s) x = ana cs pr s x
  | [], _ => rfl
  | e :: p2, hp => by
    rw [List.cons_append, ana_miss h (hp e List.mem_cons_self)]
    exact ana_skip h (fun y hy => hp y (List.mem_cons_of_mem _ hy))
theorem tB_mono {t : List Ent} {v : Nat} (h : (tB t).testBit v = true) : ∀ {p : List Ent}, (tB (p ++ t)).testBit v = true
  | [] => h
  | e :: p => by
    show (if e.2.2 = none then tA (p ++ t) else tB (p ++ t)).testBit v = true
    have := tB_mono h (p := p)
    split
    · exact tB_sub this
    · exact this
theorem pc_one {x v : Nat} (hx : x < 256) (hv : v < 8) (h : ∀ w, x.testBit w = true → w = v) : pcN 8 x ≤ 1 := by
  have e : x = 0 ∨ x = 1 <<< v := by
    cases q : x.testBit v with
    | true =>
      refine Or.inr (ext8 hx (bit1_lt hv) (fun i hi => ?_))
      rw [bit1]
      by_cases ei : v = i
      · subst ei; rw [q, decide_eq_true rfl]
      · rw [decide_eq_false ei]
        cases z : x.testBit i with
        | false => rfl
        | true => exact absurd (h i z).symm ei
    | false =>
      refine Or.inl (ext8 hx (by decide) (fun i hi => ?_))
      rw [Nat.zero_testBit]
      cases z : x.testBit i with
      | false => rfl
      | true => have := h i z; subst this; rw [q] at z; cases z
  rcases e with e | e
  · rw [e, pcN_0]; omega
  · have := pcN_or (a := 0) (v := v) (Nat.zero_testBit v) 8 hv
    rw [Nat.zero_or, pcN_0] at this
    rw [e, this]; omega
/-- one step of the analysis -/
theorem ana_step {cs : List Nat} {tr p suf : List Ent} {x : Nat} {R : Nat} (hk : trOK tr) (hX : trX cs tr) (htr : tr = p ++ suf) (hx : x < 256) (hs : sub8 x (tA suf)) (hpc : 1 < pcN 8 (x &&& mdiff (tA tr) (tB tr))) (hR : ana cs (mdiff (tA tr) (tB tr)) suf x = R) :
    ∃ p2 e t i, tr = p2 ++ e :: t ∧ t.length < suf.length ∧ x.testBit e.1 = true ∧ sub8 x (tA (e :: t)) ∧ e.2.2 = some i ∧ i < cs.length ∧ e.1 < 8 ∧ mdiff (x ||| xVars (cAt cs i)) (1 <<< e.1) < 256 ∧ sub8 (mdiff (x ||| xVars (cAt cs i)) (1 <<< e.1)) (tA t) ∧ ana cs (mdiff (tA tr) (tB tr)) t (mdiff (x ||| xVars (cAt cs i)) (1 <<< e.1)) = R := by
  have h0 : x ≠ 0 := fun w => by rw [w, Nat.zero_and, pcN_0] at hpc; omega
  obtain ⟨p2, e, t, h1, h2, h3, h4⟩ := first_in h0 hx hs
  have htr2 : tr = (p ++ p2) ++ e :: t := by rw [htr, h1, List.append_assoc]
  have hk2 : trOK ((p ++ p2) ++ e :: t) := by rw [← htr2]; exact hk
  have hk3 := hk2.app
  have hX2 : trX cs (e :: t) := by
    have : ∀ (q : List Ent), trX cs (q ++ e :: t) → trX cs (e :: t) := fun q => by
      induction q with
      | nil => exact id
      | cons a q ih => exact fun w => ih w.1
    exact this _ (by rw [← htr2]; exact hX)
  have hm : ∀ v, (x &&& mdiff (tA tr) (tB tr)).testBit v = true → x.testBit v = true ∧ (tB tr).testBit v = false := fun v hv => by
    have hv8 := tb_lt8 (and_ltl hx) hv
    rw [Nat.testBit_and, Bool.and_eq_true, mdiff_tb (by omega), Bool.and_eq_true] at hv
    exact ⟨hv.1, by simpa using hv.2.2⟩
  have hi : ∃ i, e.2.2 = some i := by
    cases q : e.2.2 with
    | some i => exact ⟨i, rfl⟩
    | none =>
      exfalso
      have : pcN 8 (x &&& mdiff (tA tr) (tB tr)) ≤ 1 := pc_one (and_ltl hx) hk3.1 (fun w hw => by
        obtain ⟨a, b⟩ := hm w hw
        have := h4 w a
        rw [tA_tb, Bool.or_eq_true] at this
        rcases this with z | z
        · have hb : (tB (e :: t)).testBit w = true := by
            show (if e.2.2 = none then tA t else tB t).testBit w = true
            rw [if_pos q]; exact z
          have := tB_mono hb (p := p ++ p2)
          rw [← htr2, b] at this; cases this
        · exact (of_decide_eq_true z).symm)
      omega
  obtain ⟨i, hi⟩ := hi
  obtain ⟨hi2, hi3⟩ := hX2.2 i hi
  refine ⟨p ++ p2, e, t, i, htr2, by rw [h1]; simp; omega, h2, h4, hi, hi2, hk3.1, mdiff_lt (or_lt256 hx (xVars_lt _)), fun v hv => ?_, ?_⟩
  · have hv8 := tb_lt8 (mdiff_lt (or_lt256 hx (xVars_lt _))) hv
    rw [mdiff_tb (by omega), Bool.and_eq_true, bit1, Nat.testBit_or, Bool.or_eq_true] at hv
    have hne : v ≠ e.1 := fun w => by rw [w] at hv; simp at hv
    rcases hv.1 with w | w
    · have := h4 v w
      rw [tA_tb, decide_eq_false (fun z : e.1 = v => hne z.symm), Bool.or_false] at this; exact this
    · rcases hi3 v w with z | z
      · exact z
      · exact absurd z hne
  · rw [← hR, h1, ana_skip hpc h3, ana_hit hpc h2, hi]; rfl
theorem ana_fin {cs : List Nat} {pr x : Nat} {suf : List Ent} (h : pcN 8 (x &&& pr) ≤ 1) : ana cs pr suf x = x := by
  cases suf with
  | nil => rfl
  | cons e t => exact ana_stop h
theorem bj_tL {tr : List Ent} {p : Nat → Bool} : ∀ q, bjF p (tLev tr) q ≤ tL tr
  | 0 => Nat.zero_le _
  | q + 1 => by
    unfold bjF
    have h1 := bj_tL (tr := tr) (p := p) q
    have h2 := tLev_tL (tr := tr) (v := q)
    split
    · omega
    · exact h1
theorem xClause_add {p n : Nat} (hp : p < 256) : 256 * n + p = xClause p n := by
  unfold xClause
  rw [← Nat.shiftLeft_add_eq_or_of_lt (show p < 2 ^ 8 from hp), Nat.shiftLeft_eq]; omega
def latP (x : Nat) (pl : Nat → Nat) (v : Nat) (fo : Option Nat) : Prop := match fo with
  | none => ∀ w, w < v → x.testBit w = false
  | some u => u < v ∧ x.testBit u = true ∧ ∀ w, w < v → x.testBit w = true → pl w ≤ pl u
theorem latP.skip {x : Nat} {pl : Nat → Nat} {v : Nat} {fo : Option Nat} (h : latP x pl v fo) (hx : x.testBit v = false) : latP x pl (v + 1) fo := by
  cases fo with
  | none =>
    intro w hw
    by_cases e : w = v
    · rw [e]; exact hx
    · exact h w (by omega)
  | some u =>
    refine ⟨by have := h.1; omega, h.2.1, fun w hw hxw => ?_⟩
    by_cases e : w = v
    · rw [e, hx] at hxw; cases hxw
    · exact h.2.2 w (by omega) hxw
theorem latP.first {x : Nat} {pl : Nat → Nat} {v : Nat} (h : latP x pl v none) (hx : x.testBit v = true) : latP x pl (v + 1) (some v) := ⟨by omega, hx, fun w hw hxw => by
  by_cases e : w = v
  · rw [e]; exact Nat.le_refl _
  · rw [h w (by omega)] at hxw; cases hxw⟩
theorem latP.keep {x : Nat} {pl : Nat → Nat} {v u : Nat} (h : latP x pl v (some u)) (hx : pl v ≤ pl u) : latP x pl (v + 1) (some u) := ⟨by have := h.1; omega, h.2.1, fun w hw hxw => by
  by_cases e : w = v
  · rw [e]; exact hx
  · exact h.2.2 w (by omega) hxw⟩
theorem latP.next {x : Nat} {pl : Nat → Nat} {v u : Nat} (h : latP x pl v (some u)) (hv : x.testBit v = true) (hx : pl u < pl v) : latP x pl (v + 1) (some v) := ⟨by omega, hv, fun w hw hxw => by
  by_cases e : w = v
  · rw [e]; exact Nat.le_refl _
  · have := h.2.2 w (by omega) hxw; omega⟩
theorem latP.end_ {tr p t : List Ent} {e : Ent} {x : Nat} {fo : Option Nat} (h : latP x (tPl tr) 8 fo) (hk : trOK tr) (htr : tr = p ++ e :: t) (he : x.testBit e.1 = true) (hs : sub8 x (tA (e :: t))) (he8 : e.1 < 8) : fo = some e.1 := by
  have hk2 : trOK (p ++ e :: t) := by rw [← htr]; exact hk
  cases fo with
  | none => have := h e.1 he8; rw [he] at this; cases this
  | some u =>
    obtain ⟨h1, h2, h3⟩ := h
    have h4 := h3 e.1 he8 he
    have h5 : tPl tr e.1 = t.length := by rw [htr, tPl_app hk2 (by rw [tA_tb]; simp)]; exact if_pos rfl
    by_cases q : u = e.1
    · rw [q]
    · exfalso
      have h6 := hs u h2
      have h7 : (tA t).testBit u = true := by rw [tA_tb, decide_eq_false (fun w : e.1 = u => q w.symm), Bool.or_false] at h6; exact h6
      have h8 : tPl tr u = tPl t u := by rw [htr, tPl_app hk2 h6]; exact if_neg q
      have := tPl_lt h7
      omega
