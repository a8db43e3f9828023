/-! pure: what is learned, sums, resolvents, removal -/
/-- no model agrees with the trail on all of S -/
def Imp (cs : List Nat) (T S : Nat) : Prop := ∀ a, isMod cs a = true → ∃ i, S.testBit i = true ∧ a.testBit i ≠ T.testBit i
theorem Imp.start {cs : List Nat} {T i : Nat} (hi : i < cs.length) (h : xViol (cAt cs i) T = true) : Imp cs T (xVars (cAt cs i)) := by
  intro a ha
  refine Classical.byContradiction fun q => ?_
  have e : xViol (cAt cs i) a = xViol (cAt cs i) T := viol_congr (fun j hj => Classical.byContradiction fun q2 => q ⟨j, hj, q2⟩)
  rw [isMod_iff.mp ha i hi, h] at e; cases e
theorem tB_above {e : Ent} {t : List Ent} (he : e.2.2 = none) : ∀ (p : List Ent) {i : Nat}, (tA t).testBit i = true → (tB (p ++ e :: t)).testBit i = true
  | [], i, h => by
    show (if e.2.2 = none then tA t else tB t).testBit i = true
    rw [if_pos he]; exact h
  | q :: p, i, h => by
    show (if q.2.2 = none then tA (p ++ e :: t) else tB (p ++ e :: t)).testBit i = true
    split
    · exact tA_app _ p (by rw [tA_tb, h]; rfl)
    · exact tB_above he p h
theorem pc_sub1 {m v : Nat} (hv : v < 8) (h : ∀ i, m.testBit i = true → i = v) : pcN 8 m ≤ 1 := by
  have e : m = if m.testBit v then 0 ||| 1 <<< v else 0 := by
    apply Nat.eq_of_testBit_eq
    intro i
    cases hm : m.testBit i with
    | true =>
      have := h i hm
      subst this
      rw [hm, if_pos rfl, Nat.zero_or, bit1]; simp
    | false =>
      split
      · rename_i h1
        rw [Nat.zero_or, bit1, decide_eq_false (fun q => by subst q; rw [hm] at h1; cases h1)]
      · exact (Nat.zero_testBit i).symm
  rw [e]
  split
  · rw [pcN_or (Nat.zero_testBit v) 8 hv, pcN_0]; exact Nat.le_refl _
  · rw [pcN_0]; exact Nat.zero_le _
theorem ana_spec {cs : List Nat} {tr : List Ent} (hk : trOK tr) (hg : tGood cs tr) : ∀ (t p : List Ent) (S : Nat), tr = p ++ t → S < 256 → (∀ i, S.testBit i = true → (tA t).testBit i = true) → Imp cs (tT tr) S → Imp cs (tT tr) (ana cs (mdiff (tA tr) (tB tr)) t S) ∧ ∀ i, (ana cs (mdiff (tA tr) (tB tr)) t S).testBit i = true → (tA tr).testBit i = true
  | [], p, S, htr, hS, hsub, hI => ⟨hI, fun i hi => by
      have := hsub i hi
      rw [show tA [] = 0 from rfl, Nat.zero_testBit] at this; cases this⟩
  | e :: t, p, S, htr, hS, hsub, hI => by
    have hsub2 : ∀ i, S.testBit i = true → (tA tr).testBit i = true := fun i hi => by rw [htr]; exact tA_app _ p (hsub i hi)
    by_cases hpc : pcN 8 (S &&& mdiff (tA tr) (tB tr)) ≤ 1
    · rw [ana_stop hpc]; exact ⟨hI, hsub2⟩
    · have htr2 : tr = (p ++ [e]) ++ t := by rw [htr]; simp
      have hk2 : trOK (p ++ e :: t) := htr ▸ hk
      have hk3 : trOK (e :: t) := hk2.app
      cases hb : S.testBit e.1 with
      | false =>
        rw [ana_miss (by omega) hb]
        refine ana_spec hk hg t (p ++ [e]) S htr2 hS (fun i hi => ?_) hI
        have h1 := hsub i hi
        rw [tA_tb, decide_eq_false (fun q => by subst q; rw [hb] at hi; cases hi), Bool.or_false] at h1
        exact h1
      | true =>
        rw [ana_hit (by omega) hb]
        cases he : e.2.2 with
        | none =>
          refine absurd (pc_sub1 hk3.1 (fun i hi => ?_)) hpc
          rw [Nat.testBit_and, Bool.and_eq_true] at hi
          have h1 := hsub i hi.1
          rw [tA_tb, Bool.or_eq_true] at h1
          rcases h1 with h1 | h1
          · have h2 := tB_above he p h1
            rw [← htr] at h2
            have h3 := hi.2
            rw [mdiff_tb (by have := tb_lt8 hS hi.1; omega), h2] at h3
            simp at h3
          · exact (of_decide_eq_true h1).symm
        | some w =>
          have hg3 : tGood cs (e :: t) := (htr ▸ hg : tGood cs (p ++ e :: t)).app
          obtain ⟨g1, g2, g3, g4⟩ := hg3.1 w he
          have hvars : ∀ i, (xVars (cAt cs w)).testBit i = true → i = e.1 ∨ (tA t).testBit i = true := by
            intro i hi
            by_cases hie : i = e.1
            · exact Or.inl hie
            · refine Or.inr ?_
              have h1 : (mdiff (xVars (cAt cs w)) (tA t)).testBit i = false := by rw [g2, bit1, decide_eq_false (fun q => hie q.symm)]
              rw [mdiff_tb (by have := tb_lt8 (xVars_lt _) hi; omega), hi, Bool.true_and, Bool.not_eq_false'] at h1
              exact h1
          refine ana_spec hk hg t (p ++ [e]) _ htr2 (mdiff_lt (or_lt256 hS (xVars_lt _))) (fun i hi => ?_) ?_
          · have h8 : i < 8 := tb_lt8 (mdiff_lt (or_lt256 hS (xVars_lt _))) hi
            rw [mdiff_tb (by omega), Bool.and_eq_true, Nat.testBit_or, Bool.or_eq_true, bit1] at hi
            obtain ⟨h1, h2⟩ := hi
            have hne : ¬ e.1 = i := fun q => by subst q; simp at h2
            rcases h1 with h1 | h1
            · have h3 := hsub i h1
              rw [tA_tb, decide_eq_false hne, Bool.or_false] at h3
              exact h3
            · rcases hvars i h1 with h3 | h3
              · exact absurd h3.symm hne
              · exact h3
          · intro a ha
            refine Classical.byContradiction fun q => ?_
            have hag : ∀ i, i ≠ e.1 → S.testBit i = true ∨ (xVars (cAt cs w)).testBit i = true → a.testBit i = (tT tr).testBit i := by
              intro i hne h1
              refine Classical.byContradiction fun q2 => q ⟨i, ?_, q2⟩
              have h8 : i < 8 := by
                rcases h1 with h1 | h1
                · exact tb_lt8 hS h1
                · exact tb_lt8 (xVars_lt _) h1
              rw [mdiff_tb (by omega), Nat.testBit_or, bit1, decide_eq_false (fun q => hne q.symm), Bool.not_false, Bool.and_true, Bool.or_eq_true]
              exact h1
            obtain ⟨i, hi1, hi2⟩ := hI a ha
            have hie : i = e.1 := Classical.byContradiction fun hne => hi2 (hag i hne (Or.inl hi1))
            subst hie
            have hA : (tA (e :: t)).testBit e.1 = true := by rw [tA_tb]; simp
            have hTe : (tT tr).testBit e.1 = (tT (e :: t)).testBit e.1 := by
              have := tT_app hk2 hA
              rw [← htr] at this; exact this
            have e2 : xViol (cAt cs w) a = xViol (cAt cs w) (tT (e :: t) ^^^ 1 <<< e.1) := by
              refine viol_congr (fun j hj => ?_)
              rw [Nat.testBit_xor, bit1]
              by_cases hje : j = e.1
              · subst hje
                rw [decide_eq_true rfl, ← hTe]
                cases h1 : a.testBit e.1 <;> cases h2 : (tT tr).testBit e.1 <;> simp_all
              · rw [decide_eq_false (fun q => hje q.symm), Bool.xor_false, hag j hje (Or.inr hj)]
                rcases hvars j hj with h1 | h1
                · exact absurd h1 hje
                · have hA2 : (tA (e :: t)).testBit j = true := by rw [tA_tb, h1]; rfl
                  have := tT_app hk2 hA2
                  rw [← htr] at this; exact this
            rw [isMod_iff.mp ha w g1, g4] at e2; cases e2
theorem lrn_spec {cs ds : List Nat} {q : Nat} (hc : csOK cs) (hd : ∀ d ∈ ds, d < 16) (h : (build cs ds).2 = some q) : Imp cs (tT (build cs ds).1) (lrnVars cs (build cs ds).1 q) := by
  obtain ⟨g1, g2, g3⟩ := build_good hc hd
  obtain ⟨c1, c2, c3⟩ := g3 q h
  refine (ana_spec g1 g2 _ [] (xVars (cAt cs q)) rfl (xVars_lt _) (fun i hi => ?_) (Imp.start c1 c3)).1
  exact (mdiff_0 (xVars_lt _)).mp c2 i hi
/-- the false clause of such a set holds in all models -/
theorem falseCl_imp {cs : List Nat} {tr : List Ent} {S : Nat} (hS : S < 256) (h : Imp cs (tT tr) S) {a : Nat} (ha : isMod cs a = true) : xViol (falseCl tr S) a = false := by
  have hP : mdiff S (tT tr) < 256 := mdiff_lt hS
  have hN : S &&& tT tr < 256 := and_ltl hS
  cases hv : xViol (falseCl tr S) a with
  | false => rfl
  | true =>
    have hp : xPar (falseCl tr S) = false := xPar_clause hP hN
    rw [viol_cl hp] at hv
    have e1 : xFirst (falseCl tr S) = mdiff S (tT tr) := xFirst_clause hP
    have e2 : xSecond (falseCl tr S) = S &&& tT tr := xSecond_clause hP hN
    rw [e1, e2] at hv
    obtain ⟨i, h1, h2⟩ := h a ha
    have h8 := tb_lt8 hS h1
    cases ht : (tT tr).testBit i with
    | true => rw [hv.2 i (by rw [Nat.testBit_and, h1, ht]; rfl), ht] at h2; exact absurd rfl h2
    | false => rw [hv.1 i (by rw [mdiff_tb (by omega), h1, ht]; rfl), ht] at h2; exact absurd rfl h2
theorem cAt_app_l {cs : List Nat} {x i : Nat} (h : i < cs.length) : cAt (cs ++ [x]) i = cAt cs i := by
  unfold cAt; rw [List.getD_eq_getElem?_getD, List.getD_eq_getElem?_getD, List.getElem?_append_left h]
theorem cAt_app_r {cs : List Nat} {x : Nat} : cAt (cs ++ [x]) cs.length = x := by
  unfold cAt; rw [List.getD_eq_getElem?_getD, List.getElem?_append_right (Nat.le_refl _), Nat.sub_self]; rfl
theorem isMod_app {cs : List Nat} {x a : Nat} : isMod (cs ++ [x]) a = true ↔ isMod cs a = true ∧ xViol x a = false := by
  rw [isMod_iff, isMod_iff, List.length_append, show [x].length = 1 from rfl]
  rw [all_succ (P := fun i => xViol (cAt (cs ++ [x]) i) a = false), cAt_app_r]
  constructor
  · rintro ⟨h1, h2⟩; exact ⟨fun i hi => by have := h1 i hi; rw [cAt_app_l hi] at this; exact this, h2⟩
  · rintro ⟨h1, h2⟩; exact ⟨fun i hi => by rw [cAt_app_l hi]; exact h1 i hi, h2⟩
/-- what is implied keeps the models -/
theorem mod_same {cs : List Nat} {x : Nat} (h : ∀ a, isMod cs a = true → xViol x a = false) : ∀ a, isMod (cs ++ [x]) a = isMod cs a := fun a =>
  bool_of (by rw [isMod_app]; exact ⟨fun q => q.1, fun q => ⟨q, h a q⟩⟩)
theorem cnt_same {cs : List Nat} {x : Nat} (h : ∀ a, isMod cs a = true → xViol x a = false) : cntP (isMod (cs ++ [x])) 256 = cntP (isMod cs) 256 := cnt_congr 256 (fun a _ => mod_same h a)
theorem allS_t {cs : List Nat} {x : Nat} (h : ∀ a, isMod cs a = true → xViol x a = false) : allS cs x = true := pB_t (fun a _ q => h a q)
theorem lrn_imp {cs ds : List Nat} {q : Nat} (hc : csOK cs) (hd : ∀ d ∈ ds, d < 16) (h : (build cs ds).2 = some q) : ∀ a, isMod cs a = true → xViol (falseCl (build cs ds).1 (lrnVars cs (build cs ds).1 q)) a = false := fun _ ha => falseCl_imp lrn_lt (lrn_spec hc hd h) ha
theorem par_sum {x y a : Nat} (hx : xOK x) (hy : xOK y) (px : xPar x = true) (py : xPar y = true) (vx : xViol x a = false) (vy : xViol y a = false) : xViol (xParity (xFirst x ^^^ xFirst y) (xSecond x ^^^ xSecond y)) a = false := by
  have hF : xFirst x ^^^ xFirst y < 256 := Nat.xor_lt_two_pow (n := 8) (xFirst_lt x) (xFirst_lt y)
  have sx := hx.2.1 px
  have sy := hy.2.1 py
  have hS : xSecond x ^^^ xSecond y < 2 := Nat.xor_lt_two_pow (n := 1) sx sy
  have h1 : pcN 8 (xFirst x &&& a) % 2 = xSecond x := Classical.byContradiction fun q => by rw [(viol_par px).mpr q] at vx; cases vx
  have h2 : pcN 8 (xFirst y &&& a) % 2 = xSecond y := Classical.byContradiction fun q => by rw [(viol_par py).mpr q] at vy; cases vy
  cases hv : xViol (xParity (xFirst x ^^^ xFirst y) (xSecond x ^^^ xSecond y)) a with
  | false => rfl
  | true =>
    rw [viol_par (xPar_parity _ _), xFirst_parity hF, xSecond_parity hF (by omega)] at hv
    refine absurd ?_ hv
    have e : (xFirst x ^^^ xFirst y) &&& a = (xFirst x &&& a) ^^^ (xFirst y &&& a) := by
      apply Nat.eq_of_testBit_eq
      intro i
      simp only [Nat.testBit_and, Nat.testBit_xor]
      cases (xFirst x).testBit i <;> cases (xFirst y).testBit i <;> cases a.testBit i <;> rfl
    rw [e, ← h1, ← h2, pbt_pc, pbt_pc, pbt_pc, pbt_xor]
    cases pbt (xFirst x &&& a) 8 <;> cases pbt (xFirst y &&& a) 8 <;> rfl
theorem sum_imp {cs : List Nat} {i j : Nat} (hc : csOK cs) (hi : i < cs.length) (hj : j < cs.length) (h : smOK cs i j) : ∀ a, isMod cs a = true → xViol (xParity (xFirst (cAt cs i) ^^^ xFirst (cAt cs j)) (xSecond (cAt cs i) ^^^ xSecond (cAt cs j))) a = false := fun a ha =>
  par_sum (hc.2 _ (cAt_mem hi)) (hc.2 _ (cAt_mem hj)) h.1 h.2.1 (isMod_iff.mp ha i hi) (isMod_iff.mp ha j hj)
theorem res_imp {cs : List Nat} {i j v : Nat} (hc : csOK cs) (hi : i < cs.length) (hj : j < cs.length) (hv : v < 8) (h : rsOK cs i j v) : ∀ a, isMod cs a = true → xViol (xClause (rsP cs i j v) (rsN cs i j v)) a = false := by
  intro a ha
  obtain ⟨p1, p2, b1, b2, -, -⟩ := h
  have v1 := isMod_iff.mp ha i hi
  have v2 := isMod_iff.mp ha j hj
  cases hv3 : xViol (xClause (rsP cs i j v) (rsN cs i j v)) a with
  | false => rfl
  | true =>
    rw [viol_cl (xPar_clause rsP_lt rsN_lt), xFirst_clause rsP_lt, xSecond_clause rsP_lt rsN_lt] at hv3
    obtain ⟨q1, q2⟩ := hv3
    have q1' : ∀ u, u ≠ v → (xFirst (cAt cs i)).testBit u = true ∨ (xFirst (cAt cs j)).testBit u = true → a.testBit u = false := by
      intro u hu h1
      refine q1 u ?_
      have h8 : u < 8 := by
        rcases h1 with h1 | h1 <;> exact tb_lt8 (xFirst_lt _) h1
      unfold rsP
      rw [mdiff_tb (by omega), Nat.testBit_or, bit1, decide_eq_false (fun q => hu q.symm), Bool.not_false, Bool.and_true, Bool.or_eq_true]
      exact h1
    have q2' : ∀ u, u ≠ v → (xSecond (cAt cs i)).testBit u = true ∨ (xSecond (cAt cs j)).testBit u = true → a.testBit u = true := by
      intro u hu h1
      refine q2 u ?_
      have h8 : u < 8 := by
        rcases h1 with h1 | h1 <;> exact tb_lt8 (xSecond_lt _) h1
      unfold rsN
      rw [mdiff_tb (by omega), Nat.testBit_or, bit1, decide_eq_false (fun q => hu q.symm), Bool.not_false, Bool.and_true, Bool.or_eq_true]
      exact h1
    have d1 : (xSecond (cAt cs i)).testBit v = false := and_zero_tb ((hc.2 _ (cAt_mem hi)).2.2 p1) b1
    have d2 : (xFirst (cAt cs j)).testBit v = false := and_zero_tb (and_comm0 ((hc.2 _ (cAt_mem hj)).2.2 p2)) b2
    cases hav : a.testBit v with
    | false =>
      have c1 : ¬ xViol (cAt cs i) a = true := by rw [v1]; simp
      rw [viol_cl p1] at c1
      refine absurd ⟨fun u hu => ?_, fun u hu => ?_⟩ c1
      · by_cases e : u = v
        · subst e; exact hav
        · exact q1' u e (Or.inl hu)
      · by_cases e : u = v
        · subst e; rw [d1] at hu; cases hu
        · exact q2' u e (Or.inl hu)
    | true =>
      have c1 : ¬ xViol (cAt cs j) a = true := by rw [v2]; simp
      rw [viol_cl p2] at c1
      refine absurd ⟨fun u hu => ?_, fun u hu => ?_⟩ c1
      · by_cases e : u = v
        · subst e; rw [d2] at hu; cases hu
        · exact q1' u e (Or.inr hu)
      · by_cases e : u = v
        · subst e; exact hav
        · exact q2' u e (Or.inr hu)
/-! the level that is jumped back to -/
theorem tLev_le2 : ∀ (tr : List Ent) (v : Nat), tLev tr v ≤ tL tr
  | [], _ => Nat.le_refl _
  | e :: t, v => by
    have ih := tLev_le2 t v
    have h2 : tL t ≤ tL (e :: t) := Nat.le_add_right _ _
    show (if v = e.1 then tL (e :: t) else tLev t v) ≤ _
    split
    · exact Nat.le_refl _
    · omega
theorem tLev_lt : ∀ {tr : List Ent}, trOK tr → ∀ {v : Nat}, (tB tr).testBit v = true → tLev tr v < tL tr
  | [], _, v, h => by rw [show tB [] = 0 from rfl, Nat.zero_testBit] at h; cases h
  | e :: t, hk, v, h => by
    have h0 : (tB (e :: t)).testBit v = (if e.2.2 = none then tA t else tB t).testBit v := rfl
    rw [h0] at h
    show (if v = e.1 then tL (e :: t) else tLev t v) < tL t + (if e.2.2 = none then 1 else 0)
    by_cases he : e.2.2 = none
    · rw [if_pos he] at h ⊢
      rw [if_neg (fun q => by subst q; rw [hk.2.1] at h; cases h)]
      have := tLev_le2 t v
      omega
    · rw [if_neg he] at h ⊢
      rw [if_neg (fun q => by subst q; have h3 := tB_sub h; rw [hk.2.1] at h3; cases h3)]
      exact tLev_lt hk.2.2.2 h
theorem bj_lt {p : Nat → Bool} {lv : Nat → Nat} {n : Nat} (hn : 0 < n) (h : ∀ v, p v = true → lv v < n) : ∀ q, bjF p lv q < n
  | 0 => hn
  | q + 1 => by
    have ih := bj_lt hn h q
    unfold bjF
    split
    · rename_i hp; have := h q hp; omega
    · exact ih
theorem bjLev_lt {tr : List Ent} {S : Nat} (hk : trOK tr) (hl : 0 < tL tr) : bjLev tr S < tL tr :=
  bj_lt hl (fun v hv => by
    rw [Nat.testBit_and, Bool.and_eq_true] at hv
    exact tLev_lt hk hv.2) 8
theorem sNew_le {cs ds : List Nat} : (sNew cs ds).length ≤ ds.length := by unfold sNew; rw [List.length_take]; omega
/-! removal -/
theorem cAt_er9 {cs : List Nat} {j i : Nat} : cAt (cs.eraseIdx j) i = if i < j then cAt cs i else cAt cs (i + 1) := by
  unfold cAt
  rw [List.getD_eq_getElem?_getD, List.getElem?_eraseIdx]
  split <;> rw [List.getD_eq_getElem?_getD]
theorem isMod_er {cs : List Nat} {j a : Nat} (hj : j < cs.length) (h : isMod cs a = true) : isMod (cs.eraseIdx j) a = true := by
  rw [isMod_iff] at h ⊢
  intro i hi
  rw [List.length_eraseIdx_of_lt hj] at hi
  rw [cAt_er9]
  split
  · exact h i (by omega)
  · exact h (i + 1) (by omega)
theorem cnt_er {cs : List Nat} {j : Nat} (hj : j < cs.length) : cntP (isMod cs) 256 ≤ cntP (isMod (cs.eraseIdx j)) 256 := cnt_le2 256 (fun _ _ h => isMod_er hj h)
