/-! pure: solving -/
theorem propF_end {cs : List Nat} (hc : cs.length ≤ 24) : ∀ (n : Nat) (tr : List Ent), trOK tr → 9 ≤ n + tr.length → (propF cs n tr).2 = none → fstAct cs (tA (propF cs n tr).1) (tT (propF cs n tr).1) = none
  | 0, tr, h, hn, _ => by have := h.le; omega
  | n + 1, tr, h, hn, hq => by
    unfold propF at hq ⊢
    split at hq
    · rename_i h0
      exact h0
    · rename_i i hi
      have hs := fstAct_spec hi
      split at hq
      · cases hq
      · rename_i ho
        obtain ⟨o1, o2, -⟩ := open_fresh ho
        rw [if_neg ho]
        exact propF_end hc n _ ⟨o1, o2, fun m hm => by cases hm; omega, h⟩ (by simp; omega) hq
def sEnd (cs : List Nat) (s : List Ent × Option Nat) : Prop := s.2 = none → fstAct cs (tA s.1) (tT s.1) = none
theorem prop_end' {cs : List Nat} (hc : cs.length ≤ 24) {tr : List Ent} (h : trOK tr) : sEnd cs (prop cs tr) := fun q => propF_end hc 9 tr h (by omega) q
theorem buildF_end {cs : List Nat} (hc : cs.length ≤ 24) : ∀ (ds : List Nat) (s : List Ent × Option Nat), (∀ d ∈ ds, d < 16) → trOK s.1 → sEnd cs s → sEnd cs (buildF cs ds s)
  | [], s, _, _, h => h
  | d :: ds, s, hd, hk, h => by
    unfold buildF
    split
    · rename_i hk1
      obtain ⟨k1, k2⟩ := okDec_t hk1
      have hd0 := hd d List.mem_cons_self
      have hok : trOK (((d / 2, decide (d % 2 = 0), none) : Ent) :: s.1) := ⟨by show d / 2 < 8; omega, k2, (fun n q => by cases q), hk⟩
      exact buildF_end hc ds _ (fun x hx => hd x (List.mem_cons_of_mem _ hx)) (propF_ok hc 9 _ hok).1 (prop_end' hc hok)
    · exact h
theorem build_end' {cs ds : List Nat} (hc : cs.length ≤ 24) (hd : ∀ d ∈ ds, d < 16) : sEnd cs (build cs ds) :=
  buildF_end hc ds _ hd (propF_ok hc 9 [] trivial).1 (prop_end' hc trivial)
/-- no conflict and all assigned: a model -/
theorem full_model {cs ds : List Nat} (hc : cs.length ≤ 24) (hd : ∀ d ∈ ds, d < 16) (h : (build cs ds).2 = none) (hA : ∀ v, v < 8 → (tA (build cs ds).1).testBit v = true) : isMod cs (tT (build cs ds).1) = true := by
  rw [isMod_iff]
  intro i hi
  have h1 := fst_none _ _ (build_end' hc hd h) i (Nat.zero_le _) (by omega)
  have h0 : mdiff (xVars (cAt cs i)) (tA (build cs ds).1) = 0 := (mdiff_0 (xVars_lt _)).mpr (fun v hv => hA v (tb_lt8 (xVars_lt _) hv))
  have h2 : xAct (cAt cs i) (tA (build cs ds).1) (tT (build cs ds).1) = false := h1
  unfold xAct at h2
  rw [h0, pcN_0, decide_eq_true (Nat.zero_le _), Bool.true_and, Bool.or_eq_false_iff] at h2
  exact h2.1
/-- without decisions every model agrees with the trail -/
theorem agree0 {cs : List Nat} {a : Nat} (ha : isMod cs a = true) : ∀ {tr : List Ent}, trOK tr → tGood cs tr → tL tr = 0 → ∀ i, (tA tr).testBit i = true → a.testBit i = (tT tr).testBit i
  | [], _, _, _, i, h => by rw [show tA [] = 0 from rfl, Nat.zero_testBit] at h; cases h
  | e :: t, hk, hg, h0, i, h => by
    have h00 : tL t + (if e.2.2 = none then 1 else 0) = 0 := h0
    have ht0 : tL t = 0 := by omega
    have ih := agree0 ha hk.2.2.2 hg.2 ht0
    cases he : e.2.2 with
    | none => rw [if_pos he] at h00; omega
    | some w =>
      obtain ⟨g1, g2, g3, g4⟩ := hg.1 w he
      have hag : ∀ j, j ≠ e.1 → (tA (e :: t)).testBit j = true → a.testBit j = (tT (e :: t)).testBit j := by
        intro j hj hA
        rw [tA_tb, decide_eq_false (fun q => hj q.symm), Bool.or_false] at hA
        rw [ih j hA, tT_tb, decide_eq_false (fun q => hj q.symm), Bool.and_false, Bool.or_false]
      by_cases hie : i = e.1
      · subst hie
        refine Classical.byContradiction fun q => ?_
        have e2 : xViol (cAt cs w) a = xViol (cAt cs w) (tT (e :: t) ^^^ 1 <<< e.1) := by
          refine viol_congr (fun j hj => ?_)
          rw [Nat.testBit_xor, bit1]
          by_cases hje : j = e.1
          · subst hje
            rw [decide_eq_true rfl]
            cases h1 : a.testBit e.1 <;> cases h2 : (tT (e :: t)).testBit e.1 <;> simp_all
          · rw [decide_eq_false (fun q => hje q.symm), Bool.xor_false]
            refine hag j hje ?_
            have h1 : (mdiff (xVars (cAt cs w)) (tA t)).testBit j = false := by rw [g2, bit1, decide_eq_false (fun q => hje q.symm)]
            rw [mdiff_tb (by have := tb_lt8 (xVars_lt _) hj; omega), hj, Bool.true_and, Bool.not_eq_false'] at h1
            rw [tA_tb, h1]; rfl
        rw [isMod_iff.mp ha w g1, g4] at e2; cases e2
      · exact hag i hie h
theorem none_of_conf {cs : List Nat} {q : Nat} (hc : csOK cs) (h : (build cs []).2 = some q) : ∀ a, isMod cs a = false := by
  intro a
  cases ha : isMod cs a with
  | false => rfl
  | true =>
    obtain ⟨g1, g2, g3⟩ := build_good (ds := []) hc (fun d h => absurd h List.not_mem_nil)
    obtain ⟨c1, c2, c3⟩ := g3 q h
    have h0 : tL (build cs []).1 = 0 := tL_propF []
    have e : xViol (cAt cs q) a = xViol (cAt cs q) (tT (build cs []).1) := viol_congr (fun i hi => agree0 ha g1 g2 h0 i ((mdiff_0 (xVars_lt _)).mp c2 i hi))
    rw [isMod_iff.mp ha q c1, c3] at e; cases e
theorem decF_spec {c d : List Nat} (hc : csOK c) (hd : dOK c d) : ∀ n, n ≤ 8 → dOK c (decF c d n) ∧ ((build c (decF c d n)).2 = none → ∀ v, v < n → (tA (build c (decF c d n)).1).testBit v = true)
  | 0, _ => ⟨hd, fun _ v h => absurd h (Nat.not_lt_zero _)⟩
  | n + 1, hn => by
    obtain ⟨h1, h2⟩ := decF_spec hc hd n (by omega)
    show dOK c (dstep c (decF c d n) n) ∧ ((build c (dstep c (decF c d n) n)).2 = none → ∀ v, v < n + 1 → (tA (build c (dstep c (decF c d n) n)).1).testBit v = true)
    by_cases hcf : (build c (decF c d n)).2 = none
    · cases hA : (tA (build c (decF c d n)).1).testBit n with
      | true =>
        rw [dstep_f hA]
        refine ⟨h1, fun q v hv => ?_⟩
        by_cases e : v = n
        · subst e; exact hA
        · exact h2 q v (by omega)
      | false =>
        rw [dstep_t hcf hA]
        have hdiv : 2 * n / 2 = n := by omega
        obtain ⟨s1, s2, s3, s4, s5, s6⟩ := dec_spec (d := 2 * n) hc h1.1 (by omega) h1.2.1 hcf (by rw [hdiv]; exact hA)
        rw [s1]
        rw [hdiv] at s3
        have hk : trOK (build c (decF c d n)).1 := (build_ok hc.1 h1.1).1
        have hlen : (decF c d n).length < 8 := by
          have h5 := tL_le (build c (decF c d n)).1
          have h6 := hk.lt (show n < 8 by omega) hA
          rw [h1.2.1] at h5; omega
        refine ⟨?_, fun q v hv => ?_⟩
        · have := dOK.new (c := c) (d' := decF c d n ++ [2 * n]) (fun x hx => by
            rcases List.mem_append.mp hx with h | h
            · exact h1.1 x h
            · rw [List.mem_singleton.mp h]; omega) (by simp; omega)
          rw [s1] at this; exact this
        · by_cases e : v = n
          · subst e; exact s3
          · exact s6 v (h2 hcf v (by omega))
    · rw [dstep_c hcf]
      exact ⟨h1, fun q => absurd q hcf⟩
def SolR (cs : List Nat) (r : Int32) : Prop := r = -90 ∨ (∃ m, m < 2 ^ 29 ∧ r = nI m ∧ 0 < cntP (isMod cs) 256) ∨ ∃ m, m < 2 ^ 29 ∧ r = -1 - nI m ∧ cntP (isMod cs) 256 = 0
theorem solve_spec {cs : List Nat} : ∀ (f n : Nat) (c d : List Nat), csOK c → dOK c d → n + f < 2 ^ 29 → (∀ a, isMod c a = isMod cs a) → SolR cs (solveF f n c d)
  | 0, n, c, d, _, _, _, _ => Or.inl rfl
  | f + 1, n, c, d, hc, hd, hn, hm => by
    obtain ⟨h1, h2⟩ := decF_spec hc hd 8 (Nat.le_refl _)
    cases hcf : (build c (decF c d 8)).2 with
    | none =>
      rw [solve_none rfl hcf]
      refine Or.inr (Or.inl ⟨n, by omega, rfl, (cnt_pos _).mpr ⟨tT (build c (decF c d 8)).1, (build_ok hc.1 h1.1).1.T, ?_⟩⟩)
      rw [← hm]
      exact full_model hc.1 h1.1 hcf (h2 hcf)
    | some q =>
      by_cases hl : (decF c d 8).length = 0
      · rw [solve_zero rfl hcf hl]
        refine Or.inr (Or.inr ⟨n, by omega, rfl, ?_⟩)
        rw [List.length_eq_zero_iff.mp hl] at hcf
        have h0 := none_of_conf hc hcf
        rcases Nat.eq_zero_or_pos (cntP (isMod cs) 256) with e | e
        · exact e
        · obtain ⟨a, _, h3⟩ := (cnt_pos _).mp e
          rw [← hm, h0] at h3; cases h3
      · by_cases hf : 24 ≤ c.length
        · rw [solve_full rfl hcf hl hf]; exact Or.inl rfl
        · have hlt : c.length < 24 := by omega
          have hi := lrn_imp hc h1.1 hcf
          rw [← solve_next rfl hcf hl hlt]
          refine solve_spec f (n + 1) _ _ (hc.app hlt (falseCl_ok lrn_lt)) (dOK.new (fun x hx => h1.1 x (List.mem_of_mem_take hx)) (by rw [List.length_take]; have := h1.2.2; omega)) (by omega) (fun a => by rw [mod_same hi, hm])
theorem solve_sol {cs : List Nat} (hc : csOK cs) : SolR cs (solveF 25 0 cs (sNew cs [])) :=
  solve_spec 25 0 cs _ hc (dOK.new (fun x h => absurd h List.not_mem_nil) (Nat.zero_le _)) (by decide) (fun _ => rfl)
/-- as the law asks of it -/
theorem SolR.law {cs : List Nat} {r : Int32} (h : SolR cs r) (h90 : r ≠ -90) : (¬ r < 0) ↔ 0 < cntP (isMod cs) 256 := by
  rcases h with h | ⟨m, hm, h, h2⟩ | ⟨m, hm, h, h2⟩
  · exact absurd h h90
  · rw [h]; exact ⟨fun _ => h2, fun _ => nI_pos (by omega)⟩
  · rw [h, h2]
    refine ⟨fun q => absurd ?_ q, fun q => absurd q (Nat.lt_irrefl _)⟩
    have e : (-1 : Int32) - nI m = nI 0 - nI (m + 1) := by
      rw [← nI_add, show nI 0 = 0 from rfl, show nI 1 = 1 from rfl, Int32.zero_sub, Int32.neg_add, Int32.sub_eq_add_neg, Int32.add_comm, Int32.sub_eq_add_neg]
    rw [e]
    exact pk_sneg (by omega) (by omega)
