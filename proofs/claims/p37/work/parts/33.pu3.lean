/-! pure: the trail -/
theorem one_bit : ∀ m, m < 256 → pcN 8 m ≤ 1 → m ≠ 0 → m = 1 <<< low m := by decide +kernel
theorem tT_tb (e : Ent) (t : List Ent) (i : Nat) : (tT (e :: t)).testBit i = ((tT t).testBit i || (e.2.1 && decide (e.1 = i))) := by
  show (if e.2.1 = true then tT t ||| 1 <<< e.1 else tT t).testBit i = _
  split
  · rename_i h; rw [Nat.testBit_or, bit1, h, Bool.true_and]
  · rename_i h; simp [h]
theorem tT_not {t : List Ent} {v : Nat} (h : (tA t).testBit v = false) : (tT t).testBit v = false := by
  cases e : (tT t).testBit v with
  | false => rfl
  | true => rw [tT_sub e] at h; cases h
/-- each entry with a reason was unit at its place -/
def tGood (cs : List Nat) : List Ent → Prop
  | [] => True
  | e :: t => (∀ w, e.2.2 = some w → w < cs.length ∧ mdiff (xVars (cAt cs w)) (tA t) = 1 <<< e.1 ∧ xViol (cAt cs w) (tT (e :: t)) = false ∧ xViol (cAt cs w) (tT (e :: t) ^^^ 1 <<< e.1) = true) ∧ tGood cs t
theorem tGood.app {cs : List Nat} {t : List Ent} : ∀ {p : List Ent}, tGood cs (p ++ t) → tGood cs t
  | [], h => h
  | _ :: _, h => tGood.app h.2
theorem or_xor1 {T v : Nat} (h : T.testBit v = false) : (T ||| 1 <<< v) ^^^ 1 <<< v = T := by
  apply Nat.eq_of_testBit_eq
  intro i
  rw [Nat.testBit_xor, Nat.testBit_or, bit1]
  by_cases e : v = i
  · subst e; rw [h]; simp
  · simp [e]
theorem xor1_or {T v : Nat} (h : T.testBit v = false) : T ^^^ 1 <<< v = T ||| 1 <<< v := by
  apply Nat.eq_of_testBit_eq
  intro i
  rw [Nat.testBit_xor, Nat.testBit_or, bit1]
  by_cases e : v = i
  · subst e; rw [h]; simp
  · simp [e]
theorem xAct_iff {x A T : Nat} (h : xAct x A T = true) : pcN 8 (mdiff (xVars x) A) ≤ 1 ∧ (xViol x T = true ∨ xViol x (T ||| mdiff (xVars x) A) = true) := by
  unfold xAct at h
  rw [Bool.and_eq_true, decide_eq_true_eq, Bool.or_eq_true] at h
  exact h
theorem propF_good {cs : List Nat} (hc : csOK cs) : ∀ (n : Nat) (tr : List Ent), trOK tr → tGood cs tr → tGood cs (propF cs n tr).1 ∧ ∀ i, (propF cs n tr).2 = some i → i < cs.length ∧ mdiff (xVars (cAt cs i)) (tA (propF cs n tr).1) = 0 ∧ xViol (cAt cs i) (tT (propF cs n tr).1) = true
  | 0, tr, h, hg => ⟨hg, fun i q => by cases q⟩
  | n + 1, tr, h, hg => by
    unfold propF
    split
    · exact ⟨hg, fun i q => by cases q⟩
    · rename_i i hi
      have hs := fstAct_spec hi
      obtain ⟨h1, h2⟩ := xAct_iff hs.2
      split
      · rename_i h0
        refine ⟨hg, fun j q => ?_⟩
        cases q
        refine ⟨hs.1, h0, ?_⟩
        rcases h2 with h2 | h2
        · exact h2
        · rw [h0, Nat.or_zero] at h2; exact h2
      · rename_i ho
        obtain ⟨o1, o2, o3⟩ := open_fresh ho
        have ob := one_bit _ (mdiff_lt (xVars_lt _)) h1 ho
        have hx : xOK (cAt cs i) := hc.2 _ (cAt_mem hs.1)
        have hT := tT_not o2
        have hflip := fun a b => viol_flip (T := tT tr) hx o1 o3 hT a b
        rw [ob] at h2
        have hgood : ∀ w, some i = some w → w < cs.length ∧ mdiff (xVars (cAt cs w)) (tA tr) = 1 <<< low (mdiff (xVars (cAt cs i)) (tA tr)) ∧ xViol (cAt cs w) (tT ((low (mdiff (xVars (cAt cs i)) (tA tr)), xViol (cAt cs i) (tT tr), some i) :: tr)) = false ∧ xViol (cAt cs w) (tT ((low (mdiff (xVars (cAt cs i)) (tA tr)), xViol (cAt cs i) (tT tr), some i) :: tr) ^^^ 1 <<< low (mdiff (xVars (cAt cs i)) (tA tr))) = true := by
          intro w hw
          cases hw
          refine ⟨hs.1, ob, ?_⟩
          show xViol (cAt cs i) (if xViol (cAt cs i) (tT tr) = true then tT tr ||| 1 <<< low (mdiff (xVars (cAt cs i)) (tA tr)) else tT tr) = false ∧ xViol (cAt cs i) ((if xViol (cAt cs i) (tT tr) = true then tT tr ||| 1 <<< low (mdiff (xVars (cAt cs i)) (tA tr)) else tT tr) ^^^ 1 <<< low (mdiff (xVars (cAt cs i)) (tA tr))) = true
          cases hv : xViol (cAt cs i) (tT tr) with
          | true =>
            rw [if_pos rfl, or_xor1 hT]
            refine ⟨?_, hv⟩
            cases hv2 : xViol (cAt cs i) (tT tr ||| 1 <<< low (mdiff (xVars (cAt cs i)) (tA tr))) with
            | false => rfl
            | true => exact (hflip hv hv2).elim
          | false =>
            rw [if_neg (by simp), xor1_or hT]
            refine ⟨hv, ?_⟩
            rcases h2 with h2 | h2
            · rw [hv] at h2; cases h2
            · exact h2
        exact propF_good hc n _ ⟨o1, o2, fun m hm => by cases hm; have := hc.1; omega, h⟩ ⟨hgood, hg⟩
def sGood (cs : List Nat) (s : List Ent × Option Nat) : Prop := trOK s.1 ∧ tGood cs s.1 ∧ ∀ i, s.2 = some i → i < cs.length ∧ mdiff (xVars (cAt cs i)) (tA s.1) = 0 ∧ xViol (cAt cs i) (tT s.1) = true
theorem prop_good {cs : List Nat} (hc : csOK cs) {tr : List Ent} (h : trOK tr) (hg : tGood cs tr) : sGood cs (prop cs tr) :=
  ⟨(propF_ok hc.1 9 tr h).1, (propF_good hc 9 tr h hg).1, (propF_good hc 9 tr h hg).2⟩
theorem buildF_good {cs : List Nat} (hc : csOK cs) : ∀ (ds : List Nat) (s : List Ent × Option Nat), (∀ d ∈ ds, d < 16) → sGood cs s → sGood cs (buildF cs ds s)
  | [], s, _, h => h
  | d :: ds, s, hd, h => by
    unfold buildF
    split
    · rename_i hk
      obtain ⟨hk1, hk2⟩ := okDec_t hk
      have hd0 := hd d List.mem_cons_self
      exact buildF_good hc ds _ (fun x hx => hd x (List.mem_cons_of_mem _ hx)) (prop_good hc ⟨by show d / 2 < 8; omega, hk2, (fun n q => by cases q), h.1⟩ ⟨fun w q => (by cases q), h.2.1⟩)
    · exact h
theorem build_good {cs ds : List Nat} (hc : csOK cs) (hd : ∀ d ∈ ds, d < 16) : sGood cs (build cs ds) :=
  buildF_good hc ds _ hd (prop_good hc trivial trivial)
/-! a trail's beginnings -/
def pre (tr : List Ent) (k : Nat) : List Ent := tr.drop (tr.length - k)
theorem pre_0 {tr : List Ent} : pre tr 0 = [] := by unfold pre; exact List.drop_length
theorem pre_all {tr : List Ent} : pre tr tr.length = tr := by unfold pre; rw [Nat.sub_self]; rfl
theorem pre_step {tr : List Ent} {k : Nat} (h : k < tr.length) : ∃ (e : Ent) (p : List Ent), pre tr (k + 1) = e :: pre tr k ∧ tr = p ++ e :: pre tr k ∧ (pre tr k).length = k := by
  unfold pre
  refine ⟨tr[tr.length - (k + 1)], tr.take (tr.length - (k + 1)), ?_, ?_, ?_⟩
  · rw [List.drop_eq_getElem_cons (by omega), show tr.length - (k + 1) + 1 = tr.length - k by omega]
  · have e := List.take_append_drop (tr.length - (k + 1)) tr
    rw [List.drop_eq_getElem_cons (by omega), show tr.length - (k + 1) + 1 = tr.length - k by omega] at e
    exact e.symm
  · rw [List.length_drop]; omega
theorem tT_app {t : List Ent} : ∀ {p : List Ent}, trOK (p ++ t) → ∀ {v : Nat}, (tA t).testBit v = true → (tT (p ++ t)).testBit v = (tT t).testBit v
  | [], _, _, _ => rfl
  | e :: p, hk, v, h => by
    have h1 := tA_app t p h
    have h2 : (tA (p ++ t)).testBit e.1 = false := hk.2.1
    rw [List.cons_append, tT_tb, decide_eq_false (fun q => by subst q; rw [h2] at h1; cases h1), Bool.and_false, Bool.or_false]
    exact tT_app hk.2.2.2 h
/-- what the calls tell of the k-th entry -/
theorem tr_at {tr : List Ent} (hk : trOK tr) {k : Nat} (h : k < tr.length) : ∃ (e : Ent) (p : List Ent), pre tr (k + 1) = e :: pre tr k ∧ tr = p ++ e :: pre tr k ∧ tOrd tr k = e.1 ∧ e.1 < 8 ∧ (tA tr).testBit e.1 = true ∧ (tT tr).testBit e.1 = e.2.1 ∧ tRsn tr e.1 = e.2.2 ∧ (tA (pre tr k)).testBit e.1 = false := by
  obtain ⟨e, p, h1, h2, h3⟩ := pre_step h
  have hk2 : trOK (p ++ e :: pre tr k) := h2 ▸ hk
  have hk3 : trOK (e :: pre tr k) := hk2.app
  have hA : (tA (e :: pre tr k)).testBit e.1 = true := by rw [tA_tb]; simp
  have hA2 := tA_app _ p hA
  have hT := tT_app hk2 hA
  have hR := tRsn_app hk2 hA
  have hO := tOrd_app (e :: pre tr k) p (j := k) (by simp [h3])
  rw [← h2] at hA2 hT hR hO
  refine ⟨e, p, h1, h2, ?_, hk3.1, hA2, ?_, ?_, hk3.2.1⟩
  · rw [hO]
    show (if k = (pre tr k).length then e.1 else _) = _
    rw [if_pos h3.symm]
  · rw [hT, tT_tb, tT_not hk3.2.1]; simp
  · rw [hR]
    show (if e.1 = e.1 then e.2.2 else _) = _
    rw [if_pos rfl]
/-! one more decision -/
theorem tL_propF {cs : List Nat} (tr : List Ent) : tL (prop cs tr).1 = tL tr := tL_prop 9 tr
theorem buildF_app {cs : List Nat} {d : Nat} : ∀ (ds : List Nat) (s : List Ent × Option Nat), tL (buildF cs ds s).1 = tL s.1 + ds.length → buildF cs (ds ++ [d]) s = buildF cs [d] (buildF cs ds s)
  | [], s, _ => rfl
  | a :: ds, s, h => by
    rw [List.cons_append]
    unfold buildF at h ⊢
    by_cases hk : okDec s a = true
    · rw [if_pos hk] at h ⊢
      rw [buildF_app ds _ (by
        rw [h, tL_propF]
        show tL s.1 + (ds.length + 1) = tL s.1 + 1 + ds.length
        omega)]
      rw [show buildF cs (a :: ds) s = buildF cs ds (prop cs ((a / 2, decide (a % 2 = 0), none) :: s.1)) from by rw [buildF, if_pos hk]]
      rfl
    · rw [if_neg hk] at h
      simp at h
theorem build_app {cs ds : List Nat} {d : Nat} (hl : tL (build cs ds).1 = ds.length) (h1 : (build cs ds).2 = none) (h2 : (tA (build cs ds).1).testBit (d / 2) = false) : build cs (ds ++ [d]) = prop cs ((d / 2, decide (d % 2 = 0), none) :: (build cs ds).1) := by
  have h0 : tL (prop cs []).1 = 0 := tL_propF []
  have e : build cs (ds ++ [d]) = buildF cs [d] (build cs ds) := buildF_app ds _ (by rw [h0, Nat.zero_add]; exact hl)
  have hk : okDec (build cs ds) d = true := by unfold okDec; rw [h1, h2]; rfl
  rw [e, buildF, if_pos hk]
  rfl
theorem propF_ext {cs : List Nat} : ∀ (n : Nat) (tr : List Ent), ∃ p, (propF cs n tr).1 = p ++ tr
  | 0, tr => ⟨[], rfl⟩
  | n + 1, tr => by
    unfold propF
    split
    · exact ⟨[], rfl⟩
    · split
      · exact ⟨[], rfl⟩
      · rename_i i _ _
        obtain ⟨p, hp⟩ := propF_ext (cs := cs) n ((low (mdiff (xVars (cAt cs i)) (tA tr)), xViol (cAt cs i) (tT tr), some i) :: tr)
        exact ⟨p ++ [(low (mdiff (xVars (cAt cs i)) (tA tr)), xViol (cAt cs i) (tT tr), some i)], by rw [hp]; simp⟩
/-- the state behind a decision that may be taken -/
theorem dec_spec {cs ds : List Nat} {d : Nat} (hc : csOK cs) (hd : ∀ x ∈ ds, x < 16) (hd2 : d < 16) (hl : tL (build cs ds).1 = ds.length) (h1 : (build cs ds).2 = none) (h2 : (tA (build cs ds).1).testBit (d / 2) = false) :
    sNew cs (ds ++ [d]) = ds ++ [d] ∧ 0 < (build cs (ds ++ [d])).1.length ∧ (tA (build cs (ds ++ [d])).1).testBit (d / 2) = true ∧ (tT (build cs (ds ++ [d])).1).testBit (d / 2) = decide (d % 2 = 0) ∧ tRsn (build cs (ds ++ [d])).1 (d / 2) = none ∧ ∀ v, (tA (build cs ds).1).testBit v = true → (tA (build cs (ds ++ [d])).1).testBit v = true := by
  have e := build_app hl h1 h2
  obtain ⟨p, hp⟩ := propF_ext (cs := cs) 9 ((d / 2, decide (d % 2 = 0), none) :: (build cs ds).1)
  have hp2 : (prop cs ((d / 2, decide (d % 2 = 0), none) :: (build cs ds).1)).1 = p ++ (d / 2, decide (d % 2 = 0), none) :: (build cs ds).1 := hp
  have hok : trOK (p ++ (d / 2, decide (d % 2 = 0), none) :: (build cs ds).1) := by
    rw [← hp2, ← e]
    exact (build_ok hc.1 (fun x hx => by
      rcases List.mem_append.mp hx with h | h
      · exact hd x h
      · rw [List.mem_singleton.mp h]; exact hd2)).1
  have hA : (tA (((d / 2, decide (d % 2 = 0), none) : Ent) :: (build cs ds).1)).testBit (d / 2) = true := by rw [tA_tb]; simp
  refine ⟨?_, ?_, ?_, ?_, ?_, ?_⟩
  · unfold sNew
    rw [e, tL_propF, show tL (((d / 2, decide (d % 2 = 0), none) : Ent) :: (build cs ds).1) = tL (build cs ds).1 + 1 from rfl, hl]
    exact List.take_of_length_le (by simp)
  · rw [e, hp2]; simp only [List.length_append, List.length_cons]; omega
  · rw [e, hp2]; exact tA_app _ p hA
  · rw [e, hp2, tT_app hok hA, tT_tb, tT_not h2]; simp
  · rw [e, hp2, tRsn_app hok hA]
    show (if d / 2 = d / 2 then none else _) = _
    rw [if_pos rfl]
  · intro v hv
    rw [e, hp2]
    refine tA_app _ p ?_
    rw [tA_tb, hv]; rfl
theorem sNew_fix {cs ds : List Nat} (h : tL (build cs ds).1 = ds.length) : sNew cs ds = ds := by
  unfold sNew; rw [h]; exact List.take_length
