/-! the trail, purely -/
theorem bit1 (v i : Nat) : (1 <<< v).testBit i = decide (v = i) := by
  rw [Nat.one_shiftLeft, Nat.testBit_two_pow]
theorem bit1_lt {v : Nat} (h : v < 8) : 1 <<< v < 256 := by
  rw [Nat.one_shiftLeft]
  exact Nat.pow_lt_pow_right (by decide) h
theorem hi_false {a i : Nat} (h : a < 256) (hi : 8 ≤ i) : a.testBit i = false :=
  Nat.testBit_lt_two_pow (Nat.lt_of_lt_of_le h (by rw [show (256 : Nat) = 2 ^ 8 by decide]; exact Nat.pow_le_pow_right (by decide) hi))
theorem tb_lt8 {a i : Nat} (h : a < 256) (hi : a.testBit i = true) : i < 8 := by
  rcases Nat.lt_or_ge i 8 with h1 | h1
  · exact h1
  · rw [hi_false h h1] at hi; cases hi
theorem ext8 {a b : Nat} (ha : a < 256) (hb : b < 256) (h : ∀ i, i < 8 → a.testBit i = b.testBit i) : a = b := by
  apply Nat.eq_of_testBit_eq
  intro i
  rcases Nat.lt_or_ge i 8 with h1 | h1
  · exact h i h1
  · rw [hi_false ha h1, hi_false hb h1]
theorem or_lt256 {a b : Nat} (h1 : a < 256) (h2 : b < 256) : a ||| b < 256 := or_lt8 8 h1 h2
theorem lowFrom_fst (a : Nat) : ∀ n v, lowFrom a n v = fstFrom a.testBit n v
  | 0, _ => rfl
  | n + 1, v => by unfold lowFrom fstFrom; rw [lowFrom_fst a n (v + 1)]
theorem lowO_some {a : Nat} (h0 : a ≠ 0) (ha : a < 256) : ∃ v, lowO a = some v ∧ v < 8 ∧ a.testBit v = true ∧ ∀ j, j < v → a.testBit j = false := by
  unfold lowO
  rw [lowFrom_fst]
  cases h : fstFrom a.testBit 8 0 with
  | none =>
    exfalso
    have h1 := fst_none 8 0 h
    exact h0 (ext8 ha (by decide) (fun i hi => by rw [h1 i (Nat.zero_le _) (by omega), Nat.zero_testBit]))
  | some v =>
    obtain ⟨a1, a2, a3, a4⟩ := fst_lt 8 0 v h
    exact ⟨v, rfl, by omega, a3, fun j hj => a4 j (Nat.zero_le _) hj⟩
theorem lowO_low {a : Nat} (h0 : a ≠ 0) (ha : a < 256) : lowO a = some (low a) := by
  obtain ⟨v, h, -⟩ := lowO_some h0 ha
  unfold low; rw [h]; rfl
theorem low_spec {a : Nat} (h0 : a ≠ 0) (ha : a < 256) : low a < 8 ∧ a.testBit (low a) = true ∧ ∀ j, j < low a → a.testBit j = false := by
  obtain ⟨v, h, h1, h2, h3⟩ := lowO_some h0 ha
  have : low a = v := by unfold low; rw [h]; rfl
  rw [this]; exact ⟨h1, h2, h3⟩
theorem lowO_zero : lowO 0 = none := by decide
theorem pcN_or {a v : Nat} (h : a.testBit v = false) : ∀ n, v < n → pcN n (a ||| 1 <<< v) = pcN n a + 1
  | 0, hv => absurd hv (Nat.not_lt_zero _)
  | n + 1, hv => by
    unfold pcN
    rw [Nat.testBit_or, bit1]
    by_cases e : v = n
    · subst e
      have h2 : ∀ m, m ≤ v → pcN m (a ||| 1 <<< v) = pcN m a := by
        intro m
        induction m with
        | zero => intro _; rfl
        | succ m ih =>
          intro hm
          unfold pcN
          rw [ih (by omega), Nat.testBit_or, bit1]
          have : ¬ v = m := by omega
          simp [this]
      rw [h2 v (Nat.le_refl _), h]; simp
    · rw [pcN_or h n (by omega)]
      simp [e]; omega
theorem pcN_0 : ∀ n, pcN n 0 = 0
  | 0 => rfl
  | n + 1 => by unfold pcN; rw [pcN_0 n, Nat.zero_testBit]; rfl
def trOK : List Ent → Prop
  | [] => True
  | e :: t => e.1 < 8 ∧ (tA t).testBit e.1 = false ∧ (∀ n, e.2.2 = some n → n < 24) ∧ trOK t
theorem tA_tb (e : Ent) (t : List Ent) (i : Nat) : (tA (e :: t)).testBit i = ((tA t).testBit i || decide (e.1 = i)) := by
  show (tA t ||| 1 <<< e.1).testBit i = _
  rw [Nat.testBit_or, bit1]
theorem trOK.A : ∀ {tr : List Ent}, trOK tr → tA tr < 256
  | [], _ => by decide
  | _ :: _, h => or_lt256 (trOK.A h.2.2.2) (bit1_lt h.1)
theorem trOK.T : ∀ {tr : List Ent}, trOK tr → tT tr < 256
  | [], _ => by decide
  | e :: t, h => by
    unfold tT
    split
    · exact or_lt256 (trOK.T h.2.2.2) (bit1_lt h.1)
    · exact trOK.T h.2.2.2
theorem trOK.B : ∀ {tr : List Ent}, trOK tr → tB tr < 256
  | [], _ => by decide
  | e :: t, h => by
    unfold tB
    split
    · exact h.2.2.2.A
    · exact trOK.B h.2.2.2
theorem trOK.len : ∀ {tr : List Ent}, trOK tr → pcN 8 (tA tr) = tr.length
  | [], _ => pcN_0 8
  | e :: t, h => by
    show pcN 8 (tA t ||| 1 <<< e.1) = _
    rw [pcN_or h.2.1 8 h.1, trOK.len h.2.2.2]; rfl
theorem trOK.le {tr : List Ent} (h : trOK tr) : tr.length ≤ 8 := by rw [← h.len]; exact pc8_le _
theorem trOK.lt {tr : List Ent} (h : trOK tr) {v : Nat} (hv : v < 8) (hf : (tA tr).testBit v = false) : tr.length < 8 := by
  have := pcN_or hf 8 hv
  rw [h.len] at this
  have h2 := pc8_le (tA tr ||| 1 <<< v)
  omega
theorem tL_le : ∀ tr : List Ent, tL tr ≤ tr.length
  | [] => Nat.le_refl _
  | e :: t => by
    have := tL_le t
    unfold tL; simp only [List.length_cons]; split <;> omega
theorem tB_sub : ∀ {tr : List Ent} {i : Nat}, (tB tr).testBit i = true → (tA tr).testBit i = true
  | [], i, h => h
  | e :: t, i, h => by
    rw [tA_tb]
    unfold tB at h
    split at h
    · simp [h]
    · simp [tB_sub h]
theorem tT_sub : ∀ {tr : List Ent} {i : Nat}, (tT tr).testBit i = true → (tA tr).testBit i = true
  | [], i, h => h
  | e :: t, i, h => by
    rw [tA_tb]
    unfold tT at h
    split at h
    · rw [Nat.testBit_or, bit1] at h
      rcases Bool.or_eq_true _ _ |>.mp h with h | h
      · simp [tT_sub h]
      · simp [h]
    · simp [tT_sub h]
theorem tRsn_not : ∀ {tr : List Ent} {v : Nat}, (tA tr).testBit v = false → tRsn tr v = none
  | [], _, _ => rfl
  | e :: t, v, h => by
    rw [tA_tb, Bool.or_eq_false_iff] at h
    unfold tRsn
    rw [if_neg (by simpa using fun q : v = e.1 => (by simpa using h.2 : ¬ e.1 = v) q.symm), tRsn_not h.1]
theorem tRsn_lt : ∀ {tr : List Ent}, trOK tr → ∀ {v n : Nat}, tRsn tr v = some n → n < 24
  | [], _, v, n, h => by cases h
  | e :: t, hk, v, n, h => by
    unfold tRsn at h
    split at h
    · exact hk.2.2.1 n h
    · exact tRsn_lt hk.2.2.2 h
theorem tOrd_app (t : List Ent) : ∀ (p : List Ent) {j : Nat}, j < t.length → tOrd (p ++ t) j = tOrd t j
  | [], _, _ => rfl
  | e :: p, j, h => by
    show (if j = (p ++ t).length then e.1 else tOrd (p ++ t) j) = _
    rw [if_neg (by simp; omega), tOrd_app t p h]
theorem tA_app (t : List Ent) : ∀ (p : List Ent) {i : Nat}, (tA t).testBit i = true → (tA (p ++ t)).testBit i = true
  | [], _, h => h
  | e :: p, i, h => by
    rw [List.cons_append, tA_tb, tA_app t p h]; rfl
theorem tRsn_app {t : List Ent} : ∀ {p : List Ent}, trOK (p ++ t) → ∀ {v : Nat}, (tA t).testBit v = true → tRsn (p ++ t) v = tRsn t v
  | [], _, _, _ => rfl
  | e :: p, hk, v, h => by
    show (if v = e.1 then e.2.2 else tRsn (p ++ t) v) = _
    have h1 := tA_app t p h
    have h2 : (tA (p ++ t)).testBit e.1 = false := hk.2.1
    rw [if_neg (fun q => by subst q; rw [h2] at h1; cases h1), tRsn_app hk.2.2.2 h]
theorem trOK.app {t : List Ent} : ∀ {p : List Ent}, trOK (p ++ t) → trOK t
  | [], h => h
  | _ :: _, h => trOK.app h.2.2.2
theorem tOrd_tb : ∀ {tr : List Ent}, trOK tr → ∀ {j : Nat}, j < tr.length → tOrd tr j < 8 ∧ (tA tr).testBit (tOrd tr j) = true
  | [], _, j, h => absurd h (Nat.not_lt_zero _)
  | e :: t, hk, j, h => by
    unfold tOrd
    by_cases q : j = t.length
    · rw [if_pos q]; exact ⟨hk.1, by rw [tA_tb]; simp⟩
    · rw [if_neg q]
      have := tOrd_tb hk.2.2.2 (j := j) (by simp at h; omega)
      exact ⟨this.1, by rw [tA_tb, this.2]; rfl⟩
/-- what one step of propagation finds -/
theorem fstAct_spec {cs : List Nat} {A T i : Nat} (h : fstAct cs A T = some i) : i < cs.length ∧ xAct (cAt cs i) A T = true := by
  obtain ⟨a, b, c, -⟩ := fst_lt _ _ _ h
  exact ⟨by omega, c⟩
theorem open_fresh {x A : Nat} (h : mdiff (xVars x) A ≠ 0) : low (mdiff (xVars x) A) < 8 ∧ A.testBit (low (mdiff (xVars x) A)) = false ∧ (xVars x).testBit (low (mdiff (xVars x) A)) = true := by
  obtain ⟨h1, h2, -⟩ := low_spec h (mdiff_lt (xVars_lt x))
  rw [mdiff_tb (by omega), Bool.and_eq_true, Bool.not_eq_true'] at h2
  exact ⟨h1, h2.2, h2.1⟩
theorem propF_ok {cs : List Nat} (hc : cs.length ≤ 24) : ∀ (n : Nat) (tr : List Ent), trOK tr → trOK (propF cs n tr).1 ∧ ∀ i, (propF cs n tr).2 = some i → i < cs.length
  | 0, tr, h => ⟨h, fun i q => by cases q⟩
  | n + 1, tr, h => by
    unfold propF
    split
    · exact ⟨h, fun i q => by cases q⟩
    · rename_i i hi
      have hs := fstAct_spec hi
      split
      · exact ⟨h, fun j q => by cases q; exact hs.1⟩
      · rename_i ho
        obtain ⟨o1, o2, -⟩ := open_fresh ho
        exact propF_ok hc n _ ⟨o1, o2, fun m hm => by cases hm; omega, h⟩
theorem buildF_ok {cs : List Nat} (hc : cs.length ≤ 24) : ∀ (ds : List Nat) (s : List Ent × Option Nat), (∀ d ∈ ds, d < 16) → trOK s.1 → (∀ i, s.2 = some i → i < cs.length) → trOK (buildF cs ds s).1 ∧ ∀ i, (buildF cs ds s).2 = some i → i < cs.length
  | [], s, _, h, h2 => ⟨h, h2⟩
  | d :: ds, s, hd, h, h2 => by
    unfold buildF
    split
    · rename_i hk
      simp only [okDec, Bool.and_eq_true, Bool.not_eq_true', decide_eq_true_eq] at hk
      have hd0 := hd d (List.mem_cons_self)
      have := propF_ok hc 9 ((d / 2, decide (d % 2 = 0), none) :: s.1) ⟨by show d / 2 < 8; omega, hk.2, (fun n q => by cases q), h⟩
      exact buildF_ok hc ds _ (fun x hx => hd x (List.mem_cons_of_mem _ hx)) this.1 this.2
    · exact ⟨h, h2⟩
theorem build_ok {cs ds : List Nat} (hc : cs.length ≤ 24) (hd : ∀ d ∈ ds, d < 16) : trOK (build cs ds).1 ∧ ∀ i, (build cs ds).2 = some i → i < cs.length :=
  buildF_ok hc ds _ hd (propF_ok hc 9 [] trivial).1 (propF_ok hc 9 [] trivial).2
def pm (n : Nat) : Int32 := nI n - nI 1
theorem pm_0 : pm 0 < 0 := by decide
theorem pm_s (n : Nat) : pm (n + 1) = nI n := by
  unfold pm; rw [pk_sub (by omega)]; rfl
theorem pm_dec (n : Nat) : nI n + Int32.ofInt (-1) = pm n := by
  unfold pm
  rw [show Int32.ofInt (-1) = (-1 : Int32) from rfl, Int32.sub_eq_add_neg]; rfl
/-- the raw picture of a trail: lists to lists -/
def TrAt (k : KX) (M : Mem) (b : Nat) (tr : List Ent) (cf : Option Nat) : Prop := b + 4 ≤ kN k ∧ trOK tr ∧ (∀ n, cf = some n → n < 24) ∧ ∃ (o lv : Nat → Nat) (rs : Nat → Option Nat),
  M b = .inr (6, [.ref (ad k (b + 1)), .ref (ad k (b + 2)), .ref (ad k (b + 3)), .int (nI tr.length), .int (nI (tA tr)), .int (nI (tT tr)), .int (nI (tL tr)), .int (nI (tB tr)), .int (oI cf)]) ∧
  M (b + 1) = .inl (kI k, 8, .inl (fun q => nI (o q))) ∧ M (b + 2) = .inl (kI k, 8, .inl (fun q => nI (lv q))) ∧ M (b + 3) = .inl (kI k, 8, .inl (fun q => oI (rs q))) ∧
  (∀ j, j < tr.length → o j = tOrd tr j) ∧ ∀ v, v < 8 → (tA tr).testBit v = true → lv v = tLev tr v ∧ rs v = tRsn tr v
theorem TrAt.fr {k : KX} {M M' : Mem} {b : Nat} {tr : List Ent} {cf : Option Nat} (h : TrAt k M b tr cf) (hf : ∀ i, b ≤ i → i < b + 4 → M' i = M i) : TrAt k M' b tr cf := by
  obtain ⟨h1, hk, hc, o, lv, rs, F0, F1, F2, F3, h2, h3⟩ := h
  exact ⟨h1, hk, hc, o, lv, rs, by rw [hf b (by omega) (by omega)]; exact F0, by rw [hf (b + 1) (by omega) (by omega)]; exact F1, by rw [hf (b + 2) (by omega) (by omega)]; exact F2, by rw [hf (b + 3) (by omega) (by omega)]; exact F3, h2, h3⟩
theorem TrAt.obj {k : KX} {M : Mem} {b : Nat} {tr : List Ent} {cf : Option Nat} (h : TrAt k M b tr cf) : ∃ fs, M b = .inr (6, fs) := by
  obtain ⟨_, _, _, o, lv, rs, F0, _⟩ := h; exact ⟨_, F0⟩
theorem bj_t {p : Nat → Bool} {lv : Nat → Nat} {q : Nat} (h : p q = true) : bjF p lv (q + 1) = max (bjF p lv q) (lv q) := by
  show (if p q then _ else _) = _; rw [if_pos h]
theorem bj_f {p : Nat → Bool} {lv : Nat → Nat} {q : Nat} (h : p q = false) : bjF p lv (q + 1) = bjF p lv q := by
  show (if p q then _ else _) = _; rw [if_neg (by simp [h])]
theorem tLev_le : ∀ {tr : List Ent}, trOK tr → ∀ v, tLev tr v ≤ 8
  | [], _, _ => Nat.zero_le _
  | e :: t, hk, v => by
    unfold tLev
    split
    · have h1 := tL_le (e :: t); have h2 := hk.le; omega
    · exact tLev_le hk.2.2.2 v
theorem bj_le {tr : List Ent} (hk : trOK tr) {p : Nat → Bool} : ∀ q, bjF p (tLev tr) q ≤ 8
  | 0 => Nat.zero_le _
  | q + 1 => by
    unfold bjF
    have h1 := bj_le hk (p := p) q
    have h2 := tLev_le hk q
    split
    · omega
    · exact h1
theorem ana_stop {cs : List Nat} {pr x : Nat} {e : Ent} {t : List Ent} (h : pcN 8 (x &&& pr) ≤ 1) : ana cs pr (e :: t) x = x := by
  unfold ana; rw [if_pos h]
theorem ana_hit {cs : List Nat} {pr x : Nat} {e : Ent} {t : List Ent} (h : 1 < pcN 8 (x &&& pr)) (hb : x.testBit e.1 = true) : ana cs pr (e :: t) x = ana cs pr t (mdiff (x ||| xVars (cAt cs (e.2.2.getD 24))) (1 <<< e.1)) := by
  rw [ana, if_neg (by omega), if_pos hb]
theorem ana_miss {cs : List Nat} {pr x : Nat} {e : Ent} {t : List Ent} (h : 1 < pcN 8 (x &&& pr)) (hb : x.testBit e.1 = false) : ana cs pr (e :: t) x = ana cs pr t x := by
  rw [ana, if_neg (by omega), if_neg (by simp [hb])]
theorem TrAt.push {k : KX} {M' : Mem} {b v L B A' T' n' : Nat} {t : Bool} {r : Option Nat} {tr : List Ent} {cf : Option Nat} {o lv : Nat → Nat} {rs : Nat → Option Nat} (hN : b + 4 ≤ kN k) (hk : trOK tr) (hc : ∀ n, cf = some n → n < 24)
    (ho : ∀ j, j < tr.length → o j = tOrd tr j) (hv : ∀ v, v < 8 → (tA tr).testBit v = true → lv v = tLev tr v ∧ rs v = tRsn tr v)
    (h1 : v < 8) (h2 : (tA tr).testBit v = false) (h3 : ∀ n, r = some n → n < 24) (hn : n' = tr.length + 1) (hA : A' = tA tr ||| 1 <<< v) (hT : T' = if t then tT tr ||| 1 <<< v else tT tr) (hL : L = tL ((v, t, r) :: tr)) (hB : B = tB ((v, t, r) :: tr))
    (F0 : M' b = .inr (6, [.ref (ad k (b + 1)), .ref (ad k (b + 2)), .ref (ad k (b + 3)), .int (nI n'), .int (nI A'), .int (nI T'), .int (nI L), .int (nI B), .int (oI cf)]))
    (F1 : M' (b + 1) = .inl (kI k, 8, .inl (fun q => nI (va_up o tr.length v q)))) (F2 : M' (b + 2) = .inl (kI k, 8, .inl (fun q => nI (va_up lv v L q)))) (F3 : M' (b + 3) = .inl (kI k, 8, .inl (fun q => oI (va_up rs v r q)))) :
    TrAt k M' b ((v, t, r) :: tr) cf := by
  subst hn hA hT hB
  refine ⟨hN, ⟨h1, h2, h3, hk⟩, hc, _, _, _, F0.trans (by rw [hL]; rfl), F1, F2, F3, fun j hj => ?_, fun u hu hb => ?_⟩
  · unfold tOrd
    by_cases e : j = tr.length
    · rw [if_pos e, e, up_s]
    · rw [if_neg e, up_n _ _ e]; exact ho j (by simp at hj; omega)
  · rw [tA_tb] at hb
    unfold tLev tRsn
    by_cases e : u = v
    · rw [if_pos e, if_pos e, e, up_s, up_s]; exact ⟨hL, rfl⟩
    · rw [if_neg e, if_neg e, up_n _ _ e, up_n _ _ e]
      exact hv u hu (by rw [decide_eq_false (fun w : v = u => e w.symm), Bool.or_false] at hb; exact hb)
theorem TrAt.nil {k : KX} {M' : Mem} {b : Nat} {o lv : Nat → Nat} {rs : Nat → Option Nat} (hN : b + 4 ≤ kN k)
    (F0 : M' b = .inr (6, [.ref (ad k (b + 1)), .ref (ad k (b + 2)), .ref (ad k (b + 3)), .int (nI 0), .int (nI 0), .int (nI 0), .int (nI 0), .int (nI 0), .int (oI none)]))
    (F1 : M' (b + 1) = .inl (kI k, 8, .inl (fun q => nI (o q)))) (F2 : M' (b + 2) = .inl (kI k, 8, .inl (fun q => nI (lv q)))) (F3 : M' (b + 3) = .inl (kI k, 8, .inl (fun q => oI (rs q)))) :
    TrAt k M' b [] none :=
  ⟨hN, trivial, (fun n h => by cases h), o, lv, rs, F0, F1, F2, F3, fun j hj => absurd hj (Nat.not_lt_zero _), fun v _ hb => by rw [show tA [] = 0 from rfl, Nat.zero_testBit] at hb; cases hb⟩
theorem okDec_t {s : List Ent × Option Nat} {d : Nat} (h : okDec s d = true) : s.2 = none ∧ (tA s.1).testBit (d / 2) = false := by
  simpa [okDec] using h
theorem drop_at {ds : List Nat} {i : Nat} (h : i < ds.length) : ds.drop i = cAt ds i :: ds.drop (i + 1) := by
  unfold cAt
  rw [List.getD_eq_getElem?_getD, List.getElem?_eq_getElem h]
  exact List.drop_eq_getElem_cons h
theorem build_end {cs ds : List Nat} {i : Nat} {s r : List Ent × Option Nat} (h : buildF cs (ds.drop i) s = r) (hi : ds.length ≤ i) : s = r := by
  rw [List.drop_eq_nil_of_le hi] at h; exact h
theorem build_stop {cs ds : List Nat} {i : Nat} {s r : List Ent × Option Nat} (h : buildF cs (ds.drop i) s = r) (hi : i < ds.length) (hk : okDec s (cAt ds i) = false) : s = r := by
  rw [drop_at hi, buildF, if_neg (by simp [hk])] at h; exact h
theorem build_go {cs ds : List Nat} {i : Nat} {s r : List Ent × Option Nat} (h : buildF cs (ds.drop i) s = r) (hi : i < ds.length) (hk : okDec s (cAt ds i) = true) : buildF cs (ds.drop (i + 1)) (prop cs ((cAt ds i / 2, decide (cAt ds i % 2 = 0), none) :: s.1)) = r := by
  rw [drop_at hi, buildF, if_pos hk] at h; exact h
theorem prop_end {cs : List Nat} {q : Nat} {tr : List Ent} {r : List Ent × Option Nat} (h : propF cs (9 - q) tr = r) (hq : 9 ≤ q) : (tr, none) = r := by
  rw [show 9 - q = 0 by omega] at h; exact h
theorem prop_at {cs : List Nat} {q : Nat} {tr : List Ent} {r : List Ent × Option Nat} (h : propF cs (9 - q) tr = r) (hq : q < 9) : (match fstAct cs (tA tr) (tT tr) with
    | none => (tr, none)
    | some i => if mdiff (xVars (cAt cs i)) (tA tr) = 0 then (tr, some i) else propF cs (9 - (q + 1)) ((low (mdiff (xVars (cAt cs i)) (tA tr)), xViol (cAt cs i) (tT tr), some i) :: tr)) = r := by
  rw [← h, show 9 - q = (9 - (q + 1)) + 1 by omega]; rfl
theorem build_0 (cs ds : List Nat) : buildF cs (ds.drop 0) (prop cs []) = build cs ds := rfl
