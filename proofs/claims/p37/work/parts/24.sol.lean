/-! the solver whole -/
theorem tL_prop {cs : List Nat} : ∀ (n : Nat) (tr : List Ent), tL (propF cs n tr).1 = tL tr
  | 0, _ => rfl
  | n + 1, tr => by
    unfold propF
    split
    · rfl
    · split
      · rfl
      · rw [tL_prop n]; rfl
theorem buildF_take {cs : List Nat} : ∀ (ds : List Nat) (s : List Ent × Option Nat), ∃ m, m ≤ ds.length ∧ tL (buildF cs ds s).1 = tL s.1 + m ∧ buildF cs (ds.take m) s = buildF cs ds s
  | [], s => ⟨0, Nat.le_refl _, rfl, rfl⟩
  | d :: ds, s => by
    by_cases h : okDec s d = true
    · obtain ⟨m, h1, h2, h3⟩ := buildF_take ds (prop cs ((d / 2, decide (d % 2 = 0), none) :: s.1))
      refine ⟨m + 1, by simp; omega, ?_, ?_⟩
      · rw [buildF, if_pos h, h2]
        show tL (propF cs 9 _).1 + m = _
        rw [tL_prop]
        show tL s.1 + 1 + m = _
        omega
      · rw [List.take_succ_cons, buildF, if_pos h, buildF, if_pos h, h3]
    · refine ⟨0, Nat.zero_le _, ?_, ?_⟩
      · rw [buildF, if_neg h]; rfl
      · rw [List.take_zero, buildF, buildF, if_neg h]
def sNew (cs ds : List Nat) : List Nat := ds.take (tL (build cs ds).1)
theorem sNew_spec (cs ds : List Nat) : build cs (sNew cs ds) = build cs ds ∧ (sNew cs ds).length = tL (build cs ds).1 := by
  obtain ⟨m, h1, h2, h3⟩ := buildF_take ds (prop cs [])
  have h4 : tL (build cs ds).1 = m := by
    have : tL (prop cs []).1 = 0 := tL_prop 9 []
    show tL (buildF cs ds (prop cs [])).1 = m
    rw [h2, this]; omega
  unfold sNew
  rw [h4]
  exact ⟨h3, by rw [List.length_take]; omega⟩
def sOK (s : SD) : Prop := csOK s.1 ∧ (∀ d ∈ s.2, d < 16) ∧ s.2.length ≤ 8
def vOK (cs ds : List Nat) (mem : List SD) (sl : Nat → Option SD) : Prop := sOK (cs, ds) ∧ tL (build cs ds).1 = ds.length ∧ (∀ s ∈ mem, sOK s) ∧ ∀ j s, sl j = some s → sOK s
theorem sNew_16 {cs ds : List Nat} (h : ∀ d ∈ ds, d < 16) : ∀ d ∈ sNew cs ds, d < 16 := fun d hd => h d (List.mem_of_mem_take hd)
theorem vOK.new {cs ds cs' ds' : List Nat} {mem mem' : List SD} {sl sl' : Nat → Option SD} (h : vOK cs ds mem sl) (hc : csOK cs') (hd : ∀ d ∈ ds', d < 16) (hl : ds'.length ≤ 8) (hm : ∀ s ∈ mem', sOK s) (hs : ∀ j s, sl' j = some s → sOK s) : vOK cs' (sNew cs' ds') mem' sl' := by
  obtain ⟨h1, h2⟩ := sNew_spec cs' ds'
  exact ⟨⟨hc, sNew_16 hd, by show (sNew cs' ds').length ≤ 8; unfold sNew; rw [List.length_take]; omega⟩, by rw [h1, h2], hm, hs⟩
theorem remF_ok {mem : List SD} {s : SD} (h : ∀ s ∈ mem, sOK s) (hs : sOK s) : ∀ x ∈ remF mem s, sOK x := by
  intro x hx
  unfold remF at hx
  rcases List.mem_append.mp hx with h1 | h1
  · split at h1
    · exact h x (List.mem_of_mem_tail h1)
    · exact h x h1
  · rw [List.mem_singleton.mp h1]; exact hs
theorem vOK.act {cs ds cs' ds' : List Nat} {mem : List SD} {sl : Nat → Option SD} (h : vOK cs ds mem sl) (hc : csOK cs') (hd : ∀ d ∈ ds', d < 16) (hl : ds'.length ≤ 8) : vOK cs' (sNew cs' ds') (remF mem (cs, ds)) sl :=
  h.new hc hd hl (remF_ok h.2.2.1 h.1) h.2.2.2
def SolAt (k : KX) (M : Mem) (cs ds : List Nat) (mem : List SD) (sl : Nat → Option SD) (tx : List Nat) : Prop :=
  93 ≤ kN k ∧ M 0 = .inr (7, [.ref (ad k 1), .ref (ad k 5), .ref (ad k 9), .ref (ad k 13), .ref (ad k 17), .ref (ad k 19), .ref (ad k 21), .ref (ad k 25)]) ∧ TxAt k M tx ∧ StAt k M 5 cs ds ∧ TrAt k M 9 (build cs ds).1 (build cs ds).2 ∧ MeAt k M mem sl ∧ MoAt k M cs ∧ ElAt k M ∧
  (∃ cs2 ds2, StAt k M 21 cs2 ds2) ∧ (∃ tr2 cf2, TrAt k M 25 tr2 cf2) ∧ vOK cs ds mem sl
theorem SolAt.fr {k : KX} {M M' : Mem} {cs ds : List Nat} {mem : List SD} {sl : Nat → Option SD} {tx : List Nat} (h : SolAt k M cs ds mem sl tx) (hf : ∀ i, i < 93 → M' i = M i) : SolAt k M' cs ds mem sl tx := by
  obtain ⟨h1, F0, h2, h3, h4, h5, h6, h7, ⟨cs2, ds2, h8⟩, ⟨tr2, cf2, h9⟩, h10⟩ := h
  exact ⟨h1, by rw [hf 0 (by omega)]; exact F0, h2.fr (fun i _ _ => hf i (by omega)), h3.fr (fun i _ _ => hf i (by omega)), h4.fr (fun i _ _ => hf i (by omega)), h5.fr (fun i _ _ => hf i (by omega)), h6.fr (fun i _ _ => hf i (by omega)), h7.fr (fun i _ _ => hf i (by omega)), ⟨cs2, ds2, h8.fr (fun i _ _ => hf i (by omega))⟩, ⟨tr2, cf2, h9.fr (fun i _ _ => hf i (by omega))⟩, h10⟩
theorem SolAt.obj {k : KX} {M : Mem} {cs ds : List Nat} {mem : List SD} {sl : Nat → Option SD} {tx : List Nat} (h : SolAt k M cs ds mem sl tx) : ∃ fs, M 0 = .inr (7, fs) := ⟨_, h.2.1⟩
theorem MoAt.stale {k : KX} {M : Mem} {cs : List Nat} {f : Nat → Nat} (hN : 19 ≤ kN k) (F0 : M 17 = .inr (4, [.ref (ad k 18), .int (bI true)])) (F1 : M 18 = .inl (kI k, 256, .inl (fun q => nI (f q)))) : MoAt k M cs := ⟨hN, true, f, F0, F1, fun h => by cases h⟩
theorem csOK.app {cs : List Nat} {x : Nat} (h : csOK cs) (hl : cs.length < 24) (hx : xOK x) : csOK (cs ++ [x]) := ⟨by simp; omega, fun y hy => by
  rcases List.mem_append.mp hy with h1 | h1
  · exact h.2 y h1
  · rw [List.mem_singleton.mp h1]; exact hx⟩
theorem csOK.er {cs : List Nat} {j : Nat} (h : csOK cs) : csOK (cs.eraseIdx j) := ⟨Nat.le_trans (List.length_eraseIdx_le _ _) h.1, fun y hy => h.2 y (List.mem_of_mem_eraseIdx hy)⟩
