/-! the solver's answer and the reference's -/
def LawOK (k : KX) (kk b : Int32) (M2 : Mem) : Prop := ∃ (w : Nat) (cs ds : List Nat) (mem : List SD) (sl : Nat → Option SD) (tx : List Nat) (g : Nat → Int64), kk = nI w ∧ w < 3 ∧ SolAt k M2 cs ds mem sl tx ∧ RefAt k M2 w cs ds mem sl tx ∧ M2 106 = .inl (kJ k, 1, .inr (.inl g)) ∧ (w = 0 → g 0 = b.toInt64)
theorem lk0 {k : KX} {M0 M1 M2 : Mem} {v b : Int32} {g : Nat → Int64} {cs ds : List Nat} {mem : List SD} {sl : Nat → Option SD} {tx : List Nat} (hS : SolAt k M0 cs ds mem sl tx) (hM : M1 = mup M0 106 (.inl (kJ k, 1, .inr (.inl g)))) (hg : g 0 = v.toInt64) (hfR : FrR M1 M2) (hR : RefAt k M2 0 cs ds mem sl tx) (hv : v = b) : LawOK k (nI 0) b M2 :=
  ⟨0, cs, ds, mem, sl, tx, g, rfl, by decide, hS.fr (fun i hi => by rw [hfR i (Or.inl hi), hM, mup_n (by omega)]), hR, by rw [hfR 106 (Or.inr (by omega)), hM, mup_s], fun _ => by rw [hg, hv]⟩
theorem lk1 {k : KX} {M M1 M2 : Mem} {b : Int32} {g : Nat → Int64} {w : Nat} {cs ds : List Nat} {mem : List SD} {sl : Nat → Option SD} {tx : List Nat} (hw : w < 3) (hw0 : w ≠ 0) (hS : SolAt k M1 cs ds mem sl tx) (F : M 106 = .inl (kJ k, 1, .inr (.inl g))) (hf : Fr 0 93 M M1) (hfR : FrR M1 M2) (hR : RefAt k M2 w cs ds mem sl tx) : LawOK k (nI w) b M2 :=
  ⟨w, cs, ds, mem, sl, tx, g, rfl, hw, hS.fr (fun i hi => hfR i (Or.inl hi)), hR, by rw [hfR 106 (Or.inr (by omega)), hf 106 (Or.inr (by omega))]; exact F, fun h => absurd h hw0⟩
theorem WP1.fr {k : KX} {P : Int32 → Mem → Prop} {px : String → Mem → Prop} {E1 : String} {r : Int32} {M M' : Mem} (hP : ∀ v M1, P v M1 → Fr 0 93 M M1) (hx : ∀ E M1, px E M1 → Fr 0 93 M M1) (h : WP1 k P px E1 r M') : ∀ i, 93 ≤ i → i < 106 → M' i = M i := by
  intro i h1 h2
  rcases h with ⟨_, v, M1, g, hp, hM, _⟩ | ⟨_, hp⟩
  · rw [hM, mup_n (by omega)]; exact hP _ _ hp i (Or.inr (by omega))
  · exact hx _ _ hp i (Or.inr (by omega))
theorem WP2.fr {k : KX} {P : Int32 → Mem → Prop} {px : String → Mem → Prop} {E1 E2 : String} {r : Int32} {M M' : Mem} (hP : ∀ v M1, P v M1 → Fr 0 93 M M1) (hx : ∀ E M1, px E M1 → Fr 0 93 M M1) (h : WP2 k P px E1 E2 r M') : ∀ i, 93 ≤ i → i < 106 → M' i = M i := by
  intro i h1 h2
  rcases h with ⟨_, v, M1, g, hp, hM, _⟩ | ⟨_, hp⟩ | ⟨_, hp⟩
  · rw [hM, mup_n (by omega)]; exact hP _ _ hp i (Or.inr (by omega))
  · exact hx _ _ hp i (Or.inr (by omega))
  · exact hx _ _ hp i (Or.inr (by omega))
theorem inL_t {x : Int32} {j m : Nat} (hj : j < m) (hx : x = nI j) (hm : m < 2 ^ 31) : inL x m = true := by rw [hx, inL_n (by omega) hm]; exact decide_eq_true hj
theorem inR_t {x : Int32} {j m : Nat} (hj : j ≤ m) (hx : x = nI j) (hm : m < 2 ^ 31) : inR x m = true := by rw [hx, inR_n (by omega) hm]; exact decide_eq_true hj
theorem nI_u {x : Int32} {a b : Nat} (h1 : x = nI a) (h2 : x = nI b) (ha : a < 2 ^ 31) (hb : b < 2 ^ 31) : b = a := (nI_eq hb ha).mp (h2.symm.trans h1)
theorem isCl_i {p n : Int32} : isCl p n = true ↔ (inR p 255 = true ∧ inR n 255 = true ∧ p &&& n = 0) := by simp [isCl, and_assoc]
theorem isSm_i {m b : Int32} : isSm m b = true ↔ (inR m 255 = true ∧ inR b 1 = true) := by simp [isSm]
theorem isCl_t {p n : Int32} {p0 n0 : Nat} (hp : p0 < 256) (hn : n0 < 256) (h1 : p = nI p0) (h2 : n = nI n0) (h3 : p0 &&& n0 = 0) : isCl p n = true := isCl_i.mpr ⟨inR_t (by omega) h1 (by decide), inR_t (by omega) h2 (by decide), by rw [h1, h2, w_and, h3, nI_0]⟩
theorem isSm_t {m b : Int32} {m0 b0 : Nat} (hp : m0 < 256) (hn : b0 < 2) (h1 : m = nI m0) (h2 : b = nI b0) : isSm m b = true := isSm_i.mpr ⟨inR_t (by omega) h1 (by decide), inR_t (by omega) h2 (by decide)⟩
theorem bf_t {b : Bool} (h1 : b = true) (h2 : b = false) {P : Prop} : P := by rw [h1] at h2; cases h2
theorem RefAt.tr8 {k : KX} {M : Mem} {w : Nat} {cs ds : List Nat} {mem : List SD} {sl : Nat → Option SD} {tx : List Nat} (h : RefAt k M w cs ds mem sl tx) : (build cs ds).1.length ≤ 8 := by
  obtain ⟨_, _, _, _, nx, lp, ln, sp, lc, so, nw, tl, di, kp, ik, sc, rd, li, F93, F94, F95, F96, F97, F98, hT, _⟩ := h
  exact hT.2.1.le
def RS_append (k : KX) (cs ds : List Nat) (mem : List SD) (sl : Nat → Option SD) (tx : List Nat) (x : Int32) (M : Mem) : Int32 → Mem → Prop := fun r M' => ((inR x 255 = false ∧ RefAt k M' 1 cs ds mem sl tx) ∨ (inR x 255 = true ∧ 90 ≤ tx.length ∧ RefAt k M' 2 cs ds mem sl tx) ∨ (∃ n, n < 256 ∧ x = nI n ∧ tx.length < 90 ∧ r = nI (tx.length + 1) ∧ RefAt k M' 0 cs ds mem sl (tx ++ [n]))) ∧ FrR M M'
theorem wf_append {k : KX} {cs ds : List Nat} {mem : List SD} {sl : Nat → Option SD} {tx : List Nat} {c : Int32} {M M1 : Mem} {kk : Int32} (h1 : WP2 k (PS_append k cs ds mem sl tx c M) (PX_append k cs ds mem sl tx c M) xIAE xISE kk M1) : ∀ i, 93 ≤ i → i < 106 → M1 i = M i := WP2.fr (fun v M1 h => h.2) (fun E M1 h => h.2.2) h1
set_option maxHeartbeats 4000000 in
theorem mt_append {k : KX} {cs ds : List Nat} {mem : List SD} {sl : Nat → Option SD} {tx : List Nat} {c : Int32} {w0 : Nat} {M M1 M2 : Mem} {kk bv : Int32} {g0 : Nat → Int64} (F : M 106 = .inl (kJ k, 1, .inr (.inl g0))) (hRef : RefAt k M w0 cs ds mem sl tx) (h1 : WP2 k (PS_append k cs ds mem sl tx c M) (PX_append k cs ds mem sl tx c M) xIAE xISE kk M1) (h2 : RS_append k cs ds mem sl tx c M1 bv M2) : LawOK k kk bv M2 := by
  have hc24 : cs.length ≤ 24 := hRef.2.1.1.1.1
  have hd8 : ds.length ≤ 8 := hRef.2.1.1.2.2
  have ht8 := hRef.tr8
  obtain ⟨h2, hfR⟩ := h2
  rcases h1 with ⟨hk, v9, M0, g, ⟨⟨n, hn, hx, hl, hv, hS⟩, hf⟩, hM, hg⟩ | ⟨hk, hx1⟩ | ⟨hk, hx1⟩
  · subst hk
    rcases h2 with ⟨hA2, hR⟩ | ⟨hB1, hB2, hR⟩ | ⟨n2, hn2, hx2, hl2, hv2, hR⟩
    · exact bf_t (inR_t (by omega) hx (by decide)) hA2
    · omega
    · obtain rfl := nI_u hx hx2 (by omega) (by omega)
      exact lk0 hS hM hg hfR hR (hv.trans hv2.symm)
  · subst hk
    obtain ⟨hE, hS, hf⟩ := hx1
    have hA := hE.elim (fun h => h.2) (fun h => absurd h.1 xne1)
    rcases h2 with ⟨hA2, hR⟩ | ⟨hB1, hB2, hR⟩ | ⟨n2, hn2, hx2, hl2, hv2, hR⟩
    · exact lk1 (by decide) (by decide) hS F hf hfR hR
    · exact bf_t hB1 hA
    · exact bf_t (inR_t (by omega) hx2 (by decide)) hA
  · subst hk
    obtain ⟨hE, hS, hf⟩ := hx1
    have hB := hE.elim (fun h => absurd h.1.symm xne1) (fun h => h.2)
    rcases h2 with ⟨hA2, hR⟩ | ⟨hB1, hB2, hR⟩ | ⟨n2, hn2, hx2, hl2, hv2, hR⟩
    · exact bf_t hB.1 hA2
    · exact lk1 (by decide) (by decide) hS F hf hfR hR
    · have := hB.2; omega
def RS_load (k : KX) (cs ds : List Nat) (mem : List SD) (sl : Nat → Option SD) (tx : List Nat) (M : Mem) : Int32 → Mem → Prop := fun r M' => (((rdText tx).1 ≠ none ∧ RefAt k M' 1 cs ds mem sl tx) ∨ ((rdText tx).1 = none ∧ r = nI (rdText tx).2.1.length ∧ RefAt k M' 0 ((rdText tx).2.1) ([]) ([]) (fun _ => none) tx)) ∧ FrR M M'
theorem wf_load {k : KX} {cs ds : List Nat} {mem : List SD} {sl : Nat → Option SD} {tx : List Nat} {M M1 : Mem} {kk : Int32} (h1 : WP1 k (PS_load k cs ds mem sl tx M) (PX_load k cs ds mem sl tx M) xISE kk M1) : ∀ i, 93 ≤ i → i < 106 → M1 i = M i := WP1.fr (fun v M1 h => h.2) (fun E M1 h => h.2.2) h1
set_option maxHeartbeats 4000000 in
theorem mt_load {k : KX} {cs ds : List Nat} {mem : List SD} {sl : Nat → Option SD} {tx : List Nat} {w0 : Nat} {M M1 M2 : Mem} {kk bv : Int32} {g0 : Nat → Int64} (F : M 106 = .inl (kJ k, 1, .inr (.inl g0))) (hRef : RefAt k M w0 cs ds mem sl tx) (h1 : WP1 k (PS_load k cs ds mem sl tx M) (PX_load k cs ds mem sl tx M) xISE kk M1) (h2 : RS_load k cs ds mem sl tx M1 bv M2) : LawOK k kk bv M2 := by
  have hc24 : cs.length ≤ 24 := hRef.2.1.1.1.1
  have hd8 : ds.length ≤ 8 := hRef.2.1.1.2.2
  have ht8 := hRef.tr8
  obtain ⟨h2, hfR⟩ := h2
  rcases h1 with ⟨hk, v9, M0, g, ⟨⟨h0, hv, hS⟩, hf⟩, hM, hg⟩ | ⟨hk, hx1⟩
  · subst hk
    rcases h2 with ⟨hA2, hR⟩ | ⟨h02, hv2, hR⟩
    · exact absurd h0 hA2
    · exact lk0 hS hM hg hfR hR (hv.trans hv2.symm)
  · subst hk
    obtain ⟨⟨_, hA⟩, hS, hf⟩ := hx1
    rcases h2 with ⟨hA2, hR⟩ | ⟨h02, hv2, hR⟩
    · exact lk1 (by decide) (by decide) hS F hf hfR hR
    · exact absurd h02 hA
def RS_isParity (k : KX) (cs ds : List Nat) (mem : List SD) (sl : Nat → Option SD) (tx : List Nat) (x : Int32) (M : Mem) : Int32 → Mem → Prop := fun r M' => ((inL x cs.length = false ∧ RefAt k M' 1 cs ds mem sl tx) ∨ (∃ j, j < cs.length ∧ x = nI j ∧ r = bI (xPar (cAt cs j)) ∧ RefAt k M' 0 cs ds mem sl tx)) ∧ FrR M M'
theorem wf_isParity {k : KX} {cs ds : List Nat} {mem : List SD} {sl : Nat → Option SD} {tx : List Nat} {x : Int32} {M M1 : Mem} {kk : Int32} (h1 : WP1 k (PS_isParity k cs ds mem sl tx x M) (PX_isParity k cs ds mem sl tx x M) xIOB kk M1) : ∀ i, 93 ≤ i → i < 106 → M1 i = M i := WP1.fr (fun v M1 h => h.2.2) (fun E M1 h => h.2.2) h1
set_option maxHeartbeats 4000000 in
theorem mt_isParity {k : KX} {cs ds : List Nat} {mem : List SD} {sl : Nat → Option SD} {tx : List Nat} {x : Int32} {w0 : Nat} {M M1 M2 : Mem} {kk bv : Int32} {g0 : Nat → Int64} (F : M 106 = .inl (kJ k, 1, .inr (.inl g0))) (hRef : RefAt k M w0 cs ds mem sl tx) (h1 : WP1 k (PS_isParity k cs ds mem sl tx x M) (PX_isParity k cs ds mem sl tx x M) xIOB kk M1) (h2 : RS_isParity k cs ds mem sl tx x M1 bv M2) : LawOK k kk bv M2 := by
  have hc24 : cs.length ≤ 24 := hRef.2.1.1.1.1
  have hd8 : ds.length ≤ 8 := hRef.2.1.1.2.2
  have ht8 := hRef.tr8
  obtain ⟨h2, hfR⟩ := h2
  rcases h1 with ⟨hk, v9, M0, g, ⟨⟨j, hj, hx, hv⟩, hS, hf⟩, hM, hg⟩ | ⟨hk, hx1⟩
  · subst hk
    rcases h2 with ⟨hA2, hR⟩ | ⟨j2, hj2, hx2, hv2, hR⟩
    · exact bf_t (inL_t hj hx (by omega)) hA2
    · obtain rfl := nI_u hx hx2 (by omega) (by omega)
      exact lk0 hS hM hg hfR hR (hv.trans hv2.symm)
  · subst hk
    obtain ⟨⟨_, hA⟩, hS, hf⟩ := hx1
    rcases h2 with ⟨hA2, hR⟩ | ⟨j2, hj2, hx2, hv2, hR⟩
    · exact lk1 (by decide) (by decide) hS F hf hfR hR
    · exact bf_t (inL_t hj2 hx2 (by omega)) hA
def RS_variables (k : KX) (cs ds : List Nat) (mem : List SD) (sl : Nat → Option SD) (tx : List Nat) (x : Int32) (M : Mem) : Int32 → Mem → Prop := fun r M' => ((inL x cs.length = false ∧ RefAt k M' 1 cs ds mem sl tx) ∨ (∃ j, j < cs.length ∧ x = nI j ∧ r = nI (xFirst (cAt cs j)) ∧ RefAt k M' 0 cs ds mem sl tx)) ∧ FrR M M'
theorem wf_variables {k : KX} {cs ds : List Nat} {mem : List SD} {sl : Nat → Option SD} {tx : List Nat} {x : Int32} {M M1 : Mem} {kk : Int32} (h1 : WP1 k (PS_variables k cs ds mem sl tx x M) (PX_variables k cs ds mem sl tx x M) xIOB kk M1) : ∀ i, 93 ≤ i → i < 106 → M1 i = M i := WP1.fr (fun v M1 h => h.2.2) (fun E M1 h => h.2.2) h1
set_option maxHeartbeats 4000000 in
theorem mt_variables {k : KX} {cs ds : List Nat} {mem : List SD} {sl : Nat → Option SD} {tx : List Nat} {x : Int32} {w0 : Nat} {M M1 M2 : Mem} {kk bv : Int32} {g0 : Nat → Int64} (F : M 106 = .inl (kJ k, 1, .inr (.inl g0))) (hRef : RefAt k M w0 cs ds mem sl tx) (h1 : WP1 k (PS_variables k cs ds mem sl tx x M) (PX_variables k cs ds mem sl tx x M) xIOB kk M1) (h2 : RS_variables k cs ds mem sl tx x M1 bv M2) : LawOK k kk bv M2 := by
  have hc24 : cs.length ≤ 24 := hRef.2.1.1.1.1
  have hd8 : ds.length ≤ 8 := hRef.2.1.1.2.2
  have ht8 := hRef.tr8
  obtain ⟨h2, hfR⟩ := h2
  rcases h1 with ⟨hk, v9, M0, g, ⟨⟨j, hj, hx, hv⟩, hS, hf⟩, hM, hg⟩ | ⟨hk, hx1⟩
  · subst hk
    rcases h2 with ⟨hA2, hR⟩ | ⟨j2, hj2, hx2, hv2, hR⟩
    · exact bf_t (inL_t hj hx (by omega)) hA2
    · obtain rfl := nI_u hx hx2 (by omega) (by omega)
      exact lk0 hS hM hg hfR hR (hv.trans hv2.symm)
  · subst hk
    obtain ⟨⟨_, hA⟩, hS, hf⟩ := hx1
    rcases h2 with ⟨hA2, hR⟩ | ⟨j2, hj2, hx2, hv2, hR⟩
    · exact lk1 (by decide) (by decide) hS F hf hfR hR
    · exact bf_t (inL_t hj2 hx2 (by omega)) hA
def RS_negated (k : KX) (cs ds : List Nat) (mem : List SD) (sl : Nat → Option SD) (tx : List Nat) (x : Int32) (M : Mem) : Int32 → Mem → Prop := fun r M' => ((inL x cs.length = false ∧ RefAt k M' 1 cs ds mem sl tx) ∨ (∃ j, j < cs.length ∧ x = nI j ∧ r = nI (xSecond (cAt cs j)) ∧ RefAt k M' 0 cs ds mem sl tx)) ∧ FrR M M'
theorem wf_negated {k : KX} {cs ds : List Nat} {mem : List SD} {sl : Nat → Option SD} {tx : List Nat} {x : Int32} {M M1 : Mem} {kk : Int32} (h1 : WP1 k (PS_negated k cs ds mem sl tx x M) (PX_negated k cs ds mem sl tx x M) xIOB kk M1) : ∀ i, 93 ≤ i → i < 106 → M1 i = M i := WP1.fr (fun v M1 h => h.2.2) (fun E M1 h => h.2.2) h1
set_option maxHeartbeats 4000000 in
theorem mt_negated {k : KX} {cs ds : List Nat} {mem : List SD} {sl : Nat → Option SD} {tx : List Nat} {x : Int32} {w0 : Nat} {M M1 M2 : Mem} {kk bv : Int32} {g0 : Nat → Int64} (F : M 106 = .inl (kJ k, 1, .inr (.inl g0))) (hRef : RefAt k M w0 cs ds mem sl tx) (h1 : WP1 k (PS_negated k cs ds mem sl tx x M) (PX_negated k cs ds mem sl tx x M) xIOB kk M1) (h2 : RS_negated k cs ds mem sl tx x M1 bv M2) : LawOK k kk bv M2 := by
  have hc24 : cs.length ≤ 24 := hRef.2.1.1.1.1
  have hd8 : ds.length ≤ 8 := hRef.2.1.1.2.2
  have ht8 := hRef.tr8
  obtain ⟨h2, hfR⟩ := h2
  rcases h1 with ⟨hk, v9, M0, g, ⟨⟨j, hj, hx, hv⟩, hS, hf⟩, hM, hg⟩ | ⟨hk, hx1⟩
  · subst hk
    rcases h2 with ⟨hA2, hR⟩ | ⟨j2, hj2, hx2, hv2, hR⟩
    · exact bf_t (inL_t hj hx (by omega)) hA2
    · obtain rfl := nI_u hx hx2 (by omega) (by omega)
      exact lk0 hS hM hg hfR hR (hv.trans hv2.symm)
  · subst hk
    obtain ⟨⟨_, hA⟩, hS, hf⟩ := hx1
    rcases h2 with ⟨hA2, hR⟩ | ⟨j2, hj2, hx2, hv2, hR⟩
    · exact lk1 (by decide) (by decide) hS F hf hfR hR
    · exact bf_t (inL_t hj2 hx2 (by omega)) hA
def RS_addClause (k : KX) (cs ds : List Nat) (mem : List SD) (sl : Nat → Option SD) (tx : List Nat) (p n : Int32) (M : Mem) : Int32 → Mem → Prop := fun r M' => ((isCl p n = false ∧ RefAt k M' 1 cs ds mem sl tx) ∨ (isCl p n = true ∧ 24 ≤ cs.length ∧ RefAt k M' 2 cs ds mem sl tx) ∨ (∃ p0 n0, p0 < 256 ∧ n0 < 256 ∧ p = nI p0 ∧ n = nI n0 ∧ p0 &&& n0 = 0 ∧ cs.length < 24 ∧ r = nI cs.length ∧ RefAt k M' 0 (cs ++ [xClause p0 n0]) (sNew (cs ++ [xClause p0 n0]) ds) (remF mem (cs, ds)) sl tx)) ∧ FrR M M'
theorem wf_addClause {k : KX} {cs ds : List Nat} {mem : List SD} {sl : Nat → Option SD} {tx : List Nat} {p n : Int32} {M M1 : Mem} {kk : Int32} (h1 : WP2 k (PS_addClause k cs ds mem sl tx p n M) (PX_addClause k cs ds mem sl tx p n M) xIAE xISE kk M1) : ∀ i, 93 ≤ i → i < 106 → M1 i = M i := WP2.fr (fun v M1 h => h.2) (fun E M1 h => h.2.2) h1
set_option maxHeartbeats 4000000 in
theorem mt_addClause {k : KX} {cs ds : List Nat} {mem : List SD} {sl : Nat → Option SD} {tx : List Nat} {p n : Int32} {w0 : Nat} {M M1 M2 : Mem} {kk bv : Int32} {g0 : Nat → Int64} (F : M 106 = .inl (kJ k, 1, .inr (.inl g0))) (hRef : RefAt k M w0 cs ds mem sl tx) (h1 : WP2 k (PS_addClause k cs ds mem sl tx p n M) (PX_addClause k cs ds mem sl tx p n M) xIAE xISE kk M1) (h2 : RS_addClause k cs ds mem sl tx p n M1 bv M2) : LawOK k kk bv M2 := by
  have hc24 : cs.length ≤ 24 := hRef.2.1.1.1.1
  have hd8 : ds.length ≤ 8 := hRef.2.1.1.2.2
  have ht8 := hRef.tr8
  obtain ⟨h2, hfR⟩ := h2
  rcases h1 with ⟨hk, v9, M0, g, ⟨⟨p0, n0, hp, hn, hxp, hxn, hpn, hl, hv, hS⟩, hf⟩, hM, hg⟩ | ⟨hk, hx1⟩ | ⟨hk, hx1⟩
  · subst hk
    rcases h2 with ⟨hA2, hR⟩ | ⟨hB1, hB2, hR⟩ | ⟨p1, n1, hp1, hn1, hxp1, hxn1, hpn1, hl1, hv2, hR⟩
    · exact bf_t (isCl_t hp hn hxp hxn hpn) hA2
    · omega
    · obtain rfl := nI_u hxp hxp1 (by omega) (by omega)
      obtain rfl := nI_u hxn hxn1 (by omega) (by omega)
      exact lk0 hS hM hg hfR hR (hv.trans hv2.symm)
  · subst hk
    obtain ⟨hE, hS, hf⟩ := hx1
    have hA := hE.elim (fun h => h.2) (fun h => absurd h.1 xne1)
    rcases h2 with ⟨hA2, hR⟩ | ⟨hB1, hB2, hR⟩ | ⟨p1, n1, hp1, hn1, hxp1, hxn1, hpn1, hl1, hv2, hR⟩
    · exact lk1 (by decide) (by decide) hS F hf hfR hR
    · exact absurd (isCl_i.mp hB1) hA
    · exact absurd (isCl_i.mp (isCl_t hp1 hn1 hxp1 hxn1 hpn1)) hA
  · subst hk
    obtain ⟨hE, hS, hf⟩ := hx1
    have hB := hE.elim (fun h => absurd h.1.symm xne1) (fun h => h.2)
    rcases h2 with ⟨hA2, hR⟩ | ⟨hB1, hB2, hR⟩ | ⟨p1, n1, hp1, hn1, hxp1, hxn1, hpn1, hl1, hv2, hR⟩
    · exact bf_t (isCl_i.mpr hB.1) hA2
    · exact lk1 (by decide) (by decide) hS F hf hfR hR
    · have := hB.2; omega
def RS_addParity (k : KX) (cs ds : List Nat) (mem : List SD) (sl : Nat → Option SD) (tx : List Nat) (m b : Int32) (M : Mem) : Int32 → Mem → Prop := fun r M' => ((isSm m b = false ∧ RefAt k M' 1 cs ds mem sl tx) ∨ (isSm m b = true ∧ 24 ≤ cs.length ∧ RefAt k M' 2 cs ds mem sl tx) ∨ (∃ m0 b0, m0 < 256 ∧ b0 < 2 ∧ m = nI m0 ∧ b = nI b0 ∧ cs.length < 24 ∧ r = nI cs.length ∧ RefAt k M' 0 (cs ++ [xParity m0 b0]) (sNew (cs ++ [xParity m0 b0]) ds) (remF mem (cs, ds)) sl tx)) ∧ FrR M M'
theorem wf_addParity {k : KX} {cs ds : List Nat} {mem : List SD} {sl : Nat → Option SD} {tx : List Nat} {m b : Int32} {M M1 : Mem} {kk : Int32} (h1 : WP2 k (PS_addParity k cs ds mem sl tx m b M) (PX_addParity k cs ds mem sl tx m b M) xIAE xISE kk M1) : ∀ i, 93 ≤ i → i < 106 → M1 i = M i := WP2.fr (fun v M1 h => h.2) (fun E M1 h => h.2.2) h1
set_option maxHeartbeats 4000000 in
theorem mt_addParity {k : KX} {cs ds : List Nat} {mem : List SD} {sl : Nat → Option SD} {tx : List Nat} {m b : Int32} {w0 : Nat} {M M1 M2 : Mem} {kk bv : Int32} {g0 : Nat → Int64} (F : M 106 = .inl (kJ k, 1, .inr (.inl g0))) (hRef : RefAt k M w0 cs ds mem sl tx) (h1 : WP2 k (PS_addParity k cs ds mem sl tx m b M) (PX_addParity k cs ds mem sl tx m b M) xIAE xISE kk M1) (h2 : RS_addParity k cs ds mem sl tx m b M1 bv M2) : LawOK k kk bv M2 := by
  have hc24 : cs.length ≤ 24 := hRef.2.1.1.1.1
  have hd8 : ds.length ≤ 8 := hRef.2.1.1.2.2
  have ht8 := hRef.tr8
  obtain ⟨h2, hfR⟩ := h2
  rcases h1 with ⟨hk, v9, M0, g, ⟨⟨p0, n0, hp, hn, hxp, hxn, hl, hv, hS⟩, hf⟩, hM, hg⟩ | ⟨hk, hx1⟩ | ⟨hk, hx1⟩
  · subst hk
    rcases h2 with ⟨hA2, hR⟩ | ⟨hB1, hB2, hR⟩ | ⟨p1, n1, hp1, hn1, hxp1, hxn1, hl1, hv2, hR⟩
    · exact bf_t (isSm_t hp hn hxp hxn) hA2
    · omega
    · obtain rfl := nI_u hxp hxp1 (by omega) (by omega)
      obtain rfl := nI_u hxn hxn1 (by omega) (by omega)
      exact lk0 hS hM hg hfR hR (hv.trans hv2.symm)
  · subst hk
    obtain ⟨hE, hS, hf⟩ := hx1
    have hA := hE.elim (fun h => h.2) (fun h => absurd h.1 xne1)
    rcases h2 with ⟨hA2, hR⟩ | ⟨hB1, hB2, hR⟩ | ⟨p1, n1, hp1, hn1, hxp1, hxn1, hl1, hv2, hR⟩
    · exact lk1 (by decide) (by decide) hS F hf hfR hR
    · exact absurd (isSm_i.mp hB1) hA
    · exact absurd (isSm_i.mp (isSm_t hp1 hn1 hxp1 hxn1)) hA
  · subst hk
    obtain ⟨hE, hS, hf⟩ := hx1
    have hB := hE.elim (fun h => absurd h.1.symm xne1) (fun h => h.2)
    rcases h2 with ⟨hA2, hR⟩ | ⟨hB1, hB2, hR⟩ | ⟨p1, n1, hp1, hn1, hxp1, hxn1, hl1, hv2, hR⟩
    · exact bf_t (isSm_i.mpr hB.1) hA2
    · exact lk1 (by decide) (by decide) hS F hf hfR hR
    · have := hB.2; omega
def RS_removeConstraint (k : KX) (cs ds : List Nat) (mem : List SD) (sl : Nat → Option SD) (tx : List Nat) (x : Int32) (M : Mem) : Int32 → Mem → Prop := fun r M' => ((inL x cs.length = false ∧ RefAt k M' 1 cs ds mem sl tx) ∨ (∃ j, j < cs.length ∧ x = nI j ∧ r = nI (cs.length - 1) ∧ RefAt k M' 0 (cs.eraseIdx j) (sNew (cs.eraseIdx j) ds) (remF mem (cs, ds)) sl tx)) ∧ FrR M M'
theorem wf_removeConstraint {k : KX} {cs ds : List Nat} {mem : List SD} {sl : Nat → Option SD} {tx : List Nat} {x : Int32} {M M1 : Mem} {kk : Int32} (h1 : WP1 k (PS_removeConstraint k cs ds mem sl tx x M) (PX_removeConstraint k cs ds mem sl tx x M) xIOB kk M1) : ∀ i, 93 ≤ i → i < 106 → M1 i = M i := WP1.fr (fun v M1 h => h.2) (fun E M1 h => h.2.2) h1
set_option maxHeartbeats 4000000 in
theorem mt_removeConstraint {k : KX} {cs ds : List Nat} {mem : List SD} {sl : Nat → Option SD} {tx : List Nat} {x : Int32} {w0 : Nat} {M M1 M2 : Mem} {kk bv : Int32} {g0 : Nat → Int64} (F : M 106 = .inl (kJ k, 1, .inr (.inl g0))) (hRef : RefAt k M w0 cs ds mem sl tx) (h1 : WP1 k (PS_removeConstraint k cs ds mem sl tx x M) (PX_removeConstraint k cs ds mem sl tx x M) xIOB kk M1) (h2 : RS_removeConstraint k cs ds mem sl tx x M1 bv M2) : LawOK k kk bv M2 := by
  have hc24 : cs.length ≤ 24 := hRef.2.1.1.1.1
  have hd8 : ds.length ≤ 8 := hRef.2.1.1.2.2
  have ht8 := hRef.tr8
  obtain ⟨h2, hfR⟩ := h2
  rcases h1 with ⟨hk, v9, M0, g, ⟨⟨j, hj, hx, hv, hS⟩, hf⟩, hM, hg⟩ | ⟨hk, hx1⟩
  · subst hk
    rcases h2 with ⟨hA2, hR⟩ | ⟨j2, hj2, hx2, hv2, hR⟩
    · exact bf_t (inL_t hj hx (by omega)) hA2
    · obtain rfl := nI_u hx hx2 (by omega) (by omega)
      exact lk0 hS hM hg hfR hR (hv.trans hv2.symm)
  · subst hk
    obtain ⟨⟨_, hA⟩, hS, hf⟩ := hx1
    rcases h2 with ⟨hA2, hR⟩ | ⟨j2, hj2, hx2, hv2, hR⟩
    · exact lk1 (by decide) (by decide) hS F hf hfR hR
    · exact bf_t (inL_t hj2 hx2 (by omega)) hA
def RS_resolve (k : KX) (cs ds : List Nat) (mem : List SD) (sl : Nat → Option SD) (tx : List Nat) (x y z : Int32) (M : Mem) : Int32 → Mem → Prop := fun r M' => ((¬ (inL x cs.length = true ∧ inL y cs.length = true ∧ inL z 8 = true) ∧ RefAt k M' 1 cs ds mem sl tx) ∨ (∃ i j v, i < cs.length ∧ j < cs.length ∧ v < 8 ∧ x = nI i ∧ y = nI j ∧ z = nI v ∧ ¬ rsOK cs i j v ∧ RefAt k M' 2 cs ds mem sl tx) ∨ (∃ i j v, i < cs.length ∧ j < cs.length ∧ v < 8 ∧ x = nI i ∧ y = nI j ∧ z = nI v ∧ rsOK cs i j v ∧ r = nI cs.length ∧ RefAt k M' 0 (cs ++ [xClause (rsP cs i j v) (rsN cs i j v)]) (sNew (cs ++ [xClause (rsP cs i j v) (rsN cs i j v)]) ds) (remF mem (cs, ds)) sl tx)) ∧ FrR M M'
theorem wf_resolve {k : KX} {cs ds : List Nat} {mem : List SD} {sl : Nat → Option SD} {tx : List Nat} {x y w : Int32} {M M1 : Mem} {kk : Int32} (h1 : WP2 k (PS_resolve k cs ds mem sl tx x y w M) (PX_resolve k cs ds mem sl tx x y w M) xIOB xISE kk M1) : ∀ i, 93 ≤ i → i < 106 → M1 i = M i := WP2.fr (fun v M1 h => h.2) (fun E M1 h => h.2.2) h1
set_option maxHeartbeats 4000000 in
theorem mt_resolve {k : KX} {cs ds : List Nat} {mem : List SD} {sl : Nat → Option SD} {tx : List Nat} {x y w : Int32} {w0 : Nat} {M M1 M2 : Mem} {kk bv : Int32} {g0 : Nat → Int64} (F : M 106 = .inl (kJ k, 1, .inr (.inl g0))) (hRef : RefAt k M w0 cs ds mem sl tx) (h1 : WP2 k (PS_resolve k cs ds mem sl tx x y w M) (PX_resolve k cs ds mem sl tx x y w M) xIOB xISE kk M1) (h2 : RS_resolve k cs ds mem sl tx x y w M1 bv M2) : LawOK k kk bv M2 := by
  have hc24 : cs.length ≤ 24 := hRef.2.1.1.1.1
  have hd8 : ds.length ≤ 8 := hRef.2.1.1.2.2
  have ht8 := hRef.tr8
  obtain ⟨h2, hfR⟩ := h2
  rcases h1 with ⟨hk, v9, M0, g, ⟨⟨i, j, v, hi, hj, h8, hx, hy, hw, hok, hv, hS⟩, hf⟩, hM, hg⟩ | ⟨hk, hx1⟩ | ⟨hk, hx1⟩
  · subst hk
    rcases h2 with ⟨hA2, hR⟩ | ⟨i2, j2, v2, hi2, hj2, h82, hx2, hy2, hw2, hno, hR⟩ | ⟨i2, j2, v2, hi2, hj2, h82, hx2, hy2, hw2, hok2, hv2, hR⟩
    · exact absurd ⟨inL_t hi hx (by omega), inL_t hj hy (by omega), inL_t h8 hw (by decide)⟩ hA2
    · obtain rfl := nI_u hx hx2 (by omega) (by omega)
      obtain rfl := nI_u hy hy2 (by omega) (by omega)
      obtain rfl := nI_u hw hw2 (by omega) (by omega)
      exact absurd hok hno
    · obtain rfl := nI_u hx hx2 (by omega) (by omega)
      obtain rfl := nI_u hy hy2 (by omega) (by omega)
      obtain rfl := nI_u hw hw2 (by omega) (by omega)
      exact lk0 hS hM hg hfR hR (hv.trans hv2.symm)
  · subst hk
    obtain ⟨hE, hS, hf⟩ := hx1
    have hA := hE.elim (fun h => h.2) (fun h => absurd h.1 xne2)
    rcases h2 with ⟨hA2, hR⟩ | ⟨i2, j2, v2, hi2, hj2, h82, hx2, hy2, hw2, hno, hR⟩ | ⟨i2, j2, v2, hi2, hj2, h82, hx2, hy2, hw2, hok2, hv2, hR⟩
    · exact lk1 (by decide) (by decide) hS F hf hfR hR
    · exact absurd ⟨inL_t hi2 hx2 (by omega), inL_t hj2 hy2 (by omega), inL_t h82 hw2 (by decide)⟩ hA
    · exact absurd ⟨inL_t hi2 hx2 (by omega), inL_t hj2 hy2 (by omega), inL_t h82 hw2 (by decide)⟩ hA
  · subst hk
    obtain ⟨hE, hS, hf⟩ := hx1
    have hB := hE.elim (fun h => absurd h.1.symm xne2) (fun h => h.2)
    rcases h2 with ⟨hA2, hR⟩ | ⟨i2, j2, v2, hi2, hj2, h82, hx2, hy2, hw2, hno, hR⟩ | ⟨i2, j2, v2, hi2, hj2, h82, hx2, hy2, hw2, hok2, hv2, hR⟩
    · obtain ⟨i, j, v, hi, hj, h8, hx, hy, hw, hno⟩ := hB
      exact absurd ⟨inL_t hi hx (by omega), inL_t hj hy (by omega), inL_t h8 hw (by decide)⟩ hA2
    · exact lk1 (by decide) (by decide) hS F hf hfR hR
    · obtain ⟨i, j, v, hi, hj, h8, hx, hy, hw, hno⟩ := hB
      obtain rfl := nI_u hx hx2 (by omega) (by omega)
      obtain rfl := nI_u hy hy2 (by omega) (by omega)
      obtain rfl := nI_u hw hw2 (by omega) (by omega)
      exact absurd hok2 hno
def RS_sum (k : KX) (cs ds : List Nat) (mem : List SD) (sl : Nat → Option SD) (tx : List Nat) (x y : Int32) (M : Mem) : Int32 → Mem → Prop := fun r M' => ((¬ (inL x cs.length = true ∧ inL y cs.length = true) ∧ RefAt k M' 1 cs ds mem sl tx) ∨ (∃ i j, i < cs.length ∧ j < cs.length ∧ x = nI i ∧ y = nI j ∧ ¬ smOK cs i j ∧ RefAt k M' 2 cs ds mem sl tx) ∨ (∃ i j, i < cs.length ∧ j < cs.length ∧ x = nI i ∧ y = nI j ∧ smOK cs i j ∧ r = nI cs.length ∧ RefAt k M' 0 (cs ++ [xParity (xFirst (cAt cs i) ^^^ xFirst (cAt cs j)) (xSecond (cAt cs i) ^^^ xSecond (cAt cs j))]) (sNew (cs ++ [xParity (xFirst (cAt cs i) ^^^ xFirst (cAt cs j)) (xSecond (cAt cs i) ^^^ xSecond (cAt cs j))]) ds) (remF mem (cs, ds)) sl tx)) ∧ FrR M M'
theorem wf_sum {k : KX} {cs ds : List Nat} {mem : List SD} {sl : Nat → Option SD} {tx : List Nat} {x y : Int32} {M M1 : Mem} {kk : Int32} (h1 : WP2 k (PS_sum k cs ds mem sl tx x y M) (PX_sum k cs ds mem sl tx x y M) xIOB xISE kk M1) : ∀ i, 93 ≤ i → i < 106 → M1 i = M i := WP2.fr (fun v M1 h => h.2) (fun E M1 h => h.2.2) h1
set_option maxHeartbeats 4000000 in
theorem mt_sum {k : KX} {cs ds : List Nat} {mem : List SD} {sl : Nat → Option SD} {tx : List Nat} {x y : Int32} {w0 : Nat} {M M1 M2 : Mem} {kk bv : Int32} {g0 : Nat → Int64} (F : M 106 = .inl (kJ k, 1, .inr (.inl g0))) (hRef : RefAt k M w0 cs ds mem sl tx) (h1 : WP2 k (PS_sum k cs ds mem sl tx x y M) (PX_sum k cs ds mem sl tx x y M) xIOB xISE kk M1) (h2 : RS_sum k cs ds mem sl tx x y M1 bv M2) : LawOK k kk bv M2 := by
  have hc24 : cs.length ≤ 24 := hRef.2.1.1.1.1
  have hd8 : ds.length ≤ 8 := hRef.2.1.1.2.2
  have ht8 := hRef.tr8
  obtain ⟨h2, hfR⟩ := h2
  rcases h1 with ⟨hk, v9, M0, g, ⟨⟨i, j, hi, hj, hx, hy, hok, hv, hS⟩, hf⟩, hM, hg⟩ | ⟨hk, hx1⟩ | ⟨hk, hx1⟩
  · subst hk
    rcases h2 with ⟨hA2, hR⟩ | ⟨i2, j2, hi2, hj2, hx2, hy2, hno, hR⟩ | ⟨i2, j2, hi2, hj2, hx2, hy2, hok2, hv2, hR⟩
    · exact absurd ⟨inL_t hi hx (by omega), inL_t hj hy (by omega)⟩ hA2
    · obtain rfl := nI_u hx hx2 (by omega) (by omega)
      obtain rfl := nI_u hy hy2 (by omega) (by omega)
      exact absurd hok hno
    · obtain rfl := nI_u hx hx2 (by omega) (by omega)
      obtain rfl := nI_u hy hy2 (by omega) (by omega)
      exact lk0 hS hM hg hfR hR (hv.trans hv2.symm)
  · subst hk
    obtain ⟨hE, hS, hf⟩ := hx1
    have hA := hE.elim (fun h => h.2) (fun h => absurd h.1 xne2)
    rcases h2 with ⟨hA2, hR⟩ | ⟨i2, j2, hi2, hj2, hx2, hy2, hno, hR⟩ | ⟨i2, j2, hi2, hj2, hx2, hy2, hok2, hv2, hR⟩
    · exact lk1 (by decide) (by decide) hS F hf hfR hR
    · exact absurd ⟨inL_t hi2 hx2 (by omega), inL_t hj2 hy2 (by omega)⟩ hA
    · exact absurd ⟨inL_t hi2 hx2 (by omega), inL_t hj2 hy2 (by omega)⟩ hA
  · subst hk
    obtain ⟨hE, hS, hf⟩ := hx1
    have hB := hE.elim (fun h => absurd h.1.symm xne2) (fun h => h.2)
    rcases h2 with ⟨hA2, hR⟩ | ⟨i2, j2, hi2, hj2, hx2, hy2, hno, hR⟩ | ⟨i2, j2, hi2, hj2, hx2, hy2, hok2, hv2, hR⟩
    · obtain ⟨i, j, hi, hj, hx, hy, hno⟩ := hB
      exact absurd ⟨inL_t hi hx (by omega), inL_t hj hy (by omega)⟩ hA2
    · exact lk1 (by decide) (by decide) hS F hf hfR hR
    · obtain ⟨i, j, hi, hj, hx, hy, hno⟩ := hB
      obtain rfl := nI_u hx hx2 (by omega) (by omega)
      obtain rfl := nI_u hy hy2 (by omega) (by omega)
      exact absurd hok2 hno
def RS_decide (k : KX) (cs ds : List Nat) (mem : List SD) (sl : Nat → Option SD) (tx : List Nat) (x : Int32) (M : Mem) : Int32 → Mem → Prop := fun r M' => ((inL x 16 = false ∧ RefAt k M' 1 cs ds mem sl tx) ∨ (∃ d, d < 16 ∧ x = nI d ∧ ((build cs ds).2 ≠ none ∨ (tA (build cs ds).1).testBit (d / 2) = true) ∧ RefAt k M' 2 cs ds mem sl tx) ∨ (∃ d, d < 16 ∧ x = nI d ∧ (build cs ds).2 = none ∧ (tA (build cs ds).1).testBit (d / 2) = false ∧ r = nI (build cs (ds ++ [d])).1.length ∧ RefAt k M' 0 cs (sNew cs (ds ++ [d])) (remF mem (cs, ds)) sl tx)) ∧ FrR M M'
theorem wf_decide {k : KX} {cs ds : List Nat} {mem : List SD} {sl : Nat → Option SD} {tx : List Nat} {x : Int32} {M M1 : Mem} {kk : Int32} (h1 : WP2 k (PS_decide k cs ds mem sl tx x M) (PX_decide k cs ds mem sl tx x M) xIOB xISE kk M1) : ∀ i, 93 ≤ i → i < 106 → M1 i = M i := WP2.fr (fun v M1 h => h.2) (fun E M1 h => h.2.2) h1
set_option maxHeartbeats 4000000 in
theorem mt_decide {k : KX} {cs ds : List Nat} {mem : List SD} {sl : Nat → Option SD} {tx : List Nat} {x : Int32} {w0 : Nat} {M M1 M2 : Mem} {kk bv : Int32} {g0 : Nat → Int64} (F : M 106 = .inl (kJ k, 1, .inr (.inl g0))) (hRef : RefAt k M w0 cs ds mem sl tx) (h1 : WP2 k (PS_decide k cs ds mem sl tx x M) (PX_decide k cs ds mem sl tx x M) xIOB xISE kk M1) (h2 : RS_decide k cs ds mem sl tx x M1 bv M2) : LawOK k kk bv M2 := by
  have hc24 : cs.length ≤ 24 := hRef.2.1.1.1.1
  have hd8 : ds.length ≤ 8 := hRef.2.1.1.2.2
  have ht8 := hRef.tr8
  obtain ⟨h2, hfR⟩ := h2
  rcases h1 with ⟨hk, v9, M0, g, ⟨⟨d, hd, hx, h0, h1, hv, hS⟩, hf⟩, hM, hg⟩ | ⟨hk, hx1⟩ | ⟨hk, hx1⟩
  · subst hk
    rcases h2 with ⟨hA2, hR⟩ | ⟨d2, hd2, hx2, hor, hR⟩ | ⟨d2, hd2, hx2, h02, h12, hv2, hR⟩
    · exact bf_t (inL_t hd hx (by decide)) hA2
    · obtain rfl := nI_u hx hx2 (by omega) (by omega)
      exact hor.elim (fun h => absurd h0 h) (fun h => bf_t h h1)
    · obtain rfl := nI_u hx hx2 (by omega) (by omega)
      exact lk0 hS hM hg hfR hR (hv.trans hv2.symm)
  · subst hk
    obtain ⟨hE, hS, hf⟩ := hx1
    have hA := hE.elim (fun h => h.2) (fun h => absurd h.1 xne2)
    rcases h2 with ⟨hA2, hR⟩ | ⟨d2, hd2, hx2, hor, hR⟩ | ⟨d2, hd2, hx2, h02, h12, hv2, hR⟩
    · exact lk1 (by decide) (by decide) hS F hf hfR hR
    · exact bf_t (inL_t hd2 hx2 (by decide)) hA
    · exact bf_t (inL_t hd2 hx2 (by decide)) hA
  · subst hk
    obtain ⟨hE, hS, hf⟩ := hx1
    have hB := hE.elim (fun h => absurd h.1.symm xne2) (fun h => h.2)
    rcases h2 with ⟨hA2, hR⟩ | ⟨d2, hd2, hx2, hor, hR⟩ | ⟨d2, hd2, hx2, h02, h12, hv2, hR⟩
    · obtain ⟨d, hd, hx, hor⟩ := hB
      exact bf_t (inL_t hd hx (by decide)) hA2
    · exact lk1 (by decide) (by decide) hS F hf hfR hR
    · obtain ⟨d, hd, hx, hor⟩ := hB
      obtain rfl := nI_u hx hx2 (by omega) (by omega)
      exact hor.elim (fun h => absurd h02 h) (fun h => bf_t h h12)
def RS_backtrack (k : KX) (cs ds : List Nat) (mem : List SD) (sl : Nat → Option SD) (tx : List Nat) (x : Int32) (M : Mem) : Int32 → Mem → Prop := fun r M' => ((inR x ds.length = false ∧ RefAt k M' 1 cs ds mem sl tx) ∨ (∃ n, n ≤ ds.length ∧ x = nI n ∧ r = nI (build cs (ds.take n)).1.length ∧ RefAt k M' 0 cs (sNew cs (ds.take n)) (remF mem (cs, ds)) sl tx)) ∧ FrR M M'
theorem wf_backtrack {k : KX} {cs ds : List Nat} {mem : List SD} {sl : Nat → Option SD} {tx : List Nat} {x : Int32} {M M1 : Mem} {kk : Int32} (h1 : WP1 k (PS_backtrack k cs ds mem sl tx x M) (PX_backtrack k cs ds mem sl tx x M) xIAE kk M1) : ∀ i, 93 ≤ i → i < 106 → M1 i = M i := WP1.fr (fun v M1 h => h.2) (fun E M1 h => h.2.2) h1
set_option maxHeartbeats 4000000 in
theorem mt_backtrack {k : KX} {cs ds : List Nat} {mem : List SD} {sl : Nat → Option SD} {tx : List Nat} {x : Int32} {w0 : Nat} {M M1 M2 : Mem} {kk bv : Int32} {g0 : Nat → Int64} (F : M 106 = .inl (kJ k, 1, .inr (.inl g0))) (hRef : RefAt k M w0 cs ds mem sl tx) (h1 : WP1 k (PS_backtrack k cs ds mem sl tx x M) (PX_backtrack k cs ds mem sl tx x M) xIAE kk M1) (h2 : RS_backtrack k cs ds mem sl tx x M1 bv M2) : LawOK k kk bv M2 := by
  have hc24 : cs.length ≤ 24 := hRef.2.1.1.1.1
  have hd8 : ds.length ≤ 8 := hRef.2.1.1.2.2
  have ht8 := hRef.tr8
  obtain ⟨h2, hfR⟩ := h2
  rcases h1 with ⟨hk, v9, M0, g, ⟨⟨j, hj, hx, hv, hS⟩, hf⟩, hM, hg⟩ | ⟨hk, hx1⟩
  · subst hk
    rcases h2 with ⟨hA2, hR⟩ | ⟨j2, hj2, hx2, hv2, hR⟩
    · exact bf_t (inR_t hj hx (by omega)) hA2
    · obtain rfl := nI_u hx hx2 (by omega) (by omega)
      exact lk0 hS hM hg hfR hR (hv.trans hv2.symm)
  · subst hk
    obtain ⟨⟨_, hA⟩, hS, hf⟩ := hx1
    rcases h2 with ⟨hA2, hR⟩ | ⟨j2, hj2, hx2, hv2, hR⟩
    · exact lk1 (by decide) (by decide) hS F hf hfR hR
    · exact bf_t (inR_t hj2 hx2 (by omega)) hA
def RS_learn (k : KX) (cs ds : List Nat) (mem : List SD) (sl : Nat → Option SD) (tx : List Nat) (M : Mem) : Int32 → Mem → Prop := fun r M' => ((((build cs ds).2 = none ∨ ds.length = 0 ∨ 24 ≤ cs.length) ∧ RefAt k M' 1 cs ds mem sl tx) ∨ (∃ q, (build cs ds).2 = some q ∧ ds.length ≠ 0 ∧ cs.length < 24 ∧ r = nI (bjLev (build cs ds).1 (lrnVars cs (build cs ds).1 q)) ∧ RefAt k M' 0 ((cs ++ [falseCl (build cs ds).1 (lrnVars cs (build cs ds).1 q)])) (sNew (cs ++ [falseCl (build cs ds).1 (lrnVars cs (build cs ds).1 q)]) (ds.take (bjLev (build cs ds).1 (lrnVars cs (build cs ds).1 q)))) (remF mem (cs, ds)) sl tx)) ∧ FrR M M'
theorem wf_learn {k : KX} {cs ds : List Nat} {mem : List SD} {sl : Nat → Option SD} {tx : List Nat} {M M1 : Mem} {kk : Int32} (h1 : WP1 k (PS_learn k cs ds mem sl tx M) (PX_learn k cs ds mem sl tx M) xISE kk M1) : ∀ i, 93 ≤ i → i < 106 → M1 i = M i := WP1.fr (fun v M1 h => h.2) (fun E M1 h => h.2.2) h1
set_option maxHeartbeats 4000000 in
theorem mt_learn {k : KX} {cs ds : List Nat} {mem : List SD} {sl : Nat → Option SD} {tx : List Nat} {w0 : Nat} {M M1 M2 : Mem} {kk bv : Int32} {g0 : Nat → Int64} (F : M 106 = .inl (kJ k, 1, .inr (.inl g0))) (hRef : RefAt k M w0 cs ds mem sl tx) (h1 : WP1 k (PS_learn k cs ds mem sl tx M) (PX_learn k cs ds mem sl tx M) xISE kk M1) (h2 : RS_learn k cs ds mem sl tx M1 bv M2) : LawOK k kk bv M2 := by
  have hc24 : cs.length ≤ 24 := hRef.2.1.1.1.1
  have hd8 : ds.length ≤ 8 := hRef.2.1.1.2.2
  have ht8 := hRef.tr8
  obtain ⟨h2, hfR⟩ := h2
  rcases h1 with ⟨hk, v9, M0, g, ⟨⟨q, hq, hd, hl, hv, hS⟩, hf⟩, hM, hg⟩ | ⟨hk, hx1⟩
  · subst hk
    rcases h2 with ⟨hA2, hR⟩ | ⟨q2, hq2, hd2, hl2, hv2, hR⟩
    · rcases hA2 with h | h | h
      · rw [hq] at h; cases h
      · exact absurd h hd
      · omega
    · obtain rfl : q2 = q := Option.some.inj (hq2.symm.trans hq)
      exact lk0 hS hM hg hfR hR (hv.trans hv2.symm)
  · subst hk
    obtain ⟨⟨_, hA⟩, hS, hf⟩ := hx1
    rcases h2 with ⟨hA2, hR⟩ | ⟨q2, hq2, hd2, hl2, hv2, hR⟩
    · exact lk1 (by decide) (by decide) hS F hf hfR hR
    · rcases hA with h | h | h
      · rw [hq2] at h; cases h
      · exact absurd h hd2
      · omega
def RS_undo (k : KX) (cs ds : List Nat) (mem : List SD) (sl : Nat → Option SD) (tx : List Nat) (M : Mem) : Int32 → Mem → Prop := fun r M' => ((mem = [] ∧ RefAt k M' 1 cs ds mem sl tx) ∨ (∃ (ini : List SD) (sd : SD), mem = ini ++ [sd] ∧ r = nI ini.length ∧ RefAt k M' 0 sd.1 (sNew sd.1 sd.2) ini sl tx)) ∧ FrR M M'
theorem wf_undo {k : KX} {cs ds : List Nat} {mem : List SD} {sl : Nat → Option SD} {tx : List Nat} {M M1 : Mem} {kk : Int32} (h1 : WP1 k (PS_undo k cs ds mem sl tx M) (PX_undo k cs ds mem sl tx M) xISE kk M1) : ∀ i, 93 ≤ i → i < 106 → M1 i = M i := WP1.fr (fun v M1 h => h.2) (fun E M1 h => h.2.2) h1
set_option maxHeartbeats 4000000 in
theorem mt_undo {k : KX} {cs ds : List Nat} {mem : List SD} {sl : Nat → Option SD} {tx : List Nat} {w0 : Nat} {M M1 M2 : Mem} {kk bv : Int32} {g0 : Nat → Int64} (F : M 106 = .inl (kJ k, 1, .inr (.inl g0))) (hRef : RefAt k M w0 cs ds mem sl tx) (h1 : WP1 k (PS_undo k cs ds mem sl tx M) (PX_undo k cs ds mem sl tx M) xISE kk M1) (h2 : RS_undo k cs ds mem sl tx M1 bv M2) : LawOK k kk bv M2 := by
  have hc24 : cs.length ≤ 24 := hRef.2.1.1.1.1
  have hd8 : ds.length ≤ 8 := hRef.2.1.1.2.2
  have ht8 := hRef.tr8
  obtain ⟨h2, hfR⟩ := h2
  rcases h1 with ⟨hk, v9, M0, g, ⟨⟨ini, sd, hm, hv, hS⟩, hf⟩, hM, hg⟩ | ⟨hk, hx1⟩
  · subst hk
    rcases h2 with ⟨hA2, hR⟩ | ⟨ini2, sd2, hm2, hv2, hR⟩
    · rw [hA2] at hm; simp at hm
    · obtain ⟨e1, e2⟩ := List.append_inj' (hm.symm.trans hm2) rfl
      obtain rfl := e1
      obtain rfl : sd = sd2 := by injection e2
      exact lk0 hS hM hg hfR hR (hv.trans hv2.symm)
  · subst hk
    obtain ⟨⟨_, hA⟩, hS, hf⟩ := hx1
    rcases h2 with ⟨hA2, hR⟩ | ⟨ini2, sd2, hm2, hv2, hR⟩
    · exact lk1 (by decide) (by decide) hS F hf hfR hR
    · rw [hA] at hm2; simp at hm2
def RS_value (k : KX) (cs ds : List Nat) (mem : List SD) (sl : Nat → Option SD) (tx : List Nat) (x : Int32) (M : Mem) : Int32 → Mem → Prop := fun r M' => ((inL x 8 = false ∧ RefAt k M' 1 cs ds mem sl tx) ∨ (∃ v, v < 8 ∧ x = nI v ∧ r = nI (if (tA (build cs ds).1).testBit v then (if (tT (build cs ds).1).testBit v then 1 else 0) else 2) ∧ RefAt k M' 0 cs ds mem sl tx)) ∧ FrR M M'
theorem wf_value {k : KX} {cs ds : List Nat} {mem : List SD} {sl : Nat → Option SD} {tx : List Nat} {x : Int32} {M M1 : Mem} {kk : Int32} (h1 : WP1 k (PS_value k cs ds mem sl tx x M) (PX_value k cs ds mem sl tx x M) xIOB kk M1) : ∀ i, 93 ≤ i → i < 106 → M1 i = M i := WP1.fr (fun v M1 h => h.2.2) (fun E M1 h => h.2.2) h1
set_option maxHeartbeats 4000000 in
theorem mt_value {k : KX} {cs ds : List Nat} {mem : List SD} {sl : Nat → Option SD} {tx : List Nat} {x : Int32} {w0 : Nat} {M M1 M2 : Mem} {kk bv : Int32} {g0 : Nat → Int64} (F : M 106 = .inl (kJ k, 1, .inr (.inl g0))) (hRef : RefAt k M w0 cs ds mem sl tx) (h1 : WP1 k (PS_value k cs ds mem sl tx x M) (PX_value k cs ds mem sl tx x M) xIOB kk M1) (h2 : RS_value k cs ds mem sl tx x M1 bv M2) : LawOK k kk bv M2 := by
  have hc24 : cs.length ≤ 24 := hRef.2.1.1.1.1
  have hd8 : ds.length ≤ 8 := hRef.2.1.1.2.2
  have ht8 := hRef.tr8
  obtain ⟨h2, hfR⟩ := h2
  rcases h1 with ⟨hk, v9, M0, g, ⟨⟨j, hj, hx, hv⟩, hS, hf⟩, hM, hg⟩ | ⟨hk, hx1⟩
  · subst hk
    rcases h2 with ⟨hA2, hR⟩ | ⟨j2, hj2, hx2, hv2, hR⟩
    · exact bf_t (inL_t hj hx (by omega)) hA2
    · obtain rfl := nI_u hx hx2 (by omega) (by omega)
      exact lk0 hS hM hg hfR hR (hv.trans hv2.symm)
  · subst hk
    obtain ⟨⟨_, hA⟩, hS, hf⟩ := hx1
    rcases h2 with ⟨hA2, hR⟩ | ⟨j2, hj2, hx2, hv2, hR⟩
    · exact lk1 (by decide) (by decide) hS F hf hfR hR
    · exact bf_t (inL_t hj2 hx2 (by omega)) hA
def RS_trailLiteral (k : KX) (cs ds : List Nat) (mem : List SD) (sl : Nat → Option SD) (tx : List Nat) (x : Int32) (M : Mem) : Int32 → Mem → Prop := fun r M' => ((inL x (build cs ds).1.length = false ∧ RefAt k M' 1 cs ds mem sl tx) ∨ (∃ j, j < (build cs ds).1.length ∧ x = nI j ∧ r = nI (2 * tOrd (build cs ds).1 j + (if (tT (build cs ds).1).testBit (tOrd (build cs ds).1 j) then 0 else 1)) ∧ RefAt k M' 0 cs ds mem sl tx)) ∧ FrR M M'
theorem wf_trailLiteral {k : KX} {cs ds : List Nat} {mem : List SD} {sl : Nat → Option SD} {tx : List Nat} {x : Int32} {M M1 : Mem} {kk : Int32} (h1 : WP1 k (PS_trailLiteral k cs ds mem sl tx x M) (PX_trailLiteral k cs ds mem sl tx x M) xIOB kk M1) : ∀ i, 93 ≤ i → i < 106 → M1 i = M i := WP1.fr (fun v M1 h => h.2.2) (fun E M1 h => h.2.2) h1
set_option maxHeartbeats 4000000 in
theorem mt_trailLiteral {k : KX} {cs ds : List Nat} {mem : List SD} {sl : Nat → Option SD} {tx : List Nat} {x : Int32} {w0 : Nat} {M M1 M2 : Mem} {kk bv : Int32} {g0 : Nat → Int64} (F : M 106 = .inl (kJ k, 1, .inr (.inl g0))) (hRef : RefAt k M w0 cs ds mem sl tx) (h1 : WP1 k (PS_trailLiteral k cs ds mem sl tx x M) (PX_trailLiteral k cs ds mem sl tx x M) xIOB kk M1) (h2 : RS_trailLiteral k cs ds mem sl tx x M1 bv M2) : LawOK k kk bv M2 := by
  have hc24 : cs.length ≤ 24 := hRef.2.1.1.1.1
  have hd8 : ds.length ≤ 8 := hRef.2.1.1.2.2
  have ht8 := hRef.tr8
  obtain ⟨h2, hfR⟩ := h2
  rcases h1 with ⟨hk, v9, M0, g, ⟨⟨j, hj, hx, hv⟩, hS, hf⟩, hM, hg⟩ | ⟨hk, hx1⟩
  · subst hk
    rcases h2 with ⟨hA2, hR⟩ | ⟨j2, hj2, hx2, hv2, hR⟩
    · exact bf_t (inL_t hj hx (by omega)) hA2
    · obtain rfl := nI_u hx hx2 (by omega) (by omega)
      exact lk0 hS hM hg hfR hR (hv.trans hv2.symm)
  · subst hk
    obtain ⟨⟨_, hA⟩, hS, hf⟩ := hx1
    rcases h2 with ⟨hA2, hR⟩ | ⟨j2, hj2, hx2, hv2, hR⟩
    · exact lk1 (by decide) (by decide) hS F hf hfR hR
    · exact bf_t (inL_t hj2 hx2 (by omega)) hA
def RS_reason (k : KX) (cs ds : List Nat) (mem : List SD) (sl : Nat → Option SD) (tx : List Nat) (x : Int32) (M : Mem) : Int32 → Mem → Prop := fun r M' => ((inL x 8 = false ∧ RefAt k M' 1 cs ds mem sl tx) ∨ (∃ v, v < 8 ∧ x = nI v ∧ r = oI (tRsn (build cs ds).1 v) ∧ RefAt k M' 0 cs ds mem sl tx)) ∧ FrR M M'
theorem wf_reason {k : KX} {cs ds : List Nat} {mem : List SD} {sl : Nat → Option SD} {tx : List Nat} {x : Int32} {M M1 : Mem} {kk : Int32} (h1 : WP1 k (PS_reason k cs ds mem sl tx x M) (PX_reason k cs ds mem sl tx x M) xIOB kk M1) : ∀ i, 93 ≤ i → i < 106 → M1 i = M i := WP1.fr (fun v M1 h => h.2.2) (fun E M1 h => h.2.2) h1
set_option maxHeartbeats 4000000 in
theorem mt_reason {k : KX} {cs ds : List Nat} {mem : List SD} {sl : Nat → Option SD} {tx : List Nat} {x : Int32} {w0 : Nat} {M M1 M2 : Mem} {kk bv : Int32} {g0 : Nat → Int64} (F : M 106 = .inl (kJ k, 1, .inr (.inl g0))) (hRef : RefAt k M w0 cs ds mem sl tx) (h1 : WP1 k (PS_reason k cs ds mem sl tx x M) (PX_reason k cs ds mem sl tx x M) xIOB kk M1) (h2 : RS_reason k cs ds mem sl tx x M1 bv M2) : LawOK k kk bv M2 := by
  have hc24 : cs.length ≤ 24 := hRef.2.1.1.1.1
  have hd8 : ds.length ≤ 8 := hRef.2.1.1.2.2
  have ht8 := hRef.tr8
  obtain ⟨h2, hfR⟩ := h2
  rcases h1 with ⟨hk, v9, M0, g, ⟨⟨j, hj, hx, hv⟩, hS, hf⟩, hM, hg⟩ | ⟨hk, hx1⟩
  · subst hk
    rcases h2 with ⟨hA2, hR⟩ | ⟨j2, hj2, hx2, hv2, hR⟩
    · exact bf_t (inL_t hj hx (by omega)) hA2
    · obtain rfl := nI_u hx hx2 (by omega) (by omega)
      exact lk0 hS hM hg hfR hR (hv.trans hv2.symm)
  · subst hk
    obtain ⟨⟨_, hA⟩, hS, hf⟩ := hx1
    rcases h2 with ⟨hA2, hR⟩ | ⟨j2, hj2, hx2, hv2, hR⟩
    · exact lk1 (by decide) (by decide) hS F hf hfR hR
    · exact bf_t (inL_t hj2 hx2 (by omega)) hA
def RS_learnedClause (k : KX) (cs ds : List Nat) (mem : List SD) (sl : Nat → Option SD) (tx : List Nat) (M : Mem) : Int32 → Mem → Prop := fun r M' => ((((build cs ds).2 = none ∨ ds.length = 0) ∧ RefAt k M' 1 cs ds mem sl tx) ∨ (∃ q, (build cs ds).2 = some q ∧ ds.length ≠ 0 ∧ r = nI (falseCl (build cs ds).1 (lrnVars cs (build cs ds).1 q)) ∧ RefAt k M' 0 cs ds mem sl tx)) ∧ FrR M M'
theorem wf_learnedClause {k : KX} {cs ds : List Nat} {mem : List SD} {sl : Nat → Option SD} {tx : List Nat} {M M1 : Mem} {kk : Int32} (h1 : WP1 k (PS_learnedClause k cs ds mem sl tx M) (PX_learnedClause k cs ds mem sl tx M) xISE kk M1) : ∀ i, 93 ≤ i → i < 106 → M1 i = M i := WP1.fr (fun v M1 h => h.2.2) (fun E M1 h => h.2.2) h1
set_option maxHeartbeats 4000000 in
theorem mt_learnedClause {k : KX} {cs ds : List Nat} {mem : List SD} {sl : Nat → Option SD} {tx : List Nat} {w0 : Nat} {M M1 M2 : Mem} {kk bv : Int32} {g0 : Nat → Int64} (F : M 106 = .inl (kJ k, 1, .inr (.inl g0))) (hRef : RefAt k M w0 cs ds mem sl tx) (h1 : WP1 k (PS_learnedClause k cs ds mem sl tx M) (PX_learnedClause k cs ds mem sl tx M) xISE kk M1) (h2 : RS_learnedClause k cs ds mem sl tx M1 bv M2) : LawOK k kk bv M2 := by
  have hc24 : cs.length ≤ 24 := hRef.2.1.1.1.1
  have hd8 : ds.length ≤ 8 := hRef.2.1.1.2.2
  have ht8 := hRef.tr8
  obtain ⟨h2, hfR⟩ := h2
  rcases h1 with ⟨hk, v9, M0, g, ⟨⟨q, hq, hd, hv⟩, hS, hf⟩, hM, hg⟩ | ⟨hk, hx1⟩
  · subst hk
    rcases h2 with ⟨hA2, hR⟩ | ⟨q2, hq2, hd2, hv2, hR⟩
    · rcases hA2 with h | h
      · rw [hq] at h; cases h
      · exact absurd h hd
    · obtain rfl : q2 = q := Option.some.inj (hq2.symm.trans hq)
      exact lk0 hS hM hg hfR hR (hv.trans hv2.symm)
  · subst hk
    obtain ⟨⟨_, hA⟩, hS, hf⟩ := hx1
    rcases h2 with ⟨hA2, hR⟩ | ⟨q2, hq2, hd2, hv2, hR⟩
    · exact lk1 (by decide) (by decide) hS F hf hfR hR
    · rcases hA with h | h
      · rw [hq2] at h; cases h
      · exact absurd h hd2
def RS_impliesClause (k : KX) (cs ds : List Nat) (mem : List SD) (sl : Nat → Option SD) (tx : List Nat) (p n : Int32) (M : Mem) : Int32 → Mem → Prop := fun r M' => ((isCl p n = false ∧ RefAt k M' 1 cs ds mem sl tx) ∨ (∃ p0 n0, p0 < 256 ∧ n0 < 256 ∧ p = nI p0 ∧ n = nI n0 ∧ p0 &&& n0 = 0 ∧ r = bI (allS cs (xClause p0 n0)) ∧ RefAt k M' 0 cs ds mem sl tx)) ∧ FrR M M'
theorem wf_impliesClause {k : KX} {cs ds : List Nat} {mem : List SD} {sl : Nat → Option SD} {tx : List Nat} {p n : Int32} {M M1 : Mem} {kk : Int32} (h1 : WP1 k (PS_impliesClause k cs ds mem sl tx p n M) (PX_impliesClause k cs ds mem sl tx p n M) xIAE kk M1) : ∀ i, 93 ≤ i → i < 106 → M1 i = M i := WP1.fr (fun v M1 h => h.2.2) (fun E M1 h => h.2.2) h1
set_option maxHeartbeats 4000000 in
theorem mt_impliesClause {k : KX} {cs ds : List Nat} {mem : List SD} {sl : Nat → Option SD} {tx : List Nat} {p n : Int32} {w0 : Nat} {M M1 M2 : Mem} {kk bv : Int32} {g0 : Nat → Int64} (F : M 106 = .inl (kJ k, 1, .inr (.inl g0))) (hRef : RefAt k M w0 cs ds mem sl tx) (h1 : WP1 k (PS_impliesClause k cs ds mem sl tx p n M) (PX_impliesClause k cs ds mem sl tx p n M) xIAE kk M1) (h2 : RS_impliesClause k cs ds mem sl tx p n M1 bv M2) : LawOK k kk bv M2 := by
  have hc24 : cs.length ≤ 24 := hRef.2.1.1.1.1
  have hd8 : ds.length ≤ 8 := hRef.2.1.1.2.2
  have ht8 := hRef.tr8
  obtain ⟨h2, hfR⟩ := h2
  rcases h1 with ⟨hk, v9, M0, g, ⟨⟨p0, n0, hp, hn, hxp, hxn, hpn, hv⟩, hS, hf⟩, hM, hg⟩ | ⟨hk, hx1⟩
  · subst hk
    rcases h2 with ⟨hA2, hR⟩ | ⟨p1, n1, hp1, hn1, hxp1, hxn1, hpn1, hv2, hR⟩
    · exact bf_t (isCl_t hp hn hxp hxn hpn) hA2
    · obtain rfl := nI_u hxp hxp1 (by omega) (by omega)
      obtain rfl := nI_u hxn hxn1 (by omega) (by omega)
      exact lk0 hS hM hg hfR hR (hv.trans hv2.symm)
  · subst hk
    obtain ⟨⟨_, hA⟩, hS, hf⟩ := hx1
    rcases h2 with ⟨hA2, hR⟩ | ⟨p1, n1, hp1, hn1, hxp1, hxn1, hpn1, hv2, hR⟩
    · exact lk1 (by decide) (by decide) hS F hf hfR hR
    · exact absurd (isCl_i.mp (isCl_t hp1 hn1 hxp1 hxn1 hpn1)) hA
def RS_impliesParity (k : KX) (cs ds : List Nat) (mem : List SD) (sl : Nat → Option SD) (tx : List Nat) (m b : Int32) (M : Mem) : Int32 → Mem → Prop := fun r M' => ((isSm m b = false ∧ RefAt k M' 1 cs ds mem sl tx) ∨ (∃ m0 b0, m0 < 256 ∧ b0 < 2 ∧ m = nI m0 ∧ b = nI b0 ∧ r = bI (allS cs (xParity m0 b0)) ∧ RefAt k M' 0 cs ds mem sl tx)) ∧ FrR M M'
theorem wf_impliesParity {k : KX} {cs ds : List Nat} {mem : List SD} {sl : Nat → Option SD} {tx : List Nat} {m b : Int32} {M M1 : Mem} {kk : Int32} (h1 : WP1 k (PS_impliesParity k cs ds mem sl tx m b M) (PX_impliesParity k cs ds mem sl tx m b M) xIAE kk M1) : ∀ i, 93 ≤ i → i < 106 → M1 i = M i := WP1.fr (fun v M1 h => h.2.2) (fun E M1 h => h.2.2) h1
set_option maxHeartbeats 4000000 in
theorem mt_impliesParity {k : KX} {cs ds : List Nat} {mem : List SD} {sl : Nat → Option SD} {tx : List Nat} {m b : Int32} {w0 : Nat} {M M1 M2 : Mem} {kk bv : Int32} {g0 : Nat → Int64} (F : M 106 = .inl (kJ k, 1, .inr (.inl g0))) (hRef : RefAt k M w0 cs ds mem sl tx) (h1 : WP1 k (PS_impliesParity k cs ds mem sl tx m b M) (PX_impliesParity k cs ds mem sl tx m b M) xIAE kk M1) (h2 : RS_impliesParity k cs ds mem sl tx m b M1 bv M2) : LawOK k kk bv M2 := by
  have hc24 : cs.length ≤ 24 := hRef.2.1.1.1.1
  have hd8 : ds.length ≤ 8 := hRef.2.1.1.2.2
  have ht8 := hRef.tr8
  obtain ⟨h2, hfR⟩ := h2
  rcases h1 with ⟨hk, v9, M0, g, ⟨⟨p0, n0, hp, hn, hxp, hxn, hv⟩, hS, hf⟩, hM, hg⟩ | ⟨hk, hx1⟩
  · subst hk
    rcases h2 with ⟨hA2, hR⟩ | ⟨p1, n1, hp1, hn1, hxp1, hxn1, hv2, hR⟩
    · exact bf_t (isSm_t hp hn hxp hxn) hA2
    · obtain rfl := nI_u hxp hxp1 (by omega) (by omega)
      obtain rfl := nI_u hxn hxn1 (by omega) (by omega)
      exact lk0 hS hM hg hfR hR (hv.trans hv2.symm)
  · subst hk
    obtain ⟨⟨_, hA⟩, hS, hf⟩ := hx1
    rcases h2 with ⟨hA2, hR⟩ | ⟨p1, n1, hp1, hn1, hxp1, hxn1, hv2, hR⟩
    · exact lk1 (by decide) (by decide) hS F hf hfR hR
    · exact absurd (isSm_i.mp (isSm_t hp1 hn1 hxp1 hxn1)) hA
def RS_eliminatedRow (k : KX) (cs ds : List Nat) (mem : List SD) (sl : Nat → Option SD) (tx : List Nat) (x : Int32) (M : Mem) : Int32 → Mem → Prop := fun r M' => (((elRun cs).2.2 = false ∧ RefAt k M' 1 cs ds mem sl tx) ∨ ((elRun cs).2.2 = true ∧ r = oI (rowF (elRun cs) x) ∧ RefAt k M' 0 cs ds mem sl tx)) ∧ FrR M M'
theorem wf_eliminatedRow {k : KX} {cs ds : List Nat} {mem : List SD} {sl : Nat → Option SD} {tx : List Nat} {x : Int32} {M M1 : Mem} {kk : Int32} (h1 : WP1 k (PS_eliminatedRow k cs ds mem sl tx x M) (PX_eliminatedRow k cs ds mem sl tx x M) xISE kk M1) : ∀ i, 93 ≤ i → i < 106 → M1 i = M i := WP1.fr (fun v M1 h => h.2.2) (fun E M1 h => h.2.2) h1
set_option maxHeartbeats 4000000 in
theorem mt_eliminatedRow {k : KX} {cs ds : List Nat} {mem : List SD} {sl : Nat → Option SD} {tx : List Nat} {x : Int32} {w0 : Nat} {M M1 M2 : Mem} {kk bv : Int32} {g0 : Nat → Int64} (F : M 106 = .inl (kJ k, 1, .inr (.inl g0))) (hRef : RefAt k M w0 cs ds mem sl tx) (h1 : WP1 k (PS_eliminatedRow k cs ds mem sl tx x M) (PX_eliminatedRow k cs ds mem sl tx x M) xISE kk M1) (h2 : RS_eliminatedRow k cs ds mem sl tx x M1 bv M2) : LawOK k kk bv M2 := by
  have hc24 : cs.length ≤ 24 := hRef.2.1.1.1.1
  have hd8 : ds.length ≤ 8 := hRef.2.1.1.2.2
  have ht8 := hRef.tr8
  obtain ⟨h2, hfR⟩ := h2
  rcases h1 with ⟨hk, v9, M0, g, ⟨⟨h0, hv⟩, hS, hf⟩, hM, hg⟩ | ⟨hk, hx1⟩
  · subst hk
    rcases h2 with ⟨hA2, hR⟩ | ⟨h02, hv2, hR⟩
    · exact bf_t h0 hA2
    · exact lk0 hS hM hg hfR hR (hv.trans hv2.symm)
  · subst hk
    obtain ⟨⟨_, hA⟩, hS, hf⟩ := hx1
    rcases h2 with ⟨hA2, hR⟩ | ⟨h02, hv2, hR⟩
    · exact lk1 (by decide) (by decide) hS F hf hfR hR
    · exact bf_t h02 hA
def RS_save (k : KX) (cs ds : List Nat) (mem : List SD) (sl : Nat → Option SD) (tx : List Nat) (x : Int32) (M : Mem) : Int32 → Mem → Prop := fun r M' => ((inL x 2 = false ∧ RefAt k M' 1 cs ds mem sl tx) ∨ (∃ j, j < 2 ∧ x = nI j ∧ r = nI cs.length ∧ RefAt k M' 0 cs ds mem (va_up sl j (some (cs, ds))) tx)) ∧ FrR M M'
theorem wf_save {k : KX} {cs ds : List Nat} {mem : List SD} {sl : Nat → Option SD} {tx : List Nat} {x : Int32} {M M1 : Mem} {kk : Int32} (h1 : WP1 k (PS_save k cs ds mem sl tx x M) (PX_save k cs ds mem sl tx x M) xIOB kk M1) : ∀ i, 93 ≤ i → i < 106 → M1 i = M i := WP1.fr (fun v M1 h => h.2) (fun E M1 h => h.2.2) h1
set_option maxHeartbeats 4000000 in
theorem mt_save {k : KX} {cs ds : List Nat} {mem : List SD} {sl : Nat → Option SD} {tx : List Nat} {x : Int32} {w0 : Nat} {M M1 M2 : Mem} {kk bv : Int32} {g0 : Nat → Int64} (F : M 106 = .inl (kJ k, 1, .inr (.inl g0))) (hRef : RefAt k M w0 cs ds mem sl tx) (h1 : WP1 k (PS_save k cs ds mem sl tx x M) (PX_save k cs ds mem sl tx x M) xIOB kk M1) (h2 : RS_save k cs ds mem sl tx x M1 bv M2) : LawOK k kk bv M2 := by
  have hc24 : cs.length ≤ 24 := hRef.2.1.1.1.1
  have hd8 : ds.length ≤ 8 := hRef.2.1.1.2.2
  have ht8 := hRef.tr8
  obtain ⟨h2, hfR⟩ := h2
  rcases h1 with ⟨hk, v9, M0, g, ⟨⟨j, hj, hx, hv, hS⟩, hf⟩, hM, hg⟩ | ⟨hk, hx1⟩
  · subst hk
    rcases h2 with ⟨hA2, hR⟩ | ⟨j2, hj2, hx2, hv2, hR⟩
    · exact bf_t (inL_t hj hx (by omega)) hA2
    · obtain rfl := nI_u hx hx2 (by omega) (by omega)
      exact lk0 hS hM hg hfR hR (hv.trans hv2.symm)
  · subst hk
    obtain ⟨⟨_, hA⟩, hS, hf⟩ := hx1
    rcases h2 with ⟨hA2, hR⟩ | ⟨j2, hj2, hx2, hv2, hR⟩
    · exact lk1 (by decide) (by decide) hS F hf hfR hR
    · exact bf_t (inL_t hj2 hx2 (by omega)) hA
def RS_restore (k : KX) (cs ds : List Nat) (mem : List SD) (sl : Nat → Option SD) (tx : List Nat) (x : Int32) (M : Mem) : Int32 → Mem → Prop := fun r M' => ((inL x 2 = false ∧ RefAt k M' 1 cs ds mem sl tx) ∨ (∃ j, j < 2 ∧ x = nI j ∧ sl j = none ∧ RefAt k M' 2 cs ds mem sl tx) ∨ (∃ (j : Nat) (sd : SD), j < 2 ∧ x = nI j ∧ sl j = some sd ∧ r = nI sd.1.length ∧ RefAt k M' 0 sd.1 (sNew sd.1 sd.2) ([]) sl tx)) ∧ FrR M M'
theorem wf_restore {k : KX} {cs ds : List Nat} {mem : List SD} {sl : Nat → Option SD} {tx : List Nat} {x : Int32} {M M1 : Mem} {kk : Int32} (h1 : WP2 k (PS_restore k cs ds mem sl tx x M) (PX_restore k cs ds mem sl tx x M) xIOB xISE kk M1) : ∀ i, 93 ≤ i → i < 106 → M1 i = M i := WP2.fr (fun v M1 h => h.2) (fun E M1 h => h.2.2) h1
set_option maxHeartbeats 4000000 in
theorem mt_restore {k : KX} {cs ds : List Nat} {mem : List SD} {sl : Nat → Option SD} {tx : List Nat} {x : Int32} {w0 : Nat} {M M1 M2 : Mem} {kk bv : Int32} {g0 : Nat → Int64} (F : M 106 = .inl (kJ k, 1, .inr (.inl g0))) (hRef : RefAt k M w0 cs ds mem sl tx) (h1 : WP2 k (PS_restore k cs ds mem sl tx x M) (PX_restore k cs ds mem sl tx x M) xIOB xISE kk M1) (h2 : RS_restore k cs ds mem sl tx x M1 bv M2) : LawOK k kk bv M2 := by
  have hc24 : cs.length ≤ 24 := hRef.2.1.1.1.1
  have hd8 : ds.length ≤ 8 := hRef.2.1.1.2.2
  have ht8 := hRef.tr8
  obtain ⟨h2, hfR⟩ := h2
  rcases h1 with ⟨hk, v9, M0, g, ⟨⟨j, sd, hj, hx, hs, hv, hS⟩, hf⟩, hM, hg⟩ | ⟨hk, hx1⟩ | ⟨hk, hx1⟩
  · subst hk
    rcases h2 with ⟨hA2, hR⟩ | ⟨j2, hj2, hx2, hs2, hR⟩ | ⟨j2, sd2, hj2, hx2, hs2, hv2, hR⟩
    · exact bf_t (inL_t hj hx (by decide)) hA2
    · obtain rfl := nI_u hx hx2 (by omega) (by omega)
      rw [hs] at hs2; cases hs2
    · obtain rfl := nI_u hx hx2 (by omega) (by omega)
      obtain rfl : sd2 = sd := Option.some.inj (hs2.symm.trans hs)
      exact lk0 hS hM hg hfR hR (hv.trans hv2.symm)
  · subst hk
    obtain ⟨hE, hS, hf⟩ := hx1
    have hA := hE.elim (fun h => h.2) (fun h => absurd h.1 xne2)
    rcases h2 with ⟨hA2, hR⟩ | ⟨j2, hj2, hx2, hs2, hR⟩ | ⟨j2, sd2, hj2, hx2, hs2, hv2, hR⟩
    · exact lk1 (by decide) (by decide) hS F hf hfR hR
    · exact bf_t (inL_t hj2 hx2 (by decide)) hA
    · exact bf_t (inL_t hj2 hx2 (by decide)) hA
  · subst hk
    obtain ⟨hE, hS, hf⟩ := hx1
    have hB := hE.elim (fun h => absurd h.1.symm xne2) (fun h => h.2)
    rcases h2 with ⟨hA2, hR⟩ | ⟨j2, hj2, hx2, hs2, hR⟩ | ⟨j2, sd2, hj2, hx2, hs2, hv2, hR⟩
    · obtain ⟨j, hj, hx, hs⟩ := hB
      exact bf_t (inL_t hj hx (by decide)) hA2
    · exact lk1 (by decide) (by decide) hS F hf hfR hR
    · obtain ⟨j, hj, hx, hs⟩ := hB
      obtain rfl := nI_u hx hx2 (by omega) (by omega)
      rw [hs] at hs2; cases hs2
