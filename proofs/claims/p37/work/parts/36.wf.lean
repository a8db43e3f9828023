/-! what each of the law's calls answers, and the state behind it -/
abbrev SS : Type := List Nat × List Nat × List SD × (Nat → Option SD) × List Nat
def At (k : KX) (M : Mem) (S : SS) : Prop := SolAt k M S.1 S.2.1 S.2.2.1 S.2.2.2.1 S.2.2.2.2
def un (x : Int32) : Nat := x.toNatClampNeg
theorem un_nI {n : Nat} (h : n < 2 ^ 31) : un (nI n) = n := nI_clamp h
def PA (k : KX) (M : Mem) (w : Int32 × SS) : Int32 → Mem → Prop := fun r M' => r = w.1 ∧ At k M' w.2 ∧ Fr 0 93 M M'
theorem PA.of {k : KX} {M M' : Mem} {w : Int32 × SS} {r r' : Int32} {S' : SS} (e : w = (r', S')) (h1 : r = r') (h2 : At k M' S') (h3 : Fr 0 93 M M') : PA k M w r M' := by
  subst e; exact ⟨h1, h2, h3⟩
theorem PA.mk {k : KX} {M M' : Mem} {w : Int32 × SS} {r r' : Int32} {a b tx : List Nat} {c : List SD} {d : Nat → Option SD} (e : w = (r', (a, b, c, d, tx))) (h1 : r = r') (h2 : SolAt k M' a b c d tx) (h3 : Fr 0 93 M M') : PA k M w r M' := by
  subst e; exact ⟨h1, h2, h3⟩
theorem At.vok {k : KX} {M : Mem} {S : SS} (h : At k M S) : vOK S.1 S.2.1 S.2.2.1 S.2.2.2.1 := h.2.2.2.2.2.2.2.2.2.2
theorem At.obj {k : KX} {M : Mem} {S : SS} (h : At k M S) : ∃ fs, M 0 = .inr (7, fs) := SolAt.obj h
theorem At.fr {k : KX} {M M' : Mem} {S : SS} (h : At k M S) (hf : ∀ i, i < 93 → M' i = M i) : At k M' S := SolAt.fr h hf
theorem At.len {k : KX} {M : Mem} {S : SS} (h : At k M S) : S.1.length ≤ 24 := h.vok.1.1.1
theorem At.dlen {k : KX} {M : Mem} {S : SS} (h : At k M S) : S.2.1.length ≤ 8 := h.vok.1.2.2
theorem At.N {k : KX} {M : Mem} {S : SS} (h : At k M S) : 93 ≤ kN k := h.1
abbrev sTr (S : SS) : List Ent := (build S.1 S.2.1).1
abbrev sCf (S : SS) : Option Nat := (build S.1 S.2.1).2
def actS (S : SS) (cs ds : List Nat) : SS := (cs, sNew cs ds, remF S.2.2.1 (S.1, S.2.1), S.2.2.2.1, S.2.2.2.2)
theorem inL_t {j m : Nat} (h : j < m) (hm : m < 2 ^ 31) : inL (nI j) m = true := by rw [inL_n (by omega) hm]; exact decide_eq_true h
theorem inR_t {j m : Nat} (h : j ≤ m) (hm : m < 2 ^ 31) : inR (nI j) m = true := by rw [inR_n (by omega) hm]; exact decide_eq_true h
noncomputable section
def W_append (S : SS) (c : Int32) : Int32 × SS := if inR c 255 = true then (if S.2.2.2.2.length < 90 then (nI (S.2.2.2.2.length + 1), (S.1, S.2.1, S.2.2.1, S.2.2.2.1, S.2.2.2.2 ++ [un c])) else (-103, S)) else (-102, S)
def W_loadText (S : SS) : Int32 × SS := if (rdText S.2.2.2.2).1 = none then (nI (rdText S.2.2.2.2).2.1.length, ((rdText S.2.2.2.2).2.1, [], [], (fun _ => none), S.2.2.2.2)) else (-103, S)
def W_parity (S : SS) (x : Int32) : Int32 × SS := (if inL x S.1.length = true then (if xPar (cAt S.1 (un x)) = true then nI 1 else nI 0) else -101, S)
def W_first (S : SS) (x : Int32) : Int32 × SS := (if inL x S.1.length = true then nI (xFirst (cAt S.1 (un x))) else -101, S)
def W_second (S : SS) (x : Int32) : Int32 × SS := (if inL x S.1.length = true then nI (xSecond (cAt S.1 (un x))) else -101, S)
def W_clause (S : SS) (p n : Int32) : Int32 × SS := if (inR p 255 = true ∧ inR n 255 = true ∧ p &&& n = 0) then (if S.1.length < 24 then (nI S.1.length, actS S (S.1 ++ [xClause (un p) (un n)]) S.2.1) else (-103, S)) else (-102, S)
def W_sumOfBits (S : SS) (m b : Int32) : Int32 × SS := if (inR m 255 = true ∧ inR b 1 = true) then (if S.1.length < 24 then (nI S.1.length, actS S (S.1 ++ [xParity (un m) (un b)]) S.2.1) else (-103, S)) else (-102, S)
def W_remove (S : SS) (x : Int32) : Int32 × SS := if inL x S.1.length = true then (nI (S.1.length - 1), actS S (S.1.eraseIdx (un x)) S.2.1) else (-101, S)
def W_resolve (S : SS) (x y w : Int32) : Int32 × SS := if (inL x S.1.length = true ∧ inL y S.1.length = true ∧ inL w 8 = true) then (if pB (rsOK S.1 (un x) (un y) (un w)) = true then (nI S.1.length, actS S (S.1 ++ [xClause (rsP S.1 (un x) (un y) (un w)) (rsN S.1 (un x) (un y) (un w))]) S.2.1) else (-103, S)) else (-101, S)
def smX (cs : List Nat) (i j : Nat) : Nat := xParity (xFirst (cAt cs i) ^^^ xFirst (cAt cs j)) (xSecond (cAt cs i) ^^^ xSecond (cAt cs j))
def W_sum (S : SS) (x y : Int32) : Int32 × SS := if (inL x S.1.length = true ∧ inL y S.1.length = true) then (if pB (smOK S.1 (un x) (un y)) = true then (nI S.1.length, actS S (S.1 ++ [smX S.1 (un x) (un y)]) S.2.1) else (-103, S)) else (-101, S)
def W_decide (S : SS) (x : Int32) : Int32 × SS := if inL x 16 = true then (if (sCf S = none ∧ (tA (sTr S)).testBit (un x / 2) = false) then (nI (build S.1 (S.2.1 ++ [un x])).1.length, actS S S.1 (S.2.1 ++ [un x])) else (-103, S)) else (-101, S)
def W_backtrack (S : SS) (x : Int32) : Int32 × SS := if inR x S.2.1.length = true then (nI (build S.1 (S.2.1.take (un x))).1.length, actS S S.1 (S.2.1.take (un x))) else (-102, S)
def lrnS (S : SS) (q : Nat) : Nat := lrnVars S.1 (sTr S) q
def W_learn (S : SS) : Int32 × SS := match sCf S with
  | none => (-103, S)
  | some q => if (S.2.1.length ≠ 0 ∧ S.1.length < 24) then (nI (bjLev (sTr S) (lrnS S q)), actS S (S.1 ++ [falseCl (sTr S) (lrnS S q)]) (S.2.1.take (bjLev (sTr S) (lrnS S q)))) else (-103, S)
def W_undo (S : SS) : Int32 × SS := match S.2.2.1.reverse with
  | [] => (-103, S)
  | sd :: r => (nI r.reverse.length, (sd.1, sNew sd.1 sd.2, r.reverse, S.2.2.2.1, S.2.2.2.2))
def W_value (S : SS) (x : Int32) : Int32 × SS := (if inL x 8 = true then nI (if (tA (sTr S)).testBit (un x) then (if (tT (sTr S)).testBit (un x) then 1 else 0) else 2) else -101, S)
def W_trail (S : SS) (x : Int32) : Int32 × SS := (if inL x (sTr S).length = true then nI (2 * tOrd (sTr S) (un x) + (if (tT (sTr S)).testBit (tOrd (sTr S) (un x)) then 0 else 1)) else -101, S)
def W_reason (S : SS) (x : Int32) : Int32 × SS := (if inL x 8 = true then oI (tRsn (sTr S) (un x)) else -101, S)
def W_learned (S : SS) : Int32 × SS := match sCf S with
  | none => (-103, S)
  | some q => (if S.2.1.length ≠ 0 then nI (falseCl (sTr S) (lrnS S q)) else -103, S)
def W_clauseHolds (S : SS) (p n : Int32) : Int32 × SS := (if (inR p 255 = true ∧ inR n 255 = true ∧ p &&& n = 0) then (if allS S.1 (xClause (un p) (un n)) = true then nI 1 else nI 0) else -102, S)
def W_parityHolds (S : SS) (m b : Int32) : Int32 × SS := (if (inR m 255 = true ∧ inR b 1 = true) then (if allS S.1 (xParity (un m) (un b)) = true then nI 1 else nI 0) else -102, S)
def W_row (S : SS) (x : Int32) : Int32 × SS := (if (elRun S.1).2.2 = true then oI (rowF (elRun S.1) x) else -103, S)
def W_save (S : SS) (x : Int32) : Int32 × SS := if inL x 2 = true then (nI S.1.length, (S.1, S.2.1, S.2.2.1, va_up S.2.2.2.1 (un x) (some (S.1, S.2.1)), S.2.2.2.2)) else (-101, S)
def W_restore (S : SS) (x : Int32) : Int32 × SS := if inL x 2 = true then (match S.2.2.2.1 (un x) with
  | some sd => (nI sd.1.length, (sd.1, sNew sd.1 sd.2, [], S.2.2.2.1, S.2.2.2.2))
  | none => (-103, S)) else (-101, S)
end
section WN
variable {k : KX} {M M' : Mem} {S : SS} {x y w p n c m b r : Int32} {E : String}
theorem n_append (h : (∃ n, n < 256 ∧ c = nI n ∧ S.2.2.2.2.length < 90 ∧ r = nI (S.2.2.2.2.length + 1) ∧ SolAt k M' S.1 S.2.1 S.2.2.1 S.2.2.2.1 (S.2.2.2.2 ++ [n])) ∧ Fr 0 93 M M') : PA k M (W_append S c) r M' := by
  obtain ⟨⟨n, h1, rfl, h2, rfl, h3⟩, h4⟩ := h
  refine PA.mk (by unfold W_append; rw [if_pos (inR_t (by omega) (by decide)), if_pos h2, un_nI (by omega)]) rfl h3 h4
theorem x_append (h : ((E = xIAE ∧ inR c 255 = false) ∨ (E = xISE ∧ inR c 255 = true ∧ 90 ≤ S.2.2.2.2.length)) ∧ SolAt k M' S.1 S.2.1 S.2.2.1 S.2.2.2.1 S.2.2.2.2 ∧ Fr 0 93 M M') : (E = xIAE ∧ PA k M (W_append S c) (-102) M') ∨ (E = xISE ∧ PA k M (W_append S c) (-103) M') := by
  obtain ⟨⟨e, h1⟩ | ⟨e, h1, h2⟩, h3, h4⟩ := h
  · exact Or.inl ⟨e, PA.of (by unfold W_append; rw [if_neg (by simp [h1])]) rfl h3 h4⟩
  · exact Or.inr ⟨e, PA.of (by unfold W_append; rw [if_pos h1, if_neg (by omega)]) rfl h3 h4⟩
theorem n_loadText (h : ((rdText S.2.2.2.2).1 = none ∧ r = nI (rdText S.2.2.2.2).2.1.length ∧ SolAt k M' ((rdText S.2.2.2.2).2.1) ([]) ([]) (fun _ => none) S.2.2.2.2) ∧ Fr 0 93 M M') : PA k M (W_loadText S) r M' := by
  obtain ⟨⟨h1, h2, h3⟩, h4⟩ := h
  exact PA.mk (by unfold W_loadText; rw [if_pos h1]) h2 h3 h4
theorem x_loadText (h : (E = xISE ∧ (rdText S.2.2.2.2).1 ≠ none) ∧ SolAt k M' S.1 S.2.1 S.2.2.1 S.2.2.2.1 S.2.2.2.2 ∧ Fr 0 93 M M') : E = xISE ∧ PA k M (W_loadText S) (-103) M' := by
  obtain ⟨⟨e, h1⟩, h3, h4⟩ := h
  exact ⟨e, PA.of (by unfold W_loadText; rw [if_neg h1]) rfl h3 h4⟩
theorem n_parity (hl : S.1.length ≤ 24) (h : ((∃ j, j < S.1.length ∧ x = nI j ∧ r = bI (xPar (cAt S.1 j)))) ∧ SolAt k M' S.1 S.2.1 S.2.2.1 S.2.2.2.1 S.2.2.2.2 ∧ Fr 0 93 M M') : (r = 0 → PA k M (W_parity S x) (nI 0) M') ∧ (¬ r = 0 → PA k M (W_parity S x) (nI 1) M') := by
  obtain ⟨⟨j, h1, rfl, rfl⟩, h3, h4⟩ := h
  have e : W_parity S (nI j) = (if xPar (cAt S.1 j) = true then nI 1 else nI 0, S) := by unfold W_parity; rw [if_pos (inL_t h1 (by omega)), un_nI (by omega)]
  refine ⟨fun q => ?_, fun q => ?_⟩
  · rw [bI_0] at q
    exact PA.of (by rw [e, q]; rfl) rfl h3 h4
  · rw [bI_0, Bool.not_eq_false] at q
    exact PA.of (by rw [e, q]; rfl) rfl h3 h4
theorem x_parity (h : (E = xIOB ∧ inL x S.1.length = false) ∧ SolAt k M' S.1 S.2.1 S.2.2.1 S.2.2.2.1 S.2.2.2.2 ∧ Fr 0 93 M M') : E = xIOB ∧ PA k M (W_parity S x) (-101) M' := by
  obtain ⟨⟨e, h1⟩, h3, h4⟩ := h
  exact ⟨e, PA.of (by unfold W_parity; rw [if_neg (by simp [h1])]) rfl h3 h4⟩
theorem n_first (hl : S.1.length ≤ 24) (h : ((∃ j, j < S.1.length ∧ x = nI j ∧ r = nI (xFirst (cAt S.1 j)))) ∧ SolAt k M' S.1 S.2.1 S.2.2.1 S.2.2.2.1 S.2.2.2.2 ∧ Fr 0 93 M M') : PA k M (W_first S x) r M' := by
  obtain ⟨⟨j, h1, rfl, rfl⟩, h3, h4⟩ := h
  exact PA.of (by unfold W_first; rw [if_pos (inL_t h1 (by omega)), un_nI (by omega)]) rfl h3 h4
theorem x_first (h : (E = xIOB ∧ inL x S.1.length = false) ∧ SolAt k M' S.1 S.2.1 S.2.2.1 S.2.2.2.1 S.2.2.2.2 ∧ Fr 0 93 M M') : E = xIOB ∧ PA k M (W_first S x) (-101) M' := by
  obtain ⟨⟨e, h1⟩, h3, h4⟩ := h
  exact ⟨e, PA.of (by unfold W_first; rw [if_neg (by simp [h1])]) rfl h3 h4⟩
theorem n_second (hl : S.1.length ≤ 24) (h : ((∃ j, j < S.1.length ∧ x = nI j ∧ r = nI (xSecond (cAt S.1 j)))) ∧ SolAt k M' S.1 S.2.1 S.2.2.1 S.2.2.2.1 S.2.2.2.2 ∧ Fr 0 93 M M') : PA k M (W_second S x) r M' := by
  obtain ⟨⟨j, h1, rfl, rfl⟩, h3, h4⟩ := h
  exact PA.of (by unfold W_second; rw [if_pos (inL_t h1 (by omega)), un_nI (by omega)]) rfl h3 h4
theorem x_second (h : (E = xIOB ∧ inL x S.1.length = false) ∧ SolAt k M' S.1 S.2.1 S.2.2.1 S.2.2.2.1 S.2.2.2.2 ∧ Fr 0 93 M M') : E = xIOB ∧ PA k M (W_second S x) (-101) M' := by
  obtain ⟨⟨e, h1⟩, h3, h4⟩ := h
  exact ⟨e, PA.of (by unfold W_second; rw [if_neg (by simp [h1])]) rfl h3 h4⟩
theorem n_clause (h : (∃ p0 n0, p0 < 256 ∧ n0 < 256 ∧ p = nI p0 ∧ n = nI n0 ∧ p0 &&& n0 = 0 ∧ S.1.length < 24 ∧ r = nI S.1.length ∧ SolAt k M' (S.1 ++ [xClause p0 n0]) (sNew (S.1 ++ [xClause p0 n0]) S.2.1) (remF S.2.2.1 (S.1, S.2.1)) S.2.2.2.1 S.2.2.2.2) ∧ Fr 0 93 M M') : PA k M (W_clause S p n) r M' := by
  obtain ⟨⟨p0, n0, h1, h2, rfl, rfl, h3, h4, rfl, h5⟩, h6⟩ := h
  refine PA.mk (by unfold W_clause; rw [if_pos ⟨inR_t (by omega) (by decide), inR_t (by omega) (by decide), by rw [w_and, h3]; rfl⟩, if_pos h4, un_nI (by omega), un_nI (by omega)]; rfl) rfl h5 h6
theorem x_clause (h : ((E = xIAE ∧ ¬ (inR p 255 = true ∧ inR n 255 = true ∧ p &&& n = 0)) ∨ (E = xISE ∧ (inR p 255 = true ∧ inR n 255 = true ∧ p &&& n = 0) ∧ 24 ≤ S.1.length)) ∧ SolAt k M' S.1 S.2.1 S.2.2.1 S.2.2.2.1 S.2.2.2.2 ∧ Fr 0 93 M M') : (E = xIAE ∧ PA k M (W_clause S p n) (-102) M') ∨ (E = xISE ∧ PA k M (W_clause S p n) (-103) M') := by
  obtain ⟨⟨e, h1⟩ | ⟨e, h1, h2⟩, h3, h4⟩ := h
  · exact Or.inl ⟨e, PA.of (by unfold W_clause; rw [if_neg h1]) rfl h3 h4⟩
  · exact Or.inr ⟨e, PA.of (by unfold W_clause; rw [if_pos h1, if_neg (by omega)]) rfl h3 h4⟩
theorem n_sumOfBits (h : (∃ m0 b0, m0 < 256 ∧ b0 < 2 ∧ m = nI m0 ∧ b = nI b0 ∧ S.1.length < 24 ∧ r = nI S.1.length ∧ SolAt k M' (S.1 ++ [xParity m0 b0]) (sNew (S.1 ++ [xParity m0 b0]) S.2.1) (remF S.2.2.1 (S.1, S.2.1)) S.2.2.2.1 S.2.2.2.2) ∧ Fr 0 93 M M') : PA k M (W_sumOfBits S m b) r M' := by
  obtain ⟨⟨p0, n0, h1, h2, rfl, rfl, h4, rfl, h5⟩, h6⟩ := h
  refine PA.mk (by unfold W_sumOfBits; rw [if_pos ⟨inR_t (by omega) (by decide), inR_t (by omega) (by decide)⟩, if_pos h4, un_nI (by omega), un_nI (by omega)]; rfl) rfl h5 h6
theorem x_sumOfBits (h : ((E = xIAE ∧ ¬ (inR m 255 = true ∧ inR b 1 = true)) ∨ (E = xISE ∧ (inR m 255 = true ∧ inR b 1 = true) ∧ 24 ≤ S.1.length)) ∧ SolAt k M' S.1 S.2.1 S.2.2.1 S.2.2.2.1 S.2.2.2.2 ∧ Fr 0 93 M M') : (E = xIAE ∧ PA k M (W_sumOfBits S m b) (-102) M') ∨ (E = xISE ∧ PA k M (W_sumOfBits S m b) (-103) M') := by
  obtain ⟨⟨e, h1⟩ | ⟨e, h1, h2⟩, h3, h4⟩ := h
  · exact Or.inl ⟨e, PA.of (by unfold W_sumOfBits; rw [if_neg h1]) rfl h3 h4⟩
  · exact Or.inr ⟨e, PA.of (by unfold W_sumOfBits; rw [if_pos h1, if_neg (by omega)]) rfl h3 h4⟩
theorem n_remove (hl : S.1.length ≤ 24) (h : (∃ j, j < S.1.length ∧ x = nI j ∧ r = nI (S.1.length - 1) ∧ SolAt k M' (S.1.eraseIdx j) (sNew (S.1.eraseIdx j) S.2.1) (remF S.2.2.1 (S.1, S.2.1)) S.2.2.2.1 S.2.2.2.2) ∧ Fr 0 93 M M') : PA k M (W_remove S x) r M' := by
  obtain ⟨⟨j, h1, rfl, rfl, h3⟩, h4⟩ := h
  exact PA.mk (by unfold W_remove; rw [if_pos (inL_t h1 (by omega)), un_nI (by omega)]; rfl) rfl h3 h4
theorem x_remove (h : (E = xIOB ∧ inL x S.1.length = false) ∧ SolAt k M' S.1 S.2.1 S.2.2.1 S.2.2.2.1 S.2.2.2.2 ∧ Fr 0 93 M M') : E = xIOB ∧ PA k M (W_remove S x) (-101) M' := by
  obtain ⟨⟨e, h1⟩, h3, h4⟩ := h
  exact ⟨e, PA.of (by unfold W_remove; rw [if_neg (by simp [h1])]) rfl h3 h4⟩
theorem n_resolve (hl : S.1.length ≤ 24) (h : (∃ i j v, i < S.1.length ∧ j < S.1.length ∧ v < 8 ∧ x = nI i ∧ y = nI j ∧ w = nI v ∧ rsOK S.1 i j v ∧ r = nI S.1.length ∧ SolAt k M' (S.1 ++ [xClause (rsP S.1 i j v) (rsN S.1 i j v)]) (sNew (S.1 ++ [xClause (rsP S.1 i j v) (rsN S.1 i j v)]) S.2.1) (remF S.2.2.1 (S.1, S.2.1)) S.2.2.2.1 S.2.2.2.2) ∧ Fr 0 93 M M') : PA k M (W_resolve S x y w) r M' := by
  obtain ⟨⟨i, j, v, h1, h2, h3, rfl, rfl, rfl, h4, rfl, h5⟩, h6⟩ := h
  refine PA.mk (by unfold W_resolve; rw [if_pos ⟨inL_t h1 (by omega), inL_t h2 (by omega), inL_t h3 (by decide)⟩, un_nI (by omega), un_nI (by omega), un_nI (by omega), if_pos (pB_t h4)]; rfl) rfl h5 h6
theorem x_resolve (hl : S.1.length ≤ 24) (h : ((E = xIOB ∧ ¬ (inL x S.1.length = true ∧ inL y S.1.length = true ∧ inL w 8 = true)) ∨ (E = xISE ∧ ∃ i j v, i < S.1.length ∧ j < S.1.length ∧ v < 8 ∧ x = nI i ∧ y = nI j ∧ w = nI v ∧ ¬ rsOK S.1 i j v)) ∧ SolAt k M' S.1 S.2.1 S.2.2.1 S.2.2.2.1 S.2.2.2.2 ∧ Fr 0 93 M M') : (E = xIOB ∧ PA k M (W_resolve S x y w) (-101) M') ∨ (E = xISE ∧ PA k M (W_resolve S x y w) (-103) M') := by
  obtain ⟨⟨e, h1⟩ | ⟨e, i, j, v, h1, h2, hv, rfl, rfl, rfl, h5⟩, h3, h4⟩ := h
  · exact Or.inl ⟨e, PA.of (by unfold W_resolve; rw [if_neg h1]) rfl h3 h4⟩
  · exact Or.inr ⟨e, PA.of (by unfold W_resolve; rw [if_pos ⟨inL_t h1 (by omega), inL_t h2 (by omega), inL_t hv (by decide)⟩, un_nI (by omega), un_nI (by omega), un_nI (by omega), if_neg (by rw [pB_f h5]; simp)]) rfl h3 h4⟩
theorem n_sum (hl : S.1.length ≤ 24) (h : (∃ i j, i < S.1.length ∧ j < S.1.length ∧ x = nI i ∧ y = nI j ∧ smOK S.1 i j ∧ r = nI S.1.length ∧ SolAt k M' (S.1 ++ [xParity (xFirst (cAt S.1 i) ^^^ xFirst (cAt S.1 j)) (xSecond (cAt S.1 i) ^^^ xSecond (cAt S.1 j))]) (sNew (S.1 ++ [xParity (xFirst (cAt S.1 i) ^^^ xFirst (cAt S.1 j)) (xSecond (cAt S.1 i) ^^^ xSecond (cAt S.1 j))]) S.2.1) (remF S.2.2.1 (S.1, S.2.1)) S.2.2.2.1 S.2.2.2.2) ∧ Fr 0 93 M M') : PA k M (W_sum S x y) r M' := by
  obtain ⟨⟨i, j, h1, h2, rfl, rfl, h4, rfl, h5⟩, h6⟩ := h
  refine PA.mk (by unfold W_sum; rw [if_pos ⟨inL_t h1 (by omega), inL_t h2 (by omega)⟩, un_nI (by omega), un_nI (by omega), if_pos (pB_t h4)]; rfl) rfl h5 h6
theorem x_sum (hl : S.1.length ≤ 24) (h : ((E = xIOB ∧ ¬ (inL x S.1.length = true ∧ inL y S.1.length = true)) ∨ (E = xISE ∧ ∃ i j, i < S.1.length ∧ j < S.1.length ∧ x = nI i ∧ y = nI j ∧ ¬ smOK S.1 i j)) ∧ SolAt k M' S.1 S.2.1 S.2.2.1 S.2.2.2.1 S.2.2.2.2 ∧ Fr 0 93 M M') : (E = xIOB ∧ PA k M (W_sum S x y) (-101) M') ∨ (E = xISE ∧ PA k M (W_sum S x y) (-103) M') := by
  obtain ⟨⟨e, h1⟩ | ⟨e, i, j, h1, h2, rfl, rfl, h5⟩, h3, h4⟩ := h
  · exact Or.inl ⟨e, PA.of (by unfold W_sum; rw [if_neg h1]) rfl h3 h4⟩
  · exact Or.inr ⟨e, PA.of (by unfold W_sum; rw [if_pos ⟨inL_t h1 (by omega), inL_t h2 (by omega)⟩, un_nI (by omega), un_nI (by omega), if_neg (by rw [pB_f h5]; simp)]) rfl h3 h4⟩
theorem n_decide (h : (∃ d, d < 16 ∧ x = nI d ∧ (build S.1 S.2.1).2 = none ∧ (tA (build S.1 S.2.1).1).testBit (d / 2) = false ∧ r = nI (build S.1 (S.2.1 ++ [d])).1.length ∧ SolAt k M' S.1 (sNew S.1 (S.2.1 ++ [d])) (remF S.2.2.1 (S.1, S.2.1)) S.2.2.2.1 S.2.2.2.2) ∧ Fr 0 93 M M') : PA k M (W_decide S x) r M' := by
  obtain ⟨⟨d, h1, rfl, h2, h3, rfl, h5⟩, h6⟩ := h
  refine PA.mk (by unfold W_decide; rw [if_pos (inL_t h1 (by decide)), un_nI (by omega), if_pos ⟨h2, h3⟩]; rfl) rfl h5 h6
theorem x_decide (h : ((E = xIOB ∧ inL x 16 = false) ∨ (E = xISE ∧ ∃ d, d < 16 ∧ x = nI d ∧ ((build S.1 S.2.1).2 ≠ none ∨ (tA (build S.1 S.2.1).1).testBit (d / 2) = true))) ∧ SolAt k M' S.1 S.2.1 S.2.2.1 S.2.2.2.1 S.2.2.2.2 ∧ Fr 0 93 M M') : (E = xIOB ∧ PA k M (W_decide S x) (-101) M') ∨ (E = xISE ∧ PA k M (W_decide S x) (-103) M') := by
  obtain ⟨⟨e, h1⟩ | ⟨e, d, h1, rfl, h5⟩, h3, h4⟩ := h
  · exact Or.inl ⟨e, PA.of (by unfold W_decide; rw [if_neg (by simp [h1])]) rfl h3 h4⟩
  · have hn : ¬ (sCf S = none ∧ (tA (sTr S)).testBit (d / 2) = false) := fun q => by
      rcases h5 with h5 | h5
      · exact h5 q.1
      · have := q.2
        rw [h5] at this; cases this
    exact Or.inr ⟨e, PA.of (by unfold W_decide; rw [if_pos (inL_t h1 (by decide)), un_nI (by omega), if_neg hn]) rfl h3 h4⟩
theorem n_backtrack (hl : S.2.1.length ≤ 8) (h : (∃ n, n ≤ S.2.1.length ∧ x = nI n ∧ r = nI (build S.1 (S.2.1.take n)).1.length ∧ SolAt k M' S.1 (sNew S.1 (S.2.1.take n)) (remF S.2.2.1 (S.1, S.2.1)) S.2.2.2.1 S.2.2.2.2) ∧ Fr 0 93 M M') : PA k M (W_backtrack S x) r M' := by
  obtain ⟨⟨n, h1, rfl, rfl, h5⟩, h6⟩ := h
  refine PA.mk (by unfold W_backtrack; rw [if_pos (inR_t h1 (by omega)), un_nI (by omega)]; rfl) rfl h5 h6
theorem x_backtrack (h : (E = xIAE ∧ inR x S.2.1.length = false) ∧ SolAt k M' S.1 S.2.1 S.2.2.1 S.2.2.2.1 S.2.2.2.2 ∧ Fr 0 93 M M') : E = xIAE ∧ PA k M (W_backtrack S x) (-102) M' := by
  obtain ⟨⟨e, h1⟩, h3, h4⟩ := h
  exact ⟨e, PA.of (by unfold W_backtrack; rw [if_neg (by simp [h1])]) rfl h3 h4⟩
theorem n_learn (h : (∃ q, (build S.1 S.2.1).2 = some q ∧ S.2.1.length ≠ 0 ∧ S.1.length < 24 ∧ r = nI (bjLev (build S.1 S.2.1).1 (lrnVars S.1 (build S.1 S.2.1).1 q)) ∧ SolAt k M' ((S.1 ++ [falseCl (build S.1 S.2.1).1 (lrnVars S.1 (build S.1 S.2.1).1 q)])) (sNew (S.1 ++ [falseCl (build S.1 S.2.1).1 (lrnVars S.1 (build S.1 S.2.1).1 q)]) (S.2.1.take (bjLev (build S.1 S.2.1).1 (lrnVars S.1 (build S.1 S.2.1).1 q)))) (remF S.2.2.1 (S.1, S.2.1)) S.2.2.2.1 S.2.2.2.2) ∧ Fr 0 93 M M') : PA k M (W_learn S) r M' := by
  obtain ⟨⟨q, h1, h2, h3, rfl, h5⟩, h6⟩ := h
  refine PA.mk (by unfold W_learn; rw [show sCf S = some q from h1]; simp only []; rw [if_pos ⟨h2, h3⟩]; rfl) rfl h5 h6
theorem x_learn (h : (E = xISE ∧ ((build S.1 S.2.1).2 = none ∨ S.2.1.length = 0 ∨ 24 ≤ S.1.length)) ∧ SolAt k M' S.1 S.2.1 S.2.2.1 S.2.2.2.1 S.2.2.2.2 ∧ Fr 0 93 M M') : E = xISE ∧ PA k M (W_learn S) (-103) M' := by
  obtain ⟨⟨e, h1⟩, h3, h4⟩ := h
  refine ⟨e, PA.of (w := W_learn S) ?_ rfl h3 h4⟩
  unfold W_learn
  cases hq : sCf S with
  | none => rfl
  | some q =>
    simp only []
    rw [if_neg (fun z => ?_)]
    rcases h1 with h1 | h1 | h1
    · rw [show sCf S = none from h1] at hq; cases hq
    · exact z.1 h1
    · have := z.2; omega
theorem n_undo (h : (∃ (ini : List SD) (sd : SD), S.2.2.1 = ini ++ [sd] ∧ r = nI ini.length ∧ SolAt k M' sd.1 (sNew sd.1 sd.2) ini S.2.2.2.1 S.2.2.2.2) ∧ Fr 0 93 M M') : PA k M (W_undo S) r M' := by
  obtain ⟨⟨ini, sd, h1, rfl, h5⟩, h6⟩ := h
  refine PA.mk (w := W_undo S) ?_ rfl h5 h6
  unfold W_undo
  rw [h1]
  simp
theorem x_undo (h : (E = xISE ∧ S.2.2.1 = []) ∧ SolAt k M' S.1 S.2.1 S.2.2.1 S.2.2.2.1 S.2.2.2.2 ∧ Fr 0 93 M M') : E = xISE ∧ PA k M (W_undo S) (-103) M' := by
  obtain ⟨⟨e, h1⟩, h3, h4⟩ := h
  exact ⟨e, PA.of (by unfold W_undo; rw [h1]; rfl) rfl h3 h4⟩
theorem n_value (h : ((∃ v, v < 8 ∧ x = nI v ∧ r = nI (if (tA (build S.1 S.2.1).1).testBit v then (if (tT (build S.1 S.2.1).1).testBit v then 1 else 0) else 2))) ∧ SolAt k M' S.1 S.2.1 S.2.2.1 S.2.2.2.1 S.2.2.2.2 ∧ Fr 0 93 M M') : PA k M (W_value S x) r M' := by
  obtain ⟨⟨j, h1, rfl, rfl⟩, h3, h4⟩ := h
  exact PA.of (by unfold W_value; rw [if_pos (inL_t h1 (by decide)), un_nI (by omega)]) rfl h3 h4
theorem x_value (h : (E = xIOB ∧ inL x 8 = false) ∧ SolAt k M' S.1 S.2.1 S.2.2.1 S.2.2.2.1 S.2.2.2.2 ∧ Fr 0 93 M M') : E = xIOB ∧ PA k M (W_value S x) (-101) M' := by
  obtain ⟨⟨e, h1⟩, h3, h4⟩ := h
  exact ⟨e, PA.of (by unfold W_value; rw [if_neg (by simp [h1])]) rfl h3 h4⟩
theorem n_trail (hl : (sTr S).length ≤ 8) (h0 : ((∃ j, j < (build S.1 S.2.1).1.length ∧ x = nI j ∧ r = nI (2 * tOrd (build S.1 S.2.1).1 j + (if (tT (build S.1 S.2.1).1).testBit (tOrd (build S.1 S.2.1).1 j) then 0 else 1)))) ∧ SolAt k M' S.1 S.2.1 S.2.2.1 S.2.2.2.1 S.2.2.2.2 ∧ Fr 0 93 M M') : PA k M (W_trail S x) r M' := by
  have hl : (build S.1 S.2.1).1.length ≤ 8 := hl
  obtain ⟨⟨j, h1, rfl, rfl⟩, h3, h4⟩ := h0
  exact PA.of (by unfold W_trail; rw [if_pos (inL_t h1 (by omega)), un_nI (by omega)]) rfl h3 h4
theorem x_trail (h : (E = xIOB ∧ inL x (build S.1 S.2.1).1.length = false) ∧ SolAt k M' S.1 S.2.1 S.2.2.1 S.2.2.2.1 S.2.2.2.2 ∧ Fr 0 93 M M') : E = xIOB ∧ PA k M (W_trail S x) (-101) M' := by
  obtain ⟨⟨e, h1⟩, h3, h4⟩ := h
  exact ⟨e, PA.of (by unfold W_trail; rw [if_neg (by simp [h1])]) rfl h3 h4⟩
theorem n_reason (h : ((∃ v, v < 8 ∧ x = nI v ∧ r = oI (tRsn (build S.1 S.2.1).1 v))) ∧ SolAt k M' S.1 S.2.1 S.2.2.1 S.2.2.2.1 S.2.2.2.2 ∧ Fr 0 93 M M') : PA k M (W_reason S x) r M' := by
  obtain ⟨⟨j, h1, rfl, rfl⟩, h3, h4⟩ := h
  exact PA.of (by unfold W_reason; rw [if_pos (inL_t h1 (by decide)), un_nI (by omega)]) rfl h3 h4
theorem x_reason (h : (E = xIOB ∧ inL x 8 = false) ∧ SolAt k M' S.1 S.2.1 S.2.2.1 S.2.2.2.1 S.2.2.2.2 ∧ Fr 0 93 M M') : E = xIOB ∧ PA k M (W_reason S x) (-101) M' := by
  obtain ⟨⟨e, h1⟩, h3, h4⟩ := h
  exact ⟨e, PA.of (by unfold W_reason; rw [if_neg (by simp [h1])]) rfl h3 h4⟩
theorem n_learned (h : ((∃ q, (build S.1 S.2.1).2 = some q ∧ S.2.1.length ≠ 0 ∧ r = nI (falseCl (build S.1 S.2.1).1 (lrnVars S.1 (build S.1 S.2.1).1 q)))) ∧ SolAt k M' S.1 S.2.1 S.2.2.1 S.2.2.2.1 S.2.2.2.2 ∧ Fr 0 93 M M') : PA k M (W_learned S) r M' := by
  obtain ⟨⟨q, h1, h2, rfl⟩, h5, h6⟩ := h
  refine PA.of (by unfold W_learned; rw [show sCf S = some q from h1]; simp only []; rw [if_pos h2]; rfl) rfl h5 h6
theorem x_learned (h : (E = xISE ∧ ((build S.1 S.2.1).2 = none ∨ S.2.1.length = 0)) ∧ SolAt k M' S.1 S.2.1 S.2.2.1 S.2.2.2.1 S.2.2.2.2 ∧ Fr 0 93 M M') : E = xISE ∧ PA k M (W_learned S) (-103) M' := by
  obtain ⟨⟨e, h1⟩, h3, h4⟩ := h
  refine ⟨e, PA.of (w := W_learned S) ?_ rfl h3 h4⟩
  unfold W_learned
  cases hq : sCf S with
  | none => rfl
  | some q =>
    simp only []
    rw [if_neg (fun z => ?_)]
    rcases h1 with h1 | h1
    · rw [show sCf S = none from h1] at hq; cases hq
    · exact z h1
theorem n_clauseHolds (h : ((∃ p0 n0, p0 < 256 ∧ n0 < 256 ∧ p = nI p0 ∧ n = nI n0 ∧ p0 &&& n0 = 0 ∧ r = bI (allS S.1 (xClause p0 n0)))) ∧ SolAt k M' S.1 S.2.1 S.2.2.1 S.2.2.2.1 S.2.2.2.2 ∧ Fr 0 93 M M') : (r = 0 → PA k M (W_clauseHolds S p n) (nI 0) M') ∧ (¬ r = 0 → PA k M (W_clauseHolds S p n) (nI 1) M') := by
  obtain ⟨⟨p0, n0, h1, h2, rfl, rfl, h3, rfl⟩, h5, h6⟩ := h
  have e : W_clauseHolds S (nI p0) (nI n0) = (if allS S.1 (xClause p0 n0) = true then nI 1 else nI 0, S) := by unfold W_clauseHolds; rw [if_pos ⟨inR_t (by omega) (by decide), inR_t (by omega) (by decide), by rw [w_and, h3]; rfl⟩, un_nI (by omega), un_nI (by omega)]
  refine ⟨fun q => ?_, fun q => ?_⟩
  · rw [bI_0] at q
    exact PA.of (by rw [e, q]; rfl) rfl h5 h6
  · rw [bI_0, Bool.not_eq_false] at q
    exact PA.of (by rw [e, q]; rfl) rfl h5 h6
theorem x_clauseHolds (h : (E = xIAE ∧ ¬ (inR p 255 = true ∧ inR n 255 = true ∧ p &&& n = 0)) ∧ SolAt k M' S.1 S.2.1 S.2.2.1 S.2.2.2.1 S.2.2.2.2 ∧ Fr 0 93 M M') : E = xIAE ∧ PA k M (W_clauseHolds S p n) (-102) M' := by
  obtain ⟨⟨e, h1⟩, h3, h4⟩ := h
  exact ⟨e, PA.of (by unfold W_clauseHolds; rw [if_neg h1]) rfl h3 h4⟩
theorem n_parityHolds (h : ((∃ m0 b0, m0 < 256 ∧ b0 < 2 ∧ m = nI m0 ∧ b = nI b0 ∧ r = bI (allS S.1 (xParity m0 b0)))) ∧ SolAt k M' S.1 S.2.1 S.2.2.1 S.2.2.2.1 S.2.2.2.2 ∧ Fr 0 93 M M') : (r = 0 → PA k M (W_parityHolds S m b) (nI 0) M') ∧ (¬ r = 0 → PA k M (W_parityHolds S m b) (nI 1) M') := by
  obtain ⟨⟨p0, n0, h1, h2, rfl, rfl, rfl⟩, h5, h6⟩ := h
  have e : W_parityHolds S (nI p0) (nI n0) = (if allS S.1 (xParity p0 n0) = true then nI 1 else nI 0, S) := by unfold W_parityHolds; rw [if_pos ⟨inR_t (by omega) (by decide), inR_t (by omega) (by decide)⟩, un_nI (by omega), un_nI (by omega)]
  refine ⟨fun q => ?_, fun q => ?_⟩
  · rw [bI_0] at q
    exact PA.of (by rw [e, q]; rfl) rfl h5 h6
  · rw [bI_0, Bool.not_eq_false] at q
    exact PA.of (by rw [e, q]; rfl) rfl h5 h6
theorem x_parityHolds (h : (E = xIAE ∧ ¬ (inR m 255 = true ∧ inR b 1 = true)) ∧ SolAt k M' S.1 S.2.1 S.2.2.1 S.2.2.2.1 S.2.2.2.2 ∧ Fr 0 93 M M') : E = xIAE ∧ PA k M (W_parityHolds S m b) (-102) M' := by
  obtain ⟨⟨e, h1⟩, h3, h4⟩ := h
  exact ⟨e, PA.of (by unfold W_parityHolds; rw [if_neg h1]) rfl h3 h4⟩
theorem n_row (h : ((elRun S.1).2.2 = true ∧ r = oI (rowF (elRun S.1) x)) ∧ SolAt k M' S.1 S.2.1 S.2.2.1 S.2.2.2.1 S.2.2.2.2 ∧ Fr 0 93 M M') : PA k M (W_row S x) r M' := by
  obtain ⟨⟨h1, rfl⟩, h3, h4⟩ := h
  exact PA.of (by unfold W_row; rw [if_pos h1]) rfl h3 h4
theorem x_row (h : (E = xISE ∧ (elRun S.1).2.2 = false) ∧ SolAt k M' S.1 S.2.1 S.2.2.1 S.2.2.2.1 S.2.2.2.2 ∧ Fr 0 93 M M') : E = xISE ∧ PA k M (W_row S x) (-103) M' := by
  obtain ⟨⟨e, h1⟩, h3, h4⟩ := h
  exact ⟨e, PA.of (by unfold W_row; rw [if_neg (by simp [h1])]) rfl h3 h4⟩
theorem n_save (h : (∃ j, j < 2 ∧ x = nI j ∧ r = nI S.1.length ∧ SolAt k M' S.1 S.2.1 S.2.2.1 (va_up S.2.2.2.1 j (some (S.1, S.2.1))) S.2.2.2.2) ∧ Fr 0 93 M M') : PA k M (W_save S x) r M' := by
  obtain ⟨⟨j, h1, rfl, rfl, h3⟩, h4⟩ := h
  exact PA.mk (by unfold W_save; rw [if_pos (inL_t h1 (by decide)), un_nI (by omega)]) rfl h3 h4
theorem x_save (h : (E = xIOB ∧ inL x 2 = false) ∧ SolAt k M' S.1 S.2.1 S.2.2.1 S.2.2.2.1 S.2.2.2.2 ∧ Fr 0 93 M M') : E = xIOB ∧ PA k M (W_save S x) (-101) M' := by
  obtain ⟨⟨e, h1⟩, h3, h4⟩ := h
  exact ⟨e, PA.of (by unfold W_save; rw [if_neg (by simp [h1])]) rfl h3 h4⟩
theorem n_restore (h : (∃ (j : Nat) (sd : SD), j < 2 ∧ x = nI j ∧ S.2.2.2.1 j = some sd ∧ r = nI sd.1.length ∧ SolAt k M' sd.1 (sNew sd.1 sd.2) ([]) S.2.2.2.1 S.2.2.2.2) ∧ Fr 0 93 M M') : PA k M (W_restore S x) r M' := by
  obtain ⟨⟨j, sd, h1, rfl, h2, rfl, h3⟩, h4⟩ := h
  exact PA.mk (by unfold W_restore; rw [if_pos (inL_t h1 (by decide)), un_nI (by omega), h2]) rfl h3 h4
theorem x_restore (h : ((E = xIOB ∧ inL x 2 = false) ∨ (E = xISE ∧ ∃ j, j < 2 ∧ x = nI j ∧ S.2.2.2.1 j = none)) ∧ SolAt k M' S.1 S.2.1 S.2.2.1 S.2.2.2.1 S.2.2.2.2 ∧ Fr 0 93 M M') : (E = xIOB ∧ PA k M (W_restore S x) (-101) M') ∨ (E = xISE ∧ PA k M (W_restore S x) (-103) M') := by
  obtain ⟨⟨e, h1⟩ | ⟨e, j, h1, rfl, h2⟩, h3, h4⟩ := h
  · exact Or.inl ⟨e, PA.of (by unfold W_restore; rw [if_neg (by simp [h1])]) rfl h3 h4⟩
  · exact Or.inr ⟨e, PA.of (by unfold W_restore; rw [if_pos (inL_t h1 (by decide)), un_nI (by omega), h2]) rfl h3 h4⟩
end WN
