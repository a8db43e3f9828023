/-! what 'built' meets -/
def kag (k k' : KX) : Prop := kI k' = kI k ∧ kZ k' = kZ k ∧ kS k' = kS k ∧ 93 ≤ kN k' ∧ ∀ i, i < 93 → ad k' i = ad k i
theorem kag.ren {k k' : KX} {M M' : Mem} {b n : Nat} (E : kag k k') (hf : ∀ i, i < 93 → M' i = M i) (h : b + n ≤ 93) : kren k k' M M' b b n :=
  ⟨by have := E.2.2.2.1; omega, E.1, fun i hi => E.2.2.2.2 _ (by omega), fun i hi => hf _ (by omega)⟩
theorem SolAt.ag {k k' : KX} {M M' : Mem} {cs ds : List Nat} {mem : List SD} {sl : Nat → Option SD} {tx : List Nat} (h : SolAt k M cs ds mem sl tx) (E : kag k k') (hf : ∀ i, i < 93 → M' i = M i) : SolAt k' M' cs ds mem sl tx := by
  obtain ⟨h1, F0, ⟨t1, t2, s, f, ⟨t3, t4, t5⟩, t6, t7⟩, h3, h4, ⟨m1, m2, p, g, g2, fl, c, c2, hp, hi, G0, G1, G2, G3, hg, hc, hg2, hs⟩, ⟨o1, st, fo, o2, o3, o4⟩, ⟨e1, r, n, b, e2, e3⟩, ⟨cs2, ds2, h8⟩, ⟨tr2, cf2, h9⟩, h10⟩ := h
  have hN := E.2.2.2.1
  have ha := E.2.2.2.2
  have hI := E.1
  have hZ := E.2.1
  have hS := E.2.2.1
  refine ⟨hN, ?_, ⟨t1, t2, s, f, ⟨by omega, ?_, t5.ren (E.ren hf (by decide))⟩, ?_, t7⟩, h3.ren (E.ren hf (by decide)), h4.ren (E.ren hf (by decide)), ⟨hN, m2, p, g, g2, fl, c, c2, hp, hi, ?_, ?_, ?_, ?_, fun j hj => ⟨?_, (hg j hj).2.ren (E.ren hf (by have := hp j hj; omega))⟩, hc, fun j hj => ⟨?_, (hg2 j hj).2.ren (E.ren hf (by omega))⟩, hs⟩, ⟨by omega, st, fo, ?_, ?_, o4⟩, ⟨by omega, r, n, b, ?_, ?_⟩, ⟨cs2, ds2, h8.ren (E.ren hf (by decide))⟩, ⟨tr2, cf2, h9.ren (E.ren hf (by decide))⟩, h10⟩
  · rw [hf 0 (by decide), F0, ha 1 (by decide), ha 5 (by decide), ha 9 (by decide), ha 13 (by decide), ha 17 (by decide), ha 19 (by decide), ha 21 (by decide), ha 25 (by decide)]
  · rw [hf 1 (by decide), t4, ha 2 (by decide), ha 3 (by decide)]
  · rw [hf 2 (by decide), t6, hI]
  · rw [hf 13 (by decide), G0, ha 14 (by decide), ha 15 (by decide), ha 16 (by decide)]
  · rw [hf 14 (by decide), G1, hS]
  · rw [hf 15 (by decide), G2, hS]
  · rw [hf 16 (by decide), G3, hZ]
  · rw [(hg j hj).1, ha _ (by have := hp j hj; omega)]
  · rw [(hg2 j hj).1, ha _ (by omega)]
  · rw [hf 17 (by decide), o2, ha 18 (by decide)]
  · rw [hf 18 (by decide), o3, hI]
  · rw [hf 19 (by decide), e2, ha 20 (by decide)]
  · rw [hf 20 (by decide), e3, hI]
theorem At.ext {k k' : KX} {M M' : Mem} {S : SS} (h : At k M S) (E : kext k k') (hf : ∀ i, i < 93 → M' i = M i) : At k' M' S :=
  SolAt.ag h ⟨E.I, E.Z, E.S, Nat.le_trans h.1 E.2.2.1, fun i hi => E.at (Nat.lt_of_lt_of_le hi h.1)⟩ hf
theorem At.back {k k' : KX} {M M' : Mem} {S : SS} (h : At k' M S) (E : kext k k') (hN : 93 ≤ kN k) (hf : ∀ i, i < 93 → M' i = M i) : At k M' S :=
  SolAt.ag h ⟨E.I.symm, E.Z.symm, E.S.symm, hN, fun i hi => (E.at (Nat.lt_of_lt_of_le hi hN)).symm⟩ hf
def FB (M Mc : Mem) : Prop := ∀ i, 93 ≤ i → i < 186 → Mc i = M i
theorem FB.rf {M : Mem} : FB M M := fun _ _ _ => rfl
theorem FB.tr {M Mc M1 : Mem} (h : FB M Mc) (g : Fr 0 93 Mc M1) : FB M M1 := fun i h1 h2 => (g i (Or.inr (by omega))).trans (h i h1 h2)
theorem FB.st {M Mc M1 : Mem} {ix : Nat} {e : va_E} (h : FB M Mc) (hM : M1 = mup Mc ix e) (hx : 186 ≤ ix) : FB M M1 := fun i h1 h2 => by rw [hM, mup_n (by omega)]; exact h i h1 h2
def rM (M Mc : Mem) : Mem := fun i => if i < 186 then Mc i else M i
theorem built_end {k0 k : KX} {M Mc : Mem} {S : SS} (E : kext k0 k) (hN0 : kN k0 = 186) (hA : At k Mc S) (hF : FB M Mc) : At k0 (rM M Mc) S ∧ Fr 0 93 M (rM M Mc) := by
  refine ⟨hA.back E (by omega) (fun i hi => if_pos (by omega)), fun i hi => ?_⟩
  show (if i < 186 then Mc i else M i) = M i
  split
  · exact hF i (by omega) (by assumption)
  · rfl
theorem v_iretH {C : CT} {k k0 : KX} {cc : ByteArray} {own : String} {nL : Nat} {z : Nat × Nat} {M M2 : Mem} {pc : Nat} {lv : List (Nat × Value)} {R : Room} {post : Option Value → Mem → Prop} {ty : FieldType} {v : Int32} (X : OKc C k cc own nL (some ty)) (X0 : OKc C k0 cc own nL (some ty)) (E : kext k0 k) (rq : RQ C k0 R post) (hM : ∀ i, i < kN k0 → M2 i = M i) (hz : z.1 ≤ R.cells ∧ z.2 ≤ R.slots) (hn : narrow ty (.int v) = .int v) (d : decode cc pc = .ok (.ireturn, 1)) (h : post (some (.int v)) M2) : V C k nL z M pc lv [.int v] := by
  intro H locs ls hP hS hl
  refine W.widen hz.1 hz.2 (rq.2 _ _ _ ?_)
  rw [rq.1] at hS
  have hP0 : va_P (kD k0) vwCl (kws k0 M2) H := by
    intro j q hq
    obtain ⟨hj, rfl⟩ := kws_in hq
    have h1 := hP j (ad k j, M j) (kws_at k M (Nat.lt_of_lt_of_le hj E.2.2.1))
    rw [E.at hj, ← hM j hj] at h1
    have e : kD k = kD k0 := E.1
    rw [e] at h1
    exact h1
  exact W.zret X.x X.b X.r hn (fun t ht hW => ⟨⟨_, M2, rfl, h, by rw [ht]; exact hP0, va_K.moved hW.alike X0.K, X0.nw.warm hW, X0.inj⟩, hS.F ht⟩) hS.2.2 d X.lk
/-! the rows that it keeps -/
def xKind (x : Nat) : Nat := if xPar x = true then 1 else 0
theorem kind_t {x : Nat} (h : xPar x = true) : xKind x = 1 := if_pos h
theorem kind_f {x : Nat} (h : xPar x = false) : xKind x = 0 := if_neg (by rw [h]; simp)
theorem kind_ne {x : Nat} (h : xKind x ≠ 0) : xPar x = true := by
  cases hp : xPar x with
  | true => rfl
  | false => exact absurd (kind_f hp) h
theorem kind_0 {x : Nat} (h : xKind x = 0) : xPar x = false := by
  cases hp : xPar x with
  | false => rfl
  | true => rw [kind_t hp] at h; cases h
theorem kind_lt {x : Nat} : xKind x < 2 := by unfold xKind; split <;> decide
theorem up_ext {f F : Nat → Nat} {i x : Nat} (h : ∀ j, j < i → f j = F j) (hx : x = F i) : ∀ j, j < i + 1 → va_up f i x j = F j := by
  intro j hj
  by_cases e : j = i
  · subst e; rw [up_s]; exact hx
  · rw [up_n _ _ e]; exact h j (by omega)
section BT
variable {S : SS} {i v : Nat}
theorem e_kind (hl : S.1.length ≤ 24) (h : i < S.1.length) : W_parity S (nI i) = (nI (xKind (cAt S.1 i)), S) := by
  rw [e_parity hl h]; unfold xKind; split <;> rfl
theorem e_rowT (hc : csOK S.1) (h : (elRun S.1).2.2 = true) (hi : i < (elRun S.1).2.1) : W_row S (nI i) = (nI (elLine S.1 i), S) := by
  obtain ⟨t, t1, t2, t3, t4, t5⟩ := el_row hc hi
  unfold W_row
  rw [if_pos h, t3, t4]; rfl
end BT
/-! truth of all, of the parities, of the core, constraint by constraint -/
def aF (cs : List Nat) (a : Nat) : Nat → Bool
  | 0 => true
  | i + 1 => aF cs a i && !xViol (cAt cs i) a
def cF (cs : List Nat) (co : Option Nat) (a : Nat) : Nat → Bool
  | 0 => true
  | i + 1 => cF cs co a i && (!xViol (cAt cs i) a || (decide (co = none) || !((co.getD 0).testBit i)))
section BF
variable {cs : List Nat} {co : Option Nat} {a i c j : Nat}
theorem aF_f (h : aF cs a i = false) : aF cs a (i + 1) = false := by show (aF cs a i && _) = false; rw [h]; rfl
theorem aF_t (h : aF cs a i = true) (hv : (!xViol (cAt cs i) a) = true) : aF cs a (i + 1) = true := by show (aF cs a i && _) = true; rw [h, hv]; rfl
theorem aF_n (h : aF cs a i = true) (hv : (!xViol (cAt cs i) a) = false) : aF cs a (i + 1) = false := by show (aF cs a i && _) = false; rw [h, hv]; rfl
theorem pF_f (h : pF cs a i = false) : pF cs a (i + 1) = false := by show (pF cs a i && _) = false; rw [h]; rfl
theorem pF_v (h : pF cs a i = true) (hv : (!xViol (cAt cs i) a) = true) : pF cs a (i + 1) = true := by show (pF cs a i && (_ || _)) = true; rw [h, hv]; rfl
theorem pF_k0 (h : pF cs a i = true) (hk : xKind (cAt cs i) = 0) : pF cs a (i + 1) = true := by show (pF cs a i && (_ || !xPar (cAt cs i))) = true; rw [h, kind_0 hk]; simp
theorem pF_k1 (h : pF cs a i = true) (hv : (!xViol (cAt cs i) a) = false) (hk : xKind (cAt cs i) ≠ 0) : pF cs a (i + 1) = false := by show (pF cs a i && (_ || !xPar (cAt cs i))) = false; rw [h, hv, kind_ne hk]; rfl
theorem cF_f (h : cF cs co a i = false) : cF cs co a (i + 1) = false := by show (cF cs co a i && _) = false; rw [h]; rfl
theorem cF_v (h : cF cs co a i = true) (hv : (!xViol (cAt cs i) a) = true) : cF cs co a (i + 1) = true := by show (cF cs co a i && (_ || _)) = true; rw [h, hv]; rfl
theorem cF_n (h : cF cs co a i = true) (hn : co = none) : cF cs co a (i + 1) = true := by show (cF cs co a i && (_ || (decide (co = none) || _))) = true; rw [h, decide_eq_true hn]; simp
theorem tb_of0 {c i : Nat} (h : c >>> i &&& 1 = 0) : c.testBit i = false := tb_0 (by rw [h]; decide)
theorem tb_of1 {c i : Nat} (h : c >>> i &&& 1 ≠ 0) : c.testBit i = true := by
  cases e : c.testBit i with
  | true => rfl
  | false => rw [tb_and1, e] at h; exact absurd rfl h
theorem cF_0 (h : cF cs co a i = true) (hc : co = some c) (hb : c >>> i &&& 1 = 0) : cF cs co a (i + 1) = true := by
  show (cF cs co a i && (_ || (decide (co = none) || !((co.getD 0).testBit i)))) = true
  rw [h, hc, show (some c).getD 0 = c from rfl, tb_of0 hb]; simp
theorem cF_1 (h : cF cs co a i = true) (hv : (!xViol (cAt cs i) a) = false) (hc : co = some c) (hb : c >>> i &&& 1 ≠ 0) : cF cs co a (i + 1) = false := by
  show (cF cs co a i && (_ || (decide (co = none) || !((co.getD 0).testBit i)))) = false
  rw [h, hv, hc, show (some c).getD 0 = c from rfl, tb_of1 hb]; rfl
theorem aF_iff : ∀ k, aF cs a k = true ↔ ∀ i, i < k → xViol (cAt cs i) a = false
  | 0 => ⟨fun _ v h => absurd h (Nat.not_lt_zero _), fun _ => rfl⟩
  | k + 1 => by
    rw [all_succ (P := fun i => xViol (cAt cs i) a = false), ← aF_iff k]
    show (aF cs a k && !xViol (cAt cs k) a) = true ↔ _
    rw [Bool.and_eq_true, Bool.not_eq_true']
theorem aF_mod : aF cs a cs.length = isMod cs a := bool_of (by rw [aF_iff, isMod_iff])
theorem cF_no (hc : co = some c) (hi : i < j) (hv : xViol (cAt cs i) a = true) (hb : c.testBit i = true) : ∀ k, i < k → cF cs co a k = false
  | 0, h => absurd h (Nat.not_lt_zero _)
  | k + 1, h => by
    by_cases e : i = k
    · subst e
      show (cF cs co a i && (!xViol (cAt cs i) a || (decide (co = none) || !((co.getD 0).testBit i)))) = false
      rw [hv, hc, show (some c).getD 0 = c from rfl, hb]; simp
    · exact cF_f (cF_no hc hi hv hb k (by omega))
theorem core_cnt (h : coreO cs = some c) : cntP (fun b => cF cs (coreO cs) b cs.length) 256 = 0 := by
  rcases Nat.eq_zero_or_pos (cntP (fun b => cF cs (coreO cs) b cs.length) 256) with e | e
  · exact e
  · obtain ⟨b, hb, h2⟩ := (cnt_pos _).mp e
    obtain ⟨i, i1, i2, i3⟩ := core_some h hb
    have h3 := cF_no h i1 i2 i3 cs.length i1
    have h4 : cF cs (coreO cs) b cs.length = true := h2
    rw [h3] at h4; cases h4
theorem rF_f (h : rF cs a j = false) : rF cs a (j + 1) = false := by show (rF cs a j && _) = false; rw [h]; rfl
theorem rF_t (h : rF cs a j = true) (he : pcN 8 (elLine cs j &&& 255 &&& a) % 2 = elLine cs j >>> 8) : rF cs a (j + 1) = true := by show (rF cs a j && decide _) = true; rw [h, decide_eq_true he]; rfl
theorem rF_n (h : rF cs a j = true) (he : pcN 8 (elLine cs j &&& 255 &&& a) % 2 ≠ elLine cs j >>> 8) : rF cs a (j + 1) = false := by show (rF cs a j && decide _) = false; rw [h, decide_eq_false he]; rfl
end BF
/-! the trail as it is read -/
theorem pre_ge {tr : List Ent} {k : Nat} (h : tr.length ≤ k) : pre tr k = tr := by unfold pre; rw [show tr.length - k = 0 by omega]; rfl
theorem pre_len {tr : List Ent} {k : Nat} (h : k ≤ tr.length) : (pre tr k).length = k := by unfold pre; rw [List.length_drop]; omega
theorem pre_ok {tr : List Ent} (h : trOK tr) (k : Nat) : trOK (pre tr k) := by
  have e : tr.take (tr.length - k) ++ pre tr k = tr := List.take_append_drop _ _
  rw [← e] at h
  exact h.app
section TR
variable {S : SS} {i v : Nat} {e : Ent}
theorem e_trailN (hl : (sTr S).length ≤ 8) (hi : ¬ i < (sTr S).length) (h8 : i < 8) : W_trail S (nI i) = (-101, S) := by
  unfold W_trail; rw [if_neg (by rw [f_inL (by omega) (by omega)]; simp)]
theorem e_trail1 (hl : (sTr S).length ≤ 8) (hi : i < (sTr S).length) (hO : tOrd (sTr S) i = e.1) (hT : (tT (sTr S)).testBit e.1 = true) : W_trail S (nI i) = (nI (2 * e.1), S) := by
  unfold W_trail; rw [if_pos (inL_t hi (by omega)), un_nI (by omega), hO, if_pos hT]; rfl
theorem e_trail0 (hl : (sTr S).length ≤ 8) (hi : i < (sTr S).length) (hO : tOrd (sTr S) i = e.1) (hT : (tT (sTr S)).testBit e.1 = false) : W_trail S (nI i) = (nI (2 * e.1 + 1), S) := by
  unfold W_trail; rw [if_pos (inL_t hi (by omega)), un_nI (by omega), hO, if_neg (by rw [hT]; simp)]
theorem e_rsn (hv : v < 8) : W_reason S (nI v) = (oI (tRsn (sTr S) v), S) := by
  unfold W_reason; rw [if_pos (inL_t hv (by decide)), un_nI (by omega)]
theorem e_rsnO (hv : v < 8) (h : tRsn (sTr S) v = none) : W_reason S (nI v) = (-9, S) := by rw [e_rsn hv, h]; rfl
theorem e_rsnS {w : Nat} (hv : v < 8) (h : tRsn (sTr S) v = some w) : W_reason S (nI v) = (nI w, S) := by rw [e_rsn hv, h]; rfl
theorem e_val1 (hv : v < 8) (hA : (tA (sTr S)).testBit v = true) (hT : (tT (sTr S)).testBit v = true) : W_value S (nI v) = (nI 1, S) := by rw [e_value hv, if_pos hA, if_pos hT]
theorem e_val0 (hv : v < 8) (hA : (tA (sTr S)).testBit v = true) (hT : (tT (sTr S)).testBit v = false) : W_value S (nI v) = (nI 0, S) := by rw [e_value hv, if_pos hA, if_neg (by rw [hT]; simp)]
theorem e_val2 (hv : v < 8) (hA : (tA (sTr S)).testBit v = false) : W_value S (nI v) = (nI 2, S) := by rw [e_value hv, if_neg (by rw [hA]; simp)]
theorem tT_cons1 {t : List Ent} (h : e.2.1 = true) : tT t ||| 1 <<< e.1 = tT (e :: t) := by show _ = (if e.2.1 = true then _ else _); rw [if_pos h]
theorem tT_cons0 {t : List Ent} (h : e.2.1 = false) : tT t = tT (e :: t) := by show _ = (if e.2.1 = true then _ else _); rw [if_neg (by rw [h]; simp)]
end TR
