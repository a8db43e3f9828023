/-! String.charAt of the law's one text -/
def chC (j : Nat) : Nat := ([59, 61, 97, 65, 122, 49] : List Nat).getD j 0
def kPZ (k : KX) (M : Mem) (sz : Nat) (As : List Value) (a v : Nat) : Array Value → State → Prop := va_Pc As (fun U => U.heap.size = sz ∧ kB k M U ∧ ZSa a v (kA k sz) U U.heap)
def CZ (l : Launch) (y : MethodName) (cc : ByteArray) (nL : Nat) (ret : Option FieldType) (R : Room) (k : KX) (As : List Value) (M : Mem) (a v : Nat) (post : Option Value → Mem → Prop) : Prop :=
  ∀ sz, Met l y (AW y cc nL ret) R (kPZ k M sz As a v) (kQ k post sz) R.cells R.slots (kA k sz)
theorem kPZ_blind {k : KX} {M : Mem} {sz : Nat} {As : List Value} {a v : Nat} : FrameBlind (kPZ k M sz As a v) := fun _ U _ _ h => ⟨h.1, h.2.1, ⟨h.2.2.1.1, va_K.moved (Vm.Alike.refl U.vm) h.2.2.1.2.1, NW.same (u := U) rfl h.2.2.1.2.2.1, h.2.2.1.2.2.2⟩, ZSa.same (u := U) rfl h.2.2.2⟩
theorem CZ.of {l : Launch} {y : MethodName} {cc : ByteArray} {nL : Nat} {ret : Option FieldType} {R : Room} {k : KX} {As : List Value} {M : Mem} {a v : Nat} {post : Option Value → Mem → Prop} (hy : plainName y.cls = true) (hsz : (lg_sl As).length ≤ nL)
    (body : ∀ C : CT, OKc C k cc y.cls nL ret → C_l C = l → C_R C = R → RQ C k R post → ZSa a v (C_A C) (C_s C) (C_s C).heap → V C k nL (0, 0) M 0 (lv_args 0 As) []) : CZ l y cc nL ret R k As M a v post := by
  intro sz
  refine Met.ofW (cc := cc) (maxL := nL) (ret := ret) hy rfl ?_
  intro p e s m args below meth c s₁ B hml hv
  obtain ⟨rfl, hsz1, ⟨hP, hK, hN, hI⟩, hT⟩ := hv
  have hts := atoms_spec (ws := AW y cc nL ret) B.pre
  have hown : s.vm.findClass y.cls = some m.cls := findClass_of_methodNamed B.named
  subst hsz1
  have hl := lv_entry As (n := nL) hsz
  rw [lg_entry_eq]
  have h := body (p, l, e, R, s, m, As.toArray, below, meth, c, MQ below (kQ k post s.heap.size) As.toArray s R.cells R.slots (kA k s.heap.size), kA k s.heap.size)
    ⟨B.exec, B.bytes, B.returns, hml, hown, fun w hw => hts w (List.mem_cons_of_mem _ hw), B.notSynchronized, hK, hN, hI, fun i hi => Or.inl ⟨i, hi, rfl⟩, fun q hq => Or.inr hq⟩ rfl rfl ⟨rfl, fun _ _ _ h => h⟩ hT
  exact h s.heap [] _ hP va_S.rf hl
theorem ZSa.at {a v : Nat} {C : CT} {k : KX} {cc : ByteArray} {own : String} {nL : Nat} {ret : Option FieldType} (X : OKc C k cc own nL ret) (ht : ZSa a v (C_A C) (C_s C) (C_s C).heap) {H : Heap} {locs : List Loc} (hS : va_S (C_A C) (C_s C).heap H locs) {U : State} (hU : U.heap = H) (hW : (C_s C).WarmedH U.vm) : ZSa a v (kA k H.size) U U.heap := by
  rw [hU]
  exact ht.go hW (fun a h1 h2 => hS.2.1 a h1 h2) (fun q h => h.elim (fun ⟨i, hi, e⟩ => e ▸ X.hA i hi) (fun h => X.hA2 q (Nat.le_trans hS.1 h)))
section VZ
variable {C : CT} {k k0 : KX} {cc : ByteArray} {own : String} {nL : Nat} {ret : Option FieldType} {z : Nat × Nat} {M : Mem} {pc : Nat} {lv : List (Nat × Value)} {st0 st rest : List Value} {R : Room} {post : Option Value → Mem → Prop}
theorem v_gets (X : OKc C k cc own nL ret) {Cn n d : String} {v : Value} {idx : Nat} (hZ : va_Z Cn n d v (C_A C) (C_s C) (C_s C).heap) (hlink : Cond.fieldLink own idx Cn n d ∈ ALL) (d0 : decode cc pc = .ok (.getstatic idx, 3)) (kk : V C k nL z M (pc + 3) lv (v :: st)) : V C k nL z M pc lv st :=
  fun H locs ls hP hS h => va_gets X.x X.b hZ hS X.ow (X.ts _ hlink) (fun _ h => h) d0 (kk H locs ls hP hS h)
theorem v_getO (X : OKc C k cc own nL ret) {o n d : String} {q idx : Nat} {v : Value} (hE : va_OF o n d v q (C_A C) (C_s C) (C_s C).heap) (hlink : Cond.fieldLink own idx o n d ∈ ALL) (d0 : decode cc pc = .ok (.getfield idx, 3)) (kk : V C k nL z M (pc + 3) lv (v :: st)) : V C k nL z M pc lv (.ref q :: st) :=
  fun H locs ls hP hS h => vk_getf X.x X.b hE hS X.ow (X.ts _ hlink) (fun _ h => h) d0 (kk H locs ls hP hS h)
theorem v_tlen (X : OKc C k cc own nL ret) {ty : FieldType} {t N : Nat} {f : Nat → Value} (hT : va_T ty t N f (C_A C) (C_s C) (C_s C).heap) (d0 : decode cc pc = .ok (.arraylength, 1)) (kk : V C k nL z M (pc + 1) lv (.int (nI N) :: st)) : V C k nL z M pc lv (.ref t :: st) :=
  fun H locs ls hP hS h => va_tlen X.x X.b hT hS rfl d0 (kk H locs ls hP hS h)
theorem v_tb (X : OKc C k cc own nL ret) {t N j : Nat} {f : Nat → Value} {v : Value} (hT : va_T .byte t N f (C_A C) (C_s C) (C_s C).heap) (hj : j < N) (hN : N < 2 ^ 31) (hv : f j = v) (d0 : decode cc pc = .ok (.baload, 1)) (kk : V C k nL z M (pc + 1) lv (v :: st)) : V C k nL z M pc lv (.int (nI j) :: .ref t :: st) :=
  fun H locs ls hP hS h => va_tb X.x X.b hT hS (vp_in_nI hj hN) (by rw [nI_clamp (by omega)]; exact hv) d0 (kk H locs ls hP hS h)
theorem v_i2c (X : OKc C k cc own nL ret) {x v : Int32} (hv : (x.toUInt32 % 65536).toInt32 = v) (d0 : decode cc pc = .ok (.i2c, 1)) (kk : V C k nL z M (pc + 1) lv (.int v :: st)) : V C k nL z M pc lv (.int x :: st) :=
  fun H locs ls hP hS h => lv_i2c X.x X.b d0 hv (kk H locs ls hP hS h)
theorem v_ldcS (X : OKc C k cc own nL ret) {tx : String} {idx q : Nat} (hZ : vk_R own idx tx q (C_s C)) (d0 : decode cc pc = .ok (.ldc idx, 2)) (kk : V C k nL z M (pc + 2) lv (.ref q :: st)) : V C k nL z M pc lv st :=
  fun H locs ls hP hS h => va_ldcS X.x X.b X.ow hZ d0 (kk H locs ls hP hS h)
variable {l : Launch} {y : MethodName} {cy : ByteArray} {nY n idx : Nat} {rY : Option FieldType} {R' : Room} {As : List Value} {a v : Nat}
theorem v_callZ (X : OKc C k cc own nL ret) (ht : ZSa a v (C_A C) (C_s C) (C_s C).heap) (hl : C_l C = l) (hR : C_R C = R) (ct : CZ l y cy nY rY R' k As M a v post) (hm : mOK y n) (hc : Cond.code y cy nY rY ∈ ALL) (hk : Cond.methodLink own idx y ∈ ALL) (hs : Cond.static y ∈ ALL) (hi : Cond.initialized y.cls ∈ ALL) (hRR : rOK R' R nY) (hn : As.length = n) (hst : st0 = As.reverse ++ rest) (hW : (rest.map fun v => v.category).sum ≤ 8) (h0 : R'.cells = 0 ∧ R'.slots = 0) (hz : z.1 ≤ R.cells ∧ z.2 ≤ R.slots) (d : decode cc pc = .ok (.invokestatic idx, 3))
    (kk : ∀ v M', post v M' → V C k nL z M' (pc + 3) lv (v.toList ++ rest)) : V C k nL z M pc lv st0 := by
  subst hl; subst hR
  refine v_runB (mc := R'.cells) (ms := R'.slots) (av := As.toArray) X (fun H locs ls hP hS h => ?_) (by rw [h0.1, h0.2]; exact kk)
  refine va_runS (As := As) (rest := rest) (Ts := ALL) (own := own) (n := n) ⟨X.x, X.b, X.ml, X.ow, X.ts⟩ (ct H.size) ⟨⟨rfl, rfl, hRR.1, hRR.2, ALL_pay X hc, List.mem_cons_self, X.ts _ hc, X.ts _ hi, ⟨hm.1, hm.2.1⟩, hm.len, X.ts _ hk⟩, X.ts _ hs⟩ ⟨kPZ_blind, fun U hU hW' => ⟨rfl, by rw [hU], ⟨by rw [hU]; exact hP, va_K.moved hW'.alike X.K, X.nw.warm hW', X.inj⟩, ZSa.at X ht hS hU hW'⟩⟩ rfl hn h.1 hst (lv_room hW) d ⟨by rw [h0.1]; exact hz.1, by rw [h0.2]; exact hz.2⟩
theorem v_callZV (X : OKc C k cc own nL ret) (ht : ZSa a v (C_A C) (C_s C) (C_s C).heap) (hl : C_l C = l) (hR : C_R C = R) (hyc : y.cls = "java/lang/String") (ct : CZ l y cy nY rY R' k (.ref a :: As) M a v post) (hm : mOK y n) (hc : Cond.code y cy nY rY ∈ ALL) (hk : Cond.methodLink own idx y ∈ ALL) (hs : Cond.instanceMethod y ∈ ALL) (hse : Cond.selects y.cls y y ∈ ALL) (hini : Cond.initialized y.cls ∈ ALL) (hRR : rOK R' R nY) (hn : As.length = n) (hst : st0 = As.reverse ++ .ref a :: rest) (hW : (rest.map fun v => v.category).sum ≤ 8) (h0 : R'.cells = 0 ∧ R'.slots = 0) (hz : z.1 ≤ R.cells ∧ z.2 ≤ R.slots) (d : decode cc pc = .ok (.invokevirtual idx, 3))
    (kk : ∀ v M', post v M' → V C k nL z M' (pc + 3) lv (v.toList ++ rest)) : V C k nL z M pc lv st0 := by
  subst hl; subst hR
  refine v_runB (mc := R'.cells) (ms := R'.slots) (av := (Value.ref a :: As).toArray) X (fun H locs ls hP hS h => ?_) (by rw [h0.1, h0.2]; exact kk)
  have hrecv : ∃ cell : Cell, H[a]? = some cell ∧ cell.vm.isStatics = false ∧ (C_s C).vm.findClass y.cls = some cell.cls := by
    obtain ⟨cell, h1, h2, h3, -⟩ := (ht.2.1).kept hS.2.1
    exact ⟨cell, h1, h2, by rw [hyc]; exact h3⟩
  refine va_runV (As := As) (rest := rest) (Ts := ALL) (own := own) (n := n) (C := y.cls) (b := a) ⟨X.x, X.b, X.ml, X.ow, X.ts⟩ (ct H.size) ⟨⟨rfl, rfl, hRR.1, hRR.2, ALL_pay X hc, List.mem_cons_self, X.ts _ hc, X.ts _ hini, ⟨hm.1, hm.2.1⟩, hm.len, X.ts _ hk⟩, X.ts _ hs, X.ts _ hse⟩ ⟨kPZ_blind, hrecv, fun U hU hW' => ⟨rfl, by rw [hU], ⟨by rw [hU]; exact hP, va_K.moved hW'.alike X.K, X.nw.warm hW', X.inj⟩, ZSa.at X ht hS hU hW'⟩⟩ rfl hn h.1 hst (lv_room hW) d ⟨by rw [h0.1]; exact hz.1, by rw [h0.2]; exact hz.2⟩
end VZ
theorem mo_J3_checkIndex : mOK yJ3_checkIndex_8e157 3 := by decide +kernel
theorem mo_J0_checkIndex : mOK yJ0_checkIndex_df160 2 := by decide +kernel
theorem mo_J1_charAt : mOK yJ1_charAt_3b067 2 := by decide +kernel
theorem mo_J0_isLatin1 : mOK yJ0_isLatin1_aae02 0 := by decide +kernel
theorem mo_J0_charAt : mOK yJ0_charAt_5068e 1 := by decide +kernel
theorem c_J3_checkIndex (l : Launch) (k : KX) (M : Mem) (a v i n : Nat) (hi : i < n) (hn : n < 2 ^ 31) (w : Value) (hw : w = .null ∨ ∃ t, w = .ref t) : CZ l yJ3_checkIndex_8e157 cJ3_checkIndex_8e157 3 (some .int) { frames := 0, cells := 0, slots := 0, locals := 0 } k [.int (nI i), .int (nI n), w] M a v (pP (.int (nI i)) M) := by
  refine CZ.of (by decide) (by rcases hw with rfl | ⟨t, rfl⟩ <;> exact Nat.le_of_ble_eq_true rfl) (fun C X hCl hCR rq hZ => ?_)
  show V C k 3 (0, 0) M 0 [(0, .int (nI i)), (1, .int (nI n)), (2, w)] []
  refine v_iload_n X 0 dJ3_checkIndex_8e157_0 rfl ?_
  refine v_iltN X (by omega) dJ3_checkIndex_8e157_1 ?_
  refine v_iload_n X 0 dJ3_checkIndex_8e157_4 rfl ?_
  refine v_iload_n X 1 dJ3_checkIndex_8e157_5 rfl ?_
  refine v_cltN X 16 (by omega) (by omega) dJ3_checkIndex_8e157_6 (by decide) (fun _ => ?_) (fun q => absurd q (by omega))
  refine v_iload_n X 0 dJ3_checkIndex_8e157_16 rfl ?_
  exact v_iret X rq ⟨Nat.le_of_ble_eq_true rfl, Nat.le_of_ble_eq_true rfl⟩ rfl dJ3_checkIndex_8e157_17 (pP_i rfl)
theorem c_J0_checkIndex (l : Launch) (k : KX) (M : Mem) (a v i n : Nat) (hi : i < n) (hn : n < 2 ^ 31) : CZ l yJ0_checkIndex_df160 cJ0_checkIndex_df160 2 none { frames := 1, cells := 0, slots := 0, locals := 22 } k [.int (nI i), .int (nI n)] M a v (pV (fun M' => M' = M)) := by
  refine CZ.of (by decide) (Nat.le_of_ble_eq_true rfl) (fun C X hCl hCR rq hZ => ?_)
  show V C k 2 (0, 0) M 0 [(0, .int (nI i)), (1, .int (nI n))] []
  refine v_iload_n X 0 dJ0_checkIndex_df160_0 rfl ?_
  refine v_iload_n X 1 dJ0_checkIndex_df160_1 rfl ?_
  rcases hZ.2.2.2.2.2.2 with hF | ⟨t, hF⟩
  · refine v_gets X hF m_448 dJ0_checkIndex_df160_2 ?_
    refine v_callZ X hZ hCl hCR (c_J3_checkIndex l k M a v i n hi hn .null (Or.inl rfl)) mo_J3_checkIndex m_446 m_449 m_450 m_451 ⟨by decide, by decide⟩ rfl rfl (Nat.le_of_ble_eq_true rfl) ⟨rfl, rfl⟩ ⟨by decide, by decide⟩ dJ0_checkIndex_df160_5 (vP_in ?_)
    refine v_pop X rfl dJ0_checkIndex_df160_8 ?_
    exact v_vret X rq ⟨by decide, by decide⟩ dJ0_checkIndex_df160_9 ⟨rfl, rfl⟩
  · refine v_gets X hF m_448 dJ0_checkIndex_df160_2 ?_
    refine v_callZ X hZ hCl hCR (c_J3_checkIndex l k M a v i n hi hn (.ref t) (Or.inr ⟨t, rfl⟩)) mo_J3_checkIndex m_446 m_449 m_450 m_451 ⟨by decide, by decide⟩ rfl rfl (Nat.le_of_ble_eq_true rfl) ⟨rfl, rfl⟩ ⟨by decide, by decide⟩ dJ0_checkIndex_df160_5 (vP_in ?_)
    refine v_pop X rfl dJ0_checkIndex_df160_8 ?_
    exact v_vret X rq ⟨by decide, by decide⟩ dJ0_checkIndex_df160_9 ⟨rfl, rfl⟩
theorem c_J1_charAt (l : Launch) (k : KX) (M : Mem) (a v j : Nat) (hj : j < 6) : CZ l yJ1_charAt_3b067 cJ1_charAt_3b067 2 (some .char) { frames := 2, cells := 0, slots := 0, locals := 43 } k [.ref v, .int (nI j)] M a v (pP (.int (nI (chC j))) M) := by
  refine CZ.of (by decide) (Nat.le_of_ble_eq_true rfl) (fun C X hCl hCR rq hZ => ?_)
  show V C k 2 (0, 0) M 0 [(0, .ref v), (1, .int (nI j))] []
  have hT := hZ.2.2.2.2.1
  refine v_iload_n X 1 dJ1_charAt_3b067_0 rfl ?_
  refine v_aload_n X 0 dJ1_charAt_3b067_1 rfl ?_
  refine v_tlen X hT dJ1_charAt_3b067_2 ?_
  refine v_callZ X hZ hCl hCR (c_J0_checkIndex l k M a v j 6 hj (by decide)) mo_J0_checkIndex m_447 m_453 m_454 m_455 ⟨by decide, by decide⟩ rfl rfl (Nat.le_of_ble_eq_true rfl) ⟨rfl, rfl⟩ ⟨by decide, by decide⟩ dJ1_charAt_3b067_3 (vV_in (fun M1 h1 => ?_))
  subst h1
  refine v_aload_n X 0 dJ1_charAt_3b067_6 rfl ?_
  refine v_iload_n X 1 dJ1_charAt_3b067_7 rfl ?_
  have hx : ∀ (x : Int32), ((x &&& nI 255).toUInt32 % 65536).toInt32 = nI (chC j) → narrow .char (.int (nI (chC j))) = .int (nI (chC j)) → (fun j => Value.int (([59, 61, 97, 65, 122, 49] : List Int32).getD j 0)) j = .int x → V C k 2 (0, 0) M1 8 [(0, .ref v), (1, .int (nI j))] [.int (nI j), .ref v] := by
    intro x h1 h2 h3
    refine v_tb X hT hj (by decide) h3 dJ1_charAt_3b067_8 ?_
    refine v_sipush X (v := nI 255) (by decide) dJ1_charAt_3b067_9 ?_
    refine v_iand X dJ1_charAt_3b067_12 ?_
    refine v_i2c X h1 dJ1_charAt_3b067_13 ?_
    exact v_iret X rq ⟨Nat.le_of_ble_eq_true rfl, Nat.le_of_ble_eq_true rfl⟩ h2 dJ1_charAt_3b067_14 (pP_i rfl)
  rcases (show j = 0 ∨ j = 1 ∨ j = 2 ∨ j = 3 ∨ j = 4 ∨ j = 5 by omega) with rfl | rfl | rfl | rfl | rfl | rfl
  · exact hx 59 (by decide +kernel) (by decide +kernel) rfl
  · exact hx 61 (by decide +kernel) (by decide +kernel) rfl
  · exact hx 97 (by decide +kernel) (by decide +kernel) rfl
  · exact hx 65 (by decide +kernel) (by decide +kernel) rfl
  · exact hx 122 (by decide +kernel) (by decide +kernel) rfl
  · exact hx 49 (by decide +kernel) (by decide +kernel) rfl
theorem c_J0_isLatin1 (l : Launch) (k : KX) (M : Mem) (a v : Nat) : CZ l yJ0_isLatin1_aae02 cJ0_isLatin1_aae02 1 (some .boolean) { frames := 0, cells := 0, slots := 0, locals := 0 } k [.ref a] M a v (pP (.int (nI 1)) M) := by
  refine CZ.of (by decide) (Nat.le_of_ble_eq_true rfl) (fun C X hCl hCR rq hZ => ?_)
  show V C k 1 (0, 0) M 0 [(0, .ref a)] []
  refine v_gets X hZ.2.2.2.2.2.1 m_444 dJ0_isLatin1_aae02_0 ?_
  refine v_if_eq X 17 dJ0_isLatin1_aae02_3 (by decide) (fun q => absurd q (by decide)) (fun _ => ?_)
  refine v_aload_n X 0 dJ0_isLatin1_aae02_6 rfl ?_
  refine v_getO X hZ.2.2.1 m_445 dJ0_isLatin1_aae02_7 ?_
  refine v_if_ne X 17 dJ0_isLatin1_aae02_10 (by decide) (fun q => absurd rfl q) (fun _ => ?_)
  refine v_iconst X (v := nI 1) (by decide) dJ0_isLatin1_aae02_13 ?_
  refine v_goto X 18 dJ0_isLatin1_aae02_14 (by decide) ?_
  exact v_iret X rq ⟨Nat.le_of_ble_eq_true rfl, Nat.le_of_ble_eq_true rfl⟩ (by decide +kernel) dJ0_isLatin1_aae02_18 (pP_i rfl)
theorem c_J0_charAt (l : Launch) (k : KX) (M : Mem) (a v j : Nat) (hj : j < 6) : CZ l yJ0_charAt_5068e cJ0_charAt_5068e 2 (some .char) { frames := 3, cells := 0, slots := 0, locals := 64 } k [.ref a, .int (nI j)] M a v (pP (.int (nI (chC j))) M) := by
  refine CZ.of (by decide) (Nat.le_of_ble_eq_true rfl) (fun C X hCl hCR rq hZ => ?_)
  show V C k 2 (0, 0) M 0 [(0, .ref a), (1, .int (nI j))] []
  refine v_aload_n X 0 dJ0_charAt_5068e_0 rfl ?_
  refine v_callZV X hZ hCl hCR rfl (c_J0_isLatin1 l k M a v) mo_J0_isLatin1 m_443 m_472 m_473 m_474 m_455 ⟨by decide, by decide⟩ rfl rfl (Nat.le_of_ble_eq_true rfl) ⟨rfl, rfl⟩ ⟨by decide, by decide⟩ dJ0_charAt_5068e_1 (vP_in ?_)
  refine v_ieqN X 16 (by decide) dJ0_charAt_5068e_4 (by decide) (fun q => absurd q (by decide)) (fun _ => ?_)
  refine v_aload_n X 0 dJ0_charAt_5068e_7 rfl ?_
  refine v_getO X hZ.2.2.2.1 m_471 dJ0_charAt_5068e_8 ?_
  refine v_iload_n X 1 dJ0_charAt_5068e_11 rfl ?_
  refine v_callZ X hZ hCl hCR (c_J1_charAt l k M a v j hj) mo_J1_charAt m_452 m_475 m_476 m_477 ⟨by decide, by decide⟩ rfl rfl (Nat.le_of_ble_eq_true rfl) ⟨rfl, rfl⟩ ⟨by decide, by decide⟩ dJ0_charAt_5068e_12 (vP_in ?_)
  have h2 : narrow .char (.int (nI (chC j))) = .int (nI (chC j)) := by
    rcases (show j = 0 ∨ j = 1 ∨ j = 2 ∨ j = 3 ∨ j = 4 ∨ j = 5 by omega) with rfl | rfl | rfl | rfl | rfl | rfl <;> decide +kernel
  exact v_iret X rq ⟨Nat.le_of_ble_eq_true rfl, Nat.le_of_ble_eq_true rfl⟩ h2 dJ0_charAt_5068e_15 (pP_i rfl)
