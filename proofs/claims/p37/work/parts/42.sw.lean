/-! two solvers: the places' blocks change sides -/
def sw (i : Nat) : Nat := if i < 93 then i + 93 else if i < 186 then i - 93 else i
theorem swA {i : Nat} (h : i < 93) : sw i = i + 93 := if_pos h
theorem swB {i : Nat} (h : 93 ≤ i) (h2 : i < 186) : sw i = i - 93 := by unfold sw; rw [if_neg (by omega), if_pos h2]
theorem swC {i : Nat} (h : 186 ≤ i) : sw i = i := by unfold sw; rw [if_neg (by omega), if_neg (by omega)]
theorem sw_sw (i : Nat) : sw (sw i) = i := by
  by_cases h : i < 93
  · rw [swA h, swB (by omega) (by omega)]; omega
  · by_cases h2 : i < 186
    · rw [swB (by omega) h2, swA (by omega)]; omega
    · rw [swC (i := i) (by omega), swC (by omega)]
theorem sw_lt {i n : Nat} (hn : 186 ≤ n) (h : i < n) : sw i < n := by
  unfold sw
  split
  · omega
  · split <;> omega
theorem sw_inj {i j : Nat} (h : sw i = sw j) : i = j := by rw [← sw_sw i, h, sw_sw]
def kq (k : KX) : KX := (k.1, k.2.1, (fun i => ad k (sw i)), kN k)
def mq (M : Mem) : Mem := fun i => M (sw i)
theorem mq_mq (M : Mem) : mq (mq M) = M := funext fun i => by show M (sw (sw i)) = M i; rw [sw_sw]
theorem kq_kq (k : KX) : kq (kq k) = k := by
  show (k.1, k.2.1, (fun i => ad k (sw (sw i))), kN k) = k
  rw [show (fun i => ad k (sw (sw i))) = k.2.2.1 from funext fun i => by rw [sw_sw]]
theorem kq_N (k : KX) : kN (kq k) = kN k := rfl
theorem va_P_s {k : KX} {M : Mem} {H : Heap} (hN : 186 ≤ kN k) (h : va_P (kD k) vwCl (kws k M) H) : va_P (kD (kq k)) vwCl (kws (kq k) (mq M)) H := by
  intro j q hq
  obtain ⟨hj, rfl⟩ := kws_in hq
  exact h (sw j) _ (kws_at k M (sw_lt hN hj))
theorem va_P_r {k : KX} {M : Mem} {H : Heap} (hN : 186 ≤ kN k) (h : va_P (kD (kq k)) vwCl (kws (kq k) M) H) : va_P (kD k) vwCl (kws k (mq M)) H := by
  have h2 := va_P_s (k := kq k) hN h
  rw [kq_kq] at h2
  exact h2
theorem kinj_s {k : KX} (hN : 186 ≤ kN k) (h : kinj k) : kinj (kq k) := fun i j hi hj e => sw_inj (h (sw i) (sw j) (sw_lt hN hi) (sw_lt hN hj) e)
theorem kinj_r {k : KX} (hN : 186 ≤ kN k) (h : kinj (kq k)) : kinj k := by
  have h2 := kinj_s (k := kq k) hN h
  rw [kq_kq] at h2; exact h2
theorem kB_s {k : KX} {M : Mem} {U : State} (hN : 186 ≤ kN k) (h : kB k M U) : kB (kq k) (mq M) U := ⟨va_P_s hN h.1, h.2.1, h.2.2.1, kinj_s hN h.2.2.2⟩
theorem kB_r {k : KX} {M : Mem} {U : State} (hN : 186 ≤ kN k) (h : kB (kq k) M U) : kB k (mq M) U := ⟨va_P_r hN h.1, h.2.1, h.2.2.1, kinj_r hN h.2.2.2⟩
theorem kA_s {k : KX} {sz : Nat} (hN : 186 ≤ kN k) : kA (kq k) sz = kA k sz := by
  refine funext fun q => propext ⟨?_, ?_⟩
  · rintro (⟨i, hi, rfl⟩ | h)
    · exact Or.inl ⟨sw i, sw_lt hN hi, rfl⟩
    · exact Or.inr h
  · rintro (⟨i, hi, rfl⟩ | h)
    · exact Or.inl ⟨sw i, sw_lt hN hi, by show ad k i = ad k (sw (sw i)); rw [sw_sw]⟩
    · exact Or.inr h
def poS (post : Option Value → Mem → Prop) : Option Value → Mem → Prop := fun v M' => post v (mq M')
theorem kP_s {k : KX} {M : Mem} {sz : Nat} {As : List Value} (hN : 186 ≤ kN k) {a : Array Value} {U : State} (h : kP k M sz As a U) : kP (kq k) (mq M) sz As a U := ⟨h.1, h.2.1, kB_s hN h.2.2⟩
theorem kQ_s {k : KX} {sz : Nat} {post : Option Value → Mem → Prop} (hN : 186 ≤ kN k) {a : Array Value} {st t : State} {o : Outcome} (h : kQ (kq k) post sz a st o t) : kQ k (poS post) sz a st o t := by
  obtain ⟨⟨v, M', h1, h2, h3⟩, h4⟩ := h
  rw [kA_s hN] at h4
  exact ⟨⟨v, mq M', h1, by show post v (mq (mq M')); rw [mq_mq]; exact h2, kB_r hN h3⟩, h4⟩
theorem met_imp {l : Launch} {y : MethodName} {Sp : Spec} {P P' : Array Value → State → Prop} {K : Program → Env → List Frame → State → Array Value → Prop} {Q Q' : Array Value → State → Outcome → State → Prop} (h : MetFree l y Sp P K Q) (hp : ∀ a s, P' a s → P a s) (hq : ∀ a s o t, Q a s o t → Q' a s o t) : MetFree l y Sp P' K Q' := by
  intro p e ha hc hk s m args below hf happ hP hK
  obtain ⟨n, o, h1, h2, h3, h4⟩ := h p e ha hc hk s m args below hf happ (hp _ _ hP) hK
  exact ⟨n, o, h1, h2, h3, hq _ _ _ _ h4⟩
theorem CM.sw {l : Launch} {y : MethodName} {cc : ByteArray} {nL : Nat} {ret : Option FieldType} {R : Room} {k : KX} {As : List Value} {M : Mem} {post : Option Value → Mem → Prop} (hN : 186 ≤ kN k) (h : CM l y cc nL ret R (kq k) As (mq M) post) : CM l y cc nL ret R k As M (poS post) := by
  intro sz
  refine met_imp (h sz) (fun a s hp => kP_s hN hp) (fun a s o t hq => ?_)
  obtain ⟨h1, L, h2, h3⟩ := hq
  rw [kA_s hN] at h3
  exact ⟨kQ_s hN h1, L, h2, h3⟩
