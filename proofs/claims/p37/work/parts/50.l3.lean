/-! the law's own methods: load, act -/
def ldS (S : SS) : SS := (S.1, S.2.1, S.2.2.1, S.2.2.2.1, ([] : List Nat))
noncomputable section
def ldC (z v : Nat) : Nat := if z % 3 = 0 ∨ z >>> (v + 4) &&& 1 = 0 then 97 else 65
def ldV1 (z v : Nat) (w : Int32 × Nat × SS) : Int32 × Nat × SS := if (z % 255 + 1) >>> v &&& 1 = 1 ∧ w.2.1 < 4 then (w.1 + (W_append w.2.2 (nI (ldC z v + v))).1, w.2.1 + 1, (W_append w.2.2 (nI (ldC z v + v))).2) else w
def ldV (z : Nat) (w : Int32 × Nat × SS) : Nat → Int32 × Nat × SS
  | 0 => w
  | v + 1 => ldV1 z v (ldV z w v)
def ldA (z : Nat) (sm : Int32) (S : SS) : Int32 × SS := if z % 3 = 0 then (sm + ((W_append S (nI 61)).1 + (W_append (W_append S (nI 61)).2 (nI (48 + z / 3 % 2))).1), (W_append (W_append S (nI 61)).2 (nI (48 + z / 3 % 2))).2) else (sm, S)
def ldE (z y i : Nat) (b : Int32 × Nat × SS) : Int32 × Nat × SS := (b.1 + (W_append b.2.2 (nI 59)).1, (z / 7 ^^^ y * (i + 3)) &&& 2147483647, (W_append b.2.2 (nI 59)).2)
def ldK1 (y i : Nat) (w : Int32 × Nat × SS) : Int32 × Nat × SS := ldE w.2.1 y i (ldV w.2.1 ((ldA w.2.1 w.1 w.2.2).1, 0, (ldA w.2.1 w.1 w.2.2).2) 8)
def ldK (y : Nat) (w : Int32 × Nat × SS) : Nat → Int32 × Nat × SS
  | 0 => w
  | i + 1 => ldK1 y i (ldK y w i)
def ldU (x y : Nat) (w : Int32 × Nat × SS) : Int32 × SS := if x % 43 = 0 then (w.1 + (W_append w.2.2 (nI (chC (y % 6)))).1, (W_append w.2.2 (nI (chC (y % 6)))).2) else (w.1 + nI 0, w.2.2)
def ldF (u : Int32 × SS) : Int32 × SS := (nI 53 * u.1 + (W_loadText u.2).1, (W_loadText u.2).2)
def W_load (S : SS) (x y : Nat) : Int32 × SS := ldF (ldU x y (ldK y (nI S.2.2.2.2.length, y, ldS S) (x % 9)))
end
theorem ldA_t {z : Nat} {sm : Int32} {S : SS} (h : z % 3 = 0) : ldA z sm S = (sm + ((W_append S (nI 61)).1 + (W_append (W_append S (nI 61)).2 (nI (48 + z / 3 % 2))).1), (W_append (W_append S (nI 61)).2 (nI (48 + z / 3 % 2))).2) := by unfold ldA; rw [if_pos h]
theorem ldA_f {z : Nat} {sm : Int32} {S : SS} (h : z % 3 ≠ 0) : ldA z sm S = (sm, S) := by unfold ldA; rw [if_neg h]
theorem ldV_t {z v sz c : Nat} {w : Int32 × Nat × SS} {s3 : Int32} {S3 : SS} (h : ldV z w v = (s3, sz, S3)) (h1 : (z % 255 + 1) >>> v &&& 1 = 1) (h2 : sz < 4) (hc : c = ldC z v) : ldV z w (v + 1) = (s3 + (W_append S3 (nI (c + v))).1, sz + 1, (W_append S3 (nI (c + v))).2) := by
  subst hc
  show ldV1 z v (ldV z w v) = _
  rw [h]
  unfold ldV1
  rw [if_pos ⟨h1, h2⟩]
theorem ldV_f {z v sz : Nat} {w : Int32 × Nat × SS} {s3 : Int32} {S3 : SS} (h : ldV z w v = (s3, sz, S3)) (h1 : ¬ ((z % 255 + 1) >>> v &&& 1 = 1 ∧ sz < 4)) : ldV z w (v + 1) = (s3, sz, S3) := by
  show ldV1 z v (ldV z w v) = _
  rw [h]
  unfold ldV1
  rw [if_neg h1]
theorem ldK_s {y i z sz : Nat} {w : Int32 × Nat × SS} {sm sm2 s3 : Int32} {S1 S2 S3 : SS} (h : ldK y w i = (sm, z, S1)) (ha : ldA z sm S1 = (sm2, S2)) (hl : ldV z (sm2, 0, S2) 8 = (s3, sz, S3)) : ldK y w (i + 1) = (s3 + (W_append S3 (nI 59)).1, (z / 7 ^^^ y * (i + 3)) &&& 2147483647, (W_append S3 (nI 59)).2) := by
  show ldK1 y i (ldK y w i) = _
  rw [h]
  unfold ldK1
  show ldE z y i (ldV z ((ldA z sm S1).1, 0, (ldA z sm S1).2) 8) = _
  rw [ha]
  show ldE z y i (ldV z (sm2, 0, S2) 8) = _
  rw [hl]
  rfl
theorem ld_t {S S1 : SS} {x y z : Nat} {sm : Int32} (h : ldK y (nI S.2.2.2.2.length, y, ldS S) (x % 9) = (sm, z, S1)) (hx : x % 43 = 0) : W_load S x y = (nI 53 * (sm + (W_append S1 (nI (chC (y % 6)))).1) + (W_loadText (W_append S1 (nI (chC (y % 6)))).2).1, (W_loadText (W_append S1 (nI (chC (y % 6)))).2).2) := by
  unfold W_load
  rw [h]
  unfold ldU
  rw [if_pos hx]
  rfl
theorem ld_f {S S1 : SS} {x y z : Nat} {sm : Int32} (h : ldK y (nI S.2.2.2.2.length, y, ldS S) (x % 9) = (sm, z, S1)) (hx : x % 43 ≠ 0) : W_load S x y = (nI 53 * (sm + nI 0) + (W_loadText S1).1, (W_loadText S1).2) := by
  unfold W_load
  rw [h]
  unfold ldU
  rw [if_neg hx]
  rfl
theorem and31 {a : Nat} : a &&& 2147483647 < 2 ^ 31 := Nat.lt_of_le_of_lt Nat.and_le_right (by decide)
set_option maxHeartbeats 4000000 in
set_option maxRecDepth 100000 in
theorem c_L_load (l : Launch) (hst0 : l.stackTraces = false) (k : KX) (M : Mem) (S : SS) (x y : Nat) (hxy : x < 2 ^ 31 ∧ y < 2 ^ 31) (hA : At k M S) : CB l yL_load cL_load 9 (some .int) { frames := 8, cells := 104, slots := 624, locals := 176 } k [.ref (ad k 0), .int (nI x), .int (nI y)] M (pI (PA k M (W_load S x y))) := by
  refine CB.of (by decide) (Nat.le_of_ble_eq_true rfl) (fun C X hCl hCR rb => ?_)
  show V C k 9 (0, 0) M 0 [(0, .ref (ad k 0)), (1, .int (nI x)), (2, .int (nI y))] []
  have hN := hA.N
  obtain ⟨hx, hy⟩ := hxy
  obtain ⟨sa, sv, hZ⟩ := rb.2.2.2
  have L11 : ∀ (fu : Nat) (i z : Nat) (sm : Int32) (S1 : SS) (Mq : Mem), x % 9 - i < fu → (ldK y (nI S.2.2.2.2.length, y, ldS S) i = (sm, z, S1)) → (z < 2 ^ 31) → (i ≤ x % 9) → At k Mq S1 → Fr 0 93 M Mq → V C k 9 (11 * i, 66 * i) Mq 11 [(5, .int (nI i)), (4, .int (nI z)), (3, .int sm), (2, .int (nI y)), (1, .int (nI x)), (0, .ref (ad k 0))] [] := by
    intro fu
    induction fu with
    | zero => intro i z sm S1 Mq hfu; exact absurd hfu (Nat.not_lt_zero _)
    | succ fu ih_L11 =>
      intro i z sm S1 Mq hfu hw hz hi hAq hFq
      refine v_iload X 0 dL_load_11 rfl ?_
      refine v_iload_n X 4 dL_load_13 rfl ?_
      refine v_bipush X (v := nI 9) (by decide) dL_load_14 ?_
      refine v_remN X (by omega) (by omega) (by omega) dL_load_16 ?_
      refine v_cgeN X 167 (by omega) (by omega) dL_load_17 (by decide) (fun c_1 => ?_) (fun c_2 => ?_)
      · have hi_ : i = x % 9 := by omega
        subst hi_
        refine v_iload_n X 2 dL_load_167 rfl ?_
        refine v_iload_n X 4 dL_load_168 rfl ?_
        refine v_bipush X (v := nI 43) (by decide) dL_load_169 ?_
        refine v_remN X (by omega) (by omega) (by omega) dL_load_171 ?_
        refine v_ineN X 191 (by omega) dL_load_172 (by decide) (fun hx1 => ?_) (fun hx2 => ?_)
        · refine v_iconst X (v := nI 0) (by decide) dL_load_191 ?_
          refine v_iadd X dL_load_192 ?_
          refine v_istore_n X [(3, .int (sm + (nI 0))), (5, .int (nI ((x % 9)))), (4, .int (nI z)), (2, .int (nI y)), (1, .int (nI x)), (0, .ref (ad k 0))] dL_load_193 (by decide) rfl ?_
          refine v_bipush X (v := nI 53) (by decide) dL_load_194 ?_
          refine v_iload_n X 0 dL_load_196 rfl ?_
          refine v_imul X dL_load_197 ?_
          refine v_aload_n X 5 dL_load_198 rfl ?_
          refine v_callL X rb.2.1 rb.2.2.1 hCl hCR (c_L_loadText l hst0 k Mq S1 hAq) mo_L_loadText m_493 m_648 m_649 m_581 ⟨Nat.le_of_ble_eq_true rfl, Nat.le_of_ble_eq_true rfl⟩ rfl rfl (Nat.le_of_ble_eq_true rfl) ⟨(show 11 * (x % 9) + 1 ≤ 104 by omega), (show 66 * (x % 9) + 6 ≤ 624 by omega)⟩ dL_load_199 (vI_in (fun r_3 M_1 h_2 => ?_))
          refine v_widen (z' := (11 * (x % 9) + 1, 66 * (x % 9) + 6)) (show 11 * (x % 9) + 1 ≤ 11 * (x % 9) + 1 by omega) (show 66 * (x % 9) + 6 ≤ 66 * (x % 9) + 6 by omega) ?_
          obtain ⟨hr_4, hA_5, hF_6⟩ := pa_eq ((rfl : W_loadText S1 = ((W_loadText S1).1, (W_loadText S1).2))) h_2
          subst hr_4
          have hFr_7 := hFq.tr hF_6
          refine v_iadd X dL_load_202 ?_
          exact v_iret X rb.1 ⟨(show 11 * (x % 9) + 1 ≤ 104 by omega), (show 66 * (x % 9) + 6 ≤ 624 by omega)⟩ rfl dL_load_203 ⟨_, rfl, PA.of (ld_f hw hx1) rfl hA_5 hFr_7⟩
        · refine v_aload_n X 5 dL_load_175 rfl ?_
          refine v_ldcS X hZ.1 dL_load_176 ?_
          refine v_iload_n X 3 dL_load_178 rfl ?_
          refine v_bipush X (v := nI 6) (by decide) dL_load_179 ?_
          refine v_remN X (by omega) (by omega) (by omega) dL_load_181 ?_
          refine v_callZV X hZ hCl hCR rfl (c_J0_charAt l k Mq sa sv (y % 6) (by omega)) mo_J0_charAt m_480 m_645 m_646 m_647 m_455 ⟨Nat.le_of_ble_eq_true rfl, Nat.le_of_ble_eq_true rfl⟩ rfl rfl (Nat.le_of_ble_eq_true rfl) ⟨rfl, rfl⟩ ⟨(show 11 * (x % 9) ≤ 104 by omega), (show 66 * (x % 9) ≤ 624 by omega)⟩ dL_load_182 (vP_in ?_)
          refine v_callL X rb.2.1 rb.2.2.1 hCl hCR (c_L_append l hst0 k Mq S1 (nI (chC (y % 6))) hAq) mo_L_append m_484 m_586 m_587 m_581 ⟨Nat.le_of_ble_eq_true rfl, Nat.le_of_ble_eq_true rfl⟩ rfl rfl (Nat.le_of_ble_eq_true rfl) ⟨(show 11 * (x % 9) + 1 ≤ 104 by omega), (show 66 * (x % 9) + 6 ≤ 624 by omega)⟩ dL_load_185 (vI_in (fun r_10 M_8 h_9 => ?_))
          refine v_widen (z' := (11 * (x % 9) + 1, 66 * (x % 9) + 6)) (show 11 * (x % 9) + 1 ≤ 11 * (x % 9) + 1 by omega) (show 66 * (x % 9) + 6 ≤ 66 * (x % 9) + 6 by omega) ?_
          obtain ⟨hr_11, hA_12, hF_13⟩ := pa_eq ((rfl : W_append S1 (nI (chC (y % 6))) = ((W_append S1 (nI (chC (y % 6)))).1, (W_append S1 (nI (chC (y % 6)))).2))) h_9
          subst hr_11
          have hFr_14 := hFq.tr hF_13
          refine v_goto X 192 dL_load_188 (by decide) ?_
          refine v_iadd X dL_load_192 ?_
          refine v_istore_n X [(3, .int (sm + (((W_append S1 (nI (chC (y % 6)))).1)))), (5, .int (nI ((x % 9)))), (4, .int (nI z)), (2, .int (nI y)), (1, .int (nI x)), (0, .ref (ad k 0))] dL_load_193 (by decide) rfl ?_
          refine v_bipush X (v := nI 53) (by decide) dL_load_194 ?_
          refine v_iload_n X 0 dL_load_196 rfl ?_
          refine v_imul X dL_load_197 ?_
          refine v_aload_n X 5 dL_load_198 rfl ?_
          refine v_callL X rb.2.1 rb.2.2.1 hCl hCR (c_L_loadText l hst0 k M_8 ((W_append S1 (nI (chC (y % 6)))).2) hA_12) mo_L_loadText m_493 m_648 m_649 m_581 ⟨Nat.le_of_ble_eq_true rfl, Nat.le_of_ble_eq_true rfl⟩ rfl rfl (Nat.le_of_ble_eq_true rfl) ⟨(show 11 * (x % 9) + 1 + 1 ≤ 104 by omega), (show 66 * (x % 9) + 6 + 6 ≤ 624 by omega)⟩ dL_load_199 (vI_in (fun r_17 M_15 h_16 => ?_))
          refine v_widen (z' := (11 * (x % 9) + 2, 66 * (x % 9) + 12)) (show 11 * (x % 9) + 1 + 1 ≤ 11 * (x % 9) + 2 by omega) (show 66 * (x % 9) + 6 + 6 ≤ 66 * (x % 9) + 12 by omega) ?_
          obtain ⟨hr_18, hA_19, hF_20⟩ := pa_eq ((rfl : W_loadText ((W_append S1 (nI (chC (y % 6)))).2) = ((W_loadText ((W_append S1 (nI (chC (y % 6)))).2)).1, (W_loadText ((W_append S1 (nI (chC (y % 6)))).2)).2))) h_16
          subst hr_18
          have hFr_21 := hFr_14.tr hF_20
          refine v_iadd X dL_load_202 ?_
          exact v_iret X rb.1 ⟨(show 11 * (x % 9) + 2 ≤ 104 by omega), (show 66 * (x % 9) + 12 ≤ 624 by omega)⟩ rfl dL_load_203 ⟨_, rfl, PA.of (ld_t hw hx2) rfl hA_19 hFr_21⟩
      · have L66 : ∀ (fu : Nat) (v sz : Nat) (sm2 s3 : Int32) (S2 S3 : SS) (Mq : Mem), 8 - v < fu → (ldA z sm S1 = (sm2, S2)) → (v ≤ 8) → (sz ≤ v) → (ldV z (sm2, 0, S2) v = (s3, sz, S3)) → At k Mq S3 → Fr 0 93 M Mq → V C k 9 (11 * i + 2 + v, 66 * i + 12 + 6 * v) Mq 66 [(8, .int (nI v)), (7, .int (nI sz)), (6, .int (nI ((z % 255) + 1))), (5, .int (nI i)), (4, .int (nI z)), (3, .int s3), (2, .int (nI y)), (1, .int (nI x)), (0, .ref (ad k 0))] [] := by
          intro fu
          induction fu with
          | zero => intro v sz sm2 s3 S2 S3 Mq hfu; exact absurd hfu (Nat.not_lt_zero _)
          | succ fu ih_L66 =>
            intro v sz sm2 s3 S2 S3 Mq hfu ha hv hsz hl hAq hFq
            refine v_iload X 0 dL_load_66 rfl ?_
            refine v_bipush X (v := nI 8) (by decide) dL_load_68 ?_
            refine v_cgeN X 135 (by omega) (by omega) dL_load_70 (by decide) (fun c_3 => ?_) (fun c_4 => ?_)
            · have hl8 : ldV z (sm2, 0, S2) 8 = (s3, sz, S3) := by rw [show 8 = v by omega]; exact hl
              refine v_iload_n X 5 dL_load_135 rfl ?_
              refine v_aload_n X 8 dL_load_136 rfl ?_
              refine v_bipush X (v := nI 59) (by decide) dL_load_137 ?_
              refine v_callL X rb.2.1 rb.2.2.1 hCl hCR (c_L_append l hst0 k Mq S3 (nI 59) hAq) mo_L_append m_484 m_586 m_587 m_581 ⟨Nat.le_of_ble_eq_true rfl, Nat.le_of_ble_eq_true rfl⟩ rfl rfl (Nat.le_of_ble_eq_true rfl) ⟨(show 11 * i + 2 + v + 1 ≤ 104 by omega), (show 66 * i + 12 + 6 * v + 6 ≤ 624 by omega)⟩ dL_load_139 (vI_in (fun r_24 M_22 h_23 => ?_))
              refine v_widen (z' := (11 * i + 2 + v + 1, 66 * i + 12 + 6 * v + 6)) (show 11 * i + 2 + v + 1 ≤ 11 * i + 2 + v + 1 by omega) (show 66 * i + 12 + 6 * v + 6 ≤ 66 * i + 12 + 6 * v + 6 by omega) ?_
              obtain ⟨hr_25, hA_26, hF_27⟩ := pa_eq ((rfl : W_append S3 (nI 59) = ((W_append S3 (nI 59)).1, (W_append S3 (nI 59)).2))) h_23
              subst hr_25
              have hFr_28 := hFq.tr hF_27
              refine v_iadd X dL_load_142 ?_
              refine v_istore_n X [(3, .int (s3 + (((W_append S3 (nI 59)).1)))), (8, .int (nI v)), (7, .int (nI sz)), (6, .int (nI ((z % 255) + 1))), (5, .int (nI i)), (4, .int (nI z)), (2, .int (nI y)), (1, .int (nI x)), (0, .ref (ad k 0))] dL_load_143 (by decide) rfl ?_
              refine v_iload X 5 dL_load_144 rfl ?_
              refine v_bipush X (v := nI 7) (by decide) dL_load_146 ?_
              refine v_divN X (by omega) (by omega) (by omega) dL_load_148 ?_
              refine v_iload_n X 6 dL_load_149 rfl ?_
              refine v_iload X 4 dL_load_150 rfl ?_
              refine v_iconst X (v := nI 3) (by decide) dL_load_152 ?_
              refine v_addN X dL_load_153 ?_
              refine v_mulN X dL_load_154 ?_
              refine v_xorN X dL_load_155 ?_
              refine v_ldc X (v := nI 2147483647) m_483 dL_load_156 ?_
              refine v_andN X dL_load_158 ?_
              refine v_istore X [(4, .int (nI (((z / 7) ^^^ (y * (i + 3))) &&& 2147483647))), (3, .int (s3 + (((W_append S3 (nI 59)).1)))), (8, .int (nI v)), (7, .int (nI sz)), (6, .int (nI ((z % 255) + 1))), (5, .int (nI i)), (2, .int (nI y)), (1, .int (nI x)), (0, .ref (ad k 0))] dL_load_159 (by decide) rfl ?_
              refine v_iinc X (v := nI (i + 1)) 5 [(5, .int (nI (i + 1))), (4, .int (nI (((z / 7) ^^^ (y * (i + 3))) &&& 2147483647))), (3, .int (s3 + (((W_append S3 (nI 59)).1)))), (8, .int (nI v)), (7, .int (nI sz)), (6, .int (nI ((z % 255) + 1))), (2, .int (nI y)), (1, .int (nI x)), (0, .ref (ad k 0))] dL_load_161 rfl (nI_1 _) (by decide) rfl ?_
              refine v_goto X 11 dL_load_164 (by decide) ?_
              refine v_widen (z' := (11 * (i + 1), 66 * (i + 1))) (show 11 * i + 2 + v + 1 ≤ 11 * (i + 1) by omega) (show 66 * i + 12 + 6 * v + 6 ≤ 66 * (i + 1) by omega) ?_
              refine v_lv [0, 1, 2, 6, 7, 8] rfl ?_
              exact ih_L11 (i + 1) (((z / 7) ^^^ (y * (i + 3))) &&& 2147483647) (s3 + (((W_append S3 (nI 59)).1))) ((W_append S3 (nI 59)).2) M_22 (by omega) (ldK_s hw ha hl8) and31 (by omega) hA_26 hFr_28
            · have B118 : ∀ (c : Nat) (Mq : Mem), (c = ldC z v) → ((z % 255 + 1) >>> v &&& 1 = 1) → (sz < 4) → At k Mq S3 → Fr 0 93 M Mq → V C k 9 (11 * i + 2 + v, 66 * i + 12 + 6 * v) Mq 118 [(8, .int (nI v)), (7, .int (nI sz)), (6, .int (nI ((z % 255) + 1))), (5, .int (nI i)), (4, .int (nI z)), (3, .int s3), (2, .int (nI y)), (1, .int (nI x)), (0, .ref (ad k 0))] [.int (nI c), .ref (ad k 0), .int s3] := by
                intro c Mq hc hb2 hs2 hAq hFq
                refine v_iload X 0 dL_load_118 rfl ?_
                refine v_addN X dL_load_120 ?_
                refine v_callL X rb.2.1 rb.2.2.1 hCl hCR (c_L_append l hst0 k Mq S3 (nI (c + v)) hAq) mo_L_append m_484 m_586 m_587 m_581 ⟨Nat.le_of_ble_eq_true rfl, Nat.le_of_ble_eq_true rfl⟩ rfl rfl (Nat.le_of_ble_eq_true rfl) ⟨(show 11 * i + 2 + v + 1 ≤ 104 by omega), (show 66 * i + 12 + 6 * v + 6 ≤ 624 by omega)⟩ dL_load_121 (vI_in (fun r_31 M_29 h_30 => ?_))
                refine v_widen (z' := (11 * i + 2 + v + 1, 66 * i + 12 + 6 * v + 6)) (show 11 * i + 2 + v + 1 ≤ 11 * i + 2 + v + 1 by omega) (show 66 * i + 12 + 6 * v + 6 ≤ 66 * i + 12 + 6 * v + 6 by omega) ?_
                obtain ⟨hr_32, hA_33, hF_34⟩ := pa_eq ((rfl : W_append S3 (nI (c + v)) = ((W_append S3 (nI (c + v))).1, (W_append S3 (nI (c + v))).2))) h_30
                subst hr_32
                have hFr_35 := hFq.tr hF_34
                refine v_iadd X dL_load_124 ?_
                refine v_istore_n X [(3, .int (s3 + (((W_append S3 (nI (c + v))).1)))), (8, .int (nI v)), (7, .int (nI sz)), (6, .int (nI ((z % 255) + 1))), (5, .int (nI i)), (4, .int (nI z)), (2, .int (nI y)), (1, .int (nI x)), (0, .ref (ad k 0))] dL_load_125 (by decide) rfl ?_
                refine v_iinc X (v := nI (sz + 1)) 2 [(7, .int (nI (sz + 1))), (3, .int (s3 + (((W_append S3 (nI (c + v))).1)))), (8, .int (nI v)), (6, .int (nI ((z % 255) + 1))), (5, .int (nI i)), (4, .int (nI z)), (2, .int (nI y)), (1, .int (nI x)), (0, .ref (ad k 0))] dL_load_126 rfl (nI_1 _) (by decide) rfl ?_
                refine v_iinc X (v := nI (v + 1)) 2 [(8, .int (nI (v + 1))), (7, .int (nI (sz + 1))), (3, .int (s3 + (((W_append S3 (nI (c + v))).1)))), (6, .int (nI ((z % 255) + 1))), (5, .int (nI i)), (4, .int (nI z)), (2, .int (nI y)), (1, .int (nI x)), (0, .ref (ad k 0))] dL_load_129 rfl (nI_1 _) (by decide) rfl ?_
                refine v_goto X 66 dL_load_132 (by decide) ?_
                refine v_widen (z' := (11 * i + 2 + (v + 1), 66 * i + 12 + 6 * (v + 1))) (show 11 * i + 2 + v + 1 ≤ 11 * i + 2 + (v + 1) by omega) (show 66 * i + 12 + 6 * v + 6 ≤ 66 * i + 12 + 6 * (v + 1) by omega) ?_
                refine v_lv [0, 1, 3, 4, 5, 2, 6, 7, 8] rfl ?_
                exact ih_L66 (v + 1) (sz + 1) sm2 (s3 + (((W_append S3 (nI (c + v))).1))) S2 ((W_append S3 (nI (c + v))).2) M_29 (by omega) ha (by omega) (by omega) (ldV_t hl hb2 hs2 hc) hA_33 hFr_35
              refine v_iload X 2 dL_load_73 rfl ?_
              refine v_iload X 0 dL_load_75 rfl ?_
              refine v_shrN X (by omega) (by omega) dL_load_77 ?_
              refine v_iconst X (v := nI 1) (by decide) dL_load_78 ?_
              refine v_andN X dL_load_79 ?_
              refine v_iconst X (v := nI 1) (by decide) dL_load_80 ?_
              refine v_cneN X 129 (Nat.lt_of_le_of_lt Nat.and_le_right (by decide)) (by decide) dL_load_81 (by decide) (fun hb1 => ?_) (fun hb2 => ?_)
              · refine v_iinc X (v := nI (v + 1)) 0 [(8, .int (nI (v + 1))), (7, .int (nI sz)), (6, .int (nI ((z % 255) + 1))), (5, .int (nI i)), (4, .int (nI z)), (3, .int s3), (2, .int (nI y)), (1, .int (nI x)), (0, .ref (ad k 0))] dL_load_129 rfl (nI_1 _) (by decide) rfl ?_
                refine v_goto X 66 dL_load_132 (by decide) ?_
                refine v_widen (z' := (11 * i + 2 + (v + 1), 66 * i + 12 + 6 * (v + 1))) (show 11 * i + 2 + v ≤ 11 * i + 2 + (v + 1) by omega) (show 66 * i + 12 + 6 * v ≤ 66 * i + 12 + 6 * (v + 1) by omega) ?_
                exact ih_L66 (v + 1) sz sm2 s3 S2 S3 Mq (by omega) ha (by omega) (by omega) (ldV_f hl (fun q => hb1 q.1)) hAq hFq
              · refine v_iload X 1 dL_load_84 rfl ?_
                refine v_iconst X (v := nI 4) (by decide) dL_load_86 ?_
                refine v_cgeN X 129 (by omega) (by omega) dL_load_87 (by decide) (fun hs1 => ?_) (fun hs2 => ?_)
                · refine v_iinc X (v := nI (v + 1)) 0 [(8, .int (nI (v + 1))), (7, .int (nI sz)), (6, .int (nI ((z % 255) + 1))), (5, .int (nI i)), (4, .int (nI z)), (3, .int s3), (2, .int (nI y)), (1, .int (nI x)), (0, .ref (ad k 0))] dL_load_129 rfl (nI_1 _) (by decide) rfl ?_
                  refine v_goto X 66 dL_load_132 (by decide) ?_
                  refine v_widen (z' := (11 * i + 2 + (v + 1), 66 * i + 12 + 6 * (v + 1))) (show 11 * i + 2 + v ≤ 11 * i + 2 + (v + 1) by omega) (show 66 * i + 12 + 6 * v ≤ 66 * i + 12 + 6 * (v + 1) by omega) ?_
                  exact ih_L66 (v + 1) sz sm2 s3 S2 S3 Mq (by omega) ha (by omega) (by omega) (ldV_f hl (fun q => by have := q.2; omega)) hAq hFq
                · refine v_iload_n X 5 dL_load_90 rfl ?_
                  refine v_aload_n X 8 dL_load_91 rfl ?_
                  refine v_iload X 4 dL_load_92 rfl ?_
                  refine v_iconst X (v := nI 3) (by decide) dL_load_94 ?_
                  refine v_remN X (by omega) (by omega) (by omega) dL_load_95 ?_
                  refine v_ieqN X 111 (by omega) dL_load_96 (by decide) (fun hd1 => ?_) (fun hd2 => ?_)
                  · refine v_bipush X (v := nI 97) (by decide) dL_load_111 ?_
                    refine v_goto X 118 dL_load_113 (by decide) ?_
                    exact B118 97 Mq (by unfold ldC; rw [if_pos (Or.inl hd1)]) hb2 hs2 hAq hFq
                  · refine v_iload X 4 dL_load_99 rfl ?_
                    refine v_iload X 0 dL_load_101 rfl ?_
                    refine v_iconst X (v := nI 4) (by decide) dL_load_103 ?_
                    refine v_addN X dL_load_104 ?_
                    refine v_shrN X (by omega) (by omega) dL_load_105 ?_
                    refine v_iconst X (v := nI 1) (by decide) dL_load_106 ?_
                    refine v_andN X dL_load_107 ?_
                    refine v_ineN X 116 (Nat.lt_of_le_of_lt Nat.and_le_right (by decide)) dL_load_108 (by decide) (fun hd3 => ?_) (fun hd4 => ?_)
                    · refine v_bipush X (v := nI 65) (by decide) dL_load_116 ?_
                      exact B118 65 Mq (by unfold ldC; rw [if_neg (fun q => q.elim hd2 hd3)]) hb2 hs2 hAq hFq
                    · refine v_bipush X (v := nI 97) (by decide) dL_load_111 ?_
                      refine v_goto X 118 dL_load_113 (by decide) ?_
                      exact B118 97 Mq (by unfold ldC; rw [if_pos (Or.inr hd4)]) hb2 hs2 hAq hFq
        have B60 : ∀ (sm2 : Int32) (S2 : SS) (Mq : Mem), (ldA z sm S1 = (sm2, S2)) → At k Mq S2 → Fr 0 93 M Mq → V C k 9 (11 * i + 2, 66 * i + 12) Mq 60 [(6, .int (nI ((z % 255) + 1))), (5, .int (nI i)), (4, .int (nI z)), (3, .int sm2), (2, .int (nI y)), (1, .int (nI x)), (0, .ref (ad k 0))] [] := by
          intro sm2 S2 Mq ha hAq hFq
          refine v_iconst X (v := nI 0) (by decide) dL_load_60 ?_
          refine v_istore X [(7, .int (nI 0)), (6, .int (nI ((z % 255) + 1))), (5, .int (nI i)), (4, .int (nI z)), (3, .int sm2), (2, .int (nI y)), (1, .int (nI x)), (0, .ref (ad k 0))] dL_load_61 (by decide) rfl ?_
          refine v_iconst X (v := nI 0) (by decide) dL_load_63 ?_
          refine v_istore X [(8, .int (nI 0)), (7, .int (nI 0)), (6, .int (nI ((z % 255) + 1))), (5, .int (nI i)), (4, .int (nI z)), (3, .int sm2), (2, .int (nI y)), (1, .int (nI x)), (0, .ref (ad k 0))] dL_load_64 (by decide) rfl ?_
          refine v_widen (z' := (11 * i + 2 + 0, 66 * i + 12 + 6 * 0)) (show 11 * i + 2 ≤ 11 * i + 2 + 0 by omega) (show 66 * i + 12 ≤ 66 * i + 12 + 6 * 0 by omega) ?_
          exact L66 9 0 0 sm2 sm2 S2 S2 Mq (by omega) ha (Nat.zero_le _) (Nat.le_refl _) rfl hAq hFq
        refine v_iload X 1 dL_load_20 rfl ?_
        refine v_sipush X (v := nI 255) (by decide) dL_load_22 ?_
        refine v_remN X (by omega) (by omega) (by omega) dL_load_25 ?_
        refine v_iconst X (v := nI 1) (by decide) dL_load_26 ?_
        refine v_addN X dL_load_27 ?_
        refine v_istore X [(6, .int (nI ((z % 255) + 1))), (5, .int (nI i)), (4, .int (nI z)), (3, .int sm), (2, .int (nI y)), (1, .int (nI x)), (0, .ref (ad k 0))] dL_load_28 (by decide) rfl ?_
        refine v_iload X 2 dL_load_30 rfl ?_
        refine v_iconst X (v := nI 3) (by decide) dL_load_32 ?_
        refine v_remN X (by omega) (by omega) (by omega) dL_load_33 ?_
        refine v_ineN X 60 (by omega) dL_load_34 (by decide) (fun hz3a => ?_) (fun hz3b => ?_)
        · refine v_widen (z' := (11 * i + 2, 66 * i + 12)) (show 11 * i ≤ 11 * i + 2 by omega) (show 66 * i ≤ 66 * i + 12 by omega) ?_
          exact B60 sm S1 Mq (ldA_f hz3a) hAq hFq
        · refine v_iload_n X 3 dL_load_37 rfl ?_
          refine v_aload_n X 6 dL_load_38 rfl ?_
          refine v_bipush X (v := nI 61) (by decide) dL_load_39 ?_
          refine v_callL X rb.2.1 rb.2.2.1 hCl hCR (c_L_append l hst0 k Mq S1 (nI 61) hAq) mo_L_append m_484 m_586 m_587 m_581 ⟨Nat.le_of_ble_eq_true rfl, Nat.le_of_ble_eq_true rfl⟩ rfl rfl (Nat.le_of_ble_eq_true rfl) ⟨(show 11 * i + 1 ≤ 104 by omega), (show 66 * i + 6 ≤ 624 by omega)⟩ dL_load_41 (vI_in (fun r_38 M_36 h_37 => ?_))
          refine v_widen (z' := (11 * i + 1, 66 * i + 6)) (show 11 * i + 1 ≤ 11 * i + 1 by omega) (show 66 * i + 6 ≤ 66 * i + 6 by omega) ?_
          obtain ⟨hr_39, hA_40, hF_41⟩ := pa_eq ((rfl : W_append S1 (nI 61) = ((W_append S1 (nI 61)).1, (W_append S1 (nI 61)).2))) h_37
          subst hr_39
          have hFr_42 := hFq.tr hF_41
          refine v_aload_n X 6 dL_load_44 rfl ?_
          refine v_bipush X (v := nI 48) (by decide) dL_load_45 ?_
          refine v_iload X 2 dL_load_47 rfl ?_
          refine v_iconst X (v := nI 3) (by decide) dL_load_49 ?_
          refine v_divN X (by omega) (by omega) (by omega) dL_load_50 ?_
          refine v_iconst X (v := nI 2) (by decide) dL_load_51 ?_
          refine v_remN X (by omega) (by omega) (by omega) dL_load_52 ?_
          refine v_addN X dL_load_53 ?_
          refine v_callL X rb.2.1 rb.2.2.1 hCl hCR (c_L_append l hst0 k M_36 ((W_append S1 (nI 61)).2) (nI (48 + ((z / 3) % 2))) hA_40) mo_L_append m_484 m_586 m_587 m_581 ⟨Nat.le_of_ble_eq_true rfl, Nat.le_of_ble_eq_true rfl⟩ rfl rfl (Nat.le_of_ble_eq_true rfl) ⟨(show 11 * i + 1 + 1 ≤ 104 by omega), (show 66 * i + 6 + 6 ≤ 624 by omega)⟩ dL_load_54 (vI_in (fun r_45 M_43 h_44 => ?_))
          refine v_widen (z' := (11 * i + 2, 66 * i + 12)) (show 11 * i + 1 + 1 ≤ 11 * i + 2 by omega) (show 66 * i + 6 + 6 ≤ 66 * i + 12 by omega) ?_
          obtain ⟨hr_46, hA_47, hF_48⟩ := pa_eq ((rfl : W_append ((W_append S1 (nI 61)).2) (nI (48 + ((z / 3) % 2))) = ((W_append ((W_append S1 (nI 61)).2) (nI (48 + ((z / 3) % 2)))).1, (W_append ((W_append S1 (nI 61)).2) (nI (48 + ((z / 3) % 2)))).2))) h_44
          subst hr_46
          have hFr_49 := hFr_42.tr hF_48
          refine v_iadd X dL_load_57 ?_
          refine v_iadd X dL_load_58 ?_
          refine v_istore_n X [(3, .int (sm + (((((W_append S1 (nI 61)).1)) + (((W_append ((W_append S1 (nI 61)).2) (nI (48 + ((z / 3) % 2)))).1)))))), (6, .int (nI ((z % 255) + 1))), (5, .int (nI i)), (4, .int (nI z)), (2, .int (nI y)), (1, .int (nI x)), (0, .ref (ad k 0))] dL_load_59 (by decide) rfl ?_
          refine v_lv [1, 2, 3, 0, 4, 5, 6] rfl ?_
          exact B60 (sm + (((((W_append S1 (nI 61)).1)) + (((W_append ((W_append S1 (nI 61)).2) (nI (48 + ((z / 3) % 2)))).1))))) ((W_append ((W_append S1 (nI 61)).2) (nI (48 + ((z / 3) % 2)))).2) M_43 (ldA_t hz3b) hA_47 hFr_49
  refine v_aload_n X 0 dL_load_0 rfl ?_
  refine v_callV X hCl hCR (c_X7_clearText l k M S.1 S.2.1 S.2.2.1 S.2.2.2.1 S.2.2.2.2 hA) cls7 hA.obj (by omega) mo_X7_clearText m_281 m_642 m_643 m_644 m_21 (by decide) rfl rfl (Nat.le_of_ble_eq_true rfl) ⟨rfl, rfl⟩ ⟨Nat.le_of_ble_eq_true rfl, Nat.le_of_ble_eq_true rfl⟩ dL_load_1 (vI_in (fun r_52 M_50 h_51 => ?_))
  obtain ⟨hr_53, hA_54, hF_55⟩ : r_52 = nI S.2.2.2.2.length ∧ At k M_50 (ldS S) ∧ Fr 0 93 M M_50 := h_51
  subst hr_53
  have hFr_56 := Fr.rf.tr hF_55
  refine v_istore_n X [(3, .int (nI S.2.2.2.2.length)), (0, .ref (ad k 0)), (1, .int (nI x)), (2, .int (nI y))] dL_load_4 (by decide) rfl ?_
  refine v_iload_n X 3 dL_load_5 rfl ?_
  refine v_istore X [(4, .int (nI y)), (3, .int (nI S.2.2.2.2.length)), (0, .ref (ad k 0)), (1, .int (nI x)), (2, .int (nI y))] dL_load_6 (by decide) rfl ?_
  refine v_iconst X (v := nI 0) (by decide) dL_load_8 ?_
  refine v_istore X [(5, .int (nI 0)), (4, .int (nI y)), (3, .int (nI S.2.2.2.2.length)), (0, .ref (ad k 0)), (1, .int (nI x)), (2, .int (nI y))] dL_load_9 (by decide) rfl ?_
  refine v_widen (z' := (11 * 0, 66 * 0)) (show 0 ≤ 11 * 0 by omega) (show 0 ≤ 66 * 0 by omega) ?_
  refine v_lv [0, 1, 2, 5, 4, 3] rfl ?_
  exact L11 (x % 9 + 1) 0 y (nI S.2.2.2.2.length) (ldS S) M_50 (by omega) (rfl) hy (Nat.zero_le _) hA_54 hFr_56
noncomputable def W_act (S : SS) (x y : Nat) : Int32 × SS := match x &&& 15 with
  | 0 => W_load S (x >>> 4) y
  | 1 => W_load S (x >>> 4) y
  | 2 => W_clause S (nI ((y &&& (y >>> 8)) &&& 255)) (nI ((((y >>> 16) &&& ((y &&& (y >>> 8)) ^^^ 4294967295)) &&& (y >>> 4)) &&& 255))
  | 3 => W_clause S (nI ((y &&& (y >>> 8)) &&& 255)) (nI ((((y >>> 16) &&& ((y &&& (y >>> 8)) ^^^ 4294967295)) &&& (y >>> 4)) &&& 255))
  | 4 => W_clause S (nI ((y &&& (y >>> 8)) &&& 255)) (nI ((((y >>> 16) &&& ((y &&& (y >>> 8)) ^^^ 4294967295)) &&& (y >>> 4)) &&& 255))
  | 5 => W_sumOfBits S (nI ((y &&& (y >>> 9)) &&& 255)) (nI ((y >>> 20) &&& 1))
  | 6 => W_sumOfBits S (nI ((y &&& (y >>> 9)) &&& 255)) (nI ((y >>> 20) &&& 1))
  | 7 => W_remove S (nI (y % 24))
  | 8 => W_resolve S (nI (y % 9)) (nI ((y / 9) % 9)) (nI ((y / 81) % 8))
  | 9 => W_decide S (nI (y % 16))
  | 10 => W_decide S (nI (y % 16))
  | 11 => W_decide S (nI (y % 16))
  | 12 => W_backtrack S (nI (y % 4))
  | 13 => if sCf S = none then W_undo S else W_learn S
  | 14 => W_save S (nI (y &&& 1))
  | _ => W_restore S (nI (y &&& 1))
set_option maxHeartbeats 4000000 in
set_option maxRecDepth 100000 in
theorem c_L_act (l : Launch) (hst0 : l.stackTraces = false) (k : KX) (M : Mem) (S : SS) (x y : Nat) (hxy : x < 2 ^ 31 ∧ y < 2 ^ 31) (hA : At k M S) : CB l yL_act cL_act 3 (some .int) { frames := 9, cells := 104, slots := 624, locals := 208 } k [.ref (ad k 0), .int (nI x), .int (nI y)] M (pI (PA k M (W_act S x y))) := by
  refine CB.of (by decide) (Nat.le_of_ble_eq_true rfl) (fun C X hCl hCR rb => ?_)
  show V C k 3 (0, 0) M 0 [(0, .ref (ad k 0)), (1, .int (nI x)), (2, .int (nI y))] []
  have hN := hA.N
  have hcf := hA.cf
  obtain ⟨hx, hy⟩ := hxy
  refine v_iload_n X 1 dL_act_0 rfl ?_
  refine v_bipush X (v := nI 15) (by decide) dL_act_1 ?_
  refine v_andN X dL_act_3 ?_
  obtain ⟨c, hc, e⟩ : ∃ c, c < 16 ∧ x &&& 15 = c := ⟨_, and_lt (by decide), rfl⟩
  refine v_top (show (Value.int (nI (x &&& 15)) : Value) = .int (nI c) from congrArg _ (congrArg nI e)) ?_
  rcases (show c = 0 ∨ c = 1 ∨ c = 2 ∨ c = 3 ∨ c = 4 ∨ c = 5 ∨ c = 6 ∨ c = 7 ∨ c = 8 ∨ c = 9 ∨ c = 10 ∨ c = 11 ∨ c = 12 ∨ c = 13 ∨ c = 14 ∨ c = 15 by omega) with rfl | rfl | rfl | rfl | rfl | rfl | rfl | rfl | rfl | rfl | rfl | rfl | rfl | rfl | rfl | rfl
  · refine v_tswIn (off := 76) X 80 dL_act_4 (by decide) (by decide) rfl (by decide) ?_
    refine v_aload_n X 0 dL_act_80 rfl ?_
    refine v_iload_n X 1 dL_act_81 rfl ?_
    refine v_iconst X (v := nI 4) (by decide) dL_act_82 ?_
    refine v_shrN X (by omega) (by omega) dL_act_83 ?_
    refine v_iload_n X 2 dL_act_84 rfl ?_
    refine v_callB X rb.2 hCl hCR (c_L_load l hst0 k M S (x >>> 4) y ⟨by have := Nat.shiftRight_le x 4; omega, by omega⟩ hA) mo_L_load m_b1 m_650 m_651 m_581 ⟨Nat.le_of_ble_eq_true rfl, Nat.le_of_ble_eq_true rfl⟩ rfl rfl (Nat.le_of_ble_eq_true rfl) ⟨Nat.le_of_ble_eq_true rfl, Nat.le_of_ble_eq_true rfl⟩ dL_act_85 (vI_in (fun r_3 M_1 h_2 => ?_))
    refine v_widen (z' := (104, 624)) (Nat.le_of_ble_eq_true rfl) (Nat.le_of_ble_eq_true rfl) ?_
    obtain ⟨hr_4, hA_5, hF_6⟩ := h_2
    subst hr_4
    have hFr_7 := Fr.rf.tr hF_6
    exact v_iret X rb.1 ⟨Nat.le_of_ble_eq_true rfl, Nat.le_of_ble_eq_true rfl⟩ rfl dL_act_88 ⟨_, rfl, PA.of (show W_act S x y = ((W_load S (x >>> 4) y).1, (W_load S (x >>> 4) y).2) from (show W_act S x y = W_load S (x >>> 4) y by unfold W_act; simp only [e]).trans rfl) rfl hA_5 hFr_7⟩
  · refine v_tswIn (off := 76) X 80 dL_act_4 (by decide) (by decide) rfl (by decide) ?_
    refine v_aload_n X 0 dL_act_80 rfl ?_
    refine v_iload_n X 1 dL_act_81 rfl ?_
    refine v_iconst X (v := nI 4) (by decide) dL_act_82 ?_
    refine v_shrN X (by omega) (by omega) dL_act_83 ?_
    refine v_iload_n X 2 dL_act_84 rfl ?_
    refine v_callB X rb.2 hCl hCR (c_L_load l hst0 k M S (x >>> 4) y ⟨by have := Nat.shiftRight_le x 4; omega, by omega⟩ hA) mo_L_load m_b1 m_650 m_651 m_581 ⟨Nat.le_of_ble_eq_true rfl, Nat.le_of_ble_eq_true rfl⟩ rfl rfl (Nat.le_of_ble_eq_true rfl) ⟨Nat.le_of_ble_eq_true rfl, Nat.le_of_ble_eq_true rfl⟩ dL_act_85 (vI_in (fun r_10 M_8 h_9 => ?_))
    refine v_widen (z' := (104, 624)) (Nat.le_of_ble_eq_true rfl) (Nat.le_of_ble_eq_true rfl) ?_
    obtain ⟨hr_11, hA_12, hF_13⟩ := h_9
    subst hr_11
    have hFr_14 := Fr.rf.tr hF_13
    exact v_iret X rb.1 ⟨Nat.le_of_ble_eq_true rfl, Nat.le_of_ble_eq_true rfl⟩ rfl dL_act_88 ⟨_, rfl, PA.of (show W_act S x y = ((W_load S (x >>> 4) y).1, (W_load S (x >>> 4) y).2) from (show W_act S x y = W_load S (x >>> 4) y by unfold W_act; simp only [e]).trans rfl) rfl hA_12 hFr_14⟩
  · refine v_tswIn (off := 85) X 89 dL_act_4 (by decide) (by decide) rfl (by decide) ?_
    refine v_aload_n X 0 dL_act_89 rfl ?_
    refine v_iload_n X 2 dL_act_90 rfl ?_
    refine v_iload_n X 2 dL_act_91 rfl ?_
    refine v_bipush X (v := nI 8) (by decide) dL_act_92 ?_
    refine v_shrN X (by omega) (by omega) dL_act_94 ?_
    refine v_andN X dL_act_95 ?_
    refine v_sipush X (v := nI 255) (by decide) dL_act_96 ?_
    refine v_andN X dL_act_99 ?_
    refine v_iload_n X 2 dL_act_100 rfl ?_
    refine v_bipush X (v := nI 16) (by decide) dL_act_101 ?_
    refine v_shrN X (by omega) (by omega) dL_act_103 ?_
    refine v_iload_n X 2 dL_act_104 rfl ?_
    refine v_iload_n X 2 dL_act_105 rfl ?_
    refine v_bipush X (v := nI 8) (by decide) dL_act_106 ?_
    refine v_shrN X (by omega) (by omega) dL_act_108 ?_
    refine v_andN X dL_act_109 ?_
    refine v_iconst X (v := nI 4294967295) (by decide) dL_act_110 ?_
    refine v_xorN X dL_act_111 ?_
    refine v_andN X dL_act_112 ?_
    refine v_iload_n X 2 dL_act_113 rfl ?_
    refine v_iconst X (v := nI 4) (by decide) dL_act_114 ?_
    refine v_shrN X (by omega) (by omega) dL_act_115 ?_
    refine v_andN X dL_act_116 ?_
    refine v_sipush X (v := nI 255) (by decide) dL_act_117 ?_
    refine v_andN X dL_act_120 ?_
    refine v_callL X rb.2.1 rb.2.2.1 hCl hCR (c_L_clause l hst0 k M S (nI ((y &&& (y >>> 8)) &&& 255)) (nI ((((y >>> 16) &&& ((y &&& (y >>> 8)) ^^^ 4294967295)) &&& (y >>> 4)) &&& 255)) hA) mo_L_clause m_510 m_594 m_595 m_581 ⟨Nat.le_of_ble_eq_true rfl, Nat.le_of_ble_eq_true rfl⟩ rfl rfl (Nat.le_of_ble_eq_true rfl) ⟨Nat.le_of_ble_eq_true rfl, Nat.le_of_ble_eq_true rfl⟩ dL_act_121 (vI_in (fun r_17 M_15 h_16 => ?_))
    refine v_widen (z' := (2, 12)) (Nat.le_of_ble_eq_true rfl) (Nat.le_of_ble_eq_true rfl) ?_
    obtain ⟨hr_18, hA_19, hF_20⟩ := pa_eq ((rfl : W_clause S (nI ((y &&& (y >>> 8)) &&& 255)) (nI ((((y >>> 16) &&& ((y &&& (y >>> 8)) ^^^ 4294967295)) &&& (y >>> 4)) &&& 255)) = ((W_clause S (nI ((y &&& (y >>> 8)) &&& 255)) (nI ((((y >>> 16) &&& ((y &&& (y >>> 8)) ^^^ 4294967295)) &&& (y >>> 4)) &&& 255))).1, (W_clause S (nI ((y &&& (y >>> 8)) &&& 255)) (nI ((((y >>> 16) &&& ((y &&& (y >>> 8)) ^^^ 4294967295)) &&& (y >>> 4)) &&& 255))).2))) h_16
    subst hr_18
    have hFr_21 := Fr.rf.tr hF_20
    exact v_iret X rb.1 ⟨Nat.le_of_ble_eq_true rfl, Nat.le_of_ble_eq_true rfl⟩ rfl dL_act_124 ⟨_, rfl, PA.of (show W_act S x y = ((W_clause S (nI ((y &&& (y >>> 8)) &&& 255)) (nI ((((y >>> 16) &&& ((y &&& (y >>> 8)) ^^^ 4294967295)) &&& (y >>> 4)) &&& 255))).1, (W_clause S (nI ((y &&& (y >>> 8)) &&& 255)) (nI ((((y >>> 16) &&& ((y &&& (y >>> 8)) ^^^ 4294967295)) &&& (y >>> 4)) &&& 255))).2) from (show W_act S x y = W_clause S (nI ((y &&& (y >>> 8)) &&& 255)) (nI ((((y >>> 16) &&& ((y &&& (y >>> 8)) ^^^ 4294967295)) &&& (y >>> 4)) &&& 255)) by unfold W_act; simp only [e]).trans rfl) rfl hA_19 hFr_21⟩
  · refine v_tswIn (off := 85) X 89 dL_act_4 (by decide) (by decide) rfl (by decide) ?_
    refine v_aload_n X 0 dL_act_89 rfl ?_
    refine v_iload_n X 2 dL_act_90 rfl ?_
    refine v_iload_n X 2 dL_act_91 rfl ?_
    refine v_bipush X (v := nI 8) (by decide) dL_act_92 ?_
    refine v_shrN X (by omega) (by omega) dL_act_94 ?_
    refine v_andN X dL_act_95 ?_
    refine v_sipush X (v := nI 255) (by decide) dL_act_96 ?_
    refine v_andN X dL_act_99 ?_
    refine v_iload_n X 2 dL_act_100 rfl ?_
    refine v_bipush X (v := nI 16) (by decide) dL_act_101 ?_
    refine v_shrN X (by omega) (by omega) dL_act_103 ?_
    refine v_iload_n X 2 dL_act_104 rfl ?_
    refine v_iload_n X 2 dL_act_105 rfl ?_
    refine v_bipush X (v := nI 8) (by decide) dL_act_106 ?_
    refine v_shrN X (by omega) (by omega) dL_act_108 ?_
    refine v_andN X dL_act_109 ?_
    refine v_iconst X (v := nI 4294967295) (by decide) dL_act_110 ?_
    refine v_xorN X dL_act_111 ?_
    refine v_andN X dL_act_112 ?_
    refine v_iload_n X 2 dL_act_113 rfl ?_
    refine v_iconst X (v := nI 4) (by decide) dL_act_114 ?_
    refine v_shrN X (by omega) (by omega) dL_act_115 ?_
    refine v_andN X dL_act_116 ?_
    refine v_sipush X (v := nI 255) (by decide) dL_act_117 ?_
    refine v_andN X dL_act_120 ?_
    refine v_callL X rb.2.1 rb.2.2.1 hCl hCR (c_L_clause l hst0 k M S (nI ((y &&& (y >>> 8)) &&& 255)) (nI ((((y >>> 16) &&& ((y &&& (y >>> 8)) ^^^ 4294967295)) &&& (y >>> 4)) &&& 255)) hA) mo_L_clause m_510 m_594 m_595 m_581 ⟨Nat.le_of_ble_eq_true rfl, Nat.le_of_ble_eq_true rfl⟩ rfl rfl (Nat.le_of_ble_eq_true rfl) ⟨Nat.le_of_ble_eq_true rfl, Nat.le_of_ble_eq_true rfl⟩ dL_act_121 (vI_in (fun r_24 M_22 h_23 => ?_))
    refine v_widen (z' := (2, 12)) (Nat.le_of_ble_eq_true rfl) (Nat.le_of_ble_eq_true rfl) ?_
    obtain ⟨hr_25, hA_26, hF_27⟩ := pa_eq ((rfl : W_clause S (nI ((y &&& (y >>> 8)) &&& 255)) (nI ((((y >>> 16) &&& ((y &&& (y >>> 8)) ^^^ 4294967295)) &&& (y >>> 4)) &&& 255)) = ((W_clause S (nI ((y &&& (y >>> 8)) &&& 255)) (nI ((((y >>> 16) &&& ((y &&& (y >>> 8)) ^^^ 4294967295)) &&& (y >>> 4)) &&& 255))).1, (W_clause S (nI ((y &&& (y >>> 8)) &&& 255)) (nI ((((y >>> 16) &&& ((y &&& (y >>> 8)) ^^^ 4294967295)) &&& (y >>> 4)) &&& 255))).2))) h_23
    subst hr_25
    have hFr_28 := Fr.rf.tr hF_27
    exact v_iret X rb.1 ⟨Nat.le_of_ble_eq_true rfl, Nat.le_of_ble_eq_true rfl⟩ rfl dL_act_124 ⟨_, rfl, PA.of (show W_act S x y = ((W_clause S (nI ((y &&& (y >>> 8)) &&& 255)) (nI ((((y >>> 16) &&& ((y &&& (y >>> 8)) ^^^ 4294967295)) &&& (y >>> 4)) &&& 255))).1, (W_clause S (nI ((y &&& (y >>> 8)) &&& 255)) (nI ((((y >>> 16) &&& ((y &&& (y >>> 8)) ^^^ 4294967295)) &&& (y >>> 4)) &&& 255))).2) from (show W_act S x y = W_clause S (nI ((y &&& (y >>> 8)) &&& 255)) (nI ((((y >>> 16) &&& ((y &&& (y >>> 8)) ^^^ 4294967295)) &&& (y >>> 4)) &&& 255)) by unfold W_act; simp only [e]).trans rfl) rfl hA_26 hFr_28⟩
  · refine v_tswIn (off := 85) X 89 dL_act_4 (by decide) (by decide) rfl (by decide) ?_
    refine v_aload_n X 0 dL_act_89 rfl ?_
    refine v_iload_n X 2 dL_act_90 rfl ?_
    refine v_iload_n X 2 dL_act_91 rfl ?_
    refine v_bipush X (v := nI 8) (by decide) dL_act_92 ?_
    refine v_shrN X (by omega) (by omega) dL_act_94 ?_
    refine v_andN X dL_act_95 ?_
    refine v_sipush X (v := nI 255) (by decide) dL_act_96 ?_
    refine v_andN X dL_act_99 ?_
    refine v_iload_n X 2 dL_act_100 rfl ?_
    refine v_bipush X (v := nI 16) (by decide) dL_act_101 ?_
    refine v_shrN X (by omega) (by omega) dL_act_103 ?_
    refine v_iload_n X 2 dL_act_104 rfl ?_
    refine v_iload_n X 2 dL_act_105 rfl ?_
    refine v_bipush X (v := nI 8) (by decide) dL_act_106 ?_
    refine v_shrN X (by omega) (by omega) dL_act_108 ?_
    refine v_andN X dL_act_109 ?_
    refine v_iconst X (v := nI 4294967295) (by decide) dL_act_110 ?_
    refine v_xorN X dL_act_111 ?_
    refine v_andN X dL_act_112 ?_
    refine v_iload_n X 2 dL_act_113 rfl ?_
    refine v_iconst X (v := nI 4) (by decide) dL_act_114 ?_
    refine v_shrN X (by omega) (by omega) dL_act_115 ?_
    refine v_andN X dL_act_116 ?_
    refine v_sipush X (v := nI 255) (by decide) dL_act_117 ?_
    refine v_andN X dL_act_120 ?_
    refine v_callL X rb.2.1 rb.2.2.1 hCl hCR (c_L_clause l hst0 k M S (nI ((y &&& (y >>> 8)) &&& 255)) (nI ((((y >>> 16) &&& ((y &&& (y >>> 8)) ^^^ 4294967295)) &&& (y >>> 4)) &&& 255)) hA) mo_L_clause m_510 m_594 m_595 m_581 ⟨Nat.le_of_ble_eq_true rfl, Nat.le_of_ble_eq_true rfl⟩ rfl rfl (Nat.le_of_ble_eq_true rfl) ⟨Nat.le_of_ble_eq_true rfl, Nat.le_of_ble_eq_true rfl⟩ dL_act_121 (vI_in (fun r_31 M_29 h_30 => ?_))
    refine v_widen (z' := (2, 12)) (Nat.le_of_ble_eq_true rfl) (Nat.le_of_ble_eq_true rfl) ?_
    obtain ⟨hr_32, hA_33, hF_34⟩ := pa_eq ((rfl : W_clause S (nI ((y &&& (y >>> 8)) &&& 255)) (nI ((((y >>> 16) &&& ((y &&& (y >>> 8)) ^^^ 4294967295)) &&& (y >>> 4)) &&& 255)) = ((W_clause S (nI ((y &&& (y >>> 8)) &&& 255)) (nI ((((y >>> 16) &&& ((y &&& (y >>> 8)) ^^^ 4294967295)) &&& (y >>> 4)) &&& 255))).1, (W_clause S (nI ((y &&& (y >>> 8)) &&& 255)) (nI ((((y >>> 16) &&& ((y &&& (y >>> 8)) ^^^ 4294967295)) &&& (y >>> 4)) &&& 255))).2))) h_30
    subst hr_32
    have hFr_35 := Fr.rf.tr hF_34
    exact v_iret X rb.1 ⟨Nat.le_of_ble_eq_true rfl, Nat.le_of_ble_eq_true rfl⟩ rfl dL_act_124 ⟨_, rfl, PA.of (show W_act S x y = ((W_clause S (nI ((y &&& (y >>> 8)) &&& 255)) (nI ((((y >>> 16) &&& ((y &&& (y >>> 8)) ^^^ 4294967295)) &&& (y >>> 4)) &&& 255))).1, (W_clause S (nI ((y &&& (y >>> 8)) &&& 255)) (nI ((((y >>> 16) &&& ((y &&& (y >>> 8)) ^^^ 4294967295)) &&& (y >>> 4)) &&& 255))).2) from (show W_act S x y = W_clause S (nI ((y &&& (y >>> 8)) &&& 255)) (nI ((((y >>> 16) &&& ((y &&& (y >>> 8)) ^^^ 4294967295)) &&& (y >>> 4)) &&& 255)) by unfold W_act; simp only [e]).trans rfl) rfl hA_33 hFr_35⟩
  · refine v_tswIn (off := 121) X 125 dL_act_4 (by decide) (by decide) rfl (by decide) ?_
    refine v_aload_n X 0 dL_act_125 rfl ?_
    refine v_iload_n X 2 dL_act_126 rfl ?_
    refine v_iload_n X 2 dL_act_127 rfl ?_
    refine v_bipush X (v := nI 9) (by decide) dL_act_128 ?_
    refine v_shrN X (by omega) (by omega) dL_act_130 ?_
    refine v_andN X dL_act_131 ?_
    refine v_sipush X (v := nI 255) (by decide) dL_act_132 ?_
    refine v_andN X dL_act_135 ?_
    refine v_iload_n X 2 dL_act_136 rfl ?_
    refine v_bipush X (v := nI 20) (by decide) dL_act_137 ?_
    refine v_shrN X (by omega) (by omega) dL_act_139 ?_
    refine v_iconst X (v := nI 1) (by decide) dL_act_140 ?_
    refine v_andN X dL_act_141 ?_
    refine v_callL X rb.2.1 rb.2.2.1 hCl hCR (c_L_sumOfBits l hst0 k M S (nI ((y &&& (y >>> 9)) &&& 255)) (nI ((y >>> 20) &&& 1)) hA) mo_L_sumOfBits m_514 m_596 m_597 m_581 ⟨Nat.le_of_ble_eq_true rfl, Nat.le_of_ble_eq_true rfl⟩ rfl rfl (Nat.le_of_ble_eq_true rfl) ⟨Nat.le_of_ble_eq_true rfl, Nat.le_of_ble_eq_true rfl⟩ dL_act_142 (vI_in (fun r_38 M_36 h_37 => ?_))
    refine v_widen (z' := (2, 12)) (Nat.le_of_ble_eq_true rfl) (Nat.le_of_ble_eq_true rfl) ?_
    obtain ⟨hr_39, hA_40, hF_41⟩ := pa_eq ((rfl : W_sumOfBits S (nI ((y &&& (y >>> 9)) &&& 255)) (nI ((y >>> 20) &&& 1)) = ((W_sumOfBits S (nI ((y &&& (y >>> 9)) &&& 255)) (nI ((y >>> 20) &&& 1))).1, (W_sumOfBits S (nI ((y &&& (y >>> 9)) &&& 255)) (nI ((y >>> 20) &&& 1))).2))) h_37
    subst hr_39
    have hFr_42 := Fr.rf.tr hF_41
    exact v_iret X rb.1 ⟨Nat.le_of_ble_eq_true rfl, Nat.le_of_ble_eq_true rfl⟩ rfl dL_act_145 ⟨_, rfl, PA.of (show W_act S x y = ((W_sumOfBits S (nI ((y &&& (y >>> 9)) &&& 255)) (nI ((y >>> 20) &&& 1))).1, (W_sumOfBits S (nI ((y &&& (y >>> 9)) &&& 255)) (nI ((y >>> 20) &&& 1))).2) from (show W_act S x y = W_sumOfBits S (nI ((y &&& (y >>> 9)) &&& 255)) (nI ((y >>> 20) &&& 1)) by unfold W_act; simp only [e]).trans rfl) rfl hA_40 hFr_42⟩
  · refine v_tswIn (off := 121) X 125 dL_act_4 (by decide) (by decide) rfl (by decide) ?_
    refine v_aload_n X 0 dL_act_125 rfl ?_
    refine v_iload_n X 2 dL_act_126 rfl ?_
    refine v_iload_n X 2 dL_act_127 rfl ?_
    refine v_bipush X (v := nI 9) (by decide) dL_act_128 ?_
    refine v_shrN X (by omega) (by omega) dL_act_130 ?_
    refine v_andN X dL_act_131 ?_
    refine v_sipush X (v := nI 255) (by decide) dL_act_132 ?_
    refine v_andN X dL_act_135 ?_
    refine v_iload_n X 2 dL_act_136 rfl ?_
    refine v_bipush X (v := nI 20) (by decide) dL_act_137 ?_
    refine v_shrN X (by omega) (by omega) dL_act_139 ?_
    refine v_iconst X (v := nI 1) (by decide) dL_act_140 ?_
    refine v_andN X dL_act_141 ?_
    refine v_callL X rb.2.1 rb.2.2.1 hCl hCR (c_L_sumOfBits l hst0 k M S (nI ((y &&& (y >>> 9)) &&& 255)) (nI ((y >>> 20) &&& 1)) hA) mo_L_sumOfBits m_514 m_596 m_597 m_581 ⟨Nat.le_of_ble_eq_true rfl, Nat.le_of_ble_eq_true rfl⟩ rfl rfl (Nat.le_of_ble_eq_true rfl) ⟨Nat.le_of_ble_eq_true rfl, Nat.le_of_ble_eq_true rfl⟩ dL_act_142 (vI_in (fun r_45 M_43 h_44 => ?_))
    refine v_widen (z' := (2, 12)) (Nat.le_of_ble_eq_true rfl) (Nat.le_of_ble_eq_true rfl) ?_
    obtain ⟨hr_46, hA_47, hF_48⟩ := pa_eq ((rfl : W_sumOfBits S (nI ((y &&& (y >>> 9)) &&& 255)) (nI ((y >>> 20) &&& 1)) = ((W_sumOfBits S (nI ((y &&& (y >>> 9)) &&& 255)) (nI ((y >>> 20) &&& 1))).1, (W_sumOfBits S (nI ((y &&& (y >>> 9)) &&& 255)) (nI ((y >>> 20) &&& 1))).2))) h_44
    subst hr_46
    have hFr_49 := Fr.rf.tr hF_48
    exact v_iret X rb.1 ⟨Nat.le_of_ble_eq_true rfl, Nat.le_of_ble_eq_true rfl⟩ rfl dL_act_145 ⟨_, rfl, PA.of (show W_act S x y = ((W_sumOfBits S (nI ((y &&& (y >>> 9)) &&& 255)) (nI ((y >>> 20) &&& 1))).1, (W_sumOfBits S (nI ((y &&& (y >>> 9)) &&& 255)) (nI ((y >>> 20) &&& 1))).2) from (show W_act S x y = W_sumOfBits S (nI ((y &&& (y >>> 9)) &&& 255)) (nI ((y >>> 20) &&& 1)) by unfold W_act; simp only [e]).trans rfl) rfl hA_47 hFr_49⟩
  · refine v_tswIn (off := 142) X 146 dL_act_4 (by decide) (by decide) rfl (by decide) ?_
    refine v_aload_n X 0 dL_act_146 rfl ?_
    refine v_iload_n X 2 dL_act_147 rfl ?_
    refine v_bipush X (v := nI 24) (by decide) dL_act_148 ?_
    refine v_remN X (by omega) (by omega) (by omega) dL_act_150 ?_
    refine v_callL X rb.2.1 rb.2.2.1 hCl hCR (c_L_remove l hst0 k M S (nI (y % 24)) hA) mo_L_remove m_518 m_598 m_599 m_581 ⟨Nat.le_of_ble_eq_true rfl, Nat.le_of_ble_eq_true rfl⟩ rfl rfl (Nat.le_of_ble_eq_true rfl) ⟨Nat.le_of_ble_eq_true rfl, Nat.le_of_ble_eq_true rfl⟩ dL_act_151 (vI_in (fun r_52 M_50 h_51 => ?_))
    refine v_widen (z' := (1, 6)) (Nat.le_of_ble_eq_true rfl) (Nat.le_of_ble_eq_true rfl) ?_
    obtain ⟨hr_53, hA_54, hF_55⟩ := pa_eq ((rfl : W_remove S (nI (y % 24)) = ((W_remove S (nI (y % 24))).1, (W_remove S (nI (y % 24))).2))) h_51
    subst hr_53
    have hFr_56 := Fr.rf.tr hF_55
    exact v_iret X rb.1 ⟨Nat.le_of_ble_eq_true rfl, Nat.le_of_ble_eq_true rfl⟩ rfl dL_act_154 ⟨_, rfl, PA.of (show W_act S x y = ((W_remove S (nI (y % 24))).1, (W_remove S (nI (y % 24))).2) from (show W_act S x y = W_remove S (nI (y % 24)) by unfold W_act; simp only [e]).trans rfl) rfl hA_54 hFr_56⟩
  · refine v_tswIn (off := 151) X 155 dL_act_4 (by decide) (by decide) rfl (by decide) ?_
    refine v_aload_n X 0 dL_act_155 rfl ?_
    refine v_iload_n X 2 dL_act_156 rfl ?_
    refine v_bipush X (v := nI 9) (by decide) dL_act_157 ?_
    refine v_remN X (by omega) (by omega) (by omega) dL_act_159 ?_
    refine v_iload_n X 2 dL_act_160 rfl ?_
    refine v_bipush X (v := nI 9) (by decide) dL_act_161 ?_
    refine v_divN X (by omega) (by omega) (by omega) dL_act_163 ?_
    refine v_bipush X (v := nI 9) (by decide) dL_act_164 ?_
    refine v_remN X (by omega) (by omega) (by omega) dL_act_166 ?_
    refine v_iload_n X 2 dL_act_167 rfl ?_
    refine v_bipush X (v := nI 81) (by decide) dL_act_168 ?_
    refine v_divN X (by omega) (by omega) (by omega) dL_act_170 ?_
    refine v_bipush X (v := nI 8) (by decide) dL_act_171 ?_
    refine v_remN X (by omega) (by omega) (by omega) dL_act_173 ?_
    refine v_callL X rb.2.1 rb.2.2.1 hCl hCR (c_L_resolve l hst0 k M S (nI (y % 9)) (nI ((y / 9) % 9)) (nI ((y / 81) % 8)) hA) mo_L_resolve m_522 m_600 m_601 m_581 ⟨Nat.le_of_ble_eq_true rfl, Nat.le_of_ble_eq_true rfl⟩ rfl rfl (Nat.le_of_ble_eq_true rfl) ⟨Nat.le_of_ble_eq_true rfl, Nat.le_of_ble_eq_true rfl⟩ dL_act_174 (vI_in (fun r_59 M_57 h_58 => ?_))
    refine v_widen (z' := (5, 30)) (Nat.le_of_ble_eq_true rfl) (Nat.le_of_ble_eq_true rfl) ?_
    obtain ⟨hr_60, hA_61, hF_62⟩ := pa_eq ((rfl : W_resolve S (nI (y % 9)) (nI ((y / 9) % 9)) (nI ((y / 81) % 8)) = ((W_resolve S (nI (y % 9)) (nI ((y / 9) % 9)) (nI ((y / 81) % 8))).1, (W_resolve S (nI (y % 9)) (nI ((y / 9) % 9)) (nI ((y / 81) % 8))).2))) h_58
    subst hr_60
    have hFr_63 := Fr.rf.tr hF_62
    exact v_iret X rb.1 ⟨Nat.le_of_ble_eq_true rfl, Nat.le_of_ble_eq_true rfl⟩ rfl dL_act_177 ⟨_, rfl, PA.of (show W_act S x y = ((W_resolve S (nI (y % 9)) (nI ((y / 9) % 9)) (nI ((y / 81) % 8))).1, (W_resolve S (nI (y % 9)) (nI ((y / 9) % 9)) (nI ((y / 81) % 8))).2) from (show W_act S x y = W_resolve S (nI (y % 9)) (nI ((y / 9) % 9)) (nI ((y / 81) % 8)) by unfold W_act; simp only [e]).trans rfl) rfl hA_61 hFr_63⟩
  · refine v_tswIn (off := 174) X 178 dL_act_4 (by decide) (by decide) rfl (by decide) ?_
    refine v_aload_n X 0 dL_act_178 rfl ?_
    refine v_iload_n X 2 dL_act_179 rfl ?_
    refine v_bipush X (v := nI 16) (by decide) dL_act_180 ?_
    refine v_remN X (by omega) (by omega) (by omega) dL_act_182 ?_
    refine v_callL X rb.2.1 rb.2.2.1 hCl hCR (c_L_decide l hst0 k M S (nI (y % 16)) hA) mo_L_decide m_530 m_604 m_605 m_581 ⟨Nat.le_of_ble_eq_true rfl, Nat.le_of_ble_eq_true rfl⟩ rfl rfl (Nat.le_of_ble_eq_true rfl) ⟨Nat.le_of_ble_eq_true rfl, Nat.le_of_ble_eq_true rfl⟩ dL_act_183 (vI_in (fun r_66 M_64 h_65 => ?_))
    refine v_widen (z' := (1, 6)) (Nat.le_of_ble_eq_true rfl) (Nat.le_of_ble_eq_true rfl) ?_
    obtain ⟨hr_67, hA_68, hF_69⟩ := pa_eq ((rfl : W_decide S (nI (y % 16)) = ((W_decide S (nI (y % 16))).1, (W_decide S (nI (y % 16))).2))) h_65
    subst hr_67
    have hFr_70 := Fr.rf.tr hF_69
    exact v_iret X rb.1 ⟨Nat.le_of_ble_eq_true rfl, Nat.le_of_ble_eq_true rfl⟩ rfl dL_act_186 ⟨_, rfl, PA.of (show W_act S x y = ((W_decide S (nI (y % 16))).1, (W_decide S (nI (y % 16))).2) from (show W_act S x y = W_decide S (nI (y % 16)) by unfold W_act; simp only [e]).trans rfl) rfl hA_68 hFr_70⟩
  · refine v_tswIn (off := 174) X 178 dL_act_4 (by decide) (by decide) rfl (by decide) ?_
    refine v_aload_n X 0 dL_act_178 rfl ?_
    refine v_iload_n X 2 dL_act_179 rfl ?_
    refine v_bipush X (v := nI 16) (by decide) dL_act_180 ?_
    refine v_remN X (by omega) (by omega) (by omega) dL_act_182 ?_
    refine v_callL X rb.2.1 rb.2.2.1 hCl hCR (c_L_decide l hst0 k M S (nI (y % 16)) hA) mo_L_decide m_530 m_604 m_605 m_581 ⟨Nat.le_of_ble_eq_true rfl, Nat.le_of_ble_eq_true rfl⟩ rfl rfl (Nat.le_of_ble_eq_true rfl) ⟨Nat.le_of_ble_eq_true rfl, Nat.le_of_ble_eq_true rfl⟩ dL_act_183 (vI_in (fun r_73 M_71 h_72 => ?_))
    refine v_widen (z' := (1, 6)) (Nat.le_of_ble_eq_true rfl) (Nat.le_of_ble_eq_true rfl) ?_
    obtain ⟨hr_74, hA_75, hF_76⟩ := pa_eq ((rfl : W_decide S (nI (y % 16)) = ((W_decide S (nI (y % 16))).1, (W_decide S (nI (y % 16))).2))) h_72
    subst hr_74
    have hFr_77 := Fr.rf.tr hF_76
    exact v_iret X rb.1 ⟨Nat.le_of_ble_eq_true rfl, Nat.le_of_ble_eq_true rfl⟩ rfl dL_act_186 ⟨_, rfl, PA.of (show W_act S x y = ((W_decide S (nI (y % 16))).1, (W_decide S (nI (y % 16))).2) from (show W_act S x y = W_decide S (nI (y % 16)) by unfold W_act; simp only [e]).trans rfl) rfl hA_75 hFr_77⟩
  · refine v_tswIn (off := 174) X 178 dL_act_4 (by decide) (by decide) rfl (by decide) ?_
    refine v_aload_n X 0 dL_act_178 rfl ?_
    refine v_iload_n X 2 dL_act_179 rfl ?_
    refine v_bipush X (v := nI 16) (by decide) dL_act_180 ?_
    refine v_remN X (by omega) (by omega) (by omega) dL_act_182 ?_
    refine v_callL X rb.2.1 rb.2.2.1 hCl hCR (c_L_decide l hst0 k M S (nI (y % 16)) hA) mo_L_decide m_530 m_604 m_605 m_581 ⟨Nat.le_of_ble_eq_true rfl, Nat.le_of_ble_eq_true rfl⟩ rfl rfl (Nat.le_of_ble_eq_true rfl) ⟨Nat.le_of_ble_eq_true rfl, Nat.le_of_ble_eq_true rfl⟩ dL_act_183 (vI_in (fun r_80 M_78 h_79 => ?_))
    refine v_widen (z' := (1, 6)) (Nat.le_of_ble_eq_true rfl) (Nat.le_of_ble_eq_true rfl) ?_
    obtain ⟨hr_81, hA_82, hF_83⟩ := pa_eq ((rfl : W_decide S (nI (y % 16)) = ((W_decide S (nI (y % 16))).1, (W_decide S (nI (y % 16))).2))) h_79
    subst hr_81
    have hFr_84 := Fr.rf.tr hF_83
    exact v_iret X rb.1 ⟨Nat.le_of_ble_eq_true rfl, Nat.le_of_ble_eq_true rfl⟩ rfl dL_act_186 ⟨_, rfl, PA.of (show W_act S x y = ((W_decide S (nI (y % 16))).1, (W_decide S (nI (y % 16))).2) from (show W_act S x y = W_decide S (nI (y % 16)) by unfold W_act; simp only [e]).trans rfl) rfl hA_82 hFr_84⟩
  · refine v_tswIn (off := 183) X 187 dL_act_4 (by decide) (by decide) rfl (by decide) ?_
    refine v_aload_n X 0 dL_act_187 rfl ?_
    refine v_iload_n X 2 dL_act_188 rfl ?_
    refine v_iconst X (v := nI 4) (by decide) dL_act_189 ?_
    refine v_remN X (by omega) (by omega) (by omega) dL_act_190 ?_
    refine v_callL X rb.2.1 rb.2.2.1 hCl hCR (c_L_backtrack l hst0 k M S (nI (y % 4)) hA) mo_L_backtrack m_534 m_609 m_610 m_581 ⟨Nat.le_of_ble_eq_true rfl, Nat.le_of_ble_eq_true rfl⟩ rfl rfl (Nat.le_of_ble_eq_true rfl) ⟨Nat.le_of_ble_eq_true rfl, Nat.le_of_ble_eq_true rfl⟩ dL_act_191 (vI_in (fun r_87 M_85 h_86 => ?_))
    refine v_widen (z' := (1, 6)) (Nat.le_of_ble_eq_true rfl) (Nat.le_of_ble_eq_true rfl) ?_
    obtain ⟨hr_88, hA_89, hF_90⟩ := pa_eq ((rfl : W_backtrack S (nI (y % 4)) = ((W_backtrack S (nI (y % 4))).1, (W_backtrack S (nI (y % 4))).2))) h_86
    subst hr_88
    have hFr_91 := Fr.rf.tr hF_90
    exact v_iret X rb.1 ⟨Nat.le_of_ble_eq_true rfl, Nat.le_of_ble_eq_true rfl⟩ rfl dL_act_194 ⟨_, rfl, PA.of (show W_act S x y = ((W_backtrack S (nI (y % 4))).1, (W_backtrack S (nI (y % 4))).2) from (show W_act S x y = W_backtrack S (nI (y % 4)) by unfold W_act; simp only [e]).trans rfl) rfl hA_89 hFr_91⟩
  · refine v_tswIn (off := 191) X 195 dL_act_4 (by decide) (by decide) rfl (by decide) ?_
    refine v_aload_n X 0 dL_act_195 rfl ?_
    refine v_callV X hCl hCR (c_X7_conflict l k M S.1 S.2.1 S.2.2.1 S.2.2.2.1 S.2.2.2.2 hA) cls7 hA.obj (by omega) mo_X7_conflict m_392 m_628 m_629 m_630 m_21 (by decide) rfl rfl (Nat.le_of_ble_eq_true rfl) ⟨rfl, rfl⟩ ⟨Nat.le_of_ble_eq_true rfl, Nat.le_of_ble_eq_true rfl⟩ dL_act_196 (vI_in (fun r_94 M_92 h_93 => ?_))
    obtain ⟨hr_95, hA_96, hF_97⟩ : r_94 = oI (sCf S) ∧ At k M_92 S ∧ Fr 0 93 M M_92 := h_93
    subst hr_95
    have hFr_98 := Fr.rf.tr hF_97
    refine v_bipush X (v := (-9)) (by decide) dL_act_199 ?_
    refine v_icmp_eq X 211 dL_act_201 (by decide) (fun hc1 => ?_) (fun hc2 => ?_)
    · have hcn : sCf S = none := (oI_eq hcf).mp hc1
      refine v_aload_n X 0 dL_act_211 rfl ?_
      refine v_callL X rb.2.1 rb.2.2.1 hCl hCR (c_L_undo l hst0 k M_92 S hA_96) mo_L_undo m_542 m_579 m_580 m_581 ⟨Nat.le_of_ble_eq_true rfl, Nat.le_of_ble_eq_true rfl⟩ rfl rfl (Nat.le_of_ble_eq_true rfl) ⟨Nat.le_of_ble_eq_true rfl, Nat.le_of_ble_eq_true rfl⟩ dL_act_212 (vI_in (fun r_101 M_99 h_100 => ?_))
      refine v_widen (z' := (1, 6)) (Nat.le_of_ble_eq_true rfl) (Nat.le_of_ble_eq_true rfl) ?_
      obtain ⟨hr_102, hA_103, hF_104⟩ := pa_eq ((rfl : W_undo S = ((W_undo S).1, (W_undo S).2))) h_100
      subst hr_102
      have hFr_105 := hFr_98.tr hF_104
      exact v_iret X rb.1 ⟨Nat.le_of_ble_eq_true rfl, Nat.le_of_ble_eq_true rfl⟩ rfl dL_act_215 ⟨_, rfl, PA.of (show W_act S x y = ((W_undo S).1, (W_undo S).2) from (show W_act S x y = W_undo S by unfold W_act; simp only [e]; rw [if_pos hcn]).trans rfl) rfl hA_103 hFr_105⟩
    · have hcn : sCf S ≠ none := fun q => hc2 (by rw [q]; rfl)
      refine v_aload_n X 0 dL_act_204 rfl ?_
      refine v_callL X rb.2.1 rb.2.2.1 hCl hCR (c_L_learn l hst0 k M_92 S hA_96) mo_L_learn m_538 m_631 m_632 m_581 ⟨Nat.le_of_ble_eq_true rfl, Nat.le_of_ble_eq_true rfl⟩ rfl rfl (Nat.le_of_ble_eq_true rfl) ⟨Nat.le_of_ble_eq_true rfl, Nat.le_of_ble_eq_true rfl⟩ dL_act_205 (vI_in (fun r_108 M_106 h_107 => ?_))
      refine v_widen (z' := (2, 12)) (Nat.le_of_ble_eq_true rfl) (Nat.le_of_ble_eq_true rfl) ?_
      obtain ⟨hr_109, hA_110, hF_111⟩ := pa_eq ((rfl : W_learn S = ((W_learn S).1, (W_learn S).2))) h_107
      subst hr_109
      have hFr_112 := hFr_98.tr hF_111
      refine v_goto X 215 dL_act_208 (by decide) ?_
      exact v_iret X rb.1 ⟨Nat.le_of_ble_eq_true rfl, Nat.le_of_ble_eq_true rfl⟩ rfl dL_act_215 ⟨_, rfl, PA.of (show W_act S x y = ((W_learn S).1, (W_learn S).2) from (show W_act S x y = W_learn S by unfold W_act; simp only [e]; rw [if_neg hcn]).trans rfl) rfl hA_110 hFr_112⟩
  · refine v_tswIn (off := 212) X 216 dL_act_4 (by decide) (by decide) rfl (by decide) ?_
    refine v_aload_n X 0 dL_act_216 rfl ?_
    refine v_iload_n X 2 dL_act_217 rfl ?_
    refine v_iconst X (v := nI 1) (by decide) dL_act_218 ?_
    refine v_andN X dL_act_219 ?_
    refine v_callL X rb.2.1 rb.2.2.1 hCl hCR (c_L_save l hst0 k M S (nI (y &&& 1)) hA) mo_L_save m_574 m_621 m_622 m_581 ⟨Nat.le_of_ble_eq_true rfl, Nat.le_of_ble_eq_true rfl⟩ rfl rfl (Nat.le_of_ble_eq_true rfl) ⟨Nat.le_of_ble_eq_true rfl, Nat.le_of_ble_eq_true rfl⟩ dL_act_220 (vI_in (fun r_115 M_113 h_114 => ?_))
    refine v_widen (z' := (1, 6)) (Nat.le_of_ble_eq_true rfl) (Nat.le_of_ble_eq_true rfl) ?_
    obtain ⟨hr_116, hA_117, hF_118⟩ := pa_eq ((rfl : W_save S (nI (y &&& 1)) = ((W_save S (nI (y &&& 1))).1, (W_save S (nI (y &&& 1))).2))) h_114
    subst hr_116
    have hFr_119 := Fr.rf.tr hF_118
    exact v_iret X rb.1 ⟨Nat.le_of_ble_eq_true rfl, Nat.le_of_ble_eq_true rfl⟩ rfl dL_act_223 ⟨_, rfl, PA.of (show W_act S x y = ((W_save S (nI (y &&& 1))).1, (W_save S (nI (y &&& 1))).2) from (show W_act S x y = W_save S (nI (y &&& 1)) by unfold W_act; simp only [e]).trans rfl) rfl hA_117 hFr_119⟩
  · refine v_tswOut X 224 dL_act_4 (Or.inr (by decide)) (by decide) ?_
    refine v_aload_n X 0 dL_act_224 rfl ?_
    refine v_iload_n X 2 dL_act_225 rfl ?_
    refine v_iconst X (v := nI 1) (by decide) dL_act_226 ?_
    refine v_andN X dL_act_227 ?_
    refine v_callL X rb.2.1 rb.2.2.1 hCl hCR (c_L_restore l hst0 k M S (nI (y &&& 1)) hA) mo_L_restore m_578 m_623 m_624 m_581 ⟨Nat.le_of_ble_eq_true rfl, Nat.le_of_ble_eq_true rfl⟩ rfl rfl (Nat.le_of_ble_eq_true rfl) ⟨Nat.le_of_ble_eq_true rfl, Nat.le_of_ble_eq_true rfl⟩ dL_act_228 (vI_in (fun r_122 M_120 h_121 => ?_))
    refine v_widen (z' := (2, 12)) (Nat.le_of_ble_eq_true rfl) (Nat.le_of_ble_eq_true rfl) ?_
    obtain ⟨hr_123, hA_124, hF_125⟩ := pa_eq ((rfl : W_restore S (nI (y &&& 1)) = ((W_restore S (nI (y &&& 1))).1, (W_restore S (nI (y &&& 1))).2))) h_121
    subst hr_123
    have hFr_126 := Fr.rf.tr hF_125
    exact v_iret X rb.1 ⟨Nat.le_of_ble_eq_true rfl, Nat.le_of_ble_eq_true rfl⟩ rfl dL_act_231 ⟨_, rfl, PA.of (show W_act S x y = ((W_restore S (nI (y &&& 1))).1, (W_restore S (nI (y &&& 1))).2) from (show W_act S x y = W_restore S (nI (y &&& 1)) by unfold W_act; simp only [e]).trans rfl) rfl hA_124 hFr_126⟩
