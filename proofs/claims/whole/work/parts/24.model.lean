/-! The model: the same functions on its row s. -/
def qp_ar (K : Nat → Nat × Nat) (R : Nat → Nat → Option Nat) (u f o l : Nat) : Prop := (K (u + o)).1 = 100 ∧ (K (u + o)).2 = l ∧ R u f = some (u + o)
def qp_MO (K : Nat → Nat × Nat) (R : Nat → Nat → Option Nat) (u : Nat) : Prop :=
  K u = (11, 0) ∧ qp_ar K R u 0 1 127 ∧ qp_ar K R u 1 2 127 ∧ qp_ar K R u 2 3 127 ∧ qp_ar K R u 3 4 762 ∧ qp_ar K R u 5 5 556 ∧ qp_ar K R u 6 6 556 ∧ qp_ar K R u 7 7 127 ∧ qp_ar K R u 8 8 556 ∧ qp_ar K R u 10 9 60 ∧ qp_ar K R u 11 10 60 ∧ qp_ar K R u 13 11 80 ∧ qp_ar K R u 18 12 12 ∧ qp_ar K R u 19 13 12 ∧ qp_ar K R u 21 14 400
def qf_cpy (w : Nat) (f g : Nat → Int32) : Nat → Int32 := fun i => if i < w then f i else g i
theorem qn_z1 {x : Int32} : (x < nI 0) = (x < 0) := by rw [nI_0]
theorem qn_prd {x : Int32} {m : Nat} (h : m < 1073741824) : (nI m - nI 1 < x) = (nI m ≤ x) := by
  have h1 := pk_sub_toInt (a := m) (b := 1) (by omega) (by omega)
  have h2 := nI_toInt (n := m) (by omega)
  rw [Int32.lt_iff_toInt_lt, Int32.le_iff_toInt_le, h1, h2]
  exact propext (by omega)
/-- numbers in their ranges; the day at most B -/
def qv_S (B : Nat) (s : Nat → Int32) : Prop := (∃ v, v ≤ B ∧ s 0 = nI v) ∧ ∀ k, k < 10 → (∃ v, v ≤ 480 ∧ s (1 + 9 * k + 0) = nI v) ∧ (∃ v, v ≤ 480 ∧ s (1 + 9 * k + 1) = nI v) ∧ (∃ v, v ≤ 64 ∧ s (1 + 9 * k + 2) = nI v) ∧ (s (1 + 9 * k + 3) = (-1) ∨ ∃ v, v ≤ B + 64 ∧ s (1 + 9 * k + 3) = nI v) ∧ (s (1 + 9 * k + 4) = (-1) ∨ ∃ v, v ≤ B ∧ s (1 + 9 * k + 4) = nI v)
section Q24
variable {d a b : Nat} {K : Nat → Nat × Nat} {I : Nat → Nat → Int32} {R : Nat → Nat → Option Nat} {n z : Nat} {x y w : Int32} {h : qa_H} {u nk ni k i j m : Nat}
theorem qs_MO_of : qa_ex (d + 1) 160 [qa_i (nI k), qa_i (nI j)] h = some (some (qa_i (nI (1 + 9 * k + j))), h) := by
  simp (disch := first | assumption | omega | exact Or.inl rfl | exact Or.inr rfl | exact qb_01) only [qe_160, qr_160_0, qr_160_1, qr_160_3, qr_160_4, qr_160_5, qr_160_6, qr_160_7, qr_160_8, qn_lt0, qn_ge0, qn_lt, qn_le, qn_eq, qn_e0, qn_gt0, qn_le0, qn_m1, nI_add, pk_mul, qb_e0, Classical.not_not]
theorem qs_MO_ofItem : qa_ex (d + 1) 161 [qa_i (nI k), qa_i (nI j)] h = some (some (qa_i (nI (91 + 3 * k + j))), h) := by
  simp (disch := first | assumption | omega | exact Or.inl rfl | exact Or.inr rfl | exact qb_01) only [qe_161, qr_161_0, qr_161_2, qr_161_3, qr_161_4, qr_161_5, qr_161_6, qr_161_7, qr_161_8, qn_lt0, qn_ge0, qn_lt, qn_le, qn_eq, qn_e0, qn_gt0, qn_le0, qn_m1, nI_add, pk_mul, qb_e0, Classical.not_not]
theorem qs_MO_isIn : qa_ex (d + 1) 165 [qa_i x, qa_i y, qa_i w] h = some (some (qa_i (qa_bi (¬ x < y ∧ ¬ w < x))), h) := by
  simp (disch := first | assumption | omega | exact Or.inl rfl | exact Or.inr rfl | exact qb_01) only [qe_165, qr_165_0, qr_165_1, qr_165_2, qr_165_5, qr_165_6, qr_165_7, qr_165_10, qr_165_11, qr_165_14, qr_165_15]
  by_cases h1 : x < y
  · rw [if_pos h1, qb_f (fun g => g.1 h1)]
  · rw [if_neg h1]
    by_cases h2 : w < x
    · rw [if_pos h2, qb_f (fun g => g.2 h2)]
    · rw [if_neg h2, qb_t ⟨h1, h2⟩]
theorem qs_LA_isWithin : qa_ex (d + 1) 16 [qa_i x, qa_i y, qa_i w] h = some (some (qa_i (qa_bi (¬ x < y ∧ ¬ w < x))), h) := by
  simp (disch := first | assumption | omega | exact Or.inl rfl | exact Or.inr rfl | exact qb_01) only [qe_16, qr_16_0, qr_16_1, qr_16_2, qr_16_5, qr_16_6, qr_16_7, qr_16_10, qr_16_11, qr_16_14, qr_16_15]
  by_cases h1 : x < y
  · rw [if_pos h1, qb_f (fun g => g.1 h1)]
  · rw [if_neg h1]
    by_cases h2 : w < x
    · rw [if_pos h2, qb_f (fun g => g.2 h2)]
    · rw [if_neg h2, qb_t ⟨h1, h2⟩]
theorem qs_MO_isSkill (hM : qp_MO K R u) (hn : I (u + 5) 0 = nI nk) (h10 : nk ≤ 10) : qa_ex (d + 2) 175 [qa_a (some u), qa_i x] (K, I, R, n, z) = some (some (qa_i (qa_bi (¬ x < 0 ∧ ¬ nI nk ≤ x))), (K, I, R, n, z)) := by
  obtain ⟨m0, -, -, -, -, ⟨c1, c2, c3⟩, -⟩ := hM
  simp (disch := first | assumption | omega | exact Or.inl rfl | exact Or.inr rfl | exact qb_01) only [qe_175, qr_175_0, qr_175_1, qr_175_2, qr_175_3, qr_175_6, qr_175_7, qr_175_8, qr_175_9, qr_175_10, qr_175_13, true_and, and_true, false_and, and_false, Option.bind_some, Option.toList_some, Option.toList_none, List.nil_append, List.cons_append, if_true, if_false, ite_true, ite_false, not_true_eq_false, not_false_eq_true, c3, qs_MO_isIn, hn, qn_prd, qn_z1]
theorem qs_MO_isItem (hM : qp_MO K R u) (hn : I (u + 5) 1 = nI ni) (h12 : ni ≤ 12) : qa_ex (d + 2) 177 [qa_a (some u), qa_i x] (K, I, R, n, z) = some (some (qa_i (qa_bi (¬ x < 0 ∧ ¬ nI ni ≤ x))), (K, I, R, n, z)) := by
  obtain ⟨m0, -, -, -, -, ⟨c1, c2, c3⟩, -⟩ := hM
  simp (disch := first | assumption | omega | exact Or.inl rfl | exact Or.inr rfl | exact qb_01) only [qe_177, qr_177_0, qr_177_1, qr_177_2, qr_177_3, qr_177_6, qr_177_7, qr_177_8, qr_177_9, qr_177_10, qr_177_13, true_and, and_true, false_and, and_false, Option.bind_some, Option.toList_some, Option.toList_none, List.nil_append, List.cons_append, if_true, if_false, ite_true, ite_false, not_true_eq_false, not_false_eq_true, c3, qs_MO_isIn, hn, qn_prd, qn_z1]
theorem qf_cpy_s {w : Nat} {f g : Nat → Int32} : va_up (qf_cpy w f g) w (f w) = qf_cpy (w + 1) f g := by
  funext i
  unfold va_up qf_cpy
  by_cases e : i = w
  · subst e
    rw [if_pos rfl, if_pos (by omega)]
  · rw [if_neg e]
    by_cases h : i < w
    · rw [if_pos h, if_pos (by omega)]
    · rw [if_neg h, if_neg (by omega)]
theorem qf_cpy_0 {f g : Nat → Int32} : qf_cpy 0 f g = g := rfl
theorem qs_MO_copies (hab : a ≠ b) (ha : (K a).1 = 100) (hb : (K b).1 = 100) (ha2 : m ≤ (K a).2) (hb2 : m ≤ (K b).2) (hm : m < 2147483648) : qa_ex (d + 1) 163 [qa_a (some a), qa_a (some b), qa_i (nI m)] (K, I, R, n, z) = some (none, (K, va_up I b (qf_cpy m (I a) (I b)), R, n, z)) := by
  have loop : ∀ j k, k + j = m → qa_run d 163 2 [qa_a (some a), qa_a (some b), qa_i (nI m), qa_i (nI k)] [] [] (K, va_up I b (qf_cpy k (I a) (I b)), R, n, z) = some (none, (K, va_up I b (qf_cpy m (I a) (I b)), R, n, z)) := by
    intro j
    induction j with
    | zero =>
      intro k hk
      have hk : k = m := by omega
      subst hk
      rw [qr_163_2]
      simp (disch := first | assumption | omega | exact Or.inl rfl | exact Or.inr rfl | exact qb_01) only [qr_163_0, qr_163_1, qr_163_3, qr_163_4, qr_163_7, qr_163_8, qr_163_9, qr_163_10, qr_163_11, qr_163_12, qr_163_13, qr_163_16, qr_163_19, true_and, and_true, false_and, and_false, Option.bind_some, Option.toList_some, Option.toList_none, List.nil_append, List.cons_append, if_true, if_false, ite_true, ite_false, not_true_eq_false, not_false_eq_true, qn_lt0, qn_ge0, qn_lt, qn_le, qn_eq, qn_e0, qn_gt0, qn_le0, qn_m1, nI_add, pk_mul, qb_e0, Classical.not_not, Nat.le_refl]
    | succ j ih =>
      intro k hk
      have e1 : ¬ m ≤ k := by omega
      have e2 := ih (k + 1) (by omega)
      rw [qr_163_2]
      simp (disch := first | assumption | omega | exact Or.inl rfl | exact Or.inr rfl | exact qb_01) only [qr_163_0, qr_163_1, qr_163_3, qr_163_4, qr_163_7, qr_163_8, qr_163_9, qr_163_10, qr_163_11, qr_163_12, qr_163_13, qr_163_16, qr_163_19, true_and, and_true, false_and, and_false, Option.bind_some, Option.toList_some, Option.toList_none, List.nil_append, List.cons_append, if_true, if_false, ite_true, ite_false, not_true_eq_false, not_false_eq_true, qn_lt0, qn_ge0, qn_lt, qn_le, qn_eq, qn_e0, qn_gt0, qn_le0, qn_m1, nI_add, pk_mul, qb_e0, Classical.not_not, qa_up_s, qa_up_n, qa_uu, e1, qf_cpy_s, e2]
  have h0 := loop m 0 (by omega)
  rw [qf_cpy_0, qa_uI] at h0
  simp (disch := first | assumption | omega | exact Or.inl rfl | exact Or.inr rfl | exact qb_01) only [qe_163, qr_163_0, qr_163_1, qr_163_3, qr_163_4, qr_163_7, qr_163_8, qr_163_9, qr_163_10, qr_163_11, qr_163_12, qr_163_13, qr_163_16, qr_163_19, h0]
theorem qs_MO_isMastered (hM : qp_MO K R u) (hk : k < 10) : qa_ex (d + 2) 188 [qa_a (some u), qa_i (nI k)] (K, I, R, n, z) = some (some (qa_i (qa_bi (qf_mst (I (u + 1) (1 + 9 * k + 0)) (I (u + 1) (1 + 9 * k + 1)) (I (u + 5) (2 + k)) = true))), (K, I, R, n, z)) := by
  obtain ⟨m0, ⟨s1, s2, s3⟩, -, -, -, ⟨c1, c2, c3⟩, -⟩ := hM
  simp (disch := first | assumption | omega | exact Or.inl rfl | exact Or.inr rfl | exact qb_01) only [qe_188, qr_188_0, qr_188_1, qr_188_4, qr_188_5, qr_188_6, qr_188_9, qr_188_10, qr_188_11, qr_188_13, qr_188_14, qr_188_16, qr_188_17, qr_188_18, qr_188_19, qr_188_22, qr_188_23, qr_188_24, qr_188_25, qr_188_26, qr_188_27, qr_188_28, qr_188_31, qr_188_32, qr_188_33, qr_188_36, qr_188_37, qr_188_38, qr_188_40, qr_188_41, qr_188_42, qr_188_45, qr_188_46, qr_188_49, qr_188_50, true_and, and_true, false_and, and_false, Option.bind_some, Option.toList_some, Option.toList_none, List.nil_append, List.cons_append, if_true, if_false, ite_true, ite_false, not_true_eq_false, not_false_eq_true, c3, s3, qs_MO_of, nI_add]
  unfold qf_mst
  by_cases q : nI 100 * (I (u + 1) (1 + 9 * k + 0) + nI 16) < I (u + 5) (2 + k) * (I (u + 1) (1 + 9 * k + 0) + I (u + 1) (1 + 9 * k + 1) + nI 32)
  · rw [if_pos q, qb_f (by simpa using q)]
  · rw [if_neg q, qb_t (by simpa using q)]
theorem qs_MO_mastered (hM : qp_MO K R u) (hn : I (u + 5) 0 = nI nk) (h10 : nk ≤ 10) : qa_ex (d + 3) 187 [qa_a (some u)] (K, I, R, n, z) = some (some (qa_i (qf_ms (fun k => qf_mst (I (u + 1) (1 + 9 * k + 0)) (I (u + 1) (1 + 9 * k + 1)) (I (u + 5) (2 + k))) nk)), (K, I, R, n, z)) := by
  have hM' := hM
  obtain ⟨m0, ⟨s1, s2, s3⟩, -, -, -, ⟨c1, c2, c3⟩, -⟩ := hM
  generalize hg : (fun k => qf_mst (I (u + 1) (1 + 9 * k + 0)) (I (u + 1) (1 + 9 * k + 1)) (I (u + 5) (2 + k))) = g
  have loop : ∀ j k, k + j = nk → qa_run (d + 2) 187 4 [qa_a (some u), qa_i (qf_ms g k), qa_i (nI k)] [] [] (K, I, R, n, z) = some (some (qa_i (qf_ms g nk)), (K, I, R, n, z)) := by
    intro j
    induction j with
    | zero =>
      intro k hk
      have hk : k = nk := by omega
      subst hk
      rw [qr_187_4]
      simp (disch := first | assumption | omega | exact Or.inl rfl | exact Or.inr rfl | exact qb_01) only [qr_187_0, qr_187_1, qr_187_2, qr_187_3, qr_187_5, qr_187_6, qr_187_9, qr_187_10, qr_187_11, qr_187_14, qr_187_15, qr_187_16, qr_187_17, qr_187_20, qr_187_23, qr_187_24, qr_187_25, qr_187_26, qr_187_29, qr_187_30, qr_187_31, qr_187_32, qr_187_35, qr_187_38, qr_187_39, true_and, and_true, false_and, and_false, Option.bind_some, Option.toList_some, Option.toList_none, List.nil_append, List.cons_append, if_true, if_false, ite_true, ite_false, not_true_eq_false, not_false_eq_true, qn_lt0, qn_ge0, qn_lt, qn_le, qn_eq, qn_e0, qn_gt0, qn_le0, qn_m1, nI_add, pk_mul, qb_e0, Classical.not_not, c3, hn, Nat.le_refl]
    | succ j ih =>
      intro k hk
      have e1 : ¬ nk ≤ k := by omega
      have hk10 : k < 10 := by omega
      have hgk : qf_mst (I (u + 1) (1 + 9 * k + 0)) (I (u + 1) (1 + 9 * k + 1)) (I (u + 5) (2 + k)) = g k := by rw [← hg]
      have e2 := ih (k + 1) (by omega)
      rw [qr_187_4]
      simp (disch := first | assumption | omega | exact Or.inl rfl | exact Or.inr rfl | exact qb_01) only [qr_187_0, qr_187_1, qr_187_2, qr_187_3, qr_187_5, qr_187_6, qr_187_9, qr_187_10, qr_187_11, qr_187_14, qr_187_15, qr_187_16, qr_187_17, qr_187_20, qr_187_23, qr_187_24, qr_187_25, qr_187_26, qr_187_29, qr_187_30, qr_187_31, qr_187_32, qr_187_35, qr_187_38, qr_187_39, true_and, and_true, false_and, and_false, Option.bind_some, Option.toList_some, Option.toList_none, List.nil_append, List.cons_append, if_true, if_false, ite_true, ite_false, not_true_eq_false, not_false_eq_true, qn_lt0, qn_ge0, qn_lt, qn_le, qn_eq, qn_e0, qn_gt0, qn_le0, qn_m1, nI_add, pk_mul, qb_e0, Classical.not_not, c3, hn, e1, qs_MO_isMastered hM' hk10, hgk]
      by_cases hq : g k = true
      · have e3 : qf_ms g (k + 1) = qf_ms g k ||| (nI 1 <<< (nI k &&& 31)) := if_pos hq
        rw [e3] at e2
        rw [if_neg (fun w => w hq)]
        exact e2
      · have e3 : qf_ms g (k + 1) = qf_ms g k := if_neg hq
        rw [e3] at e2
        rw [if_pos hq, nI_0, Int32.or_zero]
        exact e2
  simp (disch := first | assumption | omega | exact Or.inl rfl | exact Or.inr rfl | exact qb_01) only [qe_187, qr_187_0, qr_187_1, qr_187_2, qr_187_3, qr_187_5, qr_187_6, qr_187_9, qr_187_10, qr_187_11, qr_187_14, qr_187_15, qr_187_16, qr_187_17, qr_187_20, qr_187_23, qr_187_24, qr_187_25, qr_187_26, qr_187_29, qr_187_30, qr_187_31, qr_187_32, qr_187_35, qr_187_38, qr_187_39]
  exact loop nk 0 (by omega)
theorem qs_MO_isOpen (hM : qp_MO K R u) (hi : i < 12) : qa_ex (d + 2) 179 [qa_a (some u), qa_i (nI i)] (K, I, R, n, z) = some (some (qa_i (qa_bi (¬ I (u + 1) (91 + 3 * i + 2) = I (u + 1) 0))), (K, I, R, n, z)) := by
  obtain ⟨m0, ⟨s1, s2, s3⟩, -, -, -, ⟨c1, c2, c3⟩, -⟩ := hM
  simp (disch := first | assumption | omega | exact Or.inl rfl | exact Or.inr rfl | exact qb_01) only [qe_179, qr_179_0, qr_179_1, qr_179_4, qr_179_5, qr_179_6, qr_179_9, qr_179_10, qr_179_11, qr_179_14, qr_179_15, qr_179_16, qr_179_19, qr_179_20, qr_179_23, qr_179_24, true_and, and_true, false_and, and_false, Option.bind_some, Option.toList_some, Option.toList_none, List.nil_append, List.cons_append, if_true, if_false, ite_true, ite_false, not_true_eq_false, not_false_eq_true, s3, qs_MO_ofItem]
  by_cases g : I (u + 1) (91 + 3 * i + 2) = I (u + 1) 0
  · rw [if_pos g, qb_f (fun q => q g)]
  · rw [if_neg g, qb_t g]
/-- the same with what it makes of a row -/
theorem qm_giv {s : Nat → Int32} {k w v a : Nat} (hw : w < 2) (hs : s (1 + 9 * k + w) = nI v) (hv : v ≤ 480) (ha : a ≤ 16) :
    va_up (va_up (va_up s (1 + 9 * k + (5 + w)) (s (1 + 9 * k + (5 + w)) + nI a)) (1 + 9 * k + 7) (s (1 + 9 * k + 7) + qf_max (nI 0) (s (1 + 9 * k + w) + nI a - nI 480))) (1 + 9 * k + w) (qf_min (nI 480) (s (1 + 9 * k + w) + nI a)) = qs_put s k (qf_giv w (qs_sk s k) (nI a)) := by
  have hmin : qf_min (nI 480) (nI v + nI a) = qf_min (nI v + nI a) (nI 480) := by
    unfold qf_min
    simp (disch := omega) only [nI_add, qn_lt]
    by_cases h1 : v + a < 480
    · rw [if_pos h1, if_neg (by omega)]
    · rw [if_neg h1]
      by_cases h2 : 480 < v + a
      · rw [if_pos h2]
      · rw [if_neg h2, show v + a = 480 by omega]
  have hmax : qf_max (nI 0) (nI v + nI a - nI 480) = nI v + nI a - qf_min (nI v + nI a) (nI 480) := by
    unfold qf_max qf_min
    simp (disch := omega) only [nI_add, qn_lt]
    by_cases h2 : 480 < v + a
    · simp (disch := omega) only [qn_sub, qn_lt]
      rw [if_pos h2, if_pos (by omega), qn_sub (by omega)]
    · rw [if_neg h2]
      by_cases h3 : v + a = 480
      · simp (disch := omega) only [h3, qn_sub, qn_lt]
        rfl
      · have h4 : nI (v + a) - nI 480 < 0 := pk_sneg (by omega) (by omega)
        rw [if_neg (by rw [nI_0]; exact fun q => Int32.lt_irrefl (Int32.lt_trans q h4)), qn_sub (by omega), Nat.sub_self]
  rw [hs, hmin, hmax]
  funext i
  by_cases hin : 1 + 9 * k ≤ i ∧ i < 10 + 9 * k
  · obtain ⟨j, hj, rfl⟩ : ∃ j, j < 9 ∧ i = 1 + 9 * k + j := ⟨i - (1 + 9 * k), by omega, by omega⟩
    rw [qs_put_at hj]
    unfold qf_giv qs_sk
    rw [hs]
    unfold va_up
    by_cases e1 : j = w
    · subst e1
      rw [if_pos rfl, if_neg (by omega), if_neg (by omega), if_pos rfl]
    · rw [if_neg (by omega)]
      by_cases e2 : j = 7
      · subst e2
        rw [if_pos rfl, if_pos rfl]
      · rw [if_neg (by omega), if_neg e2]
        by_cases e3 : j = 5 + w
        · subst e3
          rw [if_pos rfl, if_pos rfl]
        · rw [if_neg (by omega), if_neg e3, if_neg e1]
  · rw [qs_put_ne (by omega), qa_up_n _ _ (by omega), qa_up_n _ _ (by omega), qa_up_n _ _ (by omega)]
theorem qs_MO_gives (hM : qp_MO K R u) (hk : k < 10) {w v a : Nat} (hw : w < 2) (hs : I (u + 1) (1 + 9 * k + w) = nI v) (hv : v ≤ 480) (ha : a ≤ 16) : qa_ex (d + 2) 189 [qa_a (some u), qa_i (nI k), qa_i (nI w), qa_i (nI a)] (K, I, R, n, z) = some (none, (K, va_up I (u + 1) (qs_put (I (u + 1)) k (qf_giv w (qs_sk (I (u + 1)) k) (nI a))), R, n, z)) := by
  have hg := qm_giv (s := I (u + 1)) (k := k) hw hs hv ha
  obtain ⟨m0, ⟨s1, s2, s3⟩, -⟩ := hM
  simp (disch := first | assumption | omega | exact Or.inl rfl | exact Or.inr rfl | exact qb_01) only [qe_189, qr_189_0, qr_189_1, qr_189_4, qr_189_5, qr_189_6, qr_189_9, qr_189_10, qr_189_11, qr_189_12, qr_189_14, qr_189_15, qr_189_18, qr_189_19, qr_189_20, qr_189_21, qr_189_22, qr_189_25, qr_189_26, qr_189_27, qr_189_28, qr_189_29, qr_189_30, qr_189_31, qr_189_34, qr_189_35, qr_189_37, qr_189_40, qr_189_41, qr_189_42, qr_189_43, qr_189_45, qr_189_48, qr_189_49, qr_189_52, qr_189_53, qr_189_54, qr_189_55, qr_189_58, qr_189_59, qr_189_60, qr_189_63, qr_189_66, qr_189_68, qr_189_71, qr_189_72, true_and, and_true, false_and, and_false, Option.bind_some, Option.toList_some, Option.toList_none, List.nil_append, List.cons_append, if_true, if_false, ite_true, ite_false, not_true_eq_false, not_false_eq_true, s3, qs_MO_of, qs_MA_min, qs_MA_max, qa_up_s, qa_up_n, qa_uu, nI_add]
  rw [← hg, hs, nI_add]
end Q24
