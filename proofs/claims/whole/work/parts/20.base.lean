/-! Numbers, and the smallest methods. -/
theorem qn_lt0 {n : Nat} (h : n < 2147483648) : (nI n < 0) = False := eq_false (nI_pos h)
theorem qn_ge0 {n : Nat} (h : n < 2147483648) : (0 ≤ nI n) = True := eq_true (nI_pos' h)
theorem qn_lt {a b : Nat} (ha : a < 2147483648) (hb : b < 2147483648) : (nI a < nI b) = (a < b) := propext (nI_ltI ha hb)
theorem qn_le {a b : Nat} (ha : a < 2147483648) (hb : b < 2147483648) : (nI a ≤ nI b) = (a ≤ b) := propext (nI_leI ha hb)
theorem qn_eq {a b : Nat} (ha : a < 2147483648) (hb : b < 2147483648) : (nI a = nI b) = (a = b) := propext (nI_eq ha hb)
theorem qn_e0 {n : Nat} (h : n < 2147483648) : (nI n = 0) = (n = 0) := by rw [← nI_0]; exact qn_eq h (by omega)
theorem qn_gt0 {n : Nat} (h : n < 2147483648) : (0 < nI n) = (0 < n) := by rw [← nI_0]; exact qn_lt (by omega) h
theorem qn_le0 {n : Nat} (h : n < 2147483648) : (nI n ≤ 0) = (n = 0) := by rw [← nI_0, qn_le h (by omega)]; exact propext (by omega)
theorem qn_m1 {n : Nat} (h : n < 2147483648) : (nI n = (-1)) = False := eq_false fun q => nI_pos h (by rw [q]; decide)
theorem qn_sub {a b : Nat} (h : b ≤ a) : nI a - nI b = nI (a - b) := pk_sub h
def qa_bi (P : Prop) [Decidable P] : Int32 := if P then nI 1 else nI 0
theorem qb_t {P : Prop} [Decidable P] (h : P) : qa_bi P = nI 1 := if_pos h
theorem qb_f {P : Prop} [Decidable P] (h : ¬ P) : qa_bi P = nI 0 := if_neg h
theorem qb_e0 {P : Prop} [Decidable P] : (qa_bi P = 0) = ¬ P := by
  by_cases h : P
  · rw [qb_t h]; exact propext ⟨fun q => absurd q (by decide), fun q => absurd h q⟩
  · rw [qb_f h]; exact propext ⟨fun _ => h, fun _ => rfl⟩
theorem qb_01 {P : Prop} [Decidable P] : qa_bi P = 0 ∨ qa_bi P = 1 := by
  by_cases h : P
  · rw [qb_t h]; exact Or.inr rfl
  · rw [qb_f h]; exact Or.inl rfl
theorem qb_c {P Q : Prop} [Decidable P] [Decidable Q] (h : P ↔ Q) : qa_bi P = qa_bi Q := by
  by_cases hp : P
  · rw [qb_t hp, qb_t (h.mp hp)]
  · rw [qb_f hp, qb_f (fun q => hp (h.mpr q))]
/-- a boolean answer out of the branches that it came from -/
theorem qb_if {α : Type} {P Q : Prop} [Decidable P] [Decidable Q] {f : Int32 → α} (h : P ↔ Q) : (if P then f (nI 1) else f (nI 0)) = f (qa_bi Q) := by
  by_cases hp : P
  · rw [if_pos hp, qb_t (h.mp hp)]
  · rw [if_neg hp, qb_f (fun q => hp (h.mpr q))]
theorem qa_uu {α : Type} (f : Nat → α) (k : Nat) (v w : α) : va_up (va_up f k v) k w = va_up f k w := bx_uu f k v w
def qf_min (x y : Int32) : Int32 := if y < x then y else x
def qf_max (x y : Int32) : Int32 := if x < y then y else x
section Q20
variable {d a b : Nat} {K : Nat → Nat × Nat} {I : Nat → Nat → Int32} {R : Nat → Nat → Option Nat} {n z : Nat} {x y : Int32} {h : qa_H}
theorem qs_MA_min : qa_ex (d + 1) 57 [qa_i x, qa_i y] h = some (some (qa_i (qf_min x y)), h) := by
  simp (disch := first | assumption | omega | exact Or.inl rfl | exact Or.inr rfl | exact qb_01) only [qe_57, qr_57_0, qr_57_1, qr_57_2, qr_57_5, qr_57_6, qr_57_9, qr_57_10]
  unfold qf_min
  split <;> rfl
theorem qs_MA_max : qa_ex (d + 1) 190 [qa_i x, qa_i y] h = some (some (qa_i (qf_max x y)), h) := by
  simp (disch := first | assumption | omega | exact Or.inl rfl | exact Or.inr rfl | exact qb_01) only [qe_190, qr_190_0, qr_190_1, qr_190_2, qr_190_5, qr_190_6, qr_190_9, qr_190_10]
  unfold qf_max
  split <;> rfl
theorem qs_SS_evidenceFor (hk : K a = (7, 0)) : qa_ex (d + 1) 88 [qa_a (some a)] (K, I, R, n, z) = some (some (qa_i (I a 0)), (K, I, R, n, z)) := by
  simp (disch := first | assumption | omega | exact Or.inl rfl | exact Or.inr rfl | exact qb_01) only [qe_88, qr_88_0, qr_88_1, qr_88_4]
theorem qs_SS_evidenceAgainst (hk : K a = (7, 0)) : qa_ex (d + 1) 89 [qa_a (some a)] (K, I, R, n, z) = some (some (qa_i (I a 1)), (K, I, R, n, z)) := by
  simp (disch := first | assumption | omega | exact Or.inl rfl | exact Or.inr rfl | exact qb_01) only [qe_89, qr_89_0, qr_89_1, qr_89_4]
theorem qs_SS_interval (hk : K a = (7, 0)) : qa_ex (d + 1) 90 [qa_a (some a)] (K, I, R, n, z) = some (some (qa_i (I a 2)), (K, I, R, n, z)) := by
  simp (disch := first | assumption | omega | exact Or.inl rfl | exact Or.inr rfl | exact qb_01) only [qe_90, qr_90_0, qr_90_1, qr_90_4]
theorem qs_SS_dueDay (hk : K a = (7, 0)) : qa_ex (d + 1) 91 [qa_a (some a)] (K, I, R, n, z) = some (some (qa_i (I a 3)), (K, I, R, n, z)) := by
  simp (disch := first | assumption | omega | exact Or.inl rfl | exact Or.inr rfl | exact qb_01) only [qe_91, qr_91_0, qr_91_1, qr_91_4]
theorem qs_SS_practiceDay (hk : K a = (7, 0)) : qa_ex (d + 1) 92 [qa_a (some a)] (K, I, R, n, z) = some (some (qa_i (I a 4)), (K, I, R, n, z)) := by
  simp (disch := first | assumption | omega | exact Or.inl rfl | exact Or.inr rfl | exact qb_01) only [qe_92, qr_92_0, qr_92_1, qr_92_4]
theorem qs_SS_givenFor (hk : K a = (7, 0)) : qa_ex (d + 1) 122 [qa_a (some a)] (K, I, R, n, z) = some (some (qa_i (I a 5)), (K, I, R, n, z)) := by
  simp (disch := first | assumption | omega | exact Or.inl rfl | exact Or.inr rfl | exact qb_01) only [qe_122, qr_122_0, qr_122_1, qr_122_4]
theorem qs_SS_givenAgainst (hk : K a = (7, 0)) : qa_ex (d + 1) 123 [qa_a (some a)] (K, I, R, n, z) = some (some (qa_i (I a 6)), (K, I, R, n, z)) := by
  simp (disch := first | assumption | omega | exact Or.inl rfl | exact Or.inr rfl | exact qb_01) only [qe_123, qr_123_0, qr_123_1, qr_123_4]
theorem qs_SS_cutOff (hk : K a = (7, 0)) : qa_ex (d + 1) 124 [qa_a (some a)] (K, I, R, n, z) = some (some (qa_i (I a 7)), (K, I, R, n, z)) := by
  simp (disch := first | assumption | omega | exact Or.inl rfl | exact Or.inr rfl | exact qb_01) only [qe_124, qr_124_0, qr_124_1, qr_124_4]
theorem qs_SS_decayed (hk : K a = (7, 0)) : qa_ex (d + 1) 125 [qa_a (some a)] (K, I, R, n, z) = some (some (qa_i (I a 8)), (K, I, R, n, z)) := by
  simp (disch := first | assumption | omega | exact Or.inl rfl | exact Or.inr rfl | exact qb_01) only [qe_125, qr_125_0, qr_125_1, qr_125_4]
theorem qs_LG_size (hk : K a = (8, 0)) : qa_ex (d + 1) 141 [qa_a (some a)] (K, I, R, n, z) = some (some (qa_i (I a 4)), (K, I, R, n, z)) := by
  simp (disch := first | assumption | omega | exact Or.inl rfl | exact Or.inr rfl | exact qb_01) only [qe_141, qr_141_0, qr_141_1, qr_141_4]
theorem qs_HI_size (hk : K a = (9, 0)) : qa_ex (d + 1) 146 [qa_a (some a)] (K, I, R, n, z) = some (some (qa_i (I a 2)), (K, I, R, n, z)) := by
  simp (disch := first | assumption | omega | exact Or.inl rfl | exact Or.inr rfl | exact qb_01) only [qe_146, qr_146_0, qr_146_1, qr_146_4]
theorem qs_EX_levels (hk : K a = (3, 0)) : qa_ex (d + 1) 134 [qa_a (some a)] (K, I, R, n, z) = some (some (qa_i (I a 2)), (K, I, R, n, z)) := by
  simp (disch := first | assumption | omega | exact Or.inl rfl | exact Or.inr rfl | exact qb_01) only [qe_134, qr_134_0, qr_134_1, qr_134_4]
theorem qs_PR_day (hk : K a = (6, 0)) : qa_ex (d + 1) 81 [qa_a (some a)] (K, I, R, n, z) = some (some (qa_i (I a 6)), (K, I, R, n, z)) := by
  simp (disch := first | assumption | omega | exact Or.inl rfl | exact Or.inr rfl | exact qb_01) only [qe_81, qr_81_0, qr_81_1, qr_81_4]
theorem qs_CU_size (hk : K a = (5, 0)) : qa_ex (d + 1) 26 [qa_a (some a)] (K, I, R, n, z) = some (some (qa_i (I a 3)), (K, I, R, n, z)) := by
  simp (disch := first | assumption | omega | exact Or.inl rfl | exact Or.inr rfl | exact qb_01) only [qe_26, qr_26_0, qr_26_1, qr_26_4]
theorem qs_CO_items (hk : K a = (4, 0)) : qa_ex (d + 1) 107 [qa_a (some a)] (K, I, R, n, z) = some (some (qa_i (I a 2)), (K, I, R, n, z)) := by
  simp (disch := first | assumption | omega | exact Or.inl rfl | exact Or.inr rfl | exact qb_01) only [qe_107, qr_107_0, qr_107_1, qr_107_4]
theorem qs_CO_curriculum (hk : K a = (4, 0)) : qa_ex (d + 1) 60 [qa_a (some a)] (K, I, R, n, z) = some (some (qa_a (R a 3)), (K, I, R, n, z)) := by
  simp (disch := first | assumption | omega | exact Or.inl rfl | exact Or.inr rfl | exact qb_01) only [qe_60, qr_60_0, qr_60_1, qr_60_4]
theorem qs_TR_length (hk : K a = (1, 0)) : qa_ex (d + 1) 17 [qa_a (some a)] (K, I, R, n, z) = some (some (qa_i (I a 1)), (K, I, R, n, z)) := by
  simp (disch := first | assumption | omega | exact Or.inl rfl | exact Or.inr rfl | exact qb_01) only [qe_17, qr_17_0, qr_17_1, qr_17_4]
theorem qs_CR_offset (hk : K a = (2, 0)) : qa_ex (d + 1) 36 [qa_a (some a)] (K, I, R, n, z) = some (some (qa_i (I a 1)), (K, I, R, n, z)) := by
  simp (disch := first | assumption | omega | exact Or.inl rfl | exact Or.inr rfl | exact qb_01) only [qe_36, qr_36_0, qr_36_1, qr_36_4]
theorem qs_TR_clear (hk : K a = (1, 0)) : qa_ex (d + 1) 35 [qa_a (some a)] (K, I, R, n, z) = some (none, (K, va_up I a (va_up (I a) 1 (nI 0)), R, n, z)) := by
  simp (disch := first | assumption | omega | exact Or.inl rfl | exact Or.inr rfl | exact qb_01) only [qe_35, qr_35_0, qr_35_1, qr_35_2, qr_35_5]
theorem qs_HI_clear (hk : K a = (9, 0)) : qa_ex (d + 1) 39 [qa_a (some a)] (K, I, R, n, z) = some (none, (K, va_up I a (va_up (I a) 2 (nI 0)), R, n, z)) := by
  simp (disch := first | assumption | omega | exact Or.inl rfl | exact Or.inr rfl | exact qb_01) only [qe_39, qr_39_0, qr_39_1, qr_39_2, qr_39_5]
theorem qs_EX_clear (hk : K a = (3, 0)) : qa_ex (d + 1) 128 [qa_a (some a)] (K, I, R, n, z) = some (none, (K, va_up I a (va_up (I a) 2 (nI 0)), R, n, z)) := by
  simp (disch := first | assumption | omega | exact Or.inl rfl | exact Or.inr rfl | exact qb_01) only [qe_128, qr_128_0, qr_128_1, qr_128_2, qr_128_5]
theorem qs_SS_masteryNumerator (hk : K a = (7, 0)) : qa_ex (d + 1) 64 [qa_a (some a)] (K, I, R, n, z) = some (some (qa_i (I a 0 + nI 16)), (K, I, R, n, z)) := by
  simp (disch := first | assumption | omega | exact Or.inl rfl | exact Or.inr rfl | exact qb_01) only [qe_64, qr_64_0, qr_64_1, qr_64_4, qr_64_6, qr_64_7]
theorem qs_SS_masteryDenominator (hk : K a = (7, 0)) : qa_ex (d + 1) 65 [qa_a (some a)] (K, I, R, n, z) = some (some (qa_i (I a 0 + I a 1 + nI 32)), (K, I, R, n, z)) := by
  simp (disch := first | assumption | omega | exact Or.inl rfl | exact Or.inr rfl | exact qb_01) only [qe_65, qr_65_0, qr_65_1, qr_65_4, qr_65_5, qr_65_8, qr_65_9, qr_65_11, qr_65_12]
def qf_mst (f g x : Int32) : Bool := decide (x * (f + g + nI 32) ≤ nI 100 * (f + nI 16))
def qf_les (f g f2 g2 : Int32) : Bool := decide ((f + nI 16) * (f2 + g2 + nI 32) < (f2 + nI 16) * (f + g + nI 32))
theorem qs_SS_reaches (hk : K a = (7, 0)) : qa_ex (d + 2) 63 [qa_a (some a), qa_i x] (K, I, R, n, z) = some (some (qa_i (qa_bi (qf_mst (I a 0) (I a 1) x = true))), (K, I, R, n, z)) := by
  simp (disch := first | assumption | omega | exact Or.inl rfl | exact Or.inr rfl | exact qb_01) only [qe_63, qr_63_0, qr_63_2, qr_63_3, qr_63_6, qr_63_7, qr_63_8, qr_63_9, qr_63_12, qr_63_13, qr_63_16, qr_63_17, qr_63_20, qr_63_21, qs_SS_masteryNumerator, qs_SS_masteryDenominator, Option.bind_some, Option.toList_some, Option.toList_none, List.nil_append, List.cons_append, if_true, if_false, ite_true, ite_false, not_true_eq_false, not_false_eq_true]
  unfold qf_mst
  by_cases q : nI 100 * (I a 0 + nI 16) < x * (I a 0 + I a 1 + nI 32)
  · rw [if_pos q, qb_f (by simpa using q)]
  · rw [if_neg q, qb_t (by simpa using q)]
theorem qs_SS_hasLessMasteryThan (hk : K a = (7, 0)) (hk2 : K b = (7, 0)) : qa_ex (d + 2) 109 [qa_a (some a), qa_a (some b)] (K, I, R, n, z) = some (some (qa_i (qa_bi (qf_les (I a 0) (I a 1) (I b 0) (I b 1) = true))), (K, I, R, n, z)) := by
  simp (disch := first | assumption | omega | exact Or.inl rfl | exact Or.inr rfl | exact qb_01) only [qe_109, qr_109_0, qr_109_1, qr_109_4, qr_109_5, qr_109_8, qr_109_9, qr_109_10, qr_109_13, qr_109_14, qr_109_17, qr_109_18, qr_109_21, qr_109_22, qr_109_25, qr_109_26, qs_SS_masteryNumerator, qs_SS_masteryDenominator, Option.bind_some, Option.toList_some, Option.toList_none, List.nil_append, List.cons_append, if_true, if_false, ite_true, ite_false, not_true_eq_false, not_false_eq_true]
  unfold qf_les
  by_cases q : (I b 0 + nI 16) * (I a 0 + I a 1 + nI 32) ≤ (I a 0 + nI 16) * (I b 0 + I b 1 + nI 32)
  · rw [if_pos q, qb_f (by simpa using q)]
  · rw [if_neg q, qb_t (by simpa using q)]
theorem qs_SS_isDueOn (hk : K a = (7, 0)) : qa_ex (d + 1) 105 [qa_a (some a), qa_i x] (K, I, R, n, z) = some (some (qa_i (qa_bi (¬ I a 3 = (-1) ∧ I a 3 ≤ x))), (K, I, R, n, z)) := by
  simp (disch := first | assumption | omega | exact Or.inl rfl | exact Or.inr rfl | exact qb_01) only [qe_105, qr_105_0, qr_105_1, qr_105_4, qr_105_5, qr_105_8, qr_105_9, qr_105_12, qr_105_13, qr_105_16, qr_105_17, qr_105_20, qr_105_21]
  by_cases q : I a 3 = (-1)
  · rw [if_pos q, qb_f (fun g => g.1 q)]
  · rw [if_neg q]
    by_cases q2 : x < I a 3
    · rw [if_pos q2, qb_f (fun g => absurd q2 (Int32.not_lt.mpr g.2))]
    · rw [if_neg q2, qb_t ⟨q, Int32.not_lt.mp q2⟩]
/-- evidence is given: w is 0 for, 1 against -/
def qf_giv (w : Nat) (f : Nat → Int32) (x : Int32) : Nat → Int32 := va_up (va_up (va_up f w (qf_min (f w + x) (nI 480))) (5 + w) (f (5 + w) + x)) 7 (f 7 + (f w + x - qf_min (f w + x) (nI 480)))
theorem qs_SS_addFor (hk : K a = (7, 0)) : qa_ex (d + 2) 67 [qa_a (some a), qa_i x] (K, I, R, n, z) = some (none, (K, va_up I a (qf_giv 0 (I a) x), R, n, z)) := by
  simp (disch := first | assumption | omega | exact Or.inl rfl | exact Or.inr rfl | exact qb_01) only [qe_67, qr_67_0, qr_67_1, qr_67_4, qr_67_5, qr_67_6, qr_67_7, qr_67_8, qr_67_9, qr_67_12, qr_67_15, qr_67_18, qr_67_19, qr_67_20, qr_67_23, qr_67_24, qr_67_25, qr_67_28, qr_67_29, qr_67_30, qr_67_33, qr_67_34, qr_67_35, qr_67_38, qr_67_39, qr_67_40, qr_67_43, qs_MA_min, Option.bind_some, Option.toList_some, Option.toList_none, List.nil_append, List.cons_append, if_true, if_false, ite_true, ite_false, not_true_eq_false, not_false_eq_true, qa_up_s, qa_up_n, qa_uu]
  rfl
theorem qs_SS_addAgainst (hk : K a = (7, 0)) : qa_ex (d + 2) 68 [qa_a (some a), qa_i x] (K, I, R, n, z) = some (none, (K, va_up I a (qf_giv 1 (I a) x), R, n, z)) := by
  simp (disch := first | assumption | omega | exact Or.inl rfl | exact Or.inr rfl | exact qb_01) only [qe_68, qr_68_0, qr_68_1, qr_68_4, qr_68_5, qr_68_6, qr_68_7, qr_68_8, qr_68_9, qr_68_12, qr_68_15, qr_68_18, qr_68_19, qr_68_20, qr_68_23, qr_68_24, qr_68_25, qr_68_28, qr_68_29, qr_68_30, qr_68_33, qr_68_34, qr_68_35, qr_68_38, qr_68_39, qr_68_40, qr_68_43, qs_MA_min, Option.bind_some, Option.toList_some, Option.toList_none, List.nil_append, List.cons_append, if_true, if_false, ite_true, ite_false, not_true_eq_false, not_false_eq_true, qa_up_s, qa_up_n, qa_uu]
  rfl
def qf_pr1 (f : Nat → Int32) (x : Int32) : Nat → Int32 :=
  va_up (va_up (qf_giv 0 (va_up f 4 x) (nI 16)) 2 (qf_min (nI 2 * f 2) (nI 64))) 3 (x + qf_min (nI 2 * f 2) (nI 64))
def qf_pr0 (f : Nat → Int32) (x : Int32) : Nat → Int32 := va_up (va_up (qf_giv 1 (va_up f 4 x) (nI 16)) 2 (nI 1)) 3 (x + nI 1)
theorem qf_giv_n {w j : Nat} {f : Nat → Int32} (h1 : j ≠ w) (h2 : j ≠ 5 + w) (h3 : j ≠ 7) : qf_giv w f x j = f j := by
  unfold qf_giv
  rw [qa_up_n _ _ h3, qa_up_n _ _ h2, qa_up_n _ _ h1]
theorem qs_SS_practise1 (hk : K a = (7, 0)) : qa_ex (d + 3) 66 [qa_a (some a), qa_i x, qa_i (nI 1)] (K, I, R, n, z) = some (none, (K, va_up I a (qf_pr1 (I a) x), R, n, z)) := by
  simp (disch := first | assumption | omega | exact Or.inl rfl | exact Or.inr rfl | exact qb_01) only [qe_66, qr_66_0, qr_66_1, qr_66_2, qr_66_5, qr_66_6, qr_66_9, qr_66_10, qr_66_12, qr_66_15, qr_66_16, qr_66_17, qr_66_18, qr_66_21, qr_66_22, qr_66_24, qr_66_27, qr_66_30, qr_66_33, qr_66_34, qr_66_36, qr_66_39, qr_66_40, qr_66_41, qr_66_44, qr_66_45, qr_66_46, qr_66_47, qr_66_50, qr_66_51, qr_66_54, qs_MA_min, qs_SS_addFor, Option.bind_some, Option.toList_some, Option.toList_none, List.nil_append, List.cons_append, if_true, if_false, ite_true, ite_false, not_true_eq_false, not_false_eq_true, qa_up_s, qa_up_n, qa_uu, qn_lt0, qn_ge0, qn_lt, qn_le, qn_eq, qn_e0, qn_gt0, qn_le0, qn_m1, nI_add, pk_mul, qb_e0, Classical.not_not, qf_giv_n, Nat.one_ne_zero]
  rfl
theorem qs_SS_practise0 (hk : K a = (7, 0)) : qa_ex (d + 3) 66 [qa_a (some a), qa_i x, qa_i (nI 0)] (K, I, R, n, z) = some (none, (K, va_up I a (qf_pr0 (I a) x), R, n, z)) := by
  simp (disch := first | assumption | omega | exact Or.inl rfl | exact Or.inr rfl | exact qb_01) only [qe_66, qr_66_0, qr_66_1, qr_66_2, qr_66_5, qr_66_6, qr_66_9, qr_66_10, qr_66_12, qr_66_15, qr_66_16, qr_66_17, qr_66_18, qr_66_21, qr_66_22, qr_66_24, qr_66_27, qr_66_30, qr_66_33, qr_66_34, qr_66_36, qr_66_39, qr_66_40, qr_66_41, qr_66_44, qr_66_45, qr_66_46, qr_66_47, qr_66_50, qr_66_51, qr_66_54, qs_MA_min, qs_SS_addAgainst, Option.bind_some, Option.toList_some, Option.toList_none, List.nil_append, List.cons_append, if_true, if_false, ite_true, ite_false, not_true_eq_false, not_false_eq_true, qa_up_s, qa_up_n, qa_uu, qn_lt0, qn_ge0, qn_lt, qn_le, qn_eq, qn_e0, qn_gt0, qn_le0, qn_m1, nI_add, pk_mul, qb_e0, Classical.not_not, qf_giv_n]
  rfl
/-- a day passes for a skill -/
def qf_pas (f : Nat → Int32) (x : Int32) : Nat → Int32 := if f 4 = (-1) ∨ x - f 4 < f 2 then f else va_up (va_up (va_up f 0 (f 0 - f 0 / nI 8)) 1 (f 1 - f 1 / nI 8)) 8 (f 8 + (f 0 / nI 8 + f 1 / nI 8))
theorem qa_uI (I : Nat → Nat → Int32) (a : Nat) : va_up I a (I a) = I := by
  funext q
  by_cases h : q = a
  · subst h; exact qa_up_s _ _ _
  · exact qa_up_n _ _ h
theorem qs_SS_passTo (hk : K a = (7, 0)) : qa_ex (d + 1) 77 [qa_a (some a), qa_i x] (K, I, R, n, z) = some (none, (K, va_up I a (qf_pas (I a) x), R, n, z)) := by
  have n8 : ¬ nI 8 = 0 := by decide
  simp (disch := first | assumption | omega | exact Or.inl rfl | exact Or.inr rfl | exact qb_01) only [qe_77, qr_77_0, qr_77_1, qr_77_4, qr_77_5, qr_77_8, qr_77_9, qr_77_10, qr_77_13, qr_77_14, qr_77_15, qr_77_18, qr_77_21, qr_77_22, qr_77_23, qr_77_26, qr_77_28, qr_77_29, qr_77_30, qr_77_31, qr_77_34, qr_77_36, qr_77_37, qr_77_38, qr_77_39, qr_77_40, qr_77_43, qr_77_44, qr_77_45, qr_77_48, qr_77_49, qr_77_50, qr_77_53, qr_77_54, qr_77_55, qr_77_58, qr_77_59, qr_77_60, qr_77_63, qr_77_64, qr_77_65, qr_77_66, qr_77_67, qr_77_70, Option.bind_some, Option.toList_some, Option.toList_none, List.nil_append, List.cons_append, if_true, if_false, ite_true, ite_false, not_true_eq_false, not_false_eq_true, qa_up_s, qa_up_n, qa_uu]
  unfold qf_pas
  by_cases q : I a 4 = (-1)
  · rw [if_pos q, if_pos (Or.inl q), qa_uI]
  · rw [if_neg q]
    by_cases q2 : I a 2 ≤ x - I a 4
    · rw [if_pos q2, if_neg (fun g => g.elim q (fun g => absurd g (Int32.not_lt.mpr q2)))]
    · rw [if_neg q2, if_pos (Or.inr (Int32.not_le.mp q2)), qa_uI]
def qf_zer : Nat → Int32 := fun j => if j = 2 then nI 1 else if j = 3 ∨ j = 4 then (-1) else 0
theorem qs_SS_clear (hk : K a = (7, 0)) : ∃ f : Nat → Int32, qa_ex (d + 1) 11 [qa_a (some a)] (K, I, R, n, z) = some (none, (K, va_up I a f, R, n, z)) ∧ ∀ j, j < 9 → f j = qf_zer j := by
  simp (disch := first | assumption | omega | exact Or.inl rfl | exact Or.inr rfl | exact qb_01) only [qe_11, qr_11_0, qr_11_1, qr_11_2, qr_11_5, qr_11_6, qr_11_7, qr_11_10, qr_11_11, qr_11_12, qr_11_15, qr_11_16, qr_11_17, qr_11_20, qr_11_21, qr_11_22, qr_11_25, qr_11_26, qr_11_27, qr_11_30, qr_11_31, qr_11_32, qr_11_35, qr_11_36, qr_11_37, qr_11_40, qr_11_41, qr_11_42, qr_11_45, Option.bind_some, Option.toList_some, Option.toList_none, List.nil_append, List.cons_append, if_true, if_false, ite_true, ite_false, not_true_eq_false, not_false_eq_true, qa_up_s, qa_up_n, qa_uu]
  refine ⟨_, rfl, fun j hj => ?_⟩
  rcases (show j = 0 ∨ j = 1 ∨ j = 2 ∨ j = 3 ∨ j = 4 ∨ j = 5 ∨ j = 6 ∨ j = 7 ∨ j = 8 by omega) with rfl | rfl | rfl | rfl | rfl | rfl | rfl | rfl | rfl <;> rfl
theorem qs_SS_copyFrom (hk : K a = (7, 0)) (hk2 : K b = (7, 0)) (hab : b ≠ a) : ∃ f : Nat → Int32, qa_ex (d + 1) 42 [qa_a (some a), qa_a (some b)] (K, I, R, n, z) = some (none, (K, va_up I a f, R, n, z)) ∧ ∀ j, j < 9 → f j = I b j := by
  simp (disch := first | assumption | omega | exact Or.inl rfl | exact Or.inr rfl | exact qb_01) only [qe_42, qr_42_0, qr_42_1, qr_42_2, qr_42_5, qr_42_8, qr_42_9, qr_42_10, qr_42_13, qr_42_16, qr_42_17, qr_42_18, qr_42_21, qr_42_24, qr_42_25, qr_42_26, qr_42_29, qr_42_32, qr_42_33, qr_42_34, qr_42_37, qr_42_40, qr_42_41, qr_42_42, qr_42_45, qr_42_48, qr_42_49, qr_42_50, qr_42_53, qr_42_56, qr_42_57, qr_42_58, qr_42_61, qr_42_64, qr_42_65, qr_42_66, qr_42_69, qr_42_72, Option.bind_some, Option.toList_some, Option.toList_none, List.nil_append, List.cons_append, if_true, if_false, ite_true, ite_false, not_true_eq_false, not_false_eq_true, qa_up_s, qa_up_n, qa_uu]
  refine ⟨_, rfl, fun j hj => ?_⟩
  rcases (show j = 0 ∨ j = 1 ∨ j = 2 ∨ j = 3 ∨ j = 4 ∨ j = 5 ∨ j = 6 ∨ j = 7 ∨ j = 8 by omega) with rfl | rfl | rfl | rfl | rfl | rfl | rfl | rfl | rfl <;> rfl
end Q20
