/-! What is taught, and what answers and days have made: the pictures of their cells, and the methods that read them. -/
def qp_PR (K : Nat → Nat × Nat) (R : Nat → Nat → Option Nat) (p c : Nat) : Prop :=
  K p = (6, 0) ∧ (K (p + 1)).1 = 101 ∧ (K (p + 1)).2 = 10 ∧ (K (p + 2)).1 = 100 ∧ (K (p + 2)).2 = 12 ∧ (K (p + 3)).1 = 100 ∧ (K (p + 3)).2 = 12 ∧ (K (p + 4)).1 = 100 ∧ (K (p + 4)).2 = 12 ∧ K (p + 5) = (7, 0) ∧
  R p 0 = some c ∧ R p 1 = some (p + 1) ∧ R p 2 = some (p + 2) ∧ R p 3 = some (p + 3) ∧ R p 4 = some (p + 4) ∧ R p 5 = some (p + 5) ∧ ∀ k, k < 10 → K (p + 6 + k) = (7, 0) ∧ R (p + 1) k = some (p + 6 + k)
def qp_CO (K : Nat → Nat × Nat) (R : Nat → Nat → Option Nat) (c q : Nat) : Prop :=
  K c = (4, 0) ∧ (K (c + 1)).1 = 100 ∧ (K (c + 1)).2 = 12 ∧ (K (c + 2)).1 = 100 ∧ (K (c + 2)).2 = 12 ∧ R c 0 = some (c + 1) ∧ R c 1 = some (c + 2) ∧ R c 3 = some q
def qp_CU (K : Nat → Nat × Nat) (R : Nat → Nat → Option Nat) (q : Nat) : Prop :=
  K q = (5, 0) ∧ (K (q + 1)).1 = 100 ∧ (K (q + 1)).2 = 10 ∧ (K (q + 2)).1 = 100 ∧ (K (q + 2)).2 = 10 ∧ (K (q + 3)).1 = 103 ∧ (K (q + 3)).2 = 10 ∧ R q 0 = some (q + 1) ∧ R q 1 = some (q + 2) ∧ R q 2 = some (q + 3)
/-- nk skills with their pass marks, the bits of what they need; ni items with their skills and difficulties -/
def qw_C (K : Nat → Nat × Nat) (I : Nat → Nat → Int32) (R : Nat → Nat → Option Nat) (c q nk : Nat) (ps rq : Nat → Int32) (ni : Nat) (fs hd : Nat → Nat) : Prop :=
  qp_CO K R c q ∧ qp_CU K R q ∧ I q 3 = nI nk ∧ 1 ≤ nk ∧ nk ≤ 10 ∧ (∀ k, k < nk → I (q + 1) k = ps k ∧ I (q + 2) k = rq k) ∧ I c 2 = nI ni ∧ ni ≤ 12 ∧ ∀ i, i < ni → I (c + 1) i = nI (fs i) ∧ I (c + 2) i = nI (hd i) ∧ fs i < nk ∧ hd i < 5
/-- what a Progress holds, as one row: the day, nine numbers a skill, three numbers an item -/
def qp_PS (I : Nat → Nat → Int32) (p : Nat) (s : Nat → Int32) : Prop :=
  I p 6 = s 0 ∧ (∀ k j, k < 10 → j < 9 → I (p + 6 + k) j = s (1 + 9 * k + j)) ∧ ∀ i, i < 12 → I (p + 2) i = s (91 + 3 * i) ∧ I (p + 3) i = s (92 + 3 * i) ∧ I (p + 4) i = s (93 + 3 * i)
def qf_ms (g : Nat → Bool) : Nat → Int32
  | 0 => nI 0
  | k + 1 => if g k = true then qf_ms g k ||| (nI 1 <<< (nI k &&& 31)) else qf_ms g k
section Q21
variable {d a b : Nat} {K : Nat → Nat × Nat} {I : Nat → Nat → Int32} {R : Nat → Nat → Option Nat} {n z : Nat} {x y : Int32} {h : qa_H} {p c q nk ni k i : Nat} {ps rq s : Nat → Int32} {fs hd : Nat → Nat}
theorem qs_PR_stateOf (hP : qp_PR K R p c) (hk : k < 10) : qa_ex (d + 1) 61 [qa_a (some p), qa_i (nI k)] (K, I, R, n, z) = some (some (qa_a (some (p + 6 + k))), (K, I, R, n, z)) := by
  obtain ⟨p0, p1, p2, p3, p4, p5, p6, p7, p8, p9, r0, r1, r2, r3, r4, r5, hs⟩ := hP
  obtain ⟨hs1, hs2⟩ := hs k hk
  have e1 : ¬ 10 ≤ k := by omega
  simp (disch := first | assumption | omega | exact Or.inl rfl | exact Or.inr rfl | exact qb_01) only [qe_61, qr_61_0, qr_61_1, qr_61_4, qr_61_5, qr_61_7, qr_61_10, qr_61_11, qr_61_14, qr_61_15, qr_61_16, qr_61_19, qr_61_20, qr_61_23, true_and, and_true, false_and, and_false, Option.bind_some, Option.toList_some, Option.toList_none, List.nil_append, List.cons_append, if_true, if_false, ite_true, ite_false, not_true_eq_false, not_false_eq_true, qn_lt0, qn_ge0, qn_lt, qn_le, qn_eq, qn_e0, qn_gt0, qn_le0, qn_m1, nI_add, pk_mul, qb_e0, Classical.not_not, r1, hs2, e1]
theorem qs_CO_skills (hC : qw_C K I R c q nk ps rq ni fs hd) : qa_ex (d + 2) 70 [qa_a (some c)] (K, I, R, n, z) = some (some (qa_i (nI nk)), (K, I, R, n, z)) := by
  obtain ⟨⟨c0, c1, c2, c3, c4, c5, c6, c7⟩, ⟨u0, -⟩, hn, -⟩ := hC
  simp (disch := first | assumption | omega | exact Or.inl rfl | exact Or.inr rfl | exact qb_01) only [qe_70, qr_70_0, qr_70_1, qr_70_4, qr_70_7, true_and, and_true, false_and, and_false, Option.bind_some, Option.toList_some, Option.toList_none, List.nil_append, List.cons_append, if_true, if_false, ite_true, ite_false, not_true_eq_false, not_false_eq_true, c7, qs_CU_size, hn]
theorem qs_CU_has (hk : K q = (5, 0)) (hn : I q 3 = nI nk) : qa_ex (d + 1) 45 [qa_a (some q), qa_i x] (K, I, R, n, z) = some (some (qa_i (qa_bi (¬ x < 0 ∧ ¬ nI nk ≤ x))), (K, I, R, n, z)) := by
  simp (disch := first | assumption | omega | exact Or.inl rfl | exact Or.inr rfl | exact qb_01) only [qe_45, qr_45_0, qr_45_1, qr_45_4, qr_45_5, qr_45_6, qr_45_9, qr_45_12, qr_45_13, qr_45_16, qr_45_17, true_and, and_true, false_and, and_false, Option.bind_some, Option.toList_some, Option.toList_none, List.nil_append, List.cons_append, if_true, if_false, ite_true, ite_false, not_true_eq_false, not_false_eq_true, hn]
  by_cases h1 : x < 0
  · rw [if_pos h1, qb_f (fun g => g.1 h1)]
  · rw [if_neg h1]
    by_cases h2 : nI nk ≤ x
    · rw [if_pos h2, qb_f (fun g => g.2 h2)]
    · rw [if_neg h2, qb_t ⟨h1, h2⟩]
theorem qs_CO_hasItem (hk : K c = (4, 0)) (hn : I c 2 = nI ni) : qa_ex (d + 1) 48 [qa_a (some c), qa_i x] (K, I, R, n, z) = some (some (qa_i (qa_bi (¬ x < 0 ∧ ¬ nI ni ≤ x))), (K, I, R, n, z)) := by
  simp (disch := first | assumption | omega | exact Or.inl rfl | exact Or.inr rfl | exact qb_01) only [qe_48, qr_48_0, qr_48_1, qr_48_4, qr_48_5, qr_48_6, qr_48_9, qr_48_12, qr_48_13, qr_48_16, qr_48_17, true_and, and_true, false_and, and_false, Option.bind_some, Option.toList_some, Option.toList_none, List.nil_append, List.cons_append, if_true, if_false, ite_true, ite_false, not_true_eq_false, not_false_eq_true, hn]
  by_cases h1 : x < 0
  · rw [if_pos h1, qb_f (fun g => g.1 h1)]
  · rw [if_neg h1]
    by_cases h2 : nI ni ≤ x
    · rw [if_pos h2, qb_f (fun g => g.2 h2)]
    · rw [if_neg h2, qb_t ⟨h1, h2⟩]
theorem qs_CO_hasSkill (hC : qw_C K I R c q nk ps rq ni fs hd) : qa_ex (d + 2) 44 [qa_a (some c), qa_i x] (K, I, R, n, z) = some (some (qa_i (qa_bi (¬ x < 0 ∧ ¬ nI nk ≤ x))), (K, I, R, n, z)) := by
  obtain ⟨⟨c0, c1, c2, c3, c4, c5, c6, c7⟩, ⟨u0, -⟩, hn, -⟩ := hC
  simp (disch := first | assumption | omega | exact Or.inl rfl | exact Or.inr rfl | exact qb_01) only [qe_44, qr_44_0, qr_44_1, qr_44_4, qr_44_5, qr_44_8, true_and, and_true, false_and, and_false, Option.bind_some, Option.toList_some, Option.toList_none, List.nil_append, List.cons_append, if_true, if_false, ite_true, ite_false, not_true_eq_false, not_false_eq_true, c7, qs_CU_has]
theorem qb_in {j l : Nat} (h1 : j < l) (h2 : l < 2147483648) : qa_bi (¬ nI j < 0 ∧ ¬ nI l ≤ nI j) = nI 1 := qb_t ⟨nI_pos (by omega), by rw [qn_le h2 (by omega)]; omega⟩
theorem qs_CU_passMark (hU : qp_CU K R q) (hn : I q 3 = nI nk) (h10 : nk ≤ 10) (hk : k < nk) : qa_ex (d + 2) 62 [qa_a (some q), qa_i (nI k)] (K, I, R, n, z) = some (some (qa_i (I (q + 1) k)), (K, I, R, n, z)) := by
  obtain ⟨u0, u1, u2, u3, u4, u5, u6, v0, v1, v2⟩ := hU
  have e1 : ¬ nk ≤ k := by omega
  simp (disch := first | assumption | omega | exact Or.inl rfl | exact Or.inr rfl | exact qb_01) only [qe_62, qr_62_0, qr_62_1, qr_62_2, qr_62_5, qr_62_8, qr_62_9, qr_62_12, qr_62_13, qr_62_14, qr_62_17, qr_62_18, true_and, and_true, false_and, and_false, Option.bind_some, Option.toList_some, Option.toList_none, List.nil_append, List.cons_append, if_true, if_false, ite_true, ite_false, not_true_eq_false, not_false_eq_true, qn_lt0, qn_ge0, qn_lt, qn_le, qn_eq, qn_e0, qn_gt0, qn_le0, qn_m1, nI_add, pk_mul, qb_e0, Classical.not_not, qs_CU_has, e1, v0, Nat.one_ne_zero]
theorem qs_CU_requiredSkills (hU : qp_CU K R q) (hn : I q 3 = nI nk) (h10 : nk ≤ 10) (hk : k < nk) : qa_ex (d + 2) 69 [qa_a (some q), qa_i (nI k)] (K, I, R, n, z) = some (some (qa_i (I (q + 2) k)), (K, I, R, n, z)) := by
  obtain ⟨u0, u1, u2, u3, u4, u5, u6, v0, v1, v2⟩ := hU
  have e1 : ¬ nk ≤ k := by omega
  simp (disch := first | assumption | omega | exact Or.inl rfl | exact Or.inr rfl | exact qb_01) only [qe_69, qr_69_0, qr_69_1, qr_69_2, qr_69_5, qr_69_8, qr_69_9, qr_69_12, qr_69_13, qr_69_14, qr_69_17, qr_69_18, true_and, and_true, false_and, and_false, Option.bind_some, Option.toList_some, Option.toList_none, List.nil_append, List.cons_append, if_true, if_false, ite_true, ite_false, not_true_eq_false, not_false_eq_true, qn_lt0, qn_ge0, qn_lt, qn_le, qn_eq, qn_e0, qn_gt0, qn_le0, qn_m1, nI_add, pk_mul, qb_e0, Classical.not_not, qs_CU_has, e1, v1, Nat.one_ne_zero]
theorem qs_CU_prerequisiteOf (hU : qp_CU K R q) (hn : I q 3 = nI nk) (h10 : nk ≤ 10) (hk : k < nk) : qa_ex (d + 2) 95 [qa_a (some q), qa_i (nI k)] (K, I, R, n, z) = some (some (qa_a (R (q + 3) k)), (K, I, R, n, z)) := by
  obtain ⟨u0, u1, u2, u3, u4, u5, u6, v0, v1, v2⟩ := hU
  have e1 : ¬ nk ≤ k := by omega
  simp (disch := first | assumption | omega | exact Or.inl rfl | exact Or.inr rfl | exact qb_01) only [qe_95, qr_95_0, qr_95_1, qr_95_2, qr_95_5, qr_95_8, qr_95_9, qr_95_12, qr_95_13, qr_95_14, qr_95_17, qr_95_18, true_and, and_true, false_and, and_false, Option.bind_some, Option.toList_some, Option.toList_none, List.nil_append, List.cons_append, if_true, if_false, ite_true, ite_false, not_true_eq_false, not_false_eq_true, qn_lt0, qn_ge0, qn_lt, qn_le, qn_eq, qn_e0, qn_gt0, qn_le0, qn_m1, nI_add, pk_mul, qb_e0, Classical.not_not, qs_CU_has, e1, v2, Nat.one_ne_zero]
theorem qs_CO_skillOf (hC : qw_C K I R c q nk ps rq ni fs hd) (hi : i < ni) : qa_ex (d + 2) 49 [qa_a (some c), qa_i (nI i)] (K, I, R, n, z) = some (some (qa_i (nI (fs i))), (K, I, R, n, z)) := by
  obtain ⟨⟨c0, c1, c2, c3, c4, c5, c6, c7⟩, -, -, -, -, -, hn, h12, hit⟩ := hC
  obtain ⟨i1, i2, i3, i4⟩ := hit i hi
  have e1 : ¬ ni ≤ i := by omega
  simp (disch := first | assumption | omega | exact Or.inl rfl | exact Or.inr rfl | exact qb_01) only [qe_49, qr_49_0, qr_49_1, qr_49_2, qr_49_5, qr_49_8, qr_49_9, qr_49_12, qr_49_13, qr_49_14, qr_49_17, qr_49_18, true_and, and_true, false_and, and_false, Option.bind_some, Option.toList_some, Option.toList_none, List.nil_append, List.cons_append, if_true, if_false, ite_true, ite_false, not_true_eq_false, not_false_eq_true, qn_lt0, qn_ge0, qn_lt, qn_le, qn_eq, qn_e0, qn_gt0, qn_le0, qn_m1, nI_add, pk_mul, qb_e0, Classical.not_not, qs_CO_hasItem, e1, c5, i1, Nat.one_ne_zero]
theorem qs_CO_difficultyOf (hC : qw_C K I R c q nk ps rq ni fs hd) (hi : i < ni) : qa_ex (d + 2) 50 [qa_a (some c), qa_i (nI i)] (K, I, R, n, z) = some (some (qa_i (nI (hd i))), (K, I, R, n, z)) := by
  obtain ⟨⟨c0, c1, c2, c3, c4, c5, c6, c7⟩, -, -, -, -, -, hn, h12, hit⟩ := hC
  obtain ⟨i1, i2, i3, i4⟩ := hit i hi
  have e1 : ¬ ni ≤ i := by omega
  simp (disch := first | assumption | omega | exact Or.inl rfl | exact Or.inr rfl | exact qb_01) only [qe_50, qr_50_0, qr_50_1, qr_50_2, qr_50_5, qr_50_8, qr_50_9, qr_50_12, qr_50_13, qr_50_14, qr_50_17, qr_50_18, true_and, and_true, false_and, and_false, Option.bind_some, Option.toList_some, Option.toList_none, List.nil_append, List.cons_append, if_true, if_false, ite_true, ite_false, not_true_eq_false, not_false_eq_true, qn_lt0, qn_ge0, qn_lt, qn_le, qn_eq, qn_e0, qn_gt0, qn_le0, qn_m1, nI_add, pk_mul, qb_e0, Classical.not_not, qs_CO_hasItem, e1, c6, i2, Nat.one_ne_zero]
theorem qs_PR_rightAnswers (hP : qp_PR K R p c) (hi : i < 12) : qa_ex (d + 1) 51 [qa_a (some p), qa_i (nI i)] (K, I, R, n, z) = some (some (qa_i (I (p + 2) i)), (K, I, R, n, z)) := by
  obtain ⟨p0, p1, p2, p3, p4, p5, p6, p7, p8, p9, r0, r1, r2, r3, r4, r5, hs⟩ := hP
  have e1 : ¬ 12 ≤ i := by omega
  simp (disch := first | assumption | omega | exact Or.inl rfl | exact Or.inr rfl | exact qb_01) only [qe_51, qr_51_0, qr_51_1, qr_51_4, qr_51_5, qr_51_7, qr_51_10, qr_51_11, qr_51_14, qr_51_15, qr_51_16, qr_51_19, qr_51_20, true_and, and_true, false_and, and_false, Option.bind_some, Option.toList_some, Option.toList_none, List.nil_append, List.cons_append, if_true, if_false, ite_true, ite_false, not_true_eq_false, not_false_eq_true, qn_lt0, qn_ge0, qn_lt, qn_le, qn_eq, qn_e0, qn_gt0, qn_le0, qn_m1, nI_add, pk_mul, qb_e0, Classical.not_not, r2, e1]
theorem qs_PR_wrongAnswers (hP : qp_PR K R p c) (hi : i < 12) : qa_ex (d + 1) 52 [qa_a (some p), qa_i (nI i)] (K, I, R, n, z) = some (some (qa_i (I (p + 3) i)), (K, I, R, n, z)) := by
  obtain ⟨p0, p1, p2, p3, p4, p5, p6, p7, p8, p9, r0, r1, r2, r3, r4, r5, hs⟩ := hP
  have e1 : ¬ 12 ≤ i := by omega
  simp (disch := first | assumption | omega | exact Or.inl rfl | exact Or.inr rfl | exact qb_01) only [qe_52, qr_52_0, qr_52_1, qr_52_4, qr_52_5, qr_52_7, qr_52_10, qr_52_11, qr_52_14, qr_52_15, qr_52_16, qr_52_19, qr_52_20, true_and, and_true, false_and, and_false, Option.bind_some, Option.toList_some, Option.toList_none, List.nil_append, List.cons_append, if_true, if_false, ite_true, ite_false, not_true_eq_false, not_false_eq_true, qn_lt0, qn_ge0, qn_lt, qn_le, qn_eq, qn_e0, qn_gt0, qn_le0, qn_m1, nI_add, pk_mul, qb_e0, Classical.not_not, r3, e1]
theorem qs_PR_answerDay (hP : qp_PR K R p c) (hi : i < 12) : qa_ex (d + 1) 53 [qa_a (some p), qa_i (nI i)] (K, I, R, n, z) = some (some (qa_i (I (p + 4) i)), (K, I, R, n, z)) := by
  obtain ⟨p0, p1, p2, p3, p4, p5, p6, p7, p8, p9, r0, r1, r2, r3, r4, r5, hs⟩ := hP
  have e1 : ¬ 12 ≤ i := by omega
  simp (disch := first | assumption | omega | exact Or.inl rfl | exact Or.inr rfl | exact qb_01) only [qe_53, qr_53_0, qr_53_1, qr_53_4, qr_53_5, qr_53_7, qr_53_10, qr_53_11, qr_53_14, qr_53_15, qr_53_16, qr_53_19, qr_53_20, true_and, and_true, false_and, and_false, Option.bind_some, Option.toList_some, Option.toList_none, List.nil_append, List.cons_append, if_true, if_false, ite_true, ite_false, not_true_eq_false, not_false_eq_true, qn_lt0, qn_ge0, qn_lt, qn_le, qn_eq, qn_e0, qn_gt0, qn_le0, qn_m1, nI_add, pk_mul, qb_e0, Classical.not_not, r4, e1]
theorem qs_PR_isOpen (hP : qp_PR K R p c) (hi : i < 12) : qa_ex (d + 2) 55 [qa_a (some p), qa_i (nI i)] (K, I, R, n, z) = some (some (qa_i (qa_bi (¬ I (p + 4) i = I p 6))), (K, I, R, n, z)) := by
  have p0 := hP.1
  simp (disch := first | assumption | omega | exact Or.inl rfl | exact Or.inr rfl | exact qb_01) only [qe_55, qr_55_0, qr_55_1, qr_55_2, qr_55_5, qr_55_6, qr_55_9, qr_55_12, qr_55_13, qr_55_16, qr_55_17, true_and, and_true, false_and, and_false, Option.bind_some, Option.toList_some, Option.toList_none, List.nil_append, List.cons_append, if_true, if_false, ite_true, ite_false, not_true_eq_false, not_false_eq_true, qs_PR_answerDay hP hi]
  by_cases g : I (p + 4) i = I p 6
  · rw [if_pos g, qb_f (fun q => q g)]
  · rw [if_neg g, qb_t g]
theorem qs_PR_isMastered (hP : qp_PR K R p c) (hC : qw_C K I R c q nk ps rq ni fs hd) (hk : k < nk) : qa_ex (d + 3) 79 [qa_a (some p), qa_i (nI k)] (K, I, R, n, z) = some (some (qa_i (qa_bi (qf_mst (I (p + 6 + k) 0) (I (p + 6 + k) 1) (ps k) = true))), (K, I, R, n, z)) := by
  obtain ⟨⟨c0, c1, c2, c3, c4, c5, c6, c7⟩, hU, hn, -, h10, hps, -⟩ := hC
  have u0 := hU.1
  have p0 := hP.1
  have r0 := hP.2.2.2.2.2.2.2.2.2.2.1
  have hs1 := (hP.2.2.2.2.2.2.2.2.2.2.2.2.2.2.2.2 k (by omega)).1
  simp (disch := first | assumption | omega | exact Or.inl rfl | exact Or.inr rfl | exact qb_01) only [qe_79, qr_79_0, qr_79_1, qr_79_2, qr_79_5, qr_79_6, qr_79_9, qr_79_12, qr_79_13, qr_79_16, qr_79_19, true_and, and_true, false_and, and_false, Option.bind_some, Option.toList_some, Option.toList_none, List.nil_append, List.cons_append, if_true, if_false, ite_true, ite_false, not_true_eq_false, not_false_eq_true, qs_PR_stateOf hP (show k < 10 by omega), r0, c7, qs_CO_curriculum, qs_CU_passMark hU hn h10 hk, qs_SS_reaches hs1, (hps k hk).1]
theorem qs_PR_masteredSkills (hP : qp_PR K R p c) (hC : qw_C K I R c q nk ps rq ni fs hd) : qa_ex (d + 3) 59 [qa_a (some p)] (K, I, R, n, z) = some (some (qa_i (qf_ms (fun k => qf_mst (I (p + 6 + k) 0) (I (p + 6 + k) 1) (ps k)) nk)), (K, I, R, n, z)) := by
  obtain ⟨⟨c0, c1, c2, c3, c4, c5, c6, c7⟩, hU, hn, -, h10, hps, -⟩ := hC
  have u0 := hU.1
  have p0 := hP.1
  have r0 := hP.2.2.2.2.2.2.2.2.2.2.1
  have hst := hP.2.2.2.2.2.2.2.2.2.2.2.2.2.2.2.2
  generalize hg : (fun k => qf_mst (I (p + 6 + k) 0) (I (p + 6 + k) 1) (ps k)) = g
  have loop : ∀ j k, k + j = nk → qa_run (d + 2) 59 12 [qa_a (some p), qa_a (some q), qa_i (qf_ms g k), qa_i (nI k)] [] [] (K, I, R, n, z) = some (some (qa_i (qf_ms g nk)), (K, I, R, n, z)) := by
    intro j
    induction j with
    | zero =>
      intro k hk
      have hk : k = nk := by omega
      subst hk
      rw [qr_59_12]
      simp (disch := first | assumption | omega | exact Or.inl rfl | exact Or.inr rfl | exact qb_01) only [qr_59_0, qr_59_1, qr_59_4, qr_59_7, qr_59_8, qr_59_9, qr_59_10, qr_59_11, qr_59_13, qr_59_14, qr_59_17, qr_59_20, qr_59_21, qr_59_22, qr_59_25, qr_59_26, qr_59_27, qr_59_30, qr_59_33, qr_59_36, qr_59_37, qr_59_38, qr_59_39, qr_59_40, qr_59_41, qr_59_42, qr_59_45, qr_59_48, qr_59_49, true_and, and_true, false_and, and_false, Option.bind_some, Option.toList_some, Option.toList_none, List.nil_append, List.cons_append, if_true, if_false, ite_true, ite_false, not_true_eq_false, not_false_eq_true, qn_lt0, qn_ge0, qn_lt, qn_le, qn_eq, qn_e0, qn_gt0, qn_le0, qn_m1, nI_add, pk_mul, qb_e0, Classical.not_not, qs_CU_size, hn, Nat.le_refl]
    | succ j ih =>
      intro k hk
      have e1 : ¬ nk ≤ k := by omega
      have hs1 := (hst k (by omega)).1
      have hgk : qf_mst (I (p + 6 + k) 0) (I (p + 6 + k) 1) (ps k) = g k := by rw [← hg]
      have e2 := ih (k + 1) (by omega)
      have h10k : k < 10 := by omega
      rw [qr_59_12]
      simp (disch := first | assumption | omega | exact Or.inl rfl | exact Or.inr rfl | exact qb_01) only [qr_59_0, qr_59_1, qr_59_4, qr_59_7, qr_59_8, qr_59_9, qr_59_10, qr_59_11, qr_59_13, qr_59_14, qr_59_17, qr_59_20, qr_59_21, qr_59_22, qr_59_25, qr_59_26, qr_59_27, qr_59_30, qr_59_33, qr_59_36, qr_59_37, qr_59_38, qr_59_39, qr_59_40, qr_59_41, qr_59_42, qr_59_45, qr_59_48, qr_59_49, true_and, and_true, false_and, and_false, Option.bind_some, Option.toList_some, Option.toList_none, List.nil_append, List.cons_append, if_true, if_false, ite_true, ite_false, not_true_eq_false, not_false_eq_true, qn_lt0, qn_ge0, qn_lt, qn_le, qn_eq, qn_e0, qn_gt0, qn_le0, qn_m1, nI_add, pk_mul, qb_e0, Classical.not_not, qs_CU_size, hn, e1, qs_PR_stateOf hP h10k, qs_CU_passMark hU hn h10 (show k < nk by omega), qs_SS_reaches hs1, (hps k (by omega)).1, hgk]
      by_cases hq : g k = true
      · have e3 : qf_ms g (k + 1) = qf_ms g k ||| (nI 1 <<< (nI k &&& 31)) := if_pos hq
        rw [e3] at e2
        rw [if_neg (fun w => w hq)]
        exact e2
      · have e3 : qf_ms g (k + 1) = qf_ms g k := if_neg hq
        rw [e3] at e2
        rw [if_pos hq]
        exact e2
  simp (disch := first | assumption | omega | exact Or.inl rfl | exact Or.inr rfl | exact qb_01) only [qe_59, qr_59_0, qr_59_1, qr_59_4, qr_59_7, qr_59_8, qr_59_9, qr_59_10, qr_59_11, qr_59_13, qr_59_14, qr_59_17, qr_59_20, qr_59_21, qr_59_22, qr_59_25, qr_59_26, qr_59_27, qr_59_30, qr_59_33, qr_59_36, qr_59_37, qr_59_38, qr_59_39, qr_59_40, qr_59_41, qr_59_42, qr_59_45, qr_59_48, qr_59_49, true_and, and_true, false_and, and_false, Option.bind_some, Option.toList_some, Option.toList_none, List.nil_append, List.cons_append, if_true, if_false, ite_true, ite_false, not_true_eq_false, not_false_eq_true, r0, c7, qs_CO_curriculum]
  exact loop nk 0 (by omega)
end Q21
