/-! Counts and what is due, both sides. -/
def qf_b1 (x : Int32) : Int32 := x - ((x.toUInt32 >>> ((nI 1).toUInt32 &&& Int32.toUInt32 31)).toInt32 &&& 1431655765)
def qf_b2 (x : Int32) : Int32 := (x &&& 858993459) + ((x.toUInt32 >>> ((nI 2).toUInt32 &&& Int32.toUInt32 31)).toInt32 &&& 858993459)
def qf_b3 (x : Int32) : Int32 := (x + (x.toUInt32 >>> ((nI 4).toUInt32 &&& Int32.toUInt32 31)).toInt32) &&& 252645135
def qf_b4 (x : Int32) : Int32 := x + (x.toUInt32 >>> ((nI 8).toUInt32 &&& Int32.toUInt32 31)).toInt32
def qf_b5 (x : Int32) : Int32 := x + (x.toUInt32 >>> ((nI 16).toUInt32 &&& Int32.toUInt32 31)).toInt32
def qf_bc (x : Int32) : Int32 := qf_b5 (qf_b4 (qf_b3 (qf_b2 (qf_b1 x)))) &&& nI 63
theorem qf_bc_v : ∀ v, v < 1024 → qf_bc (nI v) = nI (qn_pop 10 v) := by decide +kernel
def qs_du (s : Nat → Int32) (k : Nat) : Bool := decide (¬ s (1 + 9 * k + 3) = (-1) ∧ s (1 + 9 * k + 3) ≤ s 0)
def qf_sm (f : Nat → Nat) : Nat → Nat
  | 0 => 0
  | k + 1 => qf_sm f k + f k
def qs_db (s : Nat → Int32) (k o : Nat) : Nat := if qs_du s o = true then (if s (1 + 9 * o + 3) < s (1 + 9 * k + 3) then 1 else if s (1 + 9 * o + 3) = s (1 + 9 * k + 3) then (if k ≤ o then 0 else 1) else 0) else 0
def qs_fd (s : Nat → Int32) (nk : Nat) (x : Int32) : Nat → Nat → Int32
  | 0, _ => -1
  | j + 1, k => if qs_du s k = true then (if nI (qf_sm (qs_db s k) nk) = x then nI k else qs_fd s nk x j (k + 1)) else qs_fd s nk x j (k + 1)
/-- sums of Int32 -/
def qf_si (f : Nat → Int32) : Nat → Int32
  | 0 => nI 0
  | k + 1 => qf_si f k + f k
theorem qf_si_ext {f : Nat → Int32} {m : Nat} : ∀ {j : Nat}, (∀ i, m ≤ i → i < m + j → f i = nI 0) → qf_si f (m + j) = qf_si f m := by
  intro j
  induction j with
  | zero => intro _; rfl
  | succ j ih =>
    intro h
    show qf_si f (m + j) + f (m + j) = qf_si f m
    rw [ih (fun i h1 h2 => h i h1 (by omega)), h (m + j) (by omega) (by omega), nI_0, Int32.add_zero]
def qs_ev (s : Nat → Int32) (k : Nat) : Int32 := s (1 + 9 * k + 0) + s (1 + 9 * k + 1)
section Q48
variable {d a b f : Nat} {K : Nat → Nat × Nat} {I : Nat → Nat → Int32} {R : Nat → Nat → Option Nat} {n z : Nat} {x y : Int32} {h : qa_H} {u nk ni k i j m B p q c e g w v r lv : Nat} {ps rq s : Nat → Int32} {fs hd : Nat → Nat} {T : Nat → qt_T}
theorem qs_IN_bitCount : qa_ex (d + 1) 120 [qa_i x] h = some (some (qa_i (qf_bc x)), h) := by
  simp (disch := first | assumption | omega | exact Or.inl rfl | exact Or.inr rfl | exact qb_01) only [qe_120, qr_120_0, qr_120_1, qr_120_2, qr_120_3, qr_120_4, qr_120_7, qr_120_8, qr_120_9, qr_120_10, qr_120_11, qr_120_14, qr_120_15, qr_120_16, qr_120_17, qr_120_18, qr_120_21, qr_120_22, qr_120_23, qr_120_24, qr_120_25, qr_120_26, qr_120_27, qr_120_28, qr_120_29, qr_120_32, qr_120_33, qr_120_34, qr_120_35, qr_120_36, qr_120_38, qr_120_39, qr_120_40, qr_120_41, qr_120_42, qr_120_43, qr_120_45, qr_120_46, qr_120_47, qr_120_48, qr_120_49, qr_120_51, qr_120_52]
  rfl
theorem qs_PR_isDue (hP : qp_PR K R p c) (hS : qp_PS I p s) (hk : k < 10) : qa_ex (d + 2) 104 [qa_a (some p), qa_i (nI k)] (K, I, R, n, z) = some (some (qa_i (qa_bi (qs_du s k = true))), (K, I, R, n, z)) := by
  have p0 := hP.1
  have hs1 := (hP.2.2.2.2.2.2.2.2.2.2.2.2.2.2.2.2 k hk).1
  have e1 : qa_bi (¬ s (1 + 9 * k + 3) = (-1) ∧ s (1 + 9 * k + 3) ≤ s 0) = qa_bi (qs_du s k = true) := qb_c (by unfold qs_du; exact decide_eq_true_iff.symm)
  simp (disch := first | assumption | omega | exact Or.inl rfl | exact Or.inr rfl | exact qb_01) only [qe_104, qr_104_0, qr_104_1, qr_104_2, qr_104_5, qr_104_6, qr_104_9, qr_104_12, true_and, and_true, false_and, and_false, Option.bind_some, Option.toList_some, Option.toList_none, List.nil_append, List.cons_append, if_true, if_false, ite_true, ite_false, not_true_eq_false, not_false_eq_true, qs_PR_stateOf hP hk, qs_SS_isDueOn hs1, hS.2.1 k 3 hk (by omega), hS.1, e1]
theorem qs_PR_dueBefore (hP : qp_PR K R p c) (hC : qw_C K I R c q nk ps rq ni fs hd) (hS : qp_PS I p s) (hk : k < nk) : qa_ex (d + 3) 114 [qa_a (some p), qa_i (nI k)] (K, I, R, n, z) = some (some (qa_i (nI (qf_sm (qs_db s k) nk))), (K, I, R, n, z)) := by
  have h10 := hC.2.2.2.2.1
  have p0 := hP.1
  have r0 := hP.2.2.2.2.2.2.2.2.2.2.1
  have c0 := hC.1.1
  have hst := hP.2.2.2.2.2.2.2.2.2.2.2.2.2.2.2.2
  have loop : ∀ m o l5, o + m = nk → qa_run (d + 2) 114 14 [qa_a (some p), qa_i (nI k), qa_i (s (1 + 9 * k + 3)), qa_i (nI (qf_sm (qs_db s k) o)), qa_i (nI o), l5] [] [] (K, I, R, n, z) = some (some (qa_i (nI (qf_sm (qs_db s k) nk))), (K, I, R, n, z)) := by
    intro m
    induction m with
    | zero =>
      intro o l5 ho
      have ho : o = nk := by omega
      subst ho
      rw [qr_114_14]
      simp (disch := first | assumption | omega | exact Or.inl rfl | exact Or.inr rfl | exact qb_01) only [qr_114_0, qr_114_1, qr_114_2, qr_114_5, qr_114_8, qr_114_9, qr_114_10, qr_114_11, qr_114_12, qr_114_16, qr_114_17, qr_114_20, qr_114_23, qr_114_26, qr_114_27, qr_114_29, qr_114_32, qr_114_35, qr_114_37, qr_114_38, qr_114_40, qr_114_43, qr_114_46, qr_114_48, qr_114_49, qr_114_52, qr_114_54, qr_114_55, qr_114_58, qr_114_60, qr_114_61, qr_114_64, qr_114_67, qr_114_70, qr_114_73, qr_114_74, true_and, and_true, false_and, and_false, Option.bind_some, Option.toList_some, Option.toList_none, List.nil_append, List.cons_append, if_true, if_false, ite_true, ite_false, not_true_eq_false, not_false_eq_true, qn_lt0, qn_ge0, qn_lt, qn_le, qn_eq, qn_e0, qn_gt0, qn_le0, qn_m1, nI_add, pk_mul, qb_e0, Classical.not_not, r0, qs_CO_skills hC, Nat.le_refl]
    | succ m ih =>
      intro o l5 ho
      have e1 : ¬ nk ≤ o := by omega
      have ho10 : o < 10 := by omega
      have hs1 := (hst o ho10).1
      have e2 := ih (o + 1) (qa_i (s (1 + 9 * o + 3))) (by omega)
      rw [show qf_sm (qs_db s k) (o + 1) = qf_sm (qs_db s k) o + (if qs_du s o = true then (if s (1 + 9 * o + 3) < s (1 + 9 * k + 3) then 1 else if s (1 + 9 * o + 3) = s (1 + 9 * k + 3) then (if k ≤ o then 0 else 1) else 0) else 0) from rfl] at e2
      rw [qr_114_14]
      simp (disch := first | assumption | omega | exact Or.inl rfl | exact Or.inr rfl | exact qb_01) only [qr_114_0, qr_114_1, qr_114_2, qr_114_5, qr_114_8, qr_114_9, qr_114_10, qr_114_11, qr_114_12, qr_114_16, qr_114_17, qr_114_20, qr_114_23, qr_114_26, qr_114_27, qr_114_29, qr_114_32, qr_114_35, qr_114_37, qr_114_38, qr_114_40, qr_114_43, qr_114_46, qr_114_48, qr_114_49, qr_114_52, qr_114_54, qr_114_55, qr_114_58, qr_114_60, qr_114_61, qr_114_64, qr_114_67, qr_114_70, qr_114_73, qr_114_74, true_and, and_true, false_and, and_false, Option.bind_some, Option.toList_some, Option.toList_none, List.nil_append, List.cons_append, if_true, if_false, ite_true, ite_false, not_true_eq_false, not_false_eq_true, qn_lt0, qn_ge0, qn_lt, qn_le, qn_eq, qn_e0, qn_gt0, qn_le0, qn_m1, nI_add, pk_mul, qb_e0, Classical.not_not, r0, qs_CO_skills hC, e1, qs_PR_stateOf hP ho10, qs_SS_dueDay hs1, hS.2.1 o 3 ho10 (by omega), qs_PR_isDue hP hS ho10]
      by_cases h1 : qs_du s o = true
      · by_cases h2 : s (1 + 9 * o + 3) < s (1 + 9 * k + 3)
        · simp only [h1, h2, true_and, and_true, false_and, and_false, Option.bind_some, Option.toList_some, Option.toList_none, List.nil_append, List.cons_append, if_true, if_false, ite_true, ite_false, not_true_eq_false, not_false_eq_true] at e2 ⊢
          exact e2
        · by_cases h3 : s (1 + 9 * o + 3) = s (1 + 9 * k + 3)
          · by_cases h4 : k ≤ o
            · simp only [h1, eq_false h2, eq_true h3, eq_true h4, true_and, and_true, false_and, and_false, Option.bind_some, Option.toList_some, Option.toList_none, List.nil_append, List.cons_append, if_true, if_false, ite_true, ite_false, not_true_eq_false, not_false_eq_true, Nat.add_zero] at e2 ⊢
              exact e2
            · simp only [h1, eq_false h2, eq_true h3, eq_false h4, true_and, and_true, false_and, and_false, Option.bind_some, Option.toList_some, Option.toList_none, List.nil_append, List.cons_append, if_true, if_false, ite_true, ite_false, not_true_eq_false, not_false_eq_true] at e2 ⊢
              exact e2
          · simp only [h1, eq_false h2, eq_false h3, true_and, and_true, false_and, and_false, Option.bind_some, Option.toList_some, Option.toList_none, List.nil_append, List.cons_append, if_true, if_false, ite_true, ite_false, not_true_eq_false, not_false_eq_true, Nat.add_zero] at e2 ⊢
            exact e2
      · simp only [eq_false h1, true_and, and_true, false_and, and_false, Option.bind_some, Option.toList_some, Option.toList_none, List.nil_append, List.cons_append, if_true, if_false, ite_true, ite_false, not_true_eq_false, not_false_eq_true, Nat.add_zero] at e2 ⊢
        exact e2
  have hk10 : k < 10 := by omega
  have hs1 := (hst k hk10).1
  have e1 := loop nk 0 qa_u (by omega)
  simp (disch := first | assumption | omega | exact Or.inl rfl | exact Or.inr rfl | exact qb_01) only [qe_114, qr_114_0, qr_114_1, qr_114_2, qr_114_5, qr_114_8, qr_114_9, qr_114_10, qr_114_11, qr_114_12, qr_114_16, qr_114_17, qr_114_20, qr_114_23, qr_114_26, qr_114_27, qr_114_29, qr_114_32, qr_114_35, qr_114_37, qr_114_38, qr_114_40, qr_114_43, qr_114_46, qr_114_48, qr_114_49, qr_114_52, qr_114_54, qr_114_55, qr_114_58, qr_114_60, qr_114_61, qr_114_64, qr_114_67, qr_114_70, qr_114_73, qr_114_74, true_and, and_true, false_and, and_false, Option.bind_some, Option.toList_some, Option.toList_none, List.nil_append, List.cons_append, if_true, if_false, ite_true, ite_false, not_true_eq_false, not_false_eq_true, qn_lt0, qn_ge0, qn_lt, qn_le, qn_eq, qn_e0, qn_gt0, qn_le0, qn_m1, nI_add, pk_mul, qb_e0, Classical.not_not, qs_PR_stateOf hP hk10, qs_SS_dueDay (hst k hk10).1, hS.2.1 k 3 hk10 (by omega)]
  exact e1
theorem qs_LA_due (ha : K a = (0, 0)) (ra4 : R a 4 = some c) (ra5 : R a 5 = some p) (hP : qp_PR K R p c) (hC : qw_C K I R c q nk ps rq ni fs hd) (hS : qp_PS I p s) : qa_ex (d + 4) 113 [qa_a (some a), qa_i x] (K, I, R, n, z) = some (some (qa_i (qs_fd s nk x nk 0)), (K, I, R, n, z)) := by
  have h10 := hC.2.2.2.2.1
  have p0 := hP.1
  have c0 := hC.1.1
  have loop : ∀ m k, k + m = nk → qa_run (d + 3) 113 2 [qa_a (some a), qa_i x, qa_i (nI k)] [] [] (K, I, R, n, z) = some (some (qa_i (qs_fd s nk x m k)), (K, I, R, n, z)) := by
    intro m
    induction m with
    | zero =>
      intro k hk
      have hk : k = nk := by omega
      subst hk
      rw [qr_113_2]
      simp (disch := first | assumption | omega | exact Or.inl rfl | exact Or.inr rfl | exact qb_01) only [qr_113_0, qr_113_1, qr_113_3, qr_113_4, qr_113_7, qr_113_10, qr_113_13, qr_113_14, qr_113_17, qr_113_18, qr_113_21, qr_113_24, qr_113_25, qr_113_28, qr_113_29, qr_113_32, qr_113_33, qr_113_36, qr_113_37, qr_113_38, qr_113_41, qr_113_44, qr_113_45, true_and, and_true, false_and, and_false, Option.bind_some, Option.toList_some, Option.toList_none, List.nil_append, List.cons_append, if_true, if_false, ite_true, ite_false, not_true_eq_false, not_false_eq_true, qn_lt0, qn_ge0, qn_lt, qn_le, qn_eq, qn_e0, qn_gt0, qn_le0, qn_m1, nI_add, pk_mul, qb_e0, Classical.not_not, ra4, qs_CO_skills hC, Nat.le_refl]
      rfl
    | succ m ih =>
      intro k hk
      have e1 : ¬ nk ≤ k := by omega
      have hk10 : k < 10 := by omega
      have hkn : k < nk := by omega
      have e2 := ih (k + 1) (by omega)
      unfold qs_fd
      rw [qr_113_2]
      simp (disch := first | assumption | omega | exact Or.inl rfl | exact Or.inr rfl | exact qb_01) only [qr_113_0, qr_113_1, qr_113_3, qr_113_4, qr_113_7, qr_113_10, qr_113_13, qr_113_14, qr_113_17, qr_113_18, qr_113_21, qr_113_24, qr_113_25, qr_113_28, qr_113_29, qr_113_32, qr_113_33, qr_113_36, qr_113_37, qr_113_38, qr_113_41, qr_113_44, qr_113_45, true_and, and_true, false_and, and_false, Option.bind_some, Option.toList_some, Option.toList_none, List.nil_append, List.cons_append, if_true, if_false, ite_true, ite_false, not_true_eq_false, not_false_eq_true, qn_lt0, qn_ge0, qn_lt, qn_le, qn_eq, qn_e0, qn_gt0, qn_le0, qn_m1, nI_add, pk_mul, qb_e0, Classical.not_not, ra4, ra5, qs_CO_skills hC, e1, qs_PR_isDue hP hS hk10, qs_PR_dueBefore hP hC hS hkn]
      by_cases h1 : qs_du s k = true
      · by_cases h2 : nI (qf_sm (qs_db s k) nk) = x
        · simp only [h1, eq_true h2, true_and, and_true, false_and, and_false, Option.bind_some, Option.toList_some, Option.toList_none, List.nil_append, List.cons_append, if_true, if_false, ite_true, ite_false, not_true_eq_false, not_false_eq_true]
        · simp only [h1, eq_false h2, true_and, and_true, false_and, and_false, Option.bind_some, Option.toList_some, Option.toList_none, List.nil_append, List.cons_append, if_true, if_false, ite_true, ite_false, not_true_eq_false, not_false_eq_true]
          exact e2
      · simp only [eq_false h1, true_and, and_true, false_and, and_false, Option.bind_some, Option.toList_some, Option.toList_none, List.nil_append, List.cons_append, if_true, if_false, ite_true, ite_false, not_true_eq_false, not_false_eq_true]
        exact e2
  have e1 := loop nk 0 (by omega)
  simp (disch := first | assumption | omega | exact Or.inl rfl | exact Or.inr rfl | exact qb_01) only [qe_113, qr_113_0, qr_113_1, qr_113_3, qr_113_4, qr_113_7, qr_113_10, qr_113_13, qr_113_14, qr_113_17, qr_113_18, qr_113_21, qr_113_24, qr_113_25, qr_113_28, qr_113_29, qr_113_32, qr_113_33, qr_113_36, qr_113_37, qr_113_38, qr_113_41, qr_113_44, qr_113_45, true_and, and_true, false_and, and_false, Option.bind_some, Option.toList_some, Option.toList_none, List.nil_append, List.cons_append, if_true, if_false, ite_true, ite_false, not_true_eq_false, not_false_eq_true, qn_lt0, qn_ge0, qn_lt, qn_le, qn_eq, qn_e0, qn_gt0, qn_le0, qn_m1, nI_add, pk_mul, qb_e0, Classical.not_not]
  exact e1
theorem qs_MO_isDue (hM : qp_MO K R u) (hv : qv_S B (I (u + 1))) (hB : B < 1000000) (hk : k < 10) : qa_ex (d + 2) 211 [qa_a (some u), qa_i (nI k)] (K, I, R, n, z) = some (some (qa_i (qa_bi (qs_du (I (u + 1)) k = true))), (K, I, R, n, z)) := by
  obtain ⟨m0, ⟨s1, s2, s3⟩, -⟩ := hM
  have h3 := (hv.2 k hk).2.2.2.1
  obtain ⟨⟨v0, v1, v2⟩, -⟩ := hv
  simp (disch := first | assumption | omega | exact Or.inl rfl | exact Or.inr rfl | exact qb_01) only [qe_211, qr_211_0, qr_211_1, qr_211_4, qr_211_5, qr_211_6, qr_211_9, qr_211_10, qr_211_13, qr_211_14, qr_211_17, qr_211_18, qr_211_19, qr_211_22, qr_211_23, qr_211_24, qr_211_27, qr_211_28, qr_211_29, qr_211_32, qr_211_33, qr_211_36, qr_211_37, true_and, and_true, false_and, and_false, Option.bind_some, Option.toList_some, Option.toList_none, List.nil_append, List.cons_append, if_true, if_false, ite_true, ite_false, not_true_eq_false, not_false_eq_true, qn_lt0, qn_ge0, qn_lt, qn_le, qn_eq, qn_e0, qn_gt0, qn_le0, qn_m1, nI_add, pk_mul, qb_e0, Classical.not_not, s3, qs_MO_of, v2]
  rcases h3 with h3 | ⟨w, w1, w2⟩
  · rw [qb_f (by unfold qs_du; simp [h3]), h3, if_pos (show (-1 : Int32) < 0 by decide)]
  · simp (disch := first | assumption | omega | exact Or.inl rfl | exact Or.inr rfl | exact qb_01) only [w2, true_and, and_true, false_and, and_false, Option.bind_some, Option.toList_some, Option.toList_none, List.nil_append, List.cons_append, if_true, if_false, ite_true, ite_false, not_true_eq_false, not_false_eq_true, qn_lt0, qn_ge0, qn_lt, qn_le, qn_eq, qn_e0, qn_gt0, qn_le0, qn_m1, nI_add, pk_mul, qb_e0, Classical.not_not]
    by_cases h4 : v0 < w
    · have hf : ¬ qs_du (I (u + 1)) k = true := by
        unfold qs_du
        rw [w2, v2, decide_eq_true_iff, qn_le (by omega) (by omega)]
        omega
      rw [if_pos h4, qb_f hf]
    · have hf : qs_du (I (u + 1)) k = true := by
        unfold qs_du
        rw [w2, v2, decide_eq_true_iff, qn_le (by omega) (by omega), qn_m1 (by omega)]
        exact ⟨fun q => q, by omega⟩
      rw [if_neg h4, qb_t hf]
set_option maxHeartbeats 4000000 in
theorem qs_MO_due (hM : qp_MO K R u) (hn : I (u + 5) 0 = nI nk) (h10 : nk ≤ 10) (hv : qv_S B (I (u + 1))) (hB : B < 1000000) : qa_ex (d + 3) 212 [qa_a (some u), qa_i x] (K, I, R, n, z) = some (some (qa_i (qs_fd (I (u + 1)) nk x nk 0)), (K, I, R, n, z)) := by
  have hM' := hM
  obtain ⟨m0, ⟨s1, s2, s3⟩, -, -, -, ⟨c1, c2, c3⟩, -⟩ := hM
  obtain ⟨s, hs⟩ : ∃ s, s = I (u + 1) := ⟨_, rfl⟩
  have inner : ∀ k rt l5, k < nk → qa_run (d + 2) 212 17 [qa_a (some u), qa_i x, qa_i (nI k), qa_i (nI (qf_sm (qs_db s k) nk)), qa_i (nI nk), l5] [] [] (K, I, R, n, z) = rt → ∀ m o l5, o + m = nk → (∀ l5, qa_run (d + 2) 212 17 [qa_a (some u), qa_i x, qa_i (nI k), qa_i (nI (qf_sm (qs_db s k) nk)), qa_i (nI nk), l5] [] [] (K, I, R, n, z) = rt) → qa_run (d + 2) 212 17 [qa_a (some u), qa_i x, qa_i (nI k), qa_i (nI (qf_sm (qs_db s k) o)), qa_i (nI o), l5] [] [] (K, I, R, n, z) = rt := by
    intro k rt l5 hk hrt m
    induction m with
    | zero =>
      intro o l5 ho hq
      have ho : o = nk := by omega
      subst ho
      exact hq l5
    | succ m ih =>
      intro o l5 ho hq
      have e1 : ¬ nk ≤ o := by omega
      have ho10 : o < 10 := by omega
      have hk10 : k < 10 := by omega
      have e2 := fun l5 => ih (o + 1) l5 (by omega) hq
      simp only [show qf_sm (qs_db s k) (o + 1) = qf_sm (qs_db s k) o + (if qs_du s o = true then (if s (1 + 9 * o + 3) < s (1 + 9 * k + 3) then 1 else if s (1 + 9 * o + 3) = s (1 + 9 * k + 3) then (if k ≤ o then 0 else 1) else 0) else 0) from rfl] at e2
      rw [qr_212_17]
      simp (disch := first | assumption | omega | exact Or.inl rfl | exact Or.inr rfl | exact qb_01) only [qr_212_0, qr_212_1, qr_212_3, qr_212_4, qr_212_7, qr_212_8, qr_212_9, qr_212_12, qr_212_13, qr_212_14, qr_212_15, qr_212_19, qr_212_20, qr_212_23, qr_212_24, qr_212_25, qr_212_28, qr_212_29, qr_212_31, qr_212_34, qr_212_37, qr_212_38, qr_212_41, qr_212_43, qr_212_44, qr_212_47, qr_212_48, qr_212_49, qr_212_52, qr_212_53, qr_212_54, qr_212_57, qr_212_58, qr_212_61, qr_212_62, qr_212_65, qr_212_67, qr_212_68, qr_212_71, qr_212_72, qr_212_73, qr_212_76, qr_212_77, qr_212_78, qr_212_81, qr_212_82, qr_212_85, qr_212_87, qr_212_88, qr_212_91, qr_212_92, qr_212_95, qr_212_96, qr_212_98, qr_212_99, qr_212_101, qr_212_104, qr_212_105, qr_212_108, qr_212_109, qr_212_110, qr_212_111, qr_212_114, qr_212_117, qr_212_118, qr_212_119, qr_212_122, qr_212_125, qr_212_126, qr_212_127, qr_212_130, qr_212_131, qr_212_132, qr_212_135, qr_212_138, qr_212_139, true_and, and_true, false_and, and_false, Option.bind_some, Option.toList_some, Option.toList_none, List.nil_append, List.cons_append, if_true, if_false, ite_true, ite_false, not_true_eq_false, not_false_eq_true, qn_lt0, qn_ge0, qn_lt, qn_le, qn_eq, qn_e0, qn_gt0, qn_le0, qn_m1, nI_add, pk_mul, qb_e0, Classical.not_not, hn, c3, s3, e1, qs_MO_of, qs_MO_isDue hM' hv hB ho10, ← hs]
      by_cases h1 : qs_du s o = true
      · by_cases h2 : s (1 + 9 * o + 3) < s (1 + 9 * k + 3)
        · simp only [h1, h2, true_and, and_true, false_and, and_false, Option.bind_some, Option.toList_some, Option.toList_none, List.nil_append, List.cons_append, if_true, if_false, ite_true, ite_false, not_true_eq_false, not_false_eq_true] at e2 ⊢
          try simp (disch := first | assumption | omega | exact Or.inl rfl | exact Or.inr rfl | exact qb_01) only [qr_212_0, qr_212_1, qr_212_3, qr_212_4, qr_212_7, qr_212_8, qr_212_9, qr_212_12, qr_212_13, qr_212_14, qr_212_15, qr_212_19, qr_212_20, qr_212_23, qr_212_24, qr_212_25, qr_212_28, qr_212_29, qr_212_31, qr_212_34, qr_212_37, qr_212_38, qr_212_41, qr_212_43, qr_212_44, qr_212_47, qr_212_48, qr_212_49, qr_212_52, qr_212_53, qr_212_54, qr_212_57, qr_212_58, qr_212_61, qr_212_62, qr_212_65, qr_212_67, qr_212_68, qr_212_71, qr_212_72, qr_212_73, qr_212_76, qr_212_77, qr_212_78, qr_212_81, qr_212_82, qr_212_85, qr_212_87, qr_212_88, qr_212_91, qr_212_92, qr_212_95, qr_212_96, qr_212_98, qr_212_99, qr_212_101, qr_212_104, qr_212_105, qr_212_108, qr_212_109, qr_212_110, qr_212_111, qr_212_114, qr_212_117, qr_212_118, qr_212_119, qr_212_122, qr_212_125, qr_212_126, qr_212_127, qr_212_130, qr_212_131, qr_212_132, qr_212_135, qr_212_138, qr_212_139, true_and, and_true, false_and, and_false, Option.bind_some, Option.toList_some, Option.toList_none, List.nil_append, List.cons_append, if_true, if_false, ite_true, ite_false, not_true_eq_false, not_false_eq_true, qn_lt0, qn_ge0, qn_lt, qn_le, qn_eq, qn_e0, qn_gt0, qn_le0, qn_m1, nI_add, pk_mul, qb_e0, Classical.not_not, Nat.one_ne_zero]
          exact e2 _
        · by_cases h3 : s (1 + 9 * o + 3) = s (1 + 9 * k + 3)
          · by_cases h4 : k ≤ o
            · simp only [h1, eq_false h2, eq_true h3, eq_true h4, true_and, and_true, false_and, and_false, Option.bind_some, Option.toList_some, Option.toList_none, List.nil_append, List.cons_append, if_true, if_false, ite_true, ite_false, not_true_eq_false, not_false_eq_true, Nat.add_zero] at e2 ⊢
              try simp (disch := first | assumption | omega | exact Or.inl rfl | exact Or.inr rfl | exact qb_01) only [qr_212_0, qr_212_1, qr_212_3, qr_212_4, qr_212_7, qr_212_8, qr_212_9, qr_212_12, qr_212_13, qr_212_14, qr_212_15, qr_212_19, qr_212_20, qr_212_23, qr_212_24, qr_212_25, qr_212_28, qr_212_29, qr_212_31, qr_212_34, qr_212_37, qr_212_38, qr_212_41, qr_212_43, qr_212_44, qr_212_47, qr_212_48, qr_212_49, qr_212_52, qr_212_53, qr_212_54, qr_212_57, qr_212_58, qr_212_61, qr_212_62, qr_212_65, qr_212_67, qr_212_68, qr_212_71, qr_212_72, qr_212_73, qr_212_76, qr_212_77, qr_212_78, qr_212_81, qr_212_82, qr_212_85, qr_212_87, qr_212_88, qr_212_91, qr_212_92, qr_212_95, qr_212_96, qr_212_98, qr_212_99, qr_212_101, qr_212_104, qr_212_105, qr_212_108, qr_212_109, qr_212_110, qr_212_111, qr_212_114, qr_212_117, qr_212_118, qr_212_119, qr_212_122, qr_212_125, qr_212_126, qr_212_127, qr_212_130, qr_212_131, qr_212_132, qr_212_135, qr_212_138, qr_212_139, true_and, and_true, false_and, and_false, Option.bind_some, Option.toList_some, Option.toList_none, List.nil_append, List.cons_append, if_true, if_false, ite_true, ite_false, not_true_eq_false, not_false_eq_true, qn_lt0, qn_ge0, qn_lt, qn_le, qn_eq, qn_e0, qn_gt0, qn_le0, qn_m1, nI_add, pk_mul, qb_e0, Classical.not_not, Nat.one_ne_zero, Nat.add_zero]
              exact e2 _
            · simp only [h1, eq_false h2, eq_true h3, eq_false h4, true_and, and_true, false_and, and_false, Option.bind_some, Option.toList_some, Option.toList_none, List.nil_append, List.cons_append, if_true, if_false, ite_true, ite_false, not_true_eq_false, not_false_eq_true] at e2 ⊢
              try simp (disch := first | assumption | omega | exact Or.inl rfl | exact Or.inr rfl | exact qb_01) only [qr_212_0, qr_212_1, qr_212_3, qr_212_4, qr_212_7, qr_212_8, qr_212_9, qr_212_12, qr_212_13, qr_212_14, qr_212_15, qr_212_19, qr_212_20, qr_212_23, qr_212_24, qr_212_25, qr_212_28, qr_212_29, qr_212_31, qr_212_34, qr_212_37, qr_212_38, qr_212_41, qr_212_43, qr_212_44, qr_212_47, qr_212_48, qr_212_49, qr_212_52, qr_212_53, qr_212_54, qr_212_57, qr_212_58, qr_212_61, qr_212_62, qr_212_65, qr_212_67, qr_212_68, qr_212_71, qr_212_72, qr_212_73, qr_212_76, qr_212_77, qr_212_78, qr_212_81, qr_212_82, qr_212_85, qr_212_87, qr_212_88, qr_212_91, qr_212_92, qr_212_95, qr_212_96, qr_212_98, qr_212_99, qr_212_101, qr_212_104, qr_212_105, qr_212_108, qr_212_109, qr_212_110, qr_212_111, qr_212_114, qr_212_117, qr_212_118, qr_212_119, qr_212_122, qr_212_125, qr_212_126, qr_212_127, qr_212_130, qr_212_131, qr_212_132, qr_212_135, qr_212_138, qr_212_139, true_and, and_true, false_and, and_false, Option.bind_some, Option.toList_some, Option.toList_none, List.nil_append, List.cons_append, if_true, if_false, ite_true, ite_false, not_true_eq_false, not_false_eq_true, qn_lt0, qn_ge0, qn_lt, qn_le, qn_eq, qn_e0, qn_gt0, qn_le0, qn_m1, nI_add, pk_mul, qb_e0, Classical.not_not, Nat.one_ne_zero]
              exact e2 _
          · simp only [h1, eq_false h2, eq_false h3, true_and, and_true, false_and, and_false, Option.bind_some, Option.toList_some, Option.toList_none, List.nil_append, List.cons_append, if_true, if_false, ite_true, ite_false, not_true_eq_false, not_false_eq_true, Nat.add_zero] at e2 ⊢
            try simp (disch := first | assumption | omega | exact Or.inl rfl | exact Or.inr rfl | exact qb_01) only [qr_212_0, qr_212_1, qr_212_3, qr_212_4, qr_212_7, qr_212_8, qr_212_9, qr_212_12, qr_212_13, qr_212_14, qr_212_15, qr_212_19, qr_212_20, qr_212_23, qr_212_24, qr_212_25, qr_212_28, qr_212_29, qr_212_31, qr_212_34, qr_212_37, qr_212_38, qr_212_41, qr_212_43, qr_212_44, qr_212_47, qr_212_48, qr_212_49, qr_212_52, qr_212_53, qr_212_54, qr_212_57, qr_212_58, qr_212_61, qr_212_62, qr_212_65, qr_212_67, qr_212_68, qr_212_71, qr_212_72, qr_212_73, qr_212_76, qr_212_77, qr_212_78, qr_212_81, qr_212_82, qr_212_85, qr_212_87, qr_212_88, qr_212_91, qr_212_92, qr_212_95, qr_212_96, qr_212_98, qr_212_99, qr_212_101, qr_212_104, qr_212_105, qr_212_108, qr_212_109, qr_212_110, qr_212_111, qr_212_114, qr_212_117, qr_212_118, qr_212_119, qr_212_122, qr_212_125, qr_212_126, qr_212_127, qr_212_130, qr_212_131, qr_212_132, qr_212_135, qr_212_138, qr_212_139, true_and, and_true, false_and, and_false, Option.bind_some, Option.toList_some, Option.toList_none, List.nil_append, List.cons_append, if_true, if_false, ite_true, ite_false, not_true_eq_false, not_false_eq_true, qn_lt0, qn_ge0, qn_lt, qn_le, qn_eq, qn_e0, qn_gt0, qn_le0, qn_m1, nI_add, pk_mul, qb_e0, Classical.not_not, Nat.one_ne_zero, Nat.add_zero]
            exact e2 _
      · simp only [eq_false h1, true_and, and_true, false_and, and_false, Option.bind_some, Option.toList_some, Option.toList_none, List.nil_append, List.cons_append, if_true, if_false, ite_true, ite_false, not_true_eq_false, not_false_eq_true, Nat.add_zero] at e2 ⊢
        try simp (disch := first | assumption | omega | exact Or.inl rfl | exact Or.inr rfl | exact qb_01) only [qr_212_0, qr_212_1, qr_212_3, qr_212_4, qr_212_7, qr_212_8, qr_212_9, qr_212_12, qr_212_13, qr_212_14, qr_212_15, qr_212_19, qr_212_20, qr_212_23, qr_212_24, qr_212_25, qr_212_28, qr_212_29, qr_212_31, qr_212_34, qr_212_37, qr_212_38, qr_212_41, qr_212_43, qr_212_44, qr_212_47, qr_212_48, qr_212_49, qr_212_52, qr_212_53, qr_212_54, qr_212_57, qr_212_58, qr_212_61, qr_212_62, qr_212_65, qr_212_67, qr_212_68, qr_212_71, qr_212_72, qr_212_73, qr_212_76, qr_212_77, qr_212_78, qr_212_81, qr_212_82, qr_212_85, qr_212_87, qr_212_88, qr_212_91, qr_212_92, qr_212_95, qr_212_96, qr_212_98, qr_212_99, qr_212_101, qr_212_104, qr_212_105, qr_212_108, qr_212_109, qr_212_110, qr_212_111, qr_212_114, qr_212_117, qr_212_118, qr_212_119, qr_212_122, qr_212_125, qr_212_126, qr_212_127, qr_212_130, qr_212_131, qr_212_132, qr_212_135, qr_212_138, qr_212_139, true_and, and_true, false_and, and_false, Option.bind_some, Option.toList_some, Option.toList_none, List.nil_append, List.cons_append, if_true, if_false, ite_true, ite_false, not_true_eq_false, not_false_eq_true, qn_lt0, qn_ge0, qn_lt, qn_le, qn_eq, qn_e0, qn_gt0, qn_le0, qn_m1, nI_add, pk_mul, qb_e0, Classical.not_not, Nat.one_ne_zero, Nat.add_zero]
        exact e2 _
  have loop : ∀ m k l3 l4 l5, k + m = nk → qa_run (d + 2) 212 2 [qa_a (some u), qa_i x, qa_i (nI k), l3, l4, l5] [] [] (K, I, R, n, z) = some (some (qa_i (qs_fd s nk x m k)), (K, I, R, n, z)) := by
    intro m
    induction m with
    | zero =>
      intro k l3 l4 l5 hk
      have hk : k = nk := by omega
      subst hk
      rw [qr_212_2]
      simp (disch := first | assumption | omega | exact Or.inl rfl | exact Or.inr rfl | exact qb_01) only [qr_212_0, qr_212_1, qr_212_3, qr_212_4, qr_212_7, qr_212_8, qr_212_9, qr_212_12, qr_212_13, qr_212_14, qr_212_15, qr_212_19, qr_212_20, qr_212_23, qr_212_24, qr_212_25, qr_212_28, qr_212_29, qr_212_31, qr_212_34, qr_212_37, qr_212_38, qr_212_41, qr_212_43, qr_212_44, qr_212_47, qr_212_48, qr_212_49, qr_212_52, qr_212_53, qr_212_54, qr_212_57, qr_212_58, qr_212_61, qr_212_62, qr_212_65, qr_212_67, qr_212_68, qr_212_71, qr_212_72, qr_212_73, qr_212_76, qr_212_77, qr_212_78, qr_212_81, qr_212_82, qr_212_85, qr_212_87, qr_212_88, qr_212_91, qr_212_92, qr_212_95, qr_212_96, qr_212_98, qr_212_99, qr_212_101, qr_212_104, qr_212_105, qr_212_108, qr_212_109, qr_212_110, qr_212_111, qr_212_114, qr_212_117, qr_212_118, qr_212_119, qr_212_122, qr_212_125, qr_212_126, qr_212_127, qr_212_130, qr_212_131, qr_212_132, qr_212_135, qr_212_138, qr_212_139, true_and, and_true, false_and, and_false, Option.bind_some, Option.toList_some, Option.toList_none, List.nil_append, List.cons_append, if_true, if_false, ite_true, ite_false, not_true_eq_false, not_false_eq_true, qn_lt0, qn_ge0, qn_lt, qn_le, qn_eq, qn_e0, qn_gt0, qn_le0, qn_m1, nI_add, pk_mul, qb_e0, Classical.not_not, hn, c3, Nat.le_refl]
      rfl
    | succ m ih =>
      intro k l3 l4 l5 hk
      have e1 : ¬ nk ≤ k := by omega
      have hk10 : k < 10 := by omega
      have hkn : k < nk := by omega
      have ex : ∀ l5, qa_run (d + 2) 212 17 [qa_a (some u), qa_i x, qa_i (nI k), qa_i (nI (qf_sm (qs_db s k) nk)), qa_i (nI nk), l5] [] [] (K, I, R, n, z) = some (some (qa_i (qs_fd s nk x (m + 1) k)), (K, I, R, n, z)) := by
        intro l5
        have e2 := ih (k + 1) (qa_i (nI (qf_sm (qs_db s k) nk))) (qa_i (nI nk)) l5 (by omega)
        unfold qs_fd
        rw [qr_212_17]
        simp (disch := first | assumption | omega | exact Or.inl rfl | exact Or.inr rfl | exact qb_01) only [qr_212_0, qr_212_1, qr_212_3, qr_212_4, qr_212_7, qr_212_8, qr_212_9, qr_212_12, qr_212_13, qr_212_14, qr_212_15, qr_212_19, qr_212_20, qr_212_23, qr_212_24, qr_212_25, qr_212_28, qr_212_29, qr_212_31, qr_212_34, qr_212_37, qr_212_38, qr_212_41, qr_212_43, qr_212_44, qr_212_47, qr_212_48, qr_212_49, qr_212_52, qr_212_53, qr_212_54, qr_212_57, qr_212_58, qr_212_61, qr_212_62, qr_212_65, qr_212_67, qr_212_68, qr_212_71, qr_212_72, qr_212_73, qr_212_76, qr_212_77, qr_212_78, qr_212_81, qr_212_82, qr_212_85, qr_212_87, qr_212_88, qr_212_91, qr_212_92, qr_212_95, qr_212_96, qr_212_98, qr_212_99, qr_212_101, qr_212_104, qr_212_105, qr_212_108, qr_212_109, qr_212_110, qr_212_111, qr_212_114, qr_212_117, qr_212_118, qr_212_119, qr_212_122, qr_212_125, qr_212_126, qr_212_127, qr_212_130, qr_212_131, qr_212_132, qr_212_135, qr_212_138, qr_212_139, true_and, and_true, false_and, and_false, Option.bind_some, Option.toList_some, Option.toList_none, List.nil_append, List.cons_append, if_true, if_false, ite_true, ite_false, not_true_eq_false, not_false_eq_true, qn_lt0, qn_ge0, qn_lt, qn_le, qn_eq, qn_e0, qn_gt0, qn_le0, qn_m1, nI_add, pk_mul, qb_e0, Classical.not_not, hn, c3, s3, Nat.le_refl, qs_MO_isDue hM' hv hB hk10, ← hs]
        by_cases h1 : qs_du s k = true
        · by_cases h2 : nI (qf_sm (qs_db s k) nk) = x
          · simp only [h1, eq_true h2, true_and, and_true, false_and, and_false, Option.bind_some, Option.toList_some, Option.toList_none, List.nil_append, List.cons_append, if_true, if_false, ite_true, ite_false, not_true_eq_false, not_false_eq_true]
          · simp only [h1, eq_false h2, true_and, and_true, false_and, and_false, Option.bind_some, Option.toList_some, Option.toList_none, List.nil_append, List.cons_append, if_true, if_false, ite_true, ite_false, not_true_eq_false, not_false_eq_true]
            exact e2
        · simp only [eq_false h1, true_and, and_true, false_and, and_false, Option.bind_some, Option.toList_some, Option.toList_none, List.nil_append, List.cons_append, if_true, if_false, ite_true, ite_false, not_true_eq_false, not_false_eq_true]
          exact e2
      have e3 := inner k _ l5 hkn (ex l5) nk 0 l5 (by omega) ex
      rw [qr_212_2]
      simp (disch := first | assumption | omega | exact Or.inl rfl | exact Or.inr rfl | exact qb_01) only [qr_212_0, qr_212_1, qr_212_3, qr_212_4, qr_212_7, qr_212_8, qr_212_9, qr_212_12, qr_212_13, qr_212_14, qr_212_15, qr_212_19, qr_212_20, qr_212_23, qr_212_24, qr_212_25, qr_212_28, qr_212_29, qr_212_31, qr_212_34, qr_212_37, qr_212_38, qr_212_41, qr_212_43, qr_212_44, qr_212_47, qr_212_48, qr_212_49, qr_212_52, qr_212_53, qr_212_54, qr_212_57, qr_212_58, qr_212_61, qr_212_62, qr_212_65, qr_212_67, qr_212_68, qr_212_71, qr_212_72, qr_212_73, qr_212_76, qr_212_77, qr_212_78, qr_212_81, qr_212_82, qr_212_85, qr_212_87, qr_212_88, qr_212_91, qr_212_92, qr_212_95, qr_212_96, qr_212_98, qr_212_99, qr_212_101, qr_212_104, qr_212_105, qr_212_108, qr_212_109, qr_212_110, qr_212_111, qr_212_114, qr_212_117, qr_212_118, qr_212_119, qr_212_122, qr_212_125, qr_212_126, qr_212_127, qr_212_130, qr_212_131, qr_212_132, qr_212_135, qr_212_138, qr_212_139, true_and, and_true, false_and, and_false, Option.bind_some, Option.toList_some, Option.toList_none, List.nil_append, List.cons_append, if_true, if_false, ite_true, ite_false, not_true_eq_false, not_false_eq_true, qn_lt0, qn_ge0, qn_lt, qn_le, qn_eq, qn_e0, qn_gt0, qn_le0, qn_m1, nI_add, pk_mul, qb_e0, Classical.not_not, hn, c3, e1]
      exact e3
  have e1 := loop nk 0 qa_u qa_u qa_u (by omega)
  rw [← hs]
  simp (disch := first | assumption | omega | exact Or.inl rfl | exact Or.inr rfl | exact qb_01) only [qe_212, qr_212_0, qr_212_1, qr_212_3, qr_212_4, qr_212_7, qr_212_8, qr_212_9, qr_212_12, qr_212_13, qr_212_14, qr_212_15, qr_212_19, qr_212_20, qr_212_23, qr_212_24, qr_212_25, qr_212_28, qr_212_29, qr_212_31, qr_212_34, qr_212_37, qr_212_38, qr_212_41, qr_212_43, qr_212_44, qr_212_47, qr_212_48, qr_212_49, qr_212_52, qr_212_53, qr_212_54, qr_212_57, qr_212_58, qr_212_61, qr_212_62, qr_212_65, qr_212_67, qr_212_68, qr_212_71, qr_212_72, qr_212_73, qr_212_76, qr_212_77, qr_212_78, qr_212_81, qr_212_82, qr_212_85, qr_212_87, qr_212_88, qr_212_91, qr_212_92, qr_212_95, qr_212_96, qr_212_98, qr_212_99, qr_212_101, qr_212_104, qr_212_105, qr_212_108, qr_212_109, qr_212_110, qr_212_111, qr_212_114, qr_212_117, qr_212_118, qr_212_119, qr_212_122, qr_212_125, qr_212_126, qr_212_127, qr_212_130, qr_212_131, qr_212_132, qr_212_135, qr_212_138, qr_212_139, true_and, and_true, false_and, and_false, Option.bind_some, Option.toList_some, Option.toList_none, List.nil_append, List.cons_append, if_true, if_false, ite_true, ite_false, not_true_eq_false, not_false_eq_true, qn_lt0, qn_ge0, qn_lt, qn_le, qn_eq, qn_e0, qn_gt0, qn_le0, qn_m1, nI_add, pk_mul, qb_e0, Classical.not_not]
  exact e1
theorem qs_PR_sumOfEvidence (hP : qp_PR K R p c) (hC : qw_C K I R c q nk ps rq ni fs hd) (hS : qp_PS I p s) : qa_ex (d + 3) 119 [qa_a (some p)] (K, I, R, n, z) = some (some (qa_i (qf_si (qs_ev s) nk)), (K, I, R, n, z)) := by
  have h10 := hC.2.2.2.2.1
  have p0 := hP.1
  have r0 := hP.2.2.2.2.2.2.2.2.2.2.1
  have c0 := hC.1.1
  have hst := hP.2.2.2.2.2.2.2.2.2.2.2.2.2.2.2.2
  have loop : ∀ m k l3, k + m = nk → qa_run (d + 2) 119 4 [qa_a (some p), qa_i (qf_si (qs_ev s) k), qa_i (nI k), l3] [] [] (K, I, R, n, z) = some (some (qa_i (qf_si (qs_ev s) nk)), (K, I, R, n, z)) := by
    intro m
    induction m with
    | zero =>
      intro k l3 hk
      have hk : k = nk := by omega
      subst hk
      rw [qr_119_4]
      simp (disch := first | assumption | omega | exact Or.inl rfl | exact Or.inr rfl | exact qb_01) only [qr_119_0, qr_119_1, qr_119_2, qr_119_3, qr_119_5, qr_119_6, qr_119_9, qr_119_12, qr_119_15, qr_119_16, qr_119_17, qr_119_20, qr_119_21, qr_119_22, qr_119_23, qr_119_26, qr_119_27, qr_119_30, qr_119_31, qr_119_32, qr_119_33, qr_119_36, qr_119_39, qr_119_40, true_and, and_true, false_and, and_false, Option.bind_some, Option.toList_some, Option.toList_none, List.nil_append, List.cons_append, if_true, if_false, ite_true, ite_false, not_true_eq_false, not_false_eq_true, qn_lt0, qn_ge0, qn_lt, qn_le, qn_eq, qn_e0, qn_gt0, qn_le0, qn_m1, nI_add, pk_mul, qb_e0, Classical.not_not, r0, qs_CO_skills hC, Nat.le_refl]
    | succ m ih =>
      intro k l3 hk
      have e1 : ¬ nk ≤ k := by omega
      have hk10 : k < 10 := by omega
      have hs1 := (hst k hk10).1
      have e2 := ih (k + 1) (qa_a (some (p + 6 + k))) (by omega)
      rw [qr_119_4]
      simp (disch := first | assumption | omega | exact Or.inl rfl | exact Or.inr rfl | exact qb_01) only [qr_119_0, qr_119_1, qr_119_2, qr_119_3, qr_119_5, qr_119_6, qr_119_9, qr_119_12, qr_119_15, qr_119_16, qr_119_17, qr_119_20, qr_119_21, qr_119_22, qr_119_23, qr_119_26, qr_119_27, qr_119_30, qr_119_31, qr_119_32, qr_119_33, qr_119_36, qr_119_39, qr_119_40, true_and, and_true, false_and, and_false, Option.bind_some, Option.toList_some, Option.toList_none, List.nil_append, List.cons_append, if_true, if_false, ite_true, ite_false, not_true_eq_false, not_false_eq_true, qn_lt0, qn_ge0, qn_lt, qn_le, qn_eq, qn_e0, qn_gt0, qn_le0, qn_m1, nI_add, pk_mul, qb_e0, Classical.not_not, r0, qs_CO_skills hC, e1, qs_PR_stateOf hP hk10, qs_SS_evidenceFor hs1, qs_SS_evidenceAgainst hs1, hS.2.1 k 0 hk10 (by omega), hS.2.1 k 1 hk10 (by omega)]
      exact e2
  have e1 := loop nk 0 qa_u (by omega)
  simp (disch := first | assumption | omega | exact Or.inl rfl | exact Or.inr rfl | exact qb_01) only [qe_119, qr_119_0, qr_119_1, qr_119_2, qr_119_3, qr_119_5, qr_119_6, qr_119_9, qr_119_12, qr_119_15, qr_119_16, qr_119_17, qr_119_20, qr_119_21, qr_119_22, qr_119_23, qr_119_26, qr_119_27, qr_119_30, qr_119_31, qr_119_32, qr_119_33, qr_119_36, qr_119_39, qr_119_40, true_and, and_true, false_and, and_false, Option.bind_some, Option.toList_some, Option.toList_none, List.nil_append, List.cons_append, if_true, if_false, ite_true, ite_false, not_true_eq_false, not_false_eq_true, qn_lt0, qn_ge0, qn_lt, qn_le, qn_eq, qn_e0, qn_gt0, qn_le0, qn_m1, nI_add, pk_mul, qb_e0, Classical.not_not]
  exact e1
theorem qs_MO_evidence (hM : qp_MO K R u) (hn : I (u + 5) 0 = nI nk) (h10 : nk ≤ 10) : qa_ex (d + 2) 216 [qa_a (some u)] (K, I, R, n, z) = some (some (qa_i (qf_si (qs_ev (I (u + 1))) nk)), (K, I, R, n, z)) := by
  obtain ⟨m0, ⟨s1, s2, s3⟩, -, -, -, ⟨c1, c2, c3⟩, -⟩ := hM
  have loop : ∀ m k, k + m = nk → qa_run (d + 1) 216 4 [qa_a (some u), qa_i (qf_si (qs_ev (I (u + 1))) k), qa_i (nI k)] [] [] (K, I, R, n, z) = some (some (qa_i (qf_si (qs_ev (I (u + 1))) nk)), (K, I, R, n, z)) := by
    intro m
    induction m with
    | zero =>
      intro k hk
      have hk : k = nk := by omega
      subst hk
      rw [qr_216_4]
      simp (disch := first | assumption | omega | exact Or.inl rfl | exact Or.inr rfl | exact qb_01) only [qr_216_0, qr_216_1, qr_216_2, qr_216_3, qr_216_5, qr_216_6, qr_216_9, qr_216_10, qr_216_11, qr_216_14, qr_216_15, qr_216_16, qr_216_19, qr_216_20, qr_216_21, qr_216_24, qr_216_25, qr_216_26, qr_216_29, qr_216_30, qr_216_31, qr_216_34, qr_216_35, qr_216_36, qr_216_37, qr_216_38, qr_216_41, qr_216_44, qr_216_45, true_and, and_true, false_and, and_false, Option.bind_some, Option.toList_some, Option.toList_none, List.nil_append, List.cons_append, if_true, if_false, ite_true, ite_false, not_true_eq_false, not_false_eq_true, qn_lt0, qn_ge0, qn_lt, qn_le, qn_eq, qn_e0, qn_gt0, qn_le0, qn_m1, nI_add, pk_mul, qb_e0, Classical.not_not, c3, hn, Nat.le_refl]
    | succ m ih =>
      intro k hk
      have e1 : ¬ nk ≤ k := by omega
      have hk10 : k < 10 := by omega
      have e2 := ih (k + 1) (by omega)
      rw [qr_216_4]
      simp (disch := first | assumption | omega | exact Or.inl rfl | exact Or.inr rfl | exact qb_01) only [qr_216_0, qr_216_1, qr_216_2, qr_216_3, qr_216_5, qr_216_6, qr_216_9, qr_216_10, qr_216_11, qr_216_14, qr_216_15, qr_216_16, qr_216_19, qr_216_20, qr_216_21, qr_216_24, qr_216_25, qr_216_26, qr_216_29, qr_216_30, qr_216_31, qr_216_34, qr_216_35, qr_216_36, qr_216_37, qr_216_38, qr_216_41, qr_216_44, qr_216_45, true_and, and_true, false_and, and_false, Option.bind_some, Option.toList_some, Option.toList_none, List.nil_append, List.cons_append, if_true, if_false, ite_true, ite_false, not_true_eq_false, not_false_eq_true, qn_lt0, qn_ge0, qn_lt, qn_le, qn_eq, qn_e0, qn_gt0, qn_le0, qn_m1, nI_add, pk_mul, qb_e0, Classical.not_not, c3, s3, hn, e1, qs_MO_of]
      exact e2
  have e1 := loop nk 0 (by omega)
  simp (disch := first | assumption | omega | exact Or.inl rfl | exact Or.inr rfl | exact qb_01) only [qe_216, qr_216_0, qr_216_1, qr_216_2, qr_216_3, qr_216_5, qr_216_6, qr_216_9, qr_216_10, qr_216_11, qr_216_14, qr_216_15, qr_216_16, qr_216_19, qr_216_20, qr_216_21, qr_216_24, qr_216_25, qr_216_26, qr_216_29, qr_216_30, qr_216_31, qr_216_34, qr_216_35, qr_216_36, qr_216_37, qr_216_38, qr_216_41, qr_216_44, qr_216_45, true_and, and_true, false_and, and_false, Option.bind_some, Option.toList_some, Option.toList_none, List.nil_append, List.cons_append, if_true, if_false, ite_true, ite_false, not_true_eq_false, not_false_eq_true, qn_lt0, qn_ge0, qn_lt, qn_le, qn_eq, qn_e0, qn_gt0, qn_le0, qn_m1, nI_add, pk_mul, qb_e0, Classical.not_not]
  exact e1
theorem qs_PR_sumOfRightAnswers (hP : qp_PR K R p c) (hS : qp_PS I p s) : qa_ex (d + 1) 143 [qa_a (some p)] (K, I, R, n, z) = some (some (qa_i (qf_si (fun i => s (91 + 3 * i + 0)) 12)), (K, I, R, n, z)) := by
  obtain ⟨p0, p1, p2, p3, p4, p5, p6, p7, p8, p9, r0, r1, r2, r3, r4, r5, -⟩ := hP
  have loop : ∀ m k, k + m = 12 → qa_run d 143 4 [qa_a (some p), qa_i (qf_si (fun i => s (91 + 3 * i + 0)) k), qa_i (nI k)] [] [] (K, I, R, n, z) = some (some (qa_i (qf_si (fun i => s (91 + 3 * i + 0)) 12)), (K, I, R, n, z)) := by
    intro m
    induction m with
    | zero =>
      intro k hk
      have hk : k = 12 := by omega
      subst hk
      rw [qr_143_4]
      simp (disch := first | assumption | omega | exact Or.inl rfl | exact Or.inr rfl | exact qb_01) only [qr_143_0, qr_143_1, qr_143_2, qr_143_3, qr_143_5, qr_143_7, qr_143_10, qr_143_11, qr_143_12, qr_143_15, qr_143_16, qr_143_17, qr_143_18, qr_143_19, qr_143_22, qr_143_25, qr_143_26, true_and, and_true, false_and, and_false, Option.bind_some, Option.toList_some, Option.toList_none, List.nil_append, List.cons_append, if_true, if_false, ite_true, ite_false, not_true_eq_false, not_false_eq_true, qn_lt0, qn_ge0, qn_lt, qn_le, qn_eq, qn_e0, qn_gt0, qn_le0, qn_m1, nI_add, pk_mul, qb_e0, Classical.not_not, Nat.le_refl]
    | succ m ih =>
      intro k hk
      have e1 : ¬ 12 ≤ k := by omega
      have hs1 := (hS.2.2 k (by omega)).1
      have e2 := ih (k + 1) (by omega)
      rw [qr_143_4]
      simp (disch := first | assumption | omega | exact Or.inl rfl | exact Or.inr rfl | exact qb_01) only [qr_143_0, qr_143_1, qr_143_2, qr_143_3, qr_143_5, qr_143_7, qr_143_10, qr_143_11, qr_143_12, qr_143_15, qr_143_16, qr_143_17, qr_143_18, qr_143_19, qr_143_22, qr_143_25, qr_143_26, true_and, and_true, false_and, and_false, Option.bind_some, Option.toList_some, Option.toList_none, List.nil_append, List.cons_append, if_true, if_false, ite_true, ite_false, not_true_eq_false, not_false_eq_true, qn_lt0, qn_ge0, qn_lt, qn_le, qn_eq, qn_e0, qn_gt0, qn_le0, qn_m1, nI_add, pk_mul, qb_e0, Classical.not_not, r2, e1, hs1]
      exact e2
  have e1 := loop 12 0 (by omega)
  simp (disch := first | assumption | omega | exact Or.inl rfl | exact Or.inr rfl | exact qb_01) only [qe_143, qr_143_0, qr_143_1, qr_143_2, qr_143_3, qr_143_5, qr_143_7, qr_143_10, qr_143_11, qr_143_12, qr_143_15, qr_143_16, qr_143_17, qr_143_18, qr_143_19, qr_143_22, qr_143_25, qr_143_26, true_and, and_true, false_and, and_false, Option.bind_some, Option.toList_some, Option.toList_none, List.nil_append, List.cons_append, if_true, if_false, ite_true, ite_false, not_true_eq_false, not_false_eq_true, qn_lt0, qn_ge0, qn_lt, qn_le, qn_eq, qn_e0, qn_gt0, qn_le0, qn_m1, nI_add, pk_mul, qb_e0, Classical.not_not]
  exact e1
theorem qs_PR_sumOfWrongAnswers (hP : qp_PR K R p c) (hS : qp_PS I p s) : qa_ex (d + 1) 144 [qa_a (some p)] (K, I, R, n, z) = some (some (qa_i (qf_si (fun i => s (91 + 3 * i + 1)) 12)), (K, I, R, n, z)) := by
  obtain ⟨p0, p1, p2, p3, p4, p5, p6, p7, p8, p9, r0, r1, r2, r3, r4, r5, -⟩ := hP
  have loop : ∀ m k, k + m = 12 → qa_run d 144 4 [qa_a (some p), qa_i (qf_si (fun i => s (91 + 3 * i + 1)) k), qa_i (nI k)] [] [] (K, I, R, n, z) = some (some (qa_i (qf_si (fun i => s (91 + 3 * i + 1)) 12)), (K, I, R, n, z)) := by
    intro m
    induction m with
    | zero =>
      intro k hk
      have hk : k = 12 := by omega
      subst hk
      rw [qr_144_4]
      simp (disch := first | assumption | omega | exact Or.inl rfl | exact Or.inr rfl | exact qb_01) only [qr_144_0, qr_144_1, qr_144_2, qr_144_3, qr_144_5, qr_144_7, qr_144_10, qr_144_11, qr_144_12, qr_144_15, qr_144_16, qr_144_17, qr_144_18, qr_144_19, qr_144_22, qr_144_25, qr_144_26, true_and, and_true, false_and, and_false, Option.bind_some, Option.toList_some, Option.toList_none, List.nil_append, List.cons_append, if_true, if_false, ite_true, ite_false, not_true_eq_false, not_false_eq_true, qn_lt0, qn_ge0, qn_lt, qn_le, qn_eq, qn_e0, qn_gt0, qn_le0, qn_m1, nI_add, pk_mul, qb_e0, Classical.not_not, Nat.le_refl]
    | succ m ih =>
      intro k hk
      have e1 : ¬ 12 ≤ k := by omega
      have hs1 := (hS.2.2 k (by omega)).2.1
      have e2 := ih (k + 1) (by omega)
      rw [show qf_si (fun i => s (91 + 3 * i + 1)) (k + 1) = qf_si (fun i => s (91 + 3 * i + 1)) k + s (92 + 3 * k) by show _ + s (91 + 3 * k + 1) = _; rw [show 91 + 3 * k + 1 = 92 + 3 * k by omega]] at e2
      rw [qr_144_4]
      simp (disch := first | assumption | omega | exact Or.inl rfl | exact Or.inr rfl | exact qb_01) only [qr_144_0, qr_144_1, qr_144_2, qr_144_3, qr_144_5, qr_144_7, qr_144_10, qr_144_11, qr_144_12, qr_144_15, qr_144_16, qr_144_17, qr_144_18, qr_144_19, qr_144_22, qr_144_25, qr_144_26, true_and, and_true, false_and, and_false, Option.bind_some, Option.toList_some, Option.toList_none, List.nil_append, List.cons_append, if_true, if_false, ite_true, ite_false, not_true_eq_false, not_false_eq_true, qn_lt0, qn_ge0, qn_lt, qn_le, qn_eq, qn_e0, qn_gt0, qn_le0, qn_m1, nI_add, pk_mul, qb_e0, Classical.not_not, r3, e1, hs1]
      exact e2
  have e1 := loop 12 0 (by omega)
  simp (disch := first | assumption | omega | exact Or.inl rfl | exact Or.inr rfl | exact qb_01) only [qe_144, qr_144_0, qr_144_1, qr_144_2, qr_144_3, qr_144_5, qr_144_7, qr_144_10, qr_144_11, qr_144_12, qr_144_15, qr_144_16, qr_144_17, qr_144_18, qr_144_19, qr_144_22, qr_144_25, qr_144_26, true_and, and_true, false_and, and_false, Option.bind_some, Option.toList_some, Option.toList_none, List.nil_append, List.cons_append, if_true, if_false, ite_true, ite_false, not_true_eq_false, not_false_eq_true, qn_lt0, qn_ge0, qn_lt, qn_le, qn_eq, qn_e0, qn_gt0, qn_le0, qn_m1, nI_add, pk_mul, qb_e0, Classical.not_not]
  exact e1
theorem qs_MO_sumOf (hM : qp_MO K R u) (hn : I (u + 5) 1 = nI ni) (h12 : ni ≤ 12) {w : Nat} (hw : w < 3) : qa_ex (d + 2) 227 [qa_a (some u), qa_i (nI w)] (K, I, R, n, z) = some (some (qa_i (qf_si (fun i => I (u + 1) (91 + 3 * i + w)) ni)), (K, I, R, n, z)) := by
  obtain ⟨m0, ⟨s1, s2, s3⟩, -, -, -, ⟨c1, c2, c3⟩, -⟩ := hM
  have loop : ∀ m k, k + m = ni → qa_run (d + 1) 227 4 [qa_a (some u), qa_i (nI w), qa_i (qf_si (fun i => I (u + 1) (91 + 3 * i + w)) k), qa_i (nI k)] [] [] (K, I, R, n, z) = some (some (qa_i (qf_si (fun i => I (u + 1) (91 + 3 * i + w)) ni)), (K, I, R, n, z)) := by
    intro m
    induction m with
    | zero =>
      intro k hk
      have hk : k = ni := by omega
      subst hk
      rw [qr_227_4]
      simp (disch := first | assumption | omega | exact Or.inl rfl | exact Or.inr rfl | exact qb_01) only [qr_227_0, qr_227_1, qr_227_2, qr_227_3, qr_227_5, qr_227_6, qr_227_9, qr_227_10, qr_227_11, qr_227_14, qr_227_15, qr_227_16, qr_227_19, qr_227_20, qr_227_21, qr_227_24, qr_227_25, qr_227_26, qr_227_27, qr_227_30, qr_227_33, qr_227_34, true_and, and_true, false_and, and_false, Option.bind_some, Option.toList_some, Option.toList_none, List.nil_append, List.cons_append, if_true, if_false, ite_true, ite_false, not_true_eq_false, not_false_eq_true, qn_lt0, qn_ge0, qn_lt, qn_le, qn_eq, qn_e0, qn_gt0, qn_le0, qn_m1, nI_add, pk_mul, qb_e0, Classical.not_not, c3, hn, Nat.le_refl]
    | succ m ih =>
      intro k hk
      have e1 : ¬ ni ≤ k := by omega
      have e2 := ih (k + 1) (by omega)
      rw [qr_227_4]
      simp (disch := first | assumption | omega | exact Or.inl rfl | exact Or.inr rfl | exact qb_01) only [qr_227_0, qr_227_1, qr_227_2, qr_227_3, qr_227_5, qr_227_6, qr_227_9, qr_227_10, qr_227_11, qr_227_14, qr_227_15, qr_227_16, qr_227_19, qr_227_20, qr_227_21, qr_227_24, qr_227_25, qr_227_26, qr_227_27, qr_227_30, qr_227_33, qr_227_34, true_and, and_true, false_and, and_false, Option.bind_some, Option.toList_some, Option.toList_none, List.nil_append, List.cons_append, if_true, if_false, ite_true, ite_false, not_true_eq_false, not_false_eq_true, qn_lt0, qn_ge0, qn_lt, qn_le, qn_eq, qn_e0, qn_gt0, qn_le0, qn_m1, nI_add, pk_mul, qb_e0, Classical.not_not, c3, s3, hn, e1, qs_MO_ofItem]
      exact e2
  have e1 := loop ni 0 (by omega)
  simp (disch := first | assumption | omega | exact Or.inl rfl | exact Or.inr rfl | exact qb_01) only [qe_227, qr_227_0, qr_227_1, qr_227_2, qr_227_3, qr_227_5, qr_227_6, qr_227_9, qr_227_10, qr_227_11, qr_227_14, qr_227_15, qr_227_16, qr_227_19, qr_227_20, qr_227_21, qr_227_24, qr_227_25, qr_227_26, qr_227_27, qr_227_30, qr_227_33, qr_227_34, true_and, and_true, false_and, and_false, Option.bind_some, Option.toList_some, Option.toList_none, List.nil_append, List.cons_append, if_true, if_false, ite_true, ite_false, not_true_eq_false, not_false_eq_true, qn_lt0, qn_ge0, qn_lt, qn_le, qn_eq, qn_e0, qn_gt0, qn_le0, qn_m1, nI_add, pk_mul, qb_e0, Classical.not_not]
  exact e1
end Q48
