/-! The model's days. -/
theorem qs_put_id {s : Nat → Int32} {k : Nat} : qs_put s k (qs_sk s k) = s := by
  funext i
  unfold qs_put qs_sk
  by_cases h : 1 + 9 * k ≤ i ∧ i < 10 + 9 * k
  · rw [if_pos h, show 1 + 9 * k + (i - (1 + 9 * k)) = i by omega]
  · rw [if_neg h]
theorem qF_pas_ge {s : Nat → Int32} {i : Nat} : ∀ {k : Nat}, 1 + 9 * k ≤ i → qF_pas s k i = s i := by
  intro k
  induction k with
  | zero => intro h; exact qa_up_n _ _ (by omega)
  | succ k ih =>
    intro h
    show qs_put _ k _ i = _
    rw [qs_put_ne (by omega)]
    exact ih (by omega)
theorem qF_pas_0 {s : Nat → Int32} : ∀ {k : Nat}, qF_pas s k 0 = s 0 + nI 1 := by
  intro k
  induction k with
  | zero => exact qa_up_s _ _ _
  | succ k ih =>
    show qs_put _ k _ 0 = _
    rw [qs_put_ne (by omega)]
    exact ih
def qm_los (k w : Nat) (s : Nat → Int32) : Nat → Int32 := va_up (va_up s (1 + 9 * k + w) (s (1 + 9 * k + w) - s (1 + 9 * k + w) / nI 8)) (1 + 9 * k + 8) (s (1 + 9 * k + 8) + s (1 + 9 * k + w) / nI 8)
theorem qm_pas {s : Nat → Int32} {k : Nat} (h : ¬ s (1 + 9 * k + 4) = (-1)) (h2 : s (1 + 9 * k + 2) ≤ s 0 - s (1 + 9 * k + 4)) : qm_los k 1 (qm_los k 0 s) = qs_put s k (qf_pas (qs_sk s k) (s 0)) := by
  have hc : ¬ (qs_sk s k 4 = (-1) ∨ s 0 - qs_sk s k 4 < qs_sk s k 2) := fun g => g.elim h (fun g => absurd h2 (Int32.not_le.mpr g))
  funext i
  unfold qf_pas
  rw [if_neg hc]
  by_cases hin : 1 + 9 * k ≤ i ∧ i < 10 + 9 * k
  · obtain ⟨j, hj, rfl⟩ : ∃ j, j < 9 ∧ i = 1 + 9 * k + j := ⟨i - (1 + 9 * k), by omega, by omega⟩
    rw [qs_put_at hj]
    unfold qm_los qs_sk va_up
    rcases (show j = 0 ∨ j = 1 ∨ j = 8 ∨ (j ≠ 0 ∧ j ≠ 1 ∧ j ≠ 8) by omega) with rfl | rfl | rfl | ⟨e1, e2, e3⟩
    · simp
    · simp
    · simp
      rw [Int32.add_assoc]
    · simp [e1, e2, e3]
  · rw [qs_put_ne (by omega)]
    unfold qm_los
    rw [qa_up_n _ _ (by omega), qa_up_n _ _ (by omega), qa_up_n _ _ (by omega), qa_up_n _ _ (by omega)]
theorem qm_pas0 {s : Nat → Int32} {k : Nat} (h : s (1 + 9 * k + 4) = (-1) ∨ s 0 - s (1 + 9 * k + 4) < s (1 + 9 * k + 2)) : s = qs_put s k (qf_pas (qs_sk s k) (s 0)) := by
  have hc : qf_pas (qs_sk s k) (s 0) = qs_sk s k := if_pos h
  rw [hc, qs_put_id]
section Q25
variable {d a b : Nat} {K : Nat → Nat × Nat} {I : Nat → Nat → Int32} {R : Nat → Nat → Option Nat} {n z : Nat} {x y w : Int32} {h : qa_H} {u nk ni k i j m B : Nat}
theorem qs_MO_loses (hM : qp_MO K R u) (hk : k < 10) {w : Nat} (hw : w < 2) : qa_ex (d + 2) 184 [qa_a (some u), qa_i (nI k), qa_i (nI w)] (K, I, R, n, z) = some (none, (K, va_up I (u + 1) (qm_los k w (I (u + 1))), R, n, z)) := by
  obtain ⟨m0, ⟨s1, s2, s3⟩, -⟩ := hM
  have n8 : ¬ nI 8 = 0 := by decide
  simp (disch := first | assumption | omega | exact Or.inl rfl | exact Or.inr rfl | exact qb_01) only [qe_184, qr_184_0, qr_184_1, qr_184_4, qr_184_5, qr_184_6, qr_184_9, qr_184_10, qr_184_12, qr_184_13, qr_184_14, qr_184_15, qr_184_18, qr_184_19, qr_184_20, qr_184_23, qr_184_24, qr_184_25, qr_184_26, qr_184_27, qr_184_28, qr_184_29, qr_184_32, qr_184_33, qr_184_35, qr_184_38, qr_184_39, qr_184_40, qr_184_41, qr_184_42, qr_184_43, true_and, and_true, false_and, and_false, Option.bind_some, Option.toList_some, Option.toList_none, List.nil_append, List.cons_append, if_true, if_false, ite_true, ite_false, not_true_eq_false, not_false_eq_true, s3, qs_MO_of, qa_up_s, qa_up_n, qa_uu]
  rfl
theorem qs_MO_passes (hM : qp_MO K R u) (hn : I (u + 5) 0 = nI nk) (h10 : nk ≤ 10) (hB : B < 1000000) (hv : qv_S B (I (u + 1))) : qa_ex (d + 3) 183 [qa_a (some u)] (K, I, R, n, z) = some (none, (K, va_up I (u + 1) (qF_pas (I (u + 1)) nk), R, n, z)) := by
  have hM' := hM
  obtain ⟨m0, ⟨s1, s2, s3⟩, -, -, -, ⟨c1, c2, c3⟩, -⟩ := hM
  have u51 : ¬ u + 5 = u + 1 := by omega
  generalize hs : I (u + 1) = s at hv ⊢
  have loop : ∀ (j k : Nat) (l2 : qa_V), k + j = nk → qa_run (d + 2) 183 12 [qa_a (some u), qa_i (nI k), l2] [] [] (K, va_up I (u + 1) (qF_pas s k), R, n, z) = some (none, (K, va_up I (u + 1) (qF_pas s nk), R, n, z)) := by
    intro j
    induction j with
    | zero =>
      intro k l2 hk
      have hk : k = nk := by omega
      subst hk
      rw [qr_183_12]
      simp (disch := first | assumption | omega | exact Or.inl rfl | exact Or.inr rfl | exact qb_01) only [qr_183_0, qr_183_1, qr_183_4, qr_183_5, qr_183_6, qr_183_7, qr_183_8, qr_183_9, qr_183_10, qr_183_11, qr_183_13, qr_183_14, qr_183_17, qr_183_18, qr_183_19, qr_183_22, qr_183_23, qr_183_26, qr_183_27, qr_183_28, qr_183_31, qr_183_32, qr_183_33, qr_183_34, qr_183_37, qr_183_38, qr_183_41, qr_183_42, qr_183_43, qr_183_44, qr_183_45, qr_183_46, qr_183_49, qr_183_50, qr_183_51, qr_183_54, qr_183_55, qr_183_58, qr_183_59, qr_183_60, qr_183_61, qr_183_64, qr_183_65, qr_183_66, qr_183_67, qr_183_70, qr_183_73, qr_183_76, true_and, and_true, false_and, and_false, Option.bind_some, Option.toList_some, Option.toList_none, List.nil_append, List.cons_append, if_true, if_false, ite_true, ite_false, not_true_eq_false, not_false_eq_true, qn_lt0, qn_ge0, qn_lt, qn_le, qn_eq, qn_e0, qn_gt0, qn_le0, qn_m1, nI_add, pk_mul, qb_e0, Classical.not_not, qa_up_s, qa_up_n, qa_uu, c3, hn, Nat.le_refl]
    | succ j ih =>
      intro k l2 hk
      have e1 : ¬ nk ≤ k := by omega
      have hk10 : k < 10 := by omega
      obtain ⟨-, hv2⟩ := hv
      obtain ⟨-, -, -, -, hl⟩ := hv2 k hk10
      have g4 : qF_pas s k (1 + 9 * k + 4) = s (1 + 9 * k + 4) := qF_pas_ge (by omega)
      have g2 : qF_pas s k (1 + 9 * k + 2) = s (1 + 9 * k + 2) := qF_pas_ge (by omega)
      have hstep : qF_pas s (k + 1) = qs_put (qF_pas s k) k (qf_pas (qs_sk (qF_pas s k) k) (qF_pas s k 0)) := rfl
      rw [qr_183_12]
      rcases hl with hl | ⟨v, hv, hl⟩
      · have e2 := ih (k + 1) (qa_i (-1)) (by omega)
        rw [hstep, ← qm_pas0 (Or.inl (g4.trans hl))] at e2
        have e3 : ((-1 : Int32) < 0) = True := by decide
        simp (disch := first | assumption | omega | exact Or.inl rfl | exact Or.inr rfl | exact qb_01) only [qr_183_0, qr_183_1, qr_183_4, qr_183_5, qr_183_6, qr_183_7, qr_183_8, qr_183_9, qr_183_10, qr_183_11, qr_183_13, qr_183_14, qr_183_17, qr_183_18, qr_183_19, qr_183_22, qr_183_23, qr_183_26, qr_183_27, qr_183_28, qr_183_31, qr_183_32, qr_183_33, qr_183_34, qr_183_37, qr_183_38, qr_183_41, qr_183_42, qr_183_43, qr_183_44, qr_183_45, qr_183_46, qr_183_49, qr_183_50, qr_183_51, qr_183_54, qr_183_55, qr_183_58, qr_183_59, qr_183_60, qr_183_61, qr_183_64, qr_183_65, qr_183_66, qr_183_67, qr_183_70, qr_183_73, qr_183_76, true_and, and_true, false_and, and_false, Option.bind_some, Option.toList_some, Option.toList_none, List.nil_append, List.cons_append, if_true, if_false, ite_true, ite_false, not_true_eq_false, not_false_eq_true, qn_lt0, qn_ge0, qn_lt, qn_le, qn_eq, qn_e0, qn_gt0, qn_le0, qn_m1, nI_add, pk_mul, qb_e0, Classical.not_not, qa_up_s, qa_up_n, qa_uu, c3, s3, hn, e1, qs_MO_of, g4, hl, e3, e2]
      · have e2 := ih (k + 1) (qa_i (nI v)) (by omega)
        have hne : ¬ qF_pas s k (1 + 9 * k + 4) = (-1) := by rw [g4, hl, qn_m1 (by omega)]; exact not_false
        by_cases hq : qF_pas s k 0 - nI v < s (1 + 9 * k + 2)
        · rw [hstep, ← qm_pas0 (Or.inr (by rw [g4, g2, hl]; exact hq))] at e2
          simp (disch := first | assumption | omega | exact Or.inl rfl | exact Or.inr rfl | exact qb_01) only [qr_183_0, qr_183_1, qr_183_4, qr_183_5, qr_183_6, qr_183_7, qr_183_8, qr_183_9, qr_183_10, qr_183_11, qr_183_13, qr_183_14, qr_183_17, qr_183_18, qr_183_19, qr_183_22, qr_183_23, qr_183_26, qr_183_27, qr_183_28, qr_183_31, qr_183_32, qr_183_33, qr_183_34, qr_183_37, qr_183_38, qr_183_41, qr_183_42, qr_183_43, qr_183_44, qr_183_45, qr_183_46, qr_183_49, qr_183_50, qr_183_51, qr_183_54, qr_183_55, qr_183_58, qr_183_59, qr_183_60, qr_183_61, qr_183_64, qr_183_65, qr_183_66, qr_183_67, qr_183_70, qr_183_73, qr_183_76, true_and, and_true, false_and, and_false, Option.bind_some, Option.toList_some, Option.toList_none, List.nil_append, List.cons_append, if_true, if_false, ite_true, ite_false, not_true_eq_false, not_false_eq_true, qn_lt0, qn_ge0, qn_lt, qn_le, qn_eq, qn_e0, qn_gt0, qn_le0, qn_m1, nI_add, pk_mul, qb_e0, Classical.not_not, qa_up_s, qa_up_n, qa_uu, c3, s3, hn, e1, qs_MO_of, g4, g2, hl, hq, e2]
        · have hq2 : qF_pas s k (1 + 9 * k + 2) ≤ qF_pas s k 0 - qF_pas s k (1 + 9 * k + 4) := by rw [g4, g2, hl]; exact Int32.not_lt.mp hq
          rw [hstep, ← qm_pas hne hq2] at e2
          simp (disch := first | assumption | omega | exact Or.inl rfl | exact Or.inr rfl | exact qb_01) only [qr_183_0, qr_183_1, qr_183_4, qr_183_5, qr_183_6, qr_183_7, qr_183_8, qr_183_9, qr_183_10, qr_183_11, qr_183_13, qr_183_14, qr_183_17, qr_183_18, qr_183_19, qr_183_22, qr_183_23, qr_183_26, qr_183_27, qr_183_28, qr_183_31, qr_183_32, qr_183_33, qr_183_34, qr_183_37, qr_183_38, qr_183_41, qr_183_42, qr_183_43, qr_183_44, qr_183_45, qr_183_46, qr_183_49, qr_183_50, qr_183_51, qr_183_54, qr_183_55, qr_183_58, qr_183_59, qr_183_60, qr_183_61, qr_183_64, qr_183_65, qr_183_66, qr_183_67, qr_183_70, qr_183_73, qr_183_76, true_and, and_true, false_and, and_false, Option.bind_some, Option.toList_some, Option.toList_none, List.nil_append, List.cons_append, if_true, if_false, ite_true, ite_false, not_true_eq_false, not_false_eq_true, qn_lt0, qn_ge0, qn_lt, qn_le, qn_eq, qn_e0, qn_gt0, qn_le0, qn_m1, nI_add, pk_mul, qb_e0, Classical.not_not, qa_up_s, qa_up_n, qa_uu, c3, s3, hn, e1, qs_MO_of, g4, g2, hl, hq, qs_MO_loses hM' hk10, e2]
  have h0 := loop nk 0 qa_u (by omega)
  have hz : qF_pas s 0 = va_up s 0 (s 0 + nI 1) := rfl
  rw [hz] at h0
  simp (disch := first | assumption | omega | exact Or.inl rfl | exact Or.inr rfl | exact qb_01) only [qe_183, qr_183_0, qr_183_1, qr_183_4, qr_183_5, qr_183_6, qr_183_7, qr_183_8, qr_183_9, qr_183_10, qr_183_11, qr_183_13, qr_183_14, qr_183_17, qr_183_18, qr_183_19, qr_183_22, qr_183_23, qr_183_26, qr_183_27, qr_183_28, qr_183_31, qr_183_32, qr_183_33, qr_183_34, qr_183_37, qr_183_38, qr_183_41, qr_183_42, qr_183_43, qr_183_44, qr_183_45, qr_183_46, qr_183_49, qr_183_50, qr_183_51, qr_183_54, qr_183_55, qr_183_58, qr_183_59, qr_183_60, qr_183_61, qr_183_64, qr_183_65, qr_183_66, qr_183_67, qr_183_70, qr_183_73, qr_183_76, true_and, and_true, false_and, and_false, Option.bind_some, Option.toList_some, Option.toList_none, List.nil_append, List.cons_append, if_true, if_false, ite_true, ite_false, not_true_eq_false, not_false_eq_true, s3, hs, qa_up_s, qa_up_n, qa_uu]
  exact h0
end Q25
