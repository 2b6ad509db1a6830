/-! The model keeps what was. -/
section Q40
variable {d a b f : Nat} {K : Nat → Nat × Nat} {I : Nat → Nat → Int32} {R : Nat → Nat → Option Nat} {n z : Nat} {x y : Nat} {h : qa_H} {u nk ni k i j m B p q c ch : Nat} {l r : List Nat}
theorem qm_keep2 (hM : qp_MO K R u) {I : Nat → Nat → Int32} {g s : Nat → Int32} (hs : I (u + 1) = s) (hc : I u 4 = nI ch) (h6 : ch < 6) : ∀ j k, k + j = 127 → qa_run d 180 52 [qa_a (some u), qa_i (nI k)] [] [] (K, va_up I (u + 4) (qf_st (127 * ch) k s g), R, n, z) = some (none, (K, va_up (va_up I (u + 4) (qf_st (127 * ch) 127 s g)) u (va_up (I u) 4 (nI (ch + 1))), R, n, z)) := by
  obtain ⟨m0, ⟨s1, s2, s3⟩, -, -, ⟨p1, p2, p3⟩, -⟩ := hM
  intro j
  induction j with
  | zero =>
    intro k hk
    have hk : k = 127 := by omega
    subst hk
    rw [qr_180_52]
    simp (disch := first | assumption | omega | exact Or.inl rfl | exact Or.inr rfl | exact qb_01) only [qr_180_0, qr_180_1, qr_180_4, qr_180_6, qr_180_9, qr_180_11, qr_180_13, qr_180_16, qr_180_19, qr_180_20, qr_180_23, qr_180_24, qr_180_26, qr_180_27, qr_180_28, qr_180_31, qr_180_32, qr_180_33, qr_180_34, qr_180_37, qr_180_40, qr_180_41, qr_180_42, qr_180_45, qr_180_46, qr_180_47, qr_180_50, qr_180_51, qr_180_53, qr_180_55, qr_180_58, qr_180_59, qr_180_62, qr_180_64, qr_180_65, qr_180_68, qr_180_69, qr_180_70, qr_180_71, qr_180_72, qr_180_75, qr_180_76, qr_180_77, qr_180_78, qr_180_81, qr_180_84, qr_180_85, qr_180_86, qr_180_89, qr_180_90, qr_180_91, qr_180_94, true_and, and_true, false_and, and_false, Option.bind_some, Option.toList_some, Option.toList_none, List.nil_append, List.cons_append, if_true, if_false, ite_true, ite_false, not_true_eq_false, not_false_eq_true, qn_lt0, qn_ge0, qn_lt, qn_le, qn_eq, qn_e0, qn_gt0, qn_le0, qn_m1, nI_add, pk_mul, qb_e0, Classical.not_not, qa_up_s, qa_up_n, qa_uu, Nat.le_refl, hc]
  | succ j ih =>
    intro k hk
    have e2 := ih (k + 1) (by omega)
    rw [← qf_st_s] at e2
    have e1 : ¬ 127 ≤ k := by omega
    rw [qr_180_52]
    simp (disch := first | assumption | omega | exact Or.inl rfl | exact Or.inr rfl | exact qb_01) only [qr_180_0, qr_180_1, qr_180_4, qr_180_6, qr_180_9, qr_180_11, qr_180_13, qr_180_16, qr_180_19, qr_180_20, qr_180_23, qr_180_24, qr_180_26, qr_180_27, qr_180_28, qr_180_31, qr_180_32, qr_180_33, qr_180_34, qr_180_37, qr_180_40, qr_180_41, qr_180_42, qr_180_45, qr_180_46, qr_180_47, qr_180_50, qr_180_51, qr_180_53, qr_180_55, qr_180_58, qr_180_59, qr_180_62, qr_180_64, qr_180_65, qr_180_68, qr_180_69, qr_180_70, qr_180_71, qr_180_72, qr_180_75, qr_180_76, qr_180_77, qr_180_78, qr_180_81, qr_180_84, qr_180_85, qr_180_86, qr_180_89, qr_180_90, qr_180_91, qr_180_94, true_and, and_true, false_and, and_false, Option.bind_some, Option.toList_some, Option.toList_none, List.nil_append, List.cons_append, if_true, if_false, ite_true, ite_false, not_true_eq_false, not_false_eq_true, qn_lt0, qn_ge0, qn_lt, qn_le, qn_eq, qn_e0, qn_gt0, qn_le0, qn_m1, nI_add, pk_mul, qb_e0, Classical.not_not, qa_up_s, qa_up_n, qa_uu, s3, p3, hs, hc, e1, e2]
/-- fewer than six: put behind -/
theorem qs_MO_keeps (hM : qp_MO K R u) (hc : I u 4 = nI ch) (h6 : ch < 6) : qa_ex (d + 1) 180 [qa_a (some u)] (K, I, R, n, z) = some (none, (K, va_up (va_up I (u + 4) (qf_st (127 * ch) 127 (I (u + 1)) (I (u + 4)))) u (va_up (I u) 4 (nI (ch + 1))), R, n, z)) := by
  have l2 := qm_keep2 (d := d) (n := n) (z := z) (g := I (u + 4)) hM rfl hc h6 127 0 (by omega)
  obtain ⟨m0, ⟨s1, s2, s3⟩, -, -, ⟨p1, p2, p3⟩, -⟩ := hM
  rw [qf_st_0, qa_uI] at l2
  have e1 : ¬ ch = 6 := by omega
  simp (disch := first | assumption | omega | exact Or.inl rfl | exact Or.inr rfl | exact qb_01) only [qe_180, qr_180_0, qr_180_1, qr_180_4, qr_180_6, qr_180_9, qr_180_11, qr_180_13, qr_180_16, qr_180_19, qr_180_20, qr_180_23, qr_180_24, qr_180_26, qr_180_27, qr_180_28, qr_180_31, qr_180_32, qr_180_33, qr_180_34, qr_180_37, qr_180_40, qr_180_41, qr_180_42, qr_180_45, qr_180_46, qr_180_47, qr_180_50, qr_180_51, qr_180_53, qr_180_55, qr_180_58, qr_180_59, qr_180_62, qr_180_64, qr_180_65, qr_180_68, qr_180_69, qr_180_70, qr_180_71, qr_180_72, qr_180_75, qr_180_76, qr_180_77, qr_180_78, qr_180_81, qr_180_84, qr_180_85, qr_180_86, qr_180_89, qr_180_90, qr_180_91, qr_180_94, true_and, and_true, false_and, and_false, Option.bind_some, Option.toList_some, Option.toList_none, List.nil_append, List.cons_append, if_true, if_false, ite_true, ite_false, not_true_eq_false, not_false_eq_true, qn_lt0, qn_ge0, qn_lt, qn_le, qn_eq, qn_e0, qn_gt0, qn_le0, qn_m1, nI_add, pk_mul, qb_e0, Classical.not_not, hc, e1, l2]
/-- six: the first goes -/
theorem qs_MO_keeps6 (hM : qp_MO K R u) (hc : I u 4 = nI 6) : qa_ex (d + 1) 180 [qa_a (some u)] (K, I, R, n, z) = some (none, (K, va_up (va_up I (u + 4) (qf_st 635 127 (I (u + 1)) (qf_sh 762 (I (u + 4))))) u (va_up (I u) 4 (nI 6)), R, n, z)) := by
  have hM' := hM
  obtain ⟨m0, ⟨s1, s2, s3⟩, -, -, ⟨p1, p2, p3⟩, -⟩ := hM
  generalize hI5 : va_up (va_up I (u + 4) (qf_sh 762 (I (u + 4)))) u (va_up (I u) 4 (nI 5)) = I5
  have h5s : I5 (u + 1) = I (u + 1) := by rw [← hI5, qa_up_n _ _ (by omega), qa_up_n _ _ (by omega)]
  have h5u : I5 u = va_up (I u) 4 (nI 5) := by rw [← hI5, qa_up_s]
  have h5p : I5 (u + 4) = qf_sh 762 (I (u + 4)) := by rw [← hI5, qa_up_n _ _ (by omega), qa_up_s]
  have l2 := qm_keep2 (d := d) (n := n) (z := z) (g := I5 (u + 4)) hM' h5s (by rw [h5u, qa_up_s]) (show 5 < 6 by omega) 127 0 (by omega)
  rw [qf_st_0, qa_uI] at l2
  have loop : ∀ j k, k + j = 762 → 127 ≤ k → qa_run d 180 12 [qa_a (some u), qa_i (nI k)] [] [] (K, va_up I (u + 4) (qf_sh k (I (u + 4))), R, n, z) = some (none, (K, va_up (va_up I5 (u + 4) (qf_st (127 * 5) 127 (I (u + 1)) (I5 (u + 4)))) u (va_up (I5 u) 4 (nI (5 + 1))), R, n, z)) := by
    intro j
    induction j with
    | zero =>
      intro k hk h1
      have hk : k = 762 := by omega
      subst hk
      have hsub : nI 6 - nI 1 = nI 5 := qn_sub (by omega)
      rw [qr_180_12]
      simp (disch := first | assumption | omega | exact Or.inl rfl | exact Or.inr rfl | exact qb_01) only [qr_180_0, qr_180_1, qr_180_4, qr_180_6, qr_180_9, qr_180_11, qr_180_13, qr_180_16, qr_180_19, qr_180_20, qr_180_23, qr_180_24, qr_180_26, qr_180_27, qr_180_28, qr_180_31, qr_180_32, qr_180_33, qr_180_34, qr_180_37, qr_180_40, qr_180_41, qr_180_42, qr_180_45, qr_180_46, qr_180_47, qr_180_50, qr_180_51, qr_180_53, qr_180_55, qr_180_58, qr_180_59, qr_180_62, qr_180_64, qr_180_65, qr_180_68, qr_180_69, qr_180_70, qr_180_71, qr_180_72, qr_180_75, qr_180_76, qr_180_77, qr_180_78, qr_180_81, qr_180_84, qr_180_85, qr_180_86, qr_180_89, qr_180_90, qr_180_91, qr_180_94, true_and, and_true, false_and, and_false, Option.bind_some, Option.toList_some, Option.toList_none, List.nil_append, List.cons_append, if_true, if_false, ite_true, ite_false, not_true_eq_false, not_false_eq_true, qn_lt0, qn_ge0, qn_lt, qn_le, qn_eq, qn_e0, qn_gt0, qn_le0, qn_m1, nI_add, pk_mul, qb_e0, Classical.not_not, qa_up_s, qa_up_n, qa_uu, Nat.le_refl, hc, hsub, hI5, l2]
    | succ j ih =>
      intro k hk h1
      have e2 := ih (k + 1) (by omega) (by omega)
      rw [← qf_sh_s h1] at e2
      have e1 : ¬ 762 ≤ k := by omega
      have hsub : nI k - nI 127 = nI (k - 127) := qn_sub h1
      rw [qr_180_12]
      simp (disch := first | assumption | omega | exact Or.inl rfl | exact Or.inr rfl | exact qb_01) only [qr_180_0, qr_180_1, qr_180_4, qr_180_6, qr_180_9, qr_180_11, qr_180_13, qr_180_16, qr_180_19, qr_180_20, qr_180_23, qr_180_24, qr_180_26, qr_180_27, qr_180_28, qr_180_31, qr_180_32, qr_180_33, qr_180_34, qr_180_37, qr_180_40, qr_180_41, qr_180_42, qr_180_45, qr_180_46, qr_180_47, qr_180_50, qr_180_51, qr_180_53, qr_180_55, qr_180_58, qr_180_59, qr_180_62, qr_180_64, qr_180_65, qr_180_68, qr_180_69, qr_180_70, qr_180_71, qr_180_72, qr_180_75, qr_180_76, qr_180_77, qr_180_78, qr_180_81, qr_180_84, qr_180_85, qr_180_86, qr_180_89, qr_180_90, qr_180_91, qr_180_94, true_and, and_true, false_and, and_false, Option.bind_some, Option.toList_some, Option.toList_none, List.nil_append, List.cons_append, if_true, if_false, ite_true, ite_false, not_true_eq_false, not_false_eq_true, qn_lt0, qn_ge0, qn_lt, qn_le, qn_eq, qn_e0, qn_gt0, qn_le0, qn_m1, nI_add, pk_mul, qb_e0, Classical.not_not, qa_up_s, qa_up_n, qa_uu, p3, hsub, e1, e2]
  have h0 := loop 635 127 (by omega) (Nat.le_refl _)
  rw [qf_sh_0, qa_uI] at h0
  simp (disch := first | assumption | omega | exact Or.inl rfl | exact Or.inr rfl | exact qb_01) only [qe_180, qr_180_0, qr_180_1, qr_180_4, qr_180_6, qr_180_9, qr_180_11, qr_180_13, qr_180_16, qr_180_19, qr_180_20, qr_180_23, qr_180_24, qr_180_26, qr_180_27, qr_180_28, qr_180_31, qr_180_32, qr_180_33, qr_180_34, qr_180_37, qr_180_40, qr_180_41, qr_180_42, qr_180_45, qr_180_46, qr_180_47, qr_180_50, qr_180_51, qr_180_53, qr_180_55, qr_180_58, qr_180_59, qr_180_62, qr_180_64, qr_180_65, qr_180_68, qr_180_69, qr_180_70, qr_180_71, qr_180_72, qr_180_75, qr_180_76, qr_180_77, qr_180_78, qr_180_81, qr_180_84, qr_180_85, qr_180_86, qr_180_89, qr_180_90, qr_180_91, qr_180_94, true_and, and_true, false_and, and_false, Option.bind_some, Option.toList_some, Option.toList_none, List.nil_append, List.cons_append, if_true, if_false, ite_true, ite_false, not_true_eq_false, not_false_eq_true, qn_lt0, qn_ge0, qn_lt, qn_le, qn_eq, qn_e0, qn_gt0, qn_le0, qn_m1, nI_add, pk_mul, qb_e0, Classical.not_not, hc, h0]
  rw [h5u, h5p, qa_uu, ← hI5]
  have hfin : ∀ f1 f2 f3 f4 : Nat → Int32, va_up (va_up (va_up (va_up I (u + 4) f1) u f2) (u + 4) f3) u f4 = va_up (va_up I (u + 4) f3) u f4 := by
    intro f1 f2 f3 f4
    funext q
    by_cases h1 : q = u
    · subst h1
      rw [qa_up_s, qa_up_s]
    · rw [qa_up_n _ _ h1, qa_up_n _ _ h1]
      by_cases h2 : q = u + 4
      · subst h2
        rw [qa_up_s, qa_up_s]
      · rw [qa_up_n _ _ h2, qa_up_n _ _ h2, qa_up_n _ _ h1, qa_up_n _ _ h2]
  rw [hfin]
end Q40
