/-! The model keeps and takes back. -/
/-- k places moved to the front by 127 -/
def qf_sh (k : Nat) (f : Nat → Int32) : Nat → Int32 := fun i => if i + 127 < k then f (i + 127) else f i
theorem qf_sh_0 {f : Nat → Int32} : qf_sh 127 f = f := by
  funext i
  unfold qf_sh
  rw [if_neg (by omega)]
theorem qf_sh_s {k : Nat} {f : Nat → Int32} (hk : 127 ≤ k) : va_up (qf_sh k f) (k - 127) (qf_sh k f k) = qf_sh (k + 1) f := by
  funext i
  unfold va_up qf_sh
  rw [if_neg (show ¬ k + 127 < k by omega)]
  by_cases e : i = k - 127
  · rw [if_pos e, if_pos (by omega), show i + 127 = k by omega]
  · rw [if_neg e]
    by_cases h : i + 127 < k
    · rw [if_pos h, if_pos (by omega)]
    · rw [if_neg h, if_neg (by omega)]
/-- the first k of s put in from a on -/
def qf_st (a k : Nat) (s f : Nat → Int32) : Nat → Int32 := fun i => if a ≤ i ∧ i < a + k then s (i - a) else f i
theorem qf_st_0 {a : Nat} {s f : Nat → Int32} : qf_st a 0 s f = f := by
  funext i
  unfold qf_st
  rw [if_neg (by omega)]
theorem qf_st_s {a k : Nat} {s f : Nat → Int32} : va_up (qf_st a k s f) (a + k) (s k) = qf_st a (k + 1) s f := by
  funext i
  unfold va_up qf_st
  by_cases e : i = a + k
  · rw [if_pos e, if_pos (by omega), show i - a = k by omega]
  · rw [if_neg e]
    by_cases h : a ≤ i ∧ i < a + k
    · rw [if_pos h, if_pos (by omega)]
    · rw [if_neg h, if_neg (by omega)]
/-- the first k of f from a on -/
def qf_tk (a k : Nat) (f s : Nat → Int32) : Nat → Int32 := fun i => if i < k then f (a + i) else s i
theorem qf_tk_0 {a : Nat} {s f : Nat → Int32} : qf_tk a 0 f s = s := by
  funext i
  unfold qf_tk
  rw [if_neg (by omega)]
theorem qf_tk_s {a k : Nat} {s f : Nat → Int32} : va_up (qf_tk a k f s) k (f (a + k)) = qf_tk a (k + 1) f s := by
  funext i
  unfold va_up qf_tk
  by_cases e : i = k
  · rw [if_pos e, if_pos (by omega), e]
  · rw [if_neg e]
    by_cases h : i < k
    · rw [if_pos h, if_pos (by omega)]
    · rw [if_neg h, if_neg (by omega)]
section Q39
variable {d a b f : Nat} {K : Nat → Nat × Nat} {I : Nat → Nat → Int32} {R : Nat → Nat → Option Nat} {n z : Nat} {x y : Nat} {h : qa_H} {u nk ni k i j m B p q c ch : Nat} {l r : List Nat}
theorem qs_MO_rebases (hM : qp_MO K R u) : qa_ex (d + 2) 162 [qa_a (some u)] (K, I, R, n, z) = some (none, (K, va_up (va_up I (u + 2) (qf_cpy 127 (I (u + 1)) (I (u + 2)))) u (va_up (I u) 12 (nI 0)), R, n, z)) := by
  obtain ⟨m0, ⟨s1, s2, s3⟩, ⟨b1, b2, b3⟩, -⟩ := hM
  have e1 := qs_MO_copies (d := d) (I := I) (R := R) (n := n) (z := z) (m := 127) (show u + 1 ≠ u + 2 by omega) s1 b1 (by omega) (by omega) (by omega)
  simp (disch := first | assumption | omega | exact Or.inl rfl | exact Or.inr rfl | exact qb_01) only [qe_162, qr_162_0, qr_162_1, qr_162_4, qr_162_5, qr_162_8, qr_162_10, qr_162_13, qr_162_14, qr_162_15, qr_162_18, true_and, and_true, false_and, and_false, Option.bind_some, Option.toList_some, Option.toList_none, List.nil_append, List.cons_append, if_true, if_false, ite_true, ite_false, not_true_eq_false, not_false_eq_true, qn_lt0, qn_ge0, qn_lt, qn_le, qn_eq, qn_e0, qn_gt0, qn_le0, qn_m1, nI_add, pk_mul, qb_e0, Classical.not_not, s3, b3, e1, qa_up_s, qa_up_n, qa_uu]
theorem qs_MO_undo0 (hM : qp_MO K R u) (hc : I u 4 = nI 0) : qa_ex (d + 3) 233 [qa_a (some u)] (K, I, R, n, z) = some (some (qa_i (-1)), (K, I, R, n, z)) := by
  obtain ⟨m0, -⟩ := hM
  simp (disch := first | assumption | omega | exact Or.inl rfl | exact Or.inr rfl | exact qb_01) only [qe_233, qr_233_0, qr_233_1, qr_233_4, qr_233_7, qr_233_8, qr_233_9, qr_233_10, qr_233_11, qr_233_14, qr_233_15, qr_233_16, qr_233_19, qr_233_20, qr_233_22, qr_233_24, qr_233_27, qr_233_28, qr_233_31, qr_233_32, qr_233_33, qr_233_36, qr_233_38, qr_233_39, qr_233_42, qr_233_43, qr_233_44, qr_233_45, qr_233_46, qr_233_47, qr_233_50, qr_233_53, qr_233_54, qr_233_57, qr_233_58, qr_233_61, true_and, and_true, false_and, and_false, Option.bind_some, Option.toList_some, Option.toList_none, List.nil_append, List.cons_append, if_true, if_false, ite_true, ite_false, not_true_eq_false, not_false_eq_true, qn_lt0, qn_ge0, qn_lt, qn_le, qn_eq, qn_e0, qn_gt0, qn_le0, qn_m1, nI_add, pk_mul, qb_e0, Classical.not_not, hc]
theorem qs_MO_undo (hM : qp_MO K R u) (hc : I u 4 = nI (ch + 1)) (h6 : ch < 6) : qa_ex (d + 3) 233 [qa_a (some u)] (K, I, R, n, z) = some (some (qa_i (nI ch)), (K, va_up (va_up (va_up I (u + 1) (qf_tk (127 * ch) 127 (I (u + 4)) (I (u + 1)))) (u + 2) (qf_cpy 127 (qf_tk (127 * ch) 127 (I (u + 4)) (I (u + 1))) (I (u + 2)))) u (va_up (va_up (I u) 4 (nI ch)) 12 (nI 0)), R, n, z)) := by
  have hM' := hM
  obtain ⟨m0, ⟨s1, s2, s3⟩, ⟨b1, b2, b3⟩, -, ⟨p1, p2, p3⟩, -⟩ := hM
  generalize hI0 : va_up I u (va_up (I u) 4 (nI ch)) = I0
  have hs0 : I0 (u + 1) = I (u + 1) := by rw [← hI0, qa_up_n _ _ (by omega)]
  have hp0 : I0 (u + 4) = I (u + 4) := by rw [← hI0, qa_up_n _ _ (by omega)]
  have hb0 : I0 (u + 2) = I (u + 2) := by rw [← hI0, qa_up_n _ _ (by omega)]
  have hu0 : I0 u = va_up (I u) 4 (nI ch) := by rw [← hI0, qa_up_s]
  have hc0 : I0 u 4 = nI ch := by rw [hu0, qa_up_s]
  have loop : ∀ j k, k + j = 127 → qa_run (d + 2) 233 21 [qa_a (some u), qa_i (nI k)] [] [] (K, va_up I0 (u + 1) (qf_tk (127 * ch) k (I0 (u + 4)) (I0 (u + 1))), R, n, z) = some (some (qa_i (nI ch)), (K, va_up (va_up (va_up I0 (u + 1) (qf_tk (127 * ch) 127 (I0 (u + 4)) (I0 (u + 1)))) (u + 2) (qf_cpy 127 (qf_tk (127 * ch) 127 (I0 (u + 4)) (I0 (u + 1))) (I0 (u + 2)))) u (va_up (I0 u) 12 (nI 0)), R, n, z)) := by
    intro j
    induction j with
    | zero =>
      intro k hk
      have hk : k = 127 := by omega
      subst hk
      have e1 := qs_MO_rebases (d := d) (I := va_up I0 (u + 1) (qf_tk (127 * ch) 127 (I0 (u + 4)) (I0 (u + 1)))) (n := n) (z := z) hM'
      rw [qr_233_21]
      simp only [qa_up_s, qa_up_n _ _ (show u + 2 ≠ u + 1 by omega), qa_up_n _ _ (show u ≠ u + 1 by omega)] at e1
      simp (disch := first | assumption | omega | exact Or.inl rfl | exact Or.inr rfl | exact qb_01) only [qr_233_0, qr_233_1, qr_233_4, qr_233_7, qr_233_8, qr_233_9, qr_233_10, qr_233_11, qr_233_14, qr_233_15, qr_233_16, qr_233_19, qr_233_20, qr_233_22, qr_233_24, qr_233_27, qr_233_28, qr_233_31, qr_233_32, qr_233_33, qr_233_36, qr_233_38, qr_233_39, qr_233_42, qr_233_43, qr_233_44, qr_233_45, qr_233_46, qr_233_47, qr_233_50, qr_233_53, qr_233_54, qr_233_57, qr_233_58, qr_233_61, true_and, and_true, false_and, and_false, Option.bind_some, Option.toList_some, Option.toList_none, List.nil_append, List.cons_append, if_true, if_false, ite_true, ite_false, not_true_eq_false, not_false_eq_true, qn_lt0, qn_ge0, qn_lt, qn_le, qn_eq, qn_e0, qn_gt0, qn_le0, qn_m1, nI_add, pk_mul, qb_e0, Classical.not_not, e1, qa_up_s, qa_up_n, qa_uu, Nat.le_refl, hc0]
    | succ j ih =>
      intro k hk
      have e2 := ih (k + 1) (by omega)
      rw [← qf_tk_s] at e2
      have e1 : ¬ 127 ≤ k := by omega
      rw [qr_233_21]
      simp (disch := first | assumption | omega | exact Or.inl rfl | exact Or.inr rfl | exact qb_01) only [qr_233_0, qr_233_1, qr_233_4, qr_233_7, qr_233_8, qr_233_9, qr_233_10, qr_233_11, qr_233_14, qr_233_15, qr_233_16, qr_233_19, qr_233_20, qr_233_22, qr_233_24, qr_233_27, qr_233_28, qr_233_31, qr_233_32, qr_233_33, qr_233_36, qr_233_38, qr_233_39, qr_233_42, qr_233_43, qr_233_44, qr_233_45, qr_233_46, qr_233_47, qr_233_50, qr_233_53, qr_233_54, qr_233_57, qr_233_58, qr_233_61, true_and, and_true, false_and, and_false, Option.bind_some, Option.toList_some, Option.toList_none, List.nil_append, List.cons_append, if_true, if_false, ite_true, ite_false, not_true_eq_false, not_false_eq_true, qn_lt0, qn_ge0, qn_lt, qn_le, qn_eq, qn_e0, qn_gt0, qn_le0, qn_m1, nI_add, pk_mul, qb_e0, Classical.not_not, qa_up_s, qa_up_n, qa_uu, s3, p3, hc0, e1, e2]
  have h0 := loop 127 0 (by omega)
  rw [qf_tk_0, qa_uI] at h0
  have hne : ¬ ch + 1 = 0 := by omega
  have hsub : nI (ch + 1) - nI 1 = nI ch := qn_sub (by omega)
  simp (disch := first | assumption | omega | exact Or.inl rfl | exact Or.inr rfl | exact qb_01) only [qe_233, qr_233_0, qr_233_1, qr_233_4, qr_233_7, qr_233_8, qr_233_9, qr_233_10, qr_233_11, qr_233_14, qr_233_15, qr_233_16, qr_233_19, qr_233_20, qr_233_22, qr_233_24, qr_233_27, qr_233_28, qr_233_31, qr_233_32, qr_233_33, qr_233_36, qr_233_38, qr_233_39, qr_233_42, qr_233_43, qr_233_44, qr_233_45, qr_233_46, qr_233_47, qr_233_50, qr_233_53, qr_233_54, qr_233_57, qr_233_58, qr_233_61, true_and, and_true, false_and, and_false, Option.bind_some, Option.toList_some, Option.toList_none, List.nil_append, List.cons_append, if_true, if_false, ite_true, ite_false, not_true_eq_false, not_false_eq_true, qn_lt0, qn_ge0, qn_lt, qn_le, qn_eq, qn_e0, qn_gt0, qn_le0, qn_m1, nI_add, pk_mul, qb_e0, Classical.not_not, hc, hne, hsub, hI0, h0]
  rw [hs0, hp0, hb0, hu0]
  rw [← hI0]
  have hfin : ∀ f1 f2 f3 : Nat → Int32, va_up (va_up (va_up (va_up I u (va_up (I u) 4 (nI ch))) (u + 1) f1) (u + 2) f2) u f3 = va_up (va_up (va_up I (u + 1) f1) (u + 2) f2) u f3 := by
    intro f1 f2 f3
    funext q
    by_cases h1 : q = u
    · subst h1
      rw [qa_up_s, qa_up_s]
    · rw [qa_up_n _ _ h1, qa_up_n _ _ h1]
      by_cases h2 : q = u + 2
      · subst h2
        rw [qa_up_s, qa_up_s]
      · rw [qa_up_n _ _ h2, qa_up_n _ _ h2]
        by_cases h3 : q = u + 1
        · subst h3
          rw [qa_up_s, qa_up_s]
        · rw [qa_up_n _ _ h3, qa_up_n _ _ h3, qa_up_n _ _ h1]
  rw [hfin]
end Q39
