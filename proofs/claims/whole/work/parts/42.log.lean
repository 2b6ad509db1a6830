/-! The model's log. -/
/-- nothing stands behind the row -/
def qv_Z (f : Nat → Int32) : Prop := ∀ i, 127 ≤ i → f i = 0
theorem qf_cpy_Z {f g : Nat → Int32} (hf : qv_Z f) (hg : qv_Z g) : qf_cpy 127 f g = f := by
  funext i
  unfold qf_cpy
  by_cases h : i < 127
  · rw [if_pos h]
  · rw [if_neg h, hf i (by omega), hg i (by omega)]
theorem qv_Z_up {f : Nat → Int32} {a : Nat} {x : Int32} (hf : qv_Z f) (ha : a < 127) : qv_Z (va_up f a x) := fun i hi => by
  rw [qa_up_n _ _ (by omega)]
  exact hf i hi
theorem qv_Z_put {f g : Nat → Int32} {k : Nat} (hf : qv_Z f) (hk : k < 10) : qv_Z (qs_put f k g) := fun i hi => by
  rw [qs_put_ne (by omega)]
  exact hf i hi
theorem qv_Z_pas {s : Nat → Int32} (h : qv_Z s) : ∀ {k : Nat}, k ≤ 10 → qv_Z (qF_pas s k) := by
  intro k
  induction k with
  | zero => intro _; exact qv_Z_up h (by omega)
  | succ k ih => intro hk; exact qv_Z_put (ih (by omega)) (by omega)
theorem qv_Z_an1 {s : Nat → Int32} {r o : Nat} {rq mb : Int32} (h : qv_Z s) (ho : o < 10) : qv_Z (qF_an1 r rq mb s o) := fun i hi => by
  rw [qF_an1_n (Or.inr (Or.inl (by omega))) ho]
  exact h i hi
theorem qv_Z_step {nk ni e r : Nat} {pm : Nat → Nat} {T : Nat → qt_T} {fs : Nat → Nat} {s : Nat → Int32} (h : qv_Z s) (h10 : nk ≤ 10) (h12 : ni ≤ 12) (he : e ≤ ni) (hf : ∀ i, i < ni → fs i < nk) : qv_Z (qF_step nk pm T fs e r s) := by
  unfold qF_step
  by_cases h0 : e = 0
  · rw [if_pos h0]; exact qv_Z_pas h h10
  · rw [if_neg h0]
    have hfi := hf (e - 1) (by omega)
    unfold qF_ans qF_cnt
    refine qv_Z_up (qv_Z_up (fun i hi => ?_) ?_) (by omega)
    · rw [qF_anl_n (Or.inr (Or.inl (by omega))) h10]
      exact qv_Z_put h (by omega) i hi
    · by_cases c : r = 1
      · rw [if_pos c]; omega
      · rw [if_neg c]; omega
/-- k places moved to the front by one -/
def qf_s1 (k : Nat) (f : Nat → Int32) : Nat → Int32 := fun i => if i + 1 < k then f (i + 1) else f i
theorem qf_s1_1 {f : Nat → Int32} : qf_s1 1 f = f := by
  funext i
  unfold qf_s1
  rw [if_neg (by omega)]
theorem qf_s1_s {k : Nat} {f : Nat → Int32} (hk : 1 ≤ k) : va_up (qf_s1 k f) (k - 1) (qf_s1 k f k) = qf_s1 (k + 1) f := by
  funext i
  unfold va_up qf_s1
  rw [if_neg (show ¬ k + 1 < k by omega)]
  by_cases e : i = k - 1
  · rw [if_pos e, if_pos (by omega), show i + 1 = k by omega]
  · rw [if_neg e]
    by_cases h : i + 1 < k
    · rw [if_pos h, if_pos (by omega)]
    · rw [if_neg h, if_neg (by omega)]
section Q42
variable {d a b f : Nat} {K : Nat → Nat × Nat} {I : Nat → Nat → Int32} {R : Nat → Nat → Option Nat} {n z : Nat} {x y : Int32} {h : qa_H} {u nk ni k i j m B p q c e g : Nat} {l r : List Nat} {T : Nat → qt_T} {pm fs hd : Nat → Nat}
theorem qs_MO_logs (hM : qp_MO K R u) (hg : I u 12 = nI g) (h60 : g < 60) : qa_ex (d + 17) 181 [qa_a (some u), qa_i x, qa_i y] (K, I, R, n, z) = some (none, (K, va_up (va_up (va_up I (u + 9) (va_up (I (u + 9)) g x)) (u + 10) (va_up (I (u + 10)) g y)) u (va_up (I u) 12 (nI (g + 1))), R, n, z)) := by
  obtain ⟨m0, -, -, -, -, -, -, -, -, ⟨l1, l2, l3⟩, ⟨r1, r2, r3⟩, -⟩ := hM
  have e1 : ¬ g = 60 := by omega
  simp (disch := first | assumption | omega | exact Or.inl rfl | exact Or.inr rfl | exact qb_01) only [qe_181, qr_181_0, qr_181_1, qr_181_4, qr_181_6, qr_181_9, qr_181_10, qr_181_13, qr_181_14, qr_181_17, qr_181_19, qr_181_22, qr_181_23, qr_181_26, qr_181_27, qr_181_30, qr_181_32, qr_181_35, qr_181_36, qr_181_37, qr_181_40, qr_181_41, qr_181_42, qr_181_43, qr_181_46, qr_181_47, qr_181_48, qr_181_51, qr_181_52, qr_181_55, qr_181_56, qr_181_59, qr_181_61, qr_181_64, qr_181_65, qr_181_68, qr_181_69, qr_181_72, qr_181_74, qr_181_77, qr_181_78, qr_181_80, qr_181_82, qr_181_85, qr_181_86, qr_181_89, qr_181_90, qr_181_91, qr_181_92, qr_181_93, qr_181_96, qr_181_97, qr_181_98, qr_181_99, qr_181_100, qr_181_103, qr_181_104, qr_181_105, qr_181_106, qr_181_107, qr_181_110, qr_181_111, qr_181_112, qr_181_113, qr_181_116, qr_181_119, qr_181_120, qr_181_121, qr_181_124, qr_181_125, qr_181_126, qr_181_129, qr_181_130, qr_181_133, qr_181_134, qr_181_137, qr_181_138, qr_181_139, qr_181_140, qr_181_143, qr_181_144, qr_181_147, qr_181_148, qr_181_149, qr_181_150, qr_181_151, qr_181_154, qr_181_155, qr_181_156, qr_181_159, true_and, and_true, false_and, and_false, Option.bind_some, Option.toList_some, Option.toList_none, List.nil_append, List.cons_append, if_true, if_false, ite_true, ite_false, not_true_eq_false, not_false_eq_true, qn_lt0, qn_ge0, qn_lt, qn_le, qn_eq, qn_e0, qn_gt0, qn_le0, qn_m1, nI_add, pk_mul, qb_e0, Classical.not_not, qa_up_s, qa_up_n, qa_uu, hg, e1, l3, r3]
theorem qm_log2 (hM : qp_MO K R u) {I : Nat → Nat → Int32} {lg lr : Nat → Int32} (hg : I u 12 = nI 60) {I9 : Nat → Nat → Int32} (hI9 : I9 = va_up (va_up (va_up I (u + 9) (va_up (qf_s1 60 lg) 59 x)) (u + 10) (va_up (qf_s1 60 lr) 59 y)) u (va_up (I u) 12 (nI 60))) : ∀ j k, k + j = 60 → 1 ≤ k → qa_run (d + 16) 181 79 [qa_a (some u), qa_i x, qa_i y, qa_i (nI k)] [] [] (K, va_up (va_up I (u + 9) (qf_s1 k lg)) (u + 10) (qf_s1 k lr), R, n, z) = some (none, (K, I9, R, n, z)) := by
  obtain ⟨m0, -, -, -, -, -, -, -, -, ⟨l1, l2, l3⟩, ⟨r1, r2, r3⟩, -⟩ := hM
  have hcomm : ∀ (J : Nat → Nat → Int32) (f1 f2 f3 : Nat → Int32), va_up (va_up (va_up J (u + 9) f1) (u + 10) f2) (u + 9) f3 = va_up (va_up J (u + 9) f3) (u + 10) f2 := by
    intro J f1 f2 f3
    rw [va_up_c (by omega), qa_uu]
  intro j
  induction j with
  | zero =>
    intro k hk h1
    have hk : k = 60 := by omega
    subst hk
    have hsub : nI 60 - nI 1 = nI 59 := qn_sub (by omega)
    have hcu : ∀ (J : Nat → Nat → Int32) (f1 f2 f3 : Nat → Int32), va_up (va_up (va_up J u f1) (u + 9) f2) u f3 = va_up (va_up J (u + 9) f2) u f3 := by
      intro J f1 f2 f3
      rw [va_up_c (f := J) (by omega), qa_uu]
    rw [qr_181_79]
    simp (disch := first | assumption | omega | exact Or.inl rfl | exact Or.inr rfl | exact qb_01) only [qr_181_0, qr_181_1, qr_181_4, qr_181_6, qr_181_9, qr_181_10, qr_181_13, qr_181_14, qr_181_17, qr_181_19, qr_181_22, qr_181_23, qr_181_26, qr_181_27, qr_181_30, qr_181_32, qr_181_35, qr_181_36, qr_181_37, qr_181_40, qr_181_41, qr_181_42, qr_181_43, qr_181_46, qr_181_47, qr_181_48, qr_181_51, qr_181_52, qr_181_55, qr_181_56, qr_181_59, qr_181_61, qr_181_64, qr_181_65, qr_181_68, qr_181_69, qr_181_72, qr_181_74, qr_181_77, qr_181_78, qr_181_80, qr_181_82, qr_181_85, qr_181_86, qr_181_89, qr_181_90, qr_181_91, qr_181_92, qr_181_93, qr_181_96, qr_181_97, qr_181_98, qr_181_99, qr_181_100, qr_181_103, qr_181_104, qr_181_105, qr_181_106, qr_181_107, qr_181_110, qr_181_111, qr_181_112, qr_181_113, qr_181_116, qr_181_119, qr_181_120, qr_181_121, qr_181_124, qr_181_125, qr_181_126, qr_181_129, qr_181_130, qr_181_133, qr_181_134, qr_181_137, qr_181_138, qr_181_139, qr_181_140, qr_181_143, qr_181_144, qr_181_147, qr_181_148, qr_181_149, qr_181_150, qr_181_151, qr_181_154, qr_181_155, qr_181_156, qr_181_159, true_and, and_true, false_and, and_false, Option.bind_some, Option.toList_some, Option.toList_none, List.nil_append, List.cons_append, if_true, if_false, ite_true, ite_false, not_true_eq_false, not_false_eq_true, qn_lt0, qn_ge0, qn_lt, qn_le, qn_eq, qn_e0, qn_gt0, qn_le0, qn_m1, nI_add, pk_mul, qb_e0, Classical.not_not, qa_up_s, qa_up_n, qa_uu, Nat.le_refl, hg, hsub, l3, r3]
    rw [hI9]
    refine congrArg some ?_
    congr 1
    congr 1
    congr 1
    funext q
    unfold va_up
    by_cases h1 : q = u
    · simp [h1]
    · by_cases h2 : q = u + 10
      · subst h2; simp
      · by_cases h3 : q = u + 9
        · subst h3; simp
        · simp [h1, h2, h3]
  | succ j ih =>
    intro k hk h1
    have e2 := ih (k + 1) (by omega) (by omega)
    rw [← qf_s1_s h1, ← qf_s1_s h1] at e2
    have e1 : ¬ 60 ≤ k := by omega
    have hsub : nI k - nI 1 = nI (k - 1) := qn_sub h1
    rw [qr_181_79]
    simp (disch := first | assumption | omega | exact Or.inl rfl | exact Or.inr rfl | exact qb_01) only [qr_181_0, qr_181_1, qr_181_4, qr_181_6, qr_181_9, qr_181_10, qr_181_13, qr_181_14, qr_181_17, qr_181_19, qr_181_22, qr_181_23, qr_181_26, qr_181_27, qr_181_30, qr_181_32, qr_181_35, qr_181_36, qr_181_37, qr_181_40, qr_181_41, qr_181_42, qr_181_43, qr_181_46, qr_181_47, qr_181_48, qr_181_51, qr_181_52, qr_181_55, qr_181_56, qr_181_59, qr_181_61, qr_181_64, qr_181_65, qr_181_68, qr_181_69, qr_181_72, qr_181_74, qr_181_77, qr_181_78, qr_181_80, qr_181_82, qr_181_85, qr_181_86, qr_181_89, qr_181_90, qr_181_91, qr_181_92, qr_181_93, qr_181_96, qr_181_97, qr_181_98, qr_181_99, qr_181_100, qr_181_103, qr_181_104, qr_181_105, qr_181_106, qr_181_107, qr_181_110, qr_181_111, qr_181_112, qr_181_113, qr_181_116, qr_181_119, qr_181_120, qr_181_121, qr_181_124, qr_181_125, qr_181_126, qr_181_129, qr_181_130, qr_181_133, qr_181_134, qr_181_137, qr_181_138, qr_181_139, qr_181_140, qr_181_143, qr_181_144, qr_181_147, qr_181_148, qr_181_149, qr_181_150, qr_181_151, qr_181_154, qr_181_155, qr_181_156, qr_181_159, true_and, and_true, false_and, and_false, Option.bind_some, Option.toList_some, Option.toList_none, List.nil_append, List.cons_append, if_true, if_false, ite_true, ite_false, not_true_eq_false, not_false_eq_true, qn_lt0, qn_ge0, qn_lt, qn_le, qn_eq, qn_e0, qn_gt0, qn_le0, qn_m1, nI_add, pk_mul, qb_e0, Classical.not_not, qa_up_s, qa_up_n, qa_uu, l3, r3, hsub, e1, hcomm, e2]
end Q42
