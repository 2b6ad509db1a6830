/-! Clearing: a Progress, the model. The pieces of text, explanation, course. -/
theorem qp_PS_eq {I : Nat → Nat → Int32} {p : Nat} {s t : Nat → Int32} (h : qp_PS I p s) (he : ∀ i, i < 127 → s i = t i) : qp_PS I p t := by
  obtain ⟨h1, h2, h3⟩ := h
  refine ⟨h1.trans (he 0 (by omega)), fun k j hk hj => (h2 k j hk hj).trans (he _ (by omega)), fun i hi => ?_⟩
  obtain ⟨a1, a2, a3⟩ := h3 i hi
  exact ⟨a1.trans (he _ (by omega)), a2.trans (he _ (by omega)), a3.trans (he _ (by omega))⟩
theorem qF_zer_s {k j : Nat} (hk : k < 10) (hj : j < 9) : qF_zer (1 + 9 * k + j) = qf_zer j := by
  unfold qF_zer
  rw [if_neg (by omega), if_pos (by omega), show (1 + 9 * k + j - 1) % 9 = j by omega]
theorem qF_zer_i {i w : Nat} (hw : w < 3) : qF_zer (91 + 3 * i + w) = if w = 2 then (-1) else nI 0 := by
  unfold qF_zer
  rw [if_neg (by omega), if_neg (by omega), show (91 + 3 * i + w - 91) % 3 = w by omega]
def qm_z2 (f : Nat → Int32) : Nat → Nat → Int32
  | 0 => f
  | k + 1 => va_up (va_up (va_up (qm_z2 f k) (1 + 9 * k + 2) (nI 1)) (1 + 9 * k + 3) (-1)) (1 + 9 * k + 4) (-1)
def qm_z3 (f : Nat → Int32) : Nat → Nat → Int32
  | 0 => f
  | k + 1 => va_up (qm_z3 f k) (91 + 3 * k + 2) (-1)
theorem va_up_g {f g : Nat → Int32} {a i : Nat} {x : Int32} (h : f i = g i) : va_up f a x i = va_up g a x i := by
  unfold va_up
  rw [h]
theorem qm_z2_g {f g : Nat → Int32} {i : Nat} (h : f i = g i) : ∀ k, qm_z2 f k i = qm_z2 g k i
  | 0 => h
  | k + 1 => va_up_g (va_up_g (va_up_g (qm_z2_g h k)))
theorem qm_z3_g {f g : Nat → Int32} {i : Nat} (h : f i = g i) : ∀ k, qm_z3 f k i = qm_z3 g k i
  | 0 => h
  | k + 1 => va_up_g (qm_z3_g h k)
theorem qm_z_all : ∀ i, i < 127 → qm_z3 (qm_z2 (fun _ => nI 0) 10) 12 i = qF_zer i := by decide +kernel
theorem qm_z_at {f : Nat → Int32} {i : Nat} (hi : i < 127) : qm_z3 (qm_z2 (qf_cpy 127 (fun _ => nI 0) f) 10) 12 i = qF_zer i := by
  rw [← qm_z_all i hi]
  exact qm_z3_g (qm_z2_g (if_pos hi) 10) 12
theorem qv_Z_z2 {f : Nat → Int32} (h : qv_Z f) : ∀ {k : Nat}, k ≤ 10 → qv_Z (qm_z2 f k) := by
  intro k
  induction k with
  | zero => intro _; exact h
  | succ k ih => intro hk; exact qv_Z_up (qv_Z_up (qv_Z_up (ih (by omega)) (by omega)) (by omega)) (by omega)
theorem qv_Z_z3 {f : Nat → Int32} (h : qv_Z f) : ∀ {k : Nat}, k ≤ 12 → qv_Z (qm_z3 f k) := by
  intro k
  induction k with
  | zero => intro _; exact h
  | succ k ih => intro hk; exact qv_Z_up (ih (by omega)) (by omega)
theorem qv_Z_cpy {f g : Nat → Int32} (hg : qv_Z g) : qv_Z (qf_cpy 127 f g) := fun i hi => (if_neg (by omega)).trans (hg i hi)
section Q46
variable {d a b f : Nat} {K : Nat → Nat × Nat} {I : Nat → Nat → Int32} {R : Nat → Nat → Option Nat} {n z : Nat} {x y : Int32} {h : qa_H} {u nk ni k i j m B p q c e g w v r lv : Nat} {s bs : Nat → Int32} {T : Nat → qt_T} {pm fs hd el er : Nat → Nat}
theorem qs_PR_clear (hP : qp_PR K R p c) : ∃ I', qa_ex (d + 2) 12 [qa_a (some p)] (K, I, R, n, z) = some (none, (K, I', R, n, z)) ∧ qz_fr p 16 I I' ∧ qp_PS I' p qF_zer := by
  obtain ⟨p0, p1, p2, p3, p4, p5, p6, p7, p8, p9, r0, r1, r2, r3, r4, r5, hs⟩ := hP
  have loop2 : ∀ m i, i + m = 12 → ∀ I0, qz_fr p 16 I I0 → I0 p 6 = nI 0 → (∀ k j, k < 10 → j < 9 → I0 (p + 6 + k) j = qf_zer j) → (∀ i', i' < i → I0 (p + 2) i' = nI 0 ∧ I0 (p + 3) i' = nI 0 ∧ I0 (p + 4) i' = (-1)) → ∃ I', qa_run (d + 1) 12 30 [qa_a (some p), qa_i (nI i)] [] [] (K, I0, R, n, z) = some (none, (K, I', R, n, z)) ∧ qz_fr p 16 I I' ∧ qp_PS I' p qF_zer := by
    intro m
    induction m with
    | zero =>
      intro i hi I0 h0 h1 h2 h3
      have hi : i = 12 := by omega
      subst hi
      refine ⟨I0, ?_, h0, ?_, fun k j hk hj => ?_, fun i hi => ?_⟩
      · rw [qr_12_30]
        simp (disch := first | assumption | omega | exact Or.inl rfl | exact Or.inr rfl | exact qb_01) only [qr_12_0, qr_12_1, qr_12_2, qr_12_5, qr_12_6, qr_12_8, qr_12_10, qr_12_13, qr_12_14, qr_12_17, qr_12_18, qr_12_19, qr_12_22, qr_12_25, qr_12_28, qr_12_29, qr_12_31, qr_12_33, qr_12_36, qr_12_37, qr_12_40, qr_12_41, qr_12_42, qr_12_43, qr_12_44, qr_12_47, qr_12_48, qr_12_49, qr_12_50, qr_12_51, qr_12_54, qr_12_55, qr_12_56, qr_12_57, qr_12_60, qr_12_63, true_and, and_true, false_and, and_false, Option.bind_some, Option.toList_some, Option.toList_none, List.nil_append, List.cons_append, if_true, if_false, ite_true, ite_false, not_true_eq_false, not_false_eq_true, qn_lt0, qn_ge0, qn_lt, qn_le, qn_eq, qn_e0, qn_gt0, qn_le0, qn_m1, nI_add, pk_mul, qb_e0, Classical.not_not, Nat.le_refl]
      · exact h1
      · rw [h2 k j hk hj, qF_zer_s hk hj]
      · obtain ⟨g1, g2, g3⟩ := h3 i hi
        rw [g1, g2, g3]
        have z0 := qF_zer_i (i := i) (w := 0) (by omega)
        have z1 := qF_zer_i (i := i) (w := 1) (by omega)
        have z2 := qF_zer_i (i := i) (w := 2) (by omega)
        rw [show 91 + 3 * i + 0 = 91 + 3 * i by omega] at z0
        rw [show 91 + 3 * i + 1 = 92 + 3 * i by omega] at z1
        rw [show 91 + 3 * i + 2 = 93 + 3 * i by omega] at z2
        exact ⟨z0.symm, z1.symm, z2.symm⟩
    | succ m ih =>
      intro i hi I0 h0 h1 h2 h3
      have e1 : ¬ 12 ≤ i := by omega
      obtain ⟨I1, hI1⟩ : ∃ I1, I1 = va_up (va_up (va_up I0 (p + 2) (va_up (I0 (p + 2)) i (nI 0))) (p + 3) (va_up (I0 (p + 3)) i (nI 0))) (p + 4) (va_up (I0 (p + 4)) i (-1)) := ⟨_, rfl⟩
      have k4 : I1 (p + 4) = va_up (I0 (p + 4)) i (-1) := by rw [hI1, qa_up_s]
      have k3 : I1 (p + 3) = va_up (I0 (p + 3)) i (nI 0) := by rw [hI1, qa_up_n _ _ (by omega), qa_up_s]
      have k2 : I1 (p + 2) = va_up (I0 (p + 2)) i (nI 0) := by rw [hI1, qa_up_n _ _ (by omega), qa_up_n _ _ (by omega), qa_up_s]
      have ko : ∀ a, a ≠ p + 2 → a ≠ p + 3 → a ≠ p + 4 → I1 a = I0 a := fun a h1 h2 h3 => by rw [hI1, qa_up_n _ _ h3, qa_up_n _ _ h2, qa_up_n _ _ h1]
      obtain ⟨I2, c1, c2, c3⟩ := ih (i + 1) (by omega) I1 (fun a ha => (ko a (by omega) (by omega) (by omega)).trans (h0 a ha)) (by rw [ko p (by omega) (by omega) (by omega)]; exact h1) (fun k j hk hj => by rw [ko _ (by omega) (by omega) (by omega)]; exact h2 k j hk hj) (fun i' hi' => by
        rw [k2, k3, k4]
        by_cases he : i' = i
        · subst he
          rw [qa_up_s, qa_up_s, qa_up_s]
          exact ⟨rfl, rfl, rfl⟩
        · rw [qa_up_n _ _ he, qa_up_n _ _ he, qa_up_n _ _ he]
          exact h3 i' (by omega))
      refine ⟨I2, ?_, c2, c3⟩
      rw [qr_12_30]
      simp (disch := first | assumption | omega | exact Or.inl rfl | exact Or.inr rfl | exact qb_01) only [qr_12_0, qr_12_1, qr_12_2, qr_12_5, qr_12_6, qr_12_8, qr_12_10, qr_12_13, qr_12_14, qr_12_17, qr_12_18, qr_12_19, qr_12_22, qr_12_25, qr_12_28, qr_12_29, qr_12_31, qr_12_33, qr_12_36, qr_12_37, qr_12_40, qr_12_41, qr_12_42, qr_12_43, qr_12_44, qr_12_47, qr_12_48, qr_12_49, qr_12_50, qr_12_51, qr_12_54, qr_12_55, qr_12_56, qr_12_57, qr_12_60, qr_12_63, true_and, and_true, false_and, and_false, Option.bind_some, Option.toList_some, Option.toList_none, List.nil_append, List.cons_append, if_true, if_false, ite_true, ite_false, not_true_eq_false, not_false_eq_true, qn_lt0, qn_ge0, qn_lt, qn_le, qn_eq, qn_e0, qn_gt0, qn_le0, qn_m1, nI_add, pk_mul, qb_e0, Classical.not_not, qa_up_s, qa_up_n, qa_uu, r2, r3, r4, e1]
      rw [hI1] at c1
      exact c1
  have loop1 : ∀ m k, k + m = 10 → ∀ I0, qz_fr p 16 I I0 → I0 p 6 = nI 0 → (∀ k' j, k' < k → j < 9 → I0 (p + 6 + k') j = qf_zer j) → ∃ I', qa_run (d + 1) 12 7 [qa_a (some p), qa_i (nI k)] [] [] (K, I0, R, n, z) = some (none, (K, I', R, n, z)) ∧ qz_fr p 16 I I' ∧ qp_PS I' p qF_zer := by
    intro m
    induction m with
    | zero =>
      intro k hk I0 h0 h1 h2
      have hk : k = 10 := by omega
      subst hk
      obtain ⟨I2, c1, c2, c3⟩ := loop2 12 0 (by omega) I0 h0 h1 h2 (fun i' hi' => absurd hi' (by omega))
      refine ⟨I2, ?_, c2, c3⟩
      rw [qr_12_7]
      simp (disch := first | assumption | omega | exact Or.inl rfl | exact Or.inr rfl | exact qb_01) only [qr_12_0, qr_12_1, qr_12_2, qr_12_5, qr_12_6, qr_12_8, qr_12_10, qr_12_13, qr_12_14, qr_12_17, qr_12_18, qr_12_19, qr_12_22, qr_12_25, qr_12_28, qr_12_29, qr_12_31, qr_12_33, qr_12_36, qr_12_37, qr_12_40, qr_12_41, qr_12_42, qr_12_43, qr_12_44, qr_12_47, qr_12_48, qr_12_49, qr_12_50, qr_12_51, qr_12_54, qr_12_55, qr_12_56, qr_12_57, qr_12_60, qr_12_63, true_and, and_true, false_and, and_false, Option.bind_some, Option.toList_some, Option.toList_none, List.nil_append, List.cons_append, if_true, if_false, ite_true, ite_false, not_true_eq_false, not_false_eq_true, qn_lt0, qn_ge0, qn_lt, qn_le, qn_eq, qn_e0, qn_gt0, qn_le0, qn_m1, nI_add, pk_mul, qb_e0, Classical.not_not, Nat.le_refl]
      exact c1
    | succ m ih =>
      intro k hk I0 h0 h1 h2
      have e1 : ¬ 10 ≤ k := by omega
      obtain ⟨s1, s2⟩ := hs k (by omega)
      obtain ⟨f, f1, f2⟩ := qs_SS_clear (d := d) (I := I0) (R := R) (n := n) (z := z) s1
      obtain ⟨I2, c1, c2, c3⟩ := ih (k + 1) (by omega) (va_up I0 (p + 6 + k) f) (qz_fr_t h0 (qz_fr_u (by omega) (by omega))) (by rw [qa_up_n _ _ (by omega)]; exact h1) (fun k' j hk' hj => by
        by_cases he : k' = k
        · subst he
          rw [qa_up_s]; exact f2 j hj
        · rw [qa_up_n _ _ (by omega)]
          exact h2 k' j (by omega) hj)
      refine ⟨I2, ?_, c2, c3⟩
      rw [qr_12_7]
      simp (disch := first | assumption | omega | exact Or.inl rfl | exact Or.inr rfl | exact qb_01) only [qr_12_0, qr_12_1, qr_12_2, qr_12_5, qr_12_6, qr_12_8, qr_12_10, qr_12_13, qr_12_14, qr_12_17, qr_12_18, qr_12_19, qr_12_22, qr_12_25, qr_12_28, qr_12_29, qr_12_31, qr_12_33, qr_12_36, qr_12_37, qr_12_40, qr_12_41, qr_12_42, qr_12_43, qr_12_44, qr_12_47, qr_12_48, qr_12_49, qr_12_50, qr_12_51, qr_12_54, qr_12_55, qr_12_56, qr_12_57, qr_12_60, qr_12_63, true_and, and_true, false_and, and_false, Option.bind_some, Option.toList_some, Option.toList_none, List.nil_append, List.cons_append, if_true, if_false, ite_true, ite_false, not_true_eq_false, not_false_eq_true, qn_lt0, qn_ge0, qn_lt, qn_le, qn_eq, qn_e0, qn_gt0, qn_le0, qn_m1, nI_add, pk_mul, qb_e0, Classical.not_not, qa_up_s, qa_up_n, qa_uu, r1, s2, f1, e1]
      exact c1
  obtain ⟨I2, c1, c2, c3⟩ := loop1 10 0 (by omega) (va_up I p (va_up (I p) 6 (nI 0))) (qz_fr_u (by omega) (by omega)) (by rw [qa_up_s, qa_up_s]) (fun k' j hk' => absurd hk' (by omega))
  refine ⟨I2, ?_, c2, c3⟩
  simp (disch := first | assumption | omega | exact Or.inl rfl | exact Or.inr rfl | exact qb_01) only [qe_12, qr_12_0, qr_12_1, qr_12_2, qr_12_5, qr_12_6, qr_12_8, qr_12_10, qr_12_13, qr_12_14, qr_12_17, qr_12_18, qr_12_19, qr_12_22, qr_12_25, qr_12_28, qr_12_29, qr_12_31, qr_12_33, qr_12_36, qr_12_37, qr_12_40, qr_12_41, qr_12_42, qr_12_43, qr_12_44, qr_12_47, qr_12_48, qr_12_49, qr_12_50, qr_12_51, qr_12_54, qr_12_55, qr_12_56, qr_12_57, qr_12_60, qr_12_63, true_and, and_true, false_and, and_false, Option.bind_some, Option.toList_some, Option.toList_none, List.nil_append, List.cons_append, if_true, if_false, ite_true, ite_false, not_true_eq_false, not_false_eq_true, qn_lt0, qn_ge0, qn_lt, qn_le, qn_eq, qn_e0, qn_gt0, qn_le0, qn_m1, nI_add, pk_mul, qb_e0, Classical.not_not, qa_up_s, qa_up_n, qa_uu]
  exact c1
theorem qs_MO_begins (hM : qp_MO K R u) (hZ : qv_Z (I (u + 1))) (hZ2 : qv_Z (I (u + 2))) : ∃ t, qv_Z t ∧ (∀ i, i < 127 → t i = qF_zer i) ∧ qa_ex (d + 3) 159 [qa_a (some u)] (K, I, R, n, z) = some (none, (K, va_up (va_up (va_up (va_up I (u + 1) t) (u + 5) (va_up (I (u + 5)) 1 (nI 0))) (u + 2) t) u (va_up (va_up (I u) 4 (nI 0)) 12 (nI 0)), R, n, z)) := by
  have hM' := hM
  obtain ⟨m0, ⟨s1, s2, s3⟩, ⟨b1, b2, b3⟩, -, -, ⟨c1, c2, c3⟩, -⟩ := hM
  obtain ⟨t, ht⟩ : ∃ t, t = qm_z3 (qm_z2 (qf_cpy 127 (fun _ => nI 0) (I (u + 1))) 10) 12 := ⟨_, rfl⟩
  have hZt : qv_Z t := by rw [ht]; exact qv_Z_z3 (qv_Z_z2 (qv_Z_cpy hZ) (by omega)) (by omega)
  obtain ⟨IF, hIF⟩ : ∃ IF, IF = va_up (va_up (va_up (va_up I (u + 1) t) (u + 5) (va_up (I (u + 5)) 1 (nI 0))) (u + 2) t) u (va_up (va_up (I u) 4 (nI 0)) 12 (nI 0)) := ⟨_, rfl⟩
  have loop3 : ∀ m k, k + m = 12 → qa_run (d + 2) 159 70 [qa_a (some u), qa_i (nI k)] [] [] (K, va_up I (u + 1) (qm_z3 (qm_z2 (qf_cpy 127 (fun _ => nI 0) (I (u + 1))) 10) k), R, n, z) = some (none, (K, IF, R, n, z)) := by
    intro m
    induction m with
    | zero =>
      intro k hk
      have hk : k = 12 := by omega
      subst hk
      rw [← ht]
      have e1 := qs_MO_rebases (d := d) (n := n) (z := z) (I := va_up (va_up (va_up I (u + 1) t) (u + 5) (va_up (I (u + 5)) 1 (nI 0))) u (va_up (I u) 4 (nI 0))) hM'
      simp (disch := first | assumption | omega | exact Or.inl rfl | exact Or.inr rfl | exact qb_01) only [qa_up_s, qa_up_n] at e1
      rw [qf_cpy_Z hZt hZ2] at e1
      rw [qr_159_70]
      simp (disch := first | assumption | omega | exact Or.inl rfl | exact Or.inr rfl | exact qb_01) only [qr_159_0, qr_159_1, qr_159_3, qr_159_5, qr_159_8, qr_159_9, qr_159_12, qr_159_13, qr_159_14, qr_159_15, qr_159_18, qr_159_21, qr_159_22, qr_159_24, qr_159_26, qr_159_29, qr_159_30, qr_159_33, qr_159_34, qr_159_35, qr_159_38, qr_159_39, qr_159_40, qr_159_41, qr_159_44, qr_159_45, qr_159_46, qr_159_49, qr_159_50, qr_159_51, qr_159_52, qr_159_55, qr_159_56, qr_159_57, qr_159_60, qr_159_61, qr_159_62, qr_159_65, qr_159_68, qr_159_69, qr_159_71, qr_159_73, qr_159_76, qr_159_77, qr_159_80, qr_159_81, qr_159_82, qr_159_85, qr_159_86, qr_159_87, qr_159_90, qr_159_93, qr_159_94, qr_159_97, qr_159_98, qr_159_99, qr_159_100, qr_159_101, qr_159_102, qr_159_105, qr_159_106, qr_159_109, true_and, and_true, false_and, and_false, Option.bind_some, Option.toList_some, Option.toList_none, List.nil_append, List.cons_append, if_true, if_false, ite_true, ite_false, not_true_eq_false, not_false_eq_true, qn_lt0, qn_ge0, qn_lt, qn_le, qn_eq, qn_e0, qn_gt0, qn_le0, qn_m1, nI_add, pk_mul, qb_e0, Classical.not_not, qa_up_s, qa_up_n, qa_uu, Nat.le_refl, c3, e1]
      rw [hIF]
      refine congrArg (fun J => (some ((none : Option qa_V), ((K, J, R, n, z) : qa_H)))) ?_
      funext q
      unfold va_up
      repeat' split
      all_goals first | rfl | omega
    | succ m ih =>
      intro k hk
      have e1 : ¬ 12 ≤ k := by omega
      have e2 := ih (k + 1) (by omega)
      unfold qm_z3 at e2
      rw [qr_159_70]
      simp (disch := first | assumption | omega | exact Or.inl rfl | exact Or.inr rfl | exact qb_01) only [qr_159_0, qr_159_1, qr_159_3, qr_159_5, qr_159_8, qr_159_9, qr_159_12, qr_159_13, qr_159_14, qr_159_15, qr_159_18, qr_159_21, qr_159_22, qr_159_24, qr_159_26, qr_159_29, qr_159_30, qr_159_33, qr_159_34, qr_159_35, qr_159_38, qr_159_39, qr_159_40, qr_159_41, qr_159_44, qr_159_45, qr_159_46, qr_159_49, qr_159_50, qr_159_51, qr_159_52, qr_159_55, qr_159_56, qr_159_57, qr_159_60, qr_159_61, qr_159_62, qr_159_65, qr_159_68, qr_159_69, qr_159_71, qr_159_73, qr_159_76, qr_159_77, qr_159_80, qr_159_81, qr_159_82, qr_159_85, qr_159_86, qr_159_87, qr_159_90, qr_159_93, qr_159_94, qr_159_97, qr_159_98, qr_159_99, qr_159_100, qr_159_101, qr_159_102, qr_159_105, qr_159_106, qr_159_109, true_and, and_true, false_and, and_false, Option.bind_some, Option.toList_some, Option.toList_none, List.nil_append, List.cons_append, if_true, if_false, ite_true, ite_false, not_true_eq_false, not_false_eq_true, qn_lt0, qn_ge0, qn_lt, qn_le, qn_eq, qn_e0, qn_gt0, qn_le0, qn_m1, nI_add, pk_mul, qb_e0, Classical.not_not, qa_up_s, qa_up_n, qa_uu, s3, qs_MO_ofItem, e1]
      exact e2
  have loop2 : ∀ m k, k + m = 10 → qa_run (d + 2) 159 23 [qa_a (some u), qa_i (nI k)] [] [] (K, va_up I (u + 1) (qm_z2 (qf_cpy 127 (fun _ => nI 0) (I (u + 1))) k), R, n, z) = some (none, (K, IF, R, n, z)) := by
    intro m
    induction m with
    | zero =>
      intro k hk
      have hk : k = 10 := by omega
      subst hk
      rw [qr_159_23]
      simp (disch := first | assumption | omega | exact Or.inl rfl | exact Or.inr rfl | exact qb_01) only [qr_159_0, qr_159_1, qr_159_3, qr_159_5, qr_159_8, qr_159_9, qr_159_12, qr_159_13, qr_159_14, qr_159_15, qr_159_18, qr_159_21, qr_159_22, qr_159_24, qr_159_26, qr_159_29, qr_159_30, qr_159_33, qr_159_34, qr_159_35, qr_159_38, qr_159_39, qr_159_40, qr_159_41, qr_159_44, qr_159_45, qr_159_46, qr_159_49, qr_159_50, qr_159_51, qr_159_52, qr_159_55, qr_159_56, qr_159_57, qr_159_60, qr_159_61, qr_159_62, qr_159_65, qr_159_68, qr_159_69, qr_159_71, qr_159_73, qr_159_76, qr_159_77, qr_159_80, qr_159_81, qr_159_82, qr_159_85, qr_159_86, qr_159_87, qr_159_90, qr_159_93, qr_159_94, qr_159_97, qr_159_98, qr_159_99, qr_159_100, qr_159_101, qr_159_102, qr_159_105, qr_159_106, qr_159_109, true_and, and_true, false_and, and_false, Option.bind_some, Option.toList_some, Option.toList_none, List.nil_append, List.cons_append, if_true, if_false, ite_true, ite_false, not_true_eq_false, not_false_eq_true, qn_lt0, qn_ge0, qn_lt, qn_le, qn_eq, qn_e0, qn_gt0, qn_le0, qn_m1, nI_add, pk_mul, qb_e0, Classical.not_not, qa_up_s, qa_up_n, qa_uu, Nat.le_refl]
      exact loop3 12 0 (by omega)
    | succ m ih =>
      intro k hk
      have e1 : ¬ 10 ≤ k := by omega
      have e2 := ih (k + 1) (by omega)
      unfold qm_z2 at e2
      rw [qr_159_23]
      simp (disch := first | assumption | omega | exact Or.inl rfl | exact Or.inr rfl | exact qb_01) only [qr_159_0, qr_159_1, qr_159_3, qr_159_5, qr_159_8, qr_159_9, qr_159_12, qr_159_13, qr_159_14, qr_159_15, qr_159_18, qr_159_21, qr_159_22, qr_159_24, qr_159_26, qr_159_29, qr_159_30, qr_159_33, qr_159_34, qr_159_35, qr_159_38, qr_159_39, qr_159_40, qr_159_41, qr_159_44, qr_159_45, qr_159_46, qr_159_49, qr_159_50, qr_159_51, qr_159_52, qr_159_55, qr_159_56, qr_159_57, qr_159_60, qr_159_61, qr_159_62, qr_159_65, qr_159_68, qr_159_69, qr_159_71, qr_159_73, qr_159_76, qr_159_77, qr_159_80, qr_159_81, qr_159_82, qr_159_85, qr_159_86, qr_159_87, qr_159_90, qr_159_93, qr_159_94, qr_159_97, qr_159_98, qr_159_99, qr_159_100, qr_159_101, qr_159_102, qr_159_105, qr_159_106, qr_159_109, true_and, and_true, false_and, and_false, Option.bind_some, Option.toList_some, Option.toList_none, List.nil_append, List.cons_append, if_true, if_false, ite_true, ite_false, not_true_eq_false, not_false_eq_true, qn_lt0, qn_ge0, qn_lt, qn_le, qn_eq, qn_e0, qn_gt0, qn_le0, qn_m1, nI_add, pk_mul, qb_e0, Classical.not_not, qa_up_s, qa_up_n, qa_uu, s3, qs_MO_of, e1]
      exact e2
  have loop1 : ∀ m k, k + m = 127 → qa_run (d + 2) 159 2 [qa_a (some u), qa_i (nI k)] [] [] (K, va_up I (u + 1) (qf_cpy k (fun _ => nI 0) (I (u + 1))), R, n, z) = some (none, (K, IF, R, n, z)) := by
    intro m
    induction m with
    | zero =>
      intro k hk
      have hk : k = 127 := by omega
      subst hk
      rw [qr_159_2]
      simp (disch := first | assumption | omega | exact Or.inl rfl | exact Or.inr rfl | exact qb_01) only [qr_159_0, qr_159_1, qr_159_3, qr_159_5, qr_159_8, qr_159_9, qr_159_12, qr_159_13, qr_159_14, qr_159_15, qr_159_18, qr_159_21, qr_159_22, qr_159_24, qr_159_26, qr_159_29, qr_159_30, qr_159_33, qr_159_34, qr_159_35, qr_159_38, qr_159_39, qr_159_40, qr_159_41, qr_159_44, qr_159_45, qr_159_46, qr_159_49, qr_159_50, qr_159_51, qr_159_52, qr_159_55, qr_159_56, qr_159_57, qr_159_60, qr_159_61, qr_159_62, qr_159_65, qr_159_68, qr_159_69, qr_159_71, qr_159_73, qr_159_76, qr_159_77, qr_159_80, qr_159_81, qr_159_82, qr_159_85, qr_159_86, qr_159_87, qr_159_90, qr_159_93, qr_159_94, qr_159_97, qr_159_98, qr_159_99, qr_159_100, qr_159_101, qr_159_102, qr_159_105, qr_159_106, qr_159_109, true_and, and_true, false_and, and_false, Option.bind_some, Option.toList_some, Option.toList_none, List.nil_append, List.cons_append, if_true, if_false, ite_true, ite_false, not_true_eq_false, not_false_eq_true, qn_lt0, qn_ge0, qn_lt, qn_le, qn_eq, qn_e0, qn_gt0, qn_le0, qn_m1, nI_add, pk_mul, qb_e0, Classical.not_not, qa_up_s, qa_up_n, qa_uu, Nat.le_refl]
      exact loop2 10 0 (by omega)
    | succ m ih =>
      intro k hk
      have e1 : ¬ 127 ≤ k := by omega
      have e2 := ih (k + 1) (by omega)
      rw [← qf_cpy_s] at e2
      rw [qr_159_2]
      simp (disch := first | assumption | omega | exact Or.inl rfl | exact Or.inr rfl | exact qb_01) only [qr_159_0, qr_159_1, qr_159_3, qr_159_5, qr_159_8, qr_159_9, qr_159_12, qr_159_13, qr_159_14, qr_159_15, qr_159_18, qr_159_21, qr_159_22, qr_159_24, qr_159_26, qr_159_29, qr_159_30, qr_159_33, qr_159_34, qr_159_35, qr_159_38, qr_159_39, qr_159_40, qr_159_41, qr_159_44, qr_159_45, qr_159_46, qr_159_49, qr_159_50, qr_159_51, qr_159_52, qr_159_55, qr_159_56, qr_159_57, qr_159_60, qr_159_61, qr_159_62, qr_159_65, qr_159_68, qr_159_69, qr_159_71, qr_159_73, qr_159_76, qr_159_77, qr_159_80, qr_159_81, qr_159_82, qr_159_85, qr_159_86, qr_159_87, qr_159_90, qr_159_93, qr_159_94, qr_159_97, qr_159_98, qr_159_99, qr_159_100, qr_159_101, qr_159_102, qr_159_105, qr_159_106, qr_159_109, true_and, and_true, false_and, and_false, Option.bind_some, Option.toList_some, Option.toList_none, List.nil_append, List.cons_append, if_true, if_false, ite_true, ite_false, not_true_eq_false, not_false_eq_true, qn_lt0, qn_ge0, qn_lt, qn_le, qn_eq, qn_e0, qn_gt0, qn_le0, qn_m1, nI_add, pk_mul, qb_e0, Classical.not_not, qa_up_s, qa_up_n, qa_uu, s3, e1]
      exact e2
  refine ⟨t, hZt, fun i hi => by rw [ht]; exact qm_z_at hi, ?_⟩
  rw [← hIF]
  have e1 := loop1 127 0 (by omega)
  rw [qf_cpy_0, qa_uI] at e1
  simp (disch := first | assumption | omega | exact Or.inl rfl | exact Or.inr rfl | exact qb_01) only [qe_159, qr_159_0, qr_159_1, qr_159_3, qr_159_5, qr_159_8, qr_159_9, qr_159_12, qr_159_13, qr_159_14, qr_159_15, qr_159_18, qr_159_21, qr_159_22, qr_159_24, qr_159_26, qr_159_29, qr_159_30, qr_159_33, qr_159_34, qr_159_35, qr_159_38, qr_159_39, qr_159_40, qr_159_41, qr_159_44, qr_159_45, qr_159_46, qr_159_49, qr_159_50, qr_159_51, qr_159_52, qr_159_55, qr_159_56, qr_159_57, qr_159_60, qr_159_61, qr_159_62, qr_159_65, qr_159_68, qr_159_69, qr_159_71, qr_159_73, qr_159_76, qr_159_77, qr_159_80, qr_159_81, qr_159_82, qr_159_85, qr_159_86, qr_159_87, qr_159_90, qr_159_93, qr_159_94, qr_159_97, qr_159_98, qr_159_99, qr_159_100, qr_159_101, qr_159_102, qr_159_105, qr_159_106, qr_159_109, true_and, and_true, false_and, and_false, Option.bind_some, Option.toList_some, Option.toList_none, List.nil_append, List.cons_append, if_true, if_false, ite_true, ite_false, not_true_eq_false, not_false_eq_true, qn_lt0, qn_ge0, qn_lt, qn_le, qn_eq, qn_e0, qn_gt0, qn_le0, qn_m1, nI_add, pk_mul, qb_e0, Classical.not_not, qa_up_s, qa_up_n, qa_uu]
  exact e1
end Q46
