/-! Trees in the model: the skills in them, whether they are fulfilled, what blocks. -/
def qt_M (c : Nat → Int32) : qt_T → Int32 → Prop
  | .mulL k nx, x => ∃ j, x = nI j ∧ j < 170 ∧ k.toNat < 10 ∧ c (22 + j) = nI k.toNat ∧ qt_M c nx (c (362 + j))
  | .add f nx, x => ∃ j, x = nI j ∧ j < 170 ∧ c (22 + j) = nI 100 ∧ qt_M c f (c (192 + j)) ∧ qt_M c nx (c (362 + j))
  | .sub f nx, x => ∃ j, x = nI j ∧ j < 170 ∧ c (22 + j) = nI 101 ∧ qt_M c f (c (192 + j)) ∧ qt_M c nx (c (362 + j))
  | .num _, x => x = (-1)
  | _, _ => False
theorem qn_m10 : (nI 0 ≤ (-1 : Int32)) = False := by rw [nI_0]; decide
theorem qn_m1z : (0 ≤ (-1 : Int32)) = False := by decide
theorem qn_m1l : ((-1 : Int32) < 0) = True := by decide
abbrev qm_g (I : Nat → Nat → Int32) (u : Nat) : Nat → Bool := fun k => qf_mst (I (u + 1) (1 + 9 * k + 0)) (I (u + 1) (1 + 9 * k + 1)) (I (u + 5) (2 + k))
section Q28
variable {d a b : Nat} {K : Nat → Nat × Nat} {I : Nat → Nat → Int32} {R : Nat → Nat → Option Nat} {n z : Nat} {x y w mb : Int32} {h : qa_H} {u nk ni k i j m B : Nat}
theorem qs_MO_skillsIn_all (hM : qp_MO K R u) : ∀ (t : qt_T) (x : Int32), qt_M (I (u + 5)) t x → (qt_ne t = true → ∀ D, (qt_dp t).1 ≤ D → qa_ex D 186 [qa_a (some u), qa_i x] (K, I, R, n, z) = some (some (qa_i (qt_sk t).1), (K, I, R, n, z))) ∧ (∀ D acc rt, (qt_dp t).2 ≤ D → qa_run D 186 45 [qa_a (some u), rt, qa_i acc, qa_i x] [] [] (K, I, R, n, z) = some (some (qa_i (acc ||| (qt_sk t).2)), (K, I, R, n, z))) := by
  obtain ⟨m0, -, -, -, -, ⟨c1, c2, c3⟩, -⟩ := hM
  have step : ∀ (t nx : qt_T) (j : Nat), j < 170 → (qt_sk t).2 = (qt_sk t).1 ||| (qt_sk nx).2 → (qt_dp t).2 = max (qt_dp t).1 (qt_dp nx).2 → (∀ D, (qt_dp t).1 ≤ D → qa_ex D 186 [qa_a (some u), qa_i (nI j)] (K, I, R, n, z) = some (some (qa_i (qt_sk t).1), (K, I, R, n, z))) → (∀ D acc rt, (qt_dp nx).2 ≤ D → qa_run D 186 45 [qa_a (some u), rt, qa_i acc, qa_i (I (u + 5) (362 + j))] [] [] (K, I, R, n, z) = some (some (qa_i (acc ||| (qt_sk nx).2)), (K, I, R, n, z))) →
      ∀ D acc rt, (qt_dp t).2 ≤ D → qa_run D 186 45 [qa_a (some u), rt, qa_i acc, qa_i (nI j)] [] [] (K, I, R, n, z) = some (some (qa_i (acc ||| (qt_sk t).2)), (K, I, R, n, z)) := by
    intro t nx j hj hsk hdp h1 h2 D acc rt hD
    have g1 := h1 D (by omega)
    have g2 := h2 D (acc ||| (qt_sk t).1) rt (by omega)
    rw [qr_186_45]
    simp (disch := first | assumption | omega | exact Or.inl rfl | exact Or.inr rfl | exact qb_01) only [qr_186_0, qr_186_1, qr_186_4, qr_186_5, qr_186_6, qr_186_7, qr_186_10, qr_186_12, qr_186_13, qr_186_14, qr_186_15, qr_186_17, qr_186_20, qr_186_21, qr_186_22, qr_186_25, qr_186_27, qr_186_28, qr_186_29, qr_186_30, qr_186_31, qr_186_32, qr_186_33, qr_186_34, qr_186_35, qr_186_38, qr_186_41, qr_186_42, qr_186_43, qr_186_44, qr_186_46, qr_186_49, qr_186_50, qr_186_51, qr_186_52, qr_186_55, qr_186_56, qr_186_57, qr_186_58, qr_186_61, qr_186_64, qr_186_65, qr_186_66, qr_186_67, qr_186_68, qr_186_71, qr_186_72, true_and, and_true, false_and, and_false, Option.bind_some, Option.toList_some, Option.toList_none, List.nil_append, List.cons_append, if_true, if_false, ite_true, ite_false, not_true_eq_false, not_false_eq_true, qn_lt0, qn_ge0, qn_lt, qn_le, qn_eq, qn_e0, qn_gt0, qn_le0, qn_m1, nI_add, pk_mul, qb_e0, Classical.not_not, c3, g1, g2, hsk, Int32.or_assoc]
  intro t
  induction t with
  | num v =>
    intro x h
    have h : x = (-1) := h
    subst h
    refine ⟨fun h => absurd h (by intro q; cases q), fun D acc rt hD => ?_⟩
    rw [qr_186_45]
    simp (disch := first | assumption | omega | exact Or.inl rfl | exact Or.inr rfl | exact qb_01) only [qr_186_0, qr_186_1, qr_186_4, qr_186_5, qr_186_6, qr_186_7, qr_186_10, qr_186_12, qr_186_13, qr_186_14, qr_186_15, qr_186_17, qr_186_20, qr_186_21, qr_186_22, qr_186_25, qr_186_27, qr_186_28, qr_186_29, qr_186_30, qr_186_31, qr_186_32, qr_186_33, qr_186_34, qr_186_35, qr_186_38, qr_186_41, qr_186_42, qr_186_43, qr_186_44, qr_186_46, qr_186_49, qr_186_50, qr_186_51, qr_186_52, qr_186_55, qr_186_56, qr_186_57, qr_186_58, qr_186_61, qr_186_64, qr_186_65, qr_186_66, qr_186_67, qr_186_68, qr_186_71, qr_186_72, qt_sk, nI_0, Int32.or_zero, qn_m1l, if_true]
  | var i => intro o h; exact h.elim
  | neg a => intro o h; exact h.elim
  | mulR a k => intro o h; exact h.elim
  | mulL k nx ih =>
    intro x h
    obtain ⟨j, rfl, h1, h2, h3, h4⟩ := h
    have hd : ∀ D, (qt_dp (.mulL k nx)).1 ≤ D → qa_ex D 186 [qa_a (some u), qa_i (nI j)] (K, I, R, n, z) = some (some (qa_i (qt_sk (.mulL k nx)).1), (K, I, R, n, z)) := by
      intro D hD
      simp only [qt_dp] at hD
      obtain ⟨d, rfl⟩ : ∃ d, D = d + 1 := ⟨D - 1, by omega⟩
      have e1 : ¬ 100 ≤ k.toNat := by omega
      simp (disch := first | assumption | omega | exact Or.inl rfl | exact Or.inr rfl | exact qb_01) only [qe_186, qr_186_0, qr_186_1, qr_186_4, qr_186_5, qr_186_6, qr_186_7, qr_186_10, qr_186_12, qr_186_13, qr_186_14, qr_186_15, qr_186_17, qr_186_20, qr_186_21, qr_186_22, qr_186_25, qr_186_27, qr_186_28, qr_186_29, qr_186_30, qr_186_31, qr_186_32, qr_186_33, qr_186_34, qr_186_35, qr_186_38, qr_186_41, qr_186_42, qr_186_43, qr_186_44, qr_186_46, qr_186_49, qr_186_50, qr_186_51, qr_186_52, qr_186_55, qr_186_56, qr_186_57, qr_186_58, qr_186_61, qr_186_64, qr_186_65, qr_186_66, qr_186_67, qr_186_68, qr_186_71, qr_186_72, true_and, and_true, false_and, and_false, Option.bind_some, Option.toList_some, Option.toList_none, List.nil_append, List.cons_append, if_true, if_false, ite_true, ite_false, not_true_eq_false, not_false_eq_true, qn_lt0, qn_ge0, qn_lt, qn_le, qn_eq, qn_e0, qn_gt0, qn_le0, qn_m1, nI_add, pk_mul, qb_e0, Classical.not_not, c3, h3, e1, qt_sk]
    exact ⟨fun _ => hd, step _ nx j h1 rfl rfl hd (ih _ h4).2⟩
  | add f nx ihf ih =>
    intro x h
    obtain ⟨j, rfl, h1, h2, h3, h4⟩ := h
    have hd : ∀ D, (qt_dp (.add f nx)).1 ≤ D → qa_ex D 186 [qa_a (some u), qa_i (nI j)] (K, I, R, n, z) = some (some (qa_i (qt_sk (.add f nx)).1), (K, I, R, n, z)) := by
      intro D hD
      simp only [qt_dp] at hD
      obtain ⟨d, rfl⟩ : ∃ d, D = d + 1 := ⟨D - 1, by omega⟩
      have g := (ihf _ h3).2 d (nI 0) (qa_i (nI j)) (by omega)
      simp (disch := first | assumption | omega | exact Or.inl rfl | exact Or.inr rfl | exact qb_01) only [qe_186, qr_186_0, qr_186_1, qr_186_4, qr_186_5, qr_186_6, qr_186_7, qr_186_10, qr_186_12, qr_186_13, qr_186_14, qr_186_15, qr_186_17, qr_186_20, qr_186_21, qr_186_22, qr_186_25, qr_186_27, qr_186_28, qr_186_29, qr_186_30, qr_186_31, qr_186_32, qr_186_33, qr_186_34, qr_186_35, qr_186_38, qr_186_41, qr_186_42, qr_186_43, qr_186_44, qr_186_46, qr_186_49, qr_186_50, qr_186_51, qr_186_52, qr_186_55, qr_186_56, qr_186_57, qr_186_58, qr_186_61, qr_186_64, qr_186_65, qr_186_66, qr_186_67, qr_186_68, qr_186_71, qr_186_72, true_and, and_true, false_and, and_false, Option.bind_some, Option.toList_some, Option.toList_none, List.nil_append, List.cons_append, if_true, if_false, ite_true, ite_false, not_true_eq_false, not_false_eq_true, qn_lt0, qn_ge0, qn_lt, qn_le, qn_eq, qn_e0, qn_gt0, qn_le0, qn_m1, nI_add, pk_mul, qb_e0, Classical.not_not, c3, h2, g, qt_sk, Nat.le_refl]
    exact ⟨fun _ => hd, step _ nx j h1 rfl rfl hd (ih _ h4).2⟩
  | sub f nx ihf ih =>
    intro x h
    obtain ⟨j, rfl, h1, h2, h3, h4⟩ := h
    have hd : ∀ D, (qt_dp (.sub f nx)).1 ≤ D → qa_ex D 186 [qa_a (some u), qa_i (nI j)] (K, I, R, n, z) = some (some (qa_i (qt_sk (.sub f nx)).1), (K, I, R, n, z)) := by
      intro D hD
      simp only [qt_dp] at hD
      obtain ⟨d, rfl⟩ : ∃ d, D = d + 1 := ⟨D - 1, by omega⟩
      have g := (ihf _ h3).2 d (nI 0) (qa_i (nI j)) (by omega)
      simp (disch := first | assumption | omega | exact Or.inl rfl | exact Or.inr rfl | exact qb_01) only [qe_186, qr_186_0, qr_186_1, qr_186_4, qr_186_5, qr_186_6, qr_186_7, qr_186_10, qr_186_12, qr_186_13, qr_186_14, qr_186_15, qr_186_17, qr_186_20, qr_186_21, qr_186_22, qr_186_25, qr_186_27, qr_186_28, qr_186_29, qr_186_30, qr_186_31, qr_186_32, qr_186_33, qr_186_34, qr_186_35, qr_186_38, qr_186_41, qr_186_42, qr_186_43, qr_186_44, qr_186_46, qr_186_49, qr_186_50, qr_186_51, qr_186_52, qr_186_55, qr_186_56, qr_186_57, qr_186_58, qr_186_61, qr_186_64, qr_186_65, qr_186_66, qr_186_67, qr_186_68, qr_186_71, qr_186_72, true_and, and_true, false_and, and_false, Option.bind_some, Option.toList_some, Option.toList_none, List.nil_append, List.cons_append, if_true, if_false, ite_true, ite_false, not_true_eq_false, not_false_eq_true, qn_lt0, qn_ge0, qn_lt, qn_le, qn_eq, qn_e0, qn_gt0, qn_le0, qn_m1, nI_add, pk_mul, qb_e0, Classical.not_not, c3, h2, g, qt_sk, show 100 ≤ 101 by decide]
    exact ⟨fun _ => hd, step _ nx j h1 rfl rfl hd (ih _ h4).2⟩
theorem qs_MO_isFulfilled_all (hM : qp_MO K R u) : ∀ (t : qt_T) (x : Int32), qt_M (I (u + 5)) t x → (qt_ne t = true → ∀ D, (qt_dp t).1 + 2 ≤ D → qa_ex D 198 [qa_a (some u), qa_i x] (K, I, R, n, z) = some (some (qa_i (qa_bi ((qt_ev (qm_g I u) t).1 = true))), (K, I, R, n, z))) ∧
    (∀ D rt, (qt_dp t).2 + 2 ≤ D → qa_run D 198 33 [qa_a (some u), rt, qa_i (nI 100), qa_i x] [] [] (K, I, R, n, z) = some (some (qa_i (qa_bi ((qt_ev (qm_g I u) t).2.1 = true))), (K, I, R, n, z))) ∧
    (∀ D rt, (qt_dp t).2 + 2 ≤ D → qa_run D 198 33 [qa_a (some u), rt, qa_i (nI 101), qa_i x] [] [] (K, I, R, n, z) = some (some (qa_i (qa_bi ((qt_ev (qm_g I u) t).2.2 = true))), (K, I, R, n, z))) := by
  have hM' := hM
  obtain ⟨m0, -, -, -, -, ⟨c1, c2, c3⟩, -⟩ := hM
  generalize hg : qm_g I u = g
  have stepA : ∀ (t nx : qt_T) (j : Nat), j < 170 → (qt_ev g t).2.1 = ((qt_ev g t).1 && (qt_ev g nx).2.1) → (qt_dp t).2 = max (qt_dp t).1 (qt_dp nx).2 → (∀ D, (qt_dp t).1 + 2 ≤ D → qa_ex D 198 [qa_a (some u), qa_i (nI j)] (K, I, R, n, z) = some (some (qa_i (qa_bi ((qt_ev g t).1 = true))), (K, I, R, n, z))) →
      (∀ D rt, (qt_dp nx).2 + 2 ≤ D → qa_run D 198 33 [qa_a (some u), rt, qa_i (nI 100), qa_i (I (u + 5) (362 + j))] [] [] (K, I, R, n, z) = some (some (qa_i (qa_bi ((qt_ev g nx).2.1 = true))), (K, I, R, n, z))) →
      ∀ D rt, (qt_dp t).2 + 2 ≤ D → qa_run D 198 33 [qa_a (some u), rt, qa_i (nI 100), qa_i (nI j)] [] [] (K, I, R, n, z) = some (some (qa_i (qa_bi ((qt_ev g t).2.1 = true))), (K, I, R, n, z)) := by
    intro t nx j hj hev hdp h1 h2 D rt hD
    have g1 := h1 D (by omega)
    have g2 := h2 D rt (by omega)
    rw [qr_198_33, hev]
    cases hv : (qt_ev g t).1 with
    | true =>
      rw [hv] at g1
      simp (disch := first | assumption | omega | exact Or.inl rfl | exact Or.inr rfl | exact qb_01) only [qr_198_0, qr_198_1, qr_198_4, qr_198_6, qr_198_7, qr_198_8, qr_198_9, qr_198_10, qr_198_11, qr_198_13, qr_198_16, qr_198_17, qr_198_18, qr_198_21, qr_198_22, qr_198_23, qr_198_26, qr_198_29, qr_198_30, qr_198_31, qr_198_32, qr_198_34, qr_198_37, qr_198_38, qr_198_39, qr_198_42, qr_198_43, qr_198_45, qr_198_48, qr_198_49, qr_198_52, qr_198_53, qr_198_56, qr_198_57, qr_198_59, qr_198_62, qr_198_63, qr_198_66, qr_198_67, qr_198_68, qr_198_69, qr_198_72, qr_198_75, qr_198_76, qr_198_77, qr_198_78, qr_198_79, qr_198_82, qr_198_83, qr_198_85, qr_198_88, qr_198_89, qr_198_92, qr_198_93, true_and, and_true, false_and, and_false, Option.bind_some, Option.toList_some, Option.toList_none, List.nil_append, List.cons_append, if_true, if_false, ite_true, ite_false, not_true_eq_false, not_false_eq_true, qn_lt0, qn_ge0, qn_lt, qn_le, qn_eq, qn_e0, qn_gt0, qn_le0, qn_m1, nI_add, pk_mul, qb_e0, Classical.not_not, c3, g1, qb_tt, qb_T, g2, Bool.true_and, Nat.one_ne_zero, show ¬ 100 = 101 by decide]
    | false =>
      rw [hv] at g1
      simp (disch := first | assumption | omega | exact Or.inl rfl | exact Or.inr rfl | exact qb_01) only [qr_198_0, qr_198_1, qr_198_4, qr_198_6, qr_198_7, qr_198_8, qr_198_9, qr_198_10, qr_198_11, qr_198_13, qr_198_16, qr_198_17, qr_198_18, qr_198_21, qr_198_22, qr_198_23, qr_198_26, qr_198_29, qr_198_30, qr_198_31, qr_198_32, qr_198_34, qr_198_37, qr_198_38, qr_198_39, qr_198_42, qr_198_43, qr_198_45, qr_198_48, qr_198_49, qr_198_52, qr_198_53, qr_198_56, qr_198_57, qr_198_59, qr_198_62, qr_198_63, qr_198_66, qr_198_67, qr_198_68, qr_198_69, qr_198_72, qr_198_75, qr_198_76, qr_198_77, qr_198_78, qr_198_79, qr_198_82, qr_198_83, qr_198_85, qr_198_88, qr_198_89, qr_198_92, qr_198_93, true_and, and_true, false_and, and_false, Option.bind_some, Option.toList_some, Option.toList_none, List.nil_append, List.cons_append, if_true, if_false, ite_true, ite_false, not_true_eq_false, not_false_eq_true, qn_lt0, qn_ge0, qn_lt, qn_le, qn_eq, qn_e0, qn_gt0, qn_le0, qn_m1, nI_add, pk_mul, qb_e0, Classical.not_not, c3, g1, qb_ff, qb_F, Bool.false_and, show ¬ 100 = 101 by decide]
  have stepO : ∀ (t nx : qt_T) (j : Nat), j < 170 → (qt_ev g t).2.2 = ((qt_ev g t).1 || (qt_ev g nx).2.2) → (qt_dp t).2 = max (qt_dp t).1 (qt_dp nx).2 → (∀ D, (qt_dp t).1 + 2 ≤ D → qa_ex D 198 [qa_a (some u), qa_i (nI j)] (K, I, R, n, z) = some (some (qa_i (qa_bi ((qt_ev g t).1 = true))), (K, I, R, n, z))) →
      (∀ D rt, (qt_dp nx).2 + 2 ≤ D → qa_run D 198 33 [qa_a (some u), rt, qa_i (nI 101), qa_i (I (u + 5) (362 + j))] [] [] (K, I, R, n, z) = some (some (qa_i (qa_bi ((qt_ev g nx).2.2 = true))), (K, I, R, n, z))) →
      ∀ D rt, (qt_dp t).2 + 2 ≤ D → qa_run D 198 33 [qa_a (some u), rt, qa_i (nI 101), qa_i (nI j)] [] [] (K, I, R, n, z) = some (some (qa_i (qa_bi ((qt_ev g t).2.2 = true))), (K, I, R, n, z)) := by
    intro t nx j hj hev hdp h1 h2 D rt hD
    have g1 := h1 D (by omega)
    have g2 := h2 D rt (by omega)
    rw [qr_198_33, hev]
    cases hv : (qt_ev g t).1 with
    | false =>
      rw [hv] at g1
      simp (disch := first | assumption | omega | exact Or.inl rfl | exact Or.inr rfl | exact qb_01) only [qr_198_0, qr_198_1, qr_198_4, qr_198_6, qr_198_7, qr_198_8, qr_198_9, qr_198_10, qr_198_11, qr_198_13, qr_198_16, qr_198_17, qr_198_18, qr_198_21, qr_198_22, qr_198_23, qr_198_26, qr_198_29, qr_198_30, qr_198_31, qr_198_32, qr_198_34, qr_198_37, qr_198_38, qr_198_39, qr_198_42, qr_198_43, qr_198_45, qr_198_48, qr_198_49, qr_198_52, qr_198_53, qr_198_56, qr_198_57, qr_198_59, qr_198_62, qr_198_63, qr_198_66, qr_198_67, qr_198_68, qr_198_69, qr_198_72, qr_198_75, qr_198_76, qr_198_77, qr_198_78, qr_198_79, qr_198_82, qr_198_83, qr_198_85, qr_198_88, qr_198_89, qr_198_92, qr_198_93, true_and, and_true, false_and, and_false, Option.bind_some, Option.toList_some, Option.toList_none, List.nil_append, List.cons_append, if_true, if_false, ite_true, ite_false, not_true_eq_false, not_false_eq_true, qn_lt0, qn_ge0, qn_lt, qn_le, qn_eq, qn_e0, qn_gt0, qn_le0, qn_m1, nI_add, pk_mul, qb_e0, Classical.not_not, c3, g1, qb_ff, qb_F, g2, Bool.false_or, Nat.one_ne_zero, show ¬ 0 = 1 by decide]
    | true =>
      rw [hv] at g1
      simp (disch := first | assumption | omega | exact Or.inl rfl | exact Or.inr rfl | exact qb_01) only [qr_198_0, qr_198_1, qr_198_4, qr_198_6, qr_198_7, qr_198_8, qr_198_9, qr_198_10, qr_198_11, qr_198_13, qr_198_16, qr_198_17, qr_198_18, qr_198_21, qr_198_22, qr_198_23, qr_198_26, qr_198_29, qr_198_30, qr_198_31, qr_198_32, qr_198_34, qr_198_37, qr_198_38, qr_198_39, qr_198_42, qr_198_43, qr_198_45, qr_198_48, qr_198_49, qr_198_52, qr_198_53, qr_198_56, qr_198_57, qr_198_59, qr_198_62, qr_198_63, qr_198_66, qr_198_67, qr_198_68, qr_198_69, qr_198_72, qr_198_75, qr_198_76, qr_198_77, qr_198_78, qr_198_79, qr_198_82, qr_198_83, qr_198_85, qr_198_88, qr_198_89, qr_198_92, qr_198_93, true_and, and_true, false_and, and_false, Option.bind_some, Option.toList_some, Option.toList_none, List.nil_append, List.cons_append, if_true, if_false, ite_true, ite_false, not_true_eq_false, not_false_eq_true, qn_lt0, qn_ge0, qn_lt, qn_le, qn_eq, qn_e0, qn_gt0, qn_le0, qn_m1, nI_add, pk_mul, qb_e0, Classical.not_not, c3, g1, qb_tt, qb_T, Bool.true_or]
  intro t
  induction t with
  | num v =>
    intro x h
    have h : x = (-1) := h
    subst h
    refine ⟨fun h => absurd h (by intro q; cases q), fun D rt hD => ?_, fun D rt hD => ?_⟩
    · rw [qr_198_33]
      simp (disch := first | assumption | omega | exact Or.inl rfl | exact Or.inr rfl | exact qb_01) only [qr_198_0, qr_198_1, qr_198_4, qr_198_6, qr_198_7, qr_198_8, qr_198_9, qr_198_10, qr_198_11, qr_198_13, qr_198_16, qr_198_17, qr_198_18, qr_198_21, qr_198_22, qr_198_23, qr_198_26, qr_198_29, qr_198_30, qr_198_31, qr_198_32, qr_198_34, qr_198_37, qr_198_38, qr_198_39, qr_198_42, qr_198_43, qr_198_45, qr_198_48, qr_198_49, qr_198_52, qr_198_53, qr_198_56, qr_198_57, qr_198_59, qr_198_62, qr_198_63, qr_198_66, qr_198_67, qr_198_68, qr_198_69, qr_198_72, qr_198_75, qr_198_76, qr_198_77, qr_198_78, qr_198_79, qr_198_82, qr_198_83, qr_198_85, qr_198_88, qr_198_89, qr_198_92, qr_198_93, true_and, and_true, false_and, and_false, Option.bind_some, Option.toList_some, Option.toList_none, List.nil_append, List.cons_append, if_true, if_false, ite_true, ite_false, not_true_eq_false, not_false_eq_true, qn_lt0, qn_ge0, qn_lt, qn_le, qn_eq, qn_e0, qn_gt0, qn_le0, qn_m1, nI_add, pk_mul, qb_e0, Classical.not_not, qn_m1l]
      rfl
    · rw [qr_198_33]
      simp (disch := first | assumption | omega | exact Or.inl rfl | exact Or.inr rfl | exact qb_01) only [qr_198_0, qr_198_1, qr_198_4, qr_198_6, qr_198_7, qr_198_8, qr_198_9, qr_198_10, qr_198_11, qr_198_13, qr_198_16, qr_198_17, qr_198_18, qr_198_21, qr_198_22, qr_198_23, qr_198_26, qr_198_29, qr_198_30, qr_198_31, qr_198_32, qr_198_34, qr_198_37, qr_198_38, qr_198_39, qr_198_42, qr_198_43, qr_198_45, qr_198_48, qr_198_49, qr_198_52, qr_198_53, qr_198_56, qr_198_57, qr_198_59, qr_198_62, qr_198_63, qr_198_66, qr_198_67, qr_198_68, qr_198_69, qr_198_72, qr_198_75, qr_198_76, qr_198_77, qr_198_78, qr_198_79, qr_198_82, qr_198_83, qr_198_85, qr_198_88, qr_198_89, qr_198_92, qr_198_93, true_and, and_true, false_and, and_false, Option.bind_some, Option.toList_some, Option.toList_none, List.nil_append, List.cons_append, if_true, if_false, ite_true, ite_false, not_true_eq_false, not_false_eq_true, qn_lt0, qn_ge0, qn_lt, qn_le, qn_eq, qn_e0, qn_gt0, qn_le0, qn_m1, nI_add, pk_mul, qb_e0, Classical.not_not, qn_m1l, show ¬ 101 = 100 by decide]
      rfl
  | var i => intro o h; exact h.elim
  | neg a => intro o h; exact h.elim
  | mulR a k => intro o h; exact h.elim
  | mulL k nx ih =>
    intro x h
    obtain ⟨j, rfl, h1, h2, h3, h4⟩ := h
    have hd : ∀ D, (qt_dp (.mulL k nx)).1 + 2 ≤ D → qa_ex D 198 [qa_a (some u), qa_i (nI j)] (K, I, R, n, z) = some (some (qa_i (qa_bi ((qt_ev g (.mulL k nx)).1 = true))), (K, I, R, n, z)) := by
      intro D hD
      simp only [qt_dp] at hD
      obtain ⟨d, rfl⟩ : ∃ d, D = d + 2 + 1 := ⟨D - 2 - 1, by omega⟩
      have e1 : ¬ 100 ≤ k.toNat := by omega
      have e2 := qs_MO_isMastered (d := d) (I := I) (n := n) (z := z) hM' h2
      simp (disch := first | assumption | omega | exact Or.inl rfl | exact Or.inr rfl | exact qb_01) only [qe_198, qr_198_0, qr_198_1, qr_198_4, qr_198_6, qr_198_7, qr_198_8, qr_198_9, qr_198_10, qr_198_11, qr_198_13, qr_198_16, qr_198_17, qr_198_18, qr_198_21, qr_198_22, qr_198_23, qr_198_26, qr_198_29, qr_198_30, qr_198_31, qr_198_32, qr_198_34, qr_198_37, qr_198_38, qr_198_39, qr_198_42, qr_198_43, qr_198_45, qr_198_48, qr_198_49, qr_198_52, qr_198_53, qr_198_56, qr_198_57, qr_198_59, qr_198_62, qr_198_63, qr_198_66, qr_198_67, qr_198_68, qr_198_69, qr_198_72, qr_198_75, qr_198_76, qr_198_77, qr_198_78, qr_198_79, qr_198_82, qr_198_83, qr_198_85, qr_198_88, qr_198_89, qr_198_92, qr_198_93, true_and, and_true, false_and, and_false, Option.bind_some, Option.toList_some, Option.toList_none, List.nil_append, List.cons_append, if_true, if_false, ite_true, ite_false, not_true_eq_false, not_false_eq_true, qn_lt0, qn_ge0, qn_lt, qn_le, qn_eq, qn_e0, qn_gt0, qn_le0, qn_m1, nI_add, pk_mul, qb_e0, Classical.not_not, c3, h3, e1, e2]
      rw [← hg]
      rfl
    exact ⟨fun _ => hd, stepA _ nx j h1 rfl rfl hd (ih _ h4).2.1, stepO _ nx j h1 rfl rfl hd (ih _ h4).2.2⟩
  | add f nx ihf ih =>
    intro x h
    obtain ⟨j, rfl, h1, h2, h3, h4⟩ := h
    have hd : ∀ D, (qt_dp (.add f nx)).1 + 2 ≤ D → qa_ex D 198 [qa_a (some u), qa_i (nI j)] (K, I, R, n, z) = some (some (qa_i (qa_bi ((qt_ev g (.add f nx)).1 = true))), (K, I, R, n, z)) := by
      intro D hD
      simp only [qt_dp] at hD
      obtain ⟨d, rfl⟩ : ∃ d, D = d + 1 := ⟨D - 1, by omega⟩
      have g := (ihf _ h3).2.1 d (qa_i (nI j)) (by omega)
      simp (disch := first | assumption | omega | exact Or.inl rfl | exact Or.inr rfl | exact qb_01) only [qe_198, qr_198_0, qr_198_1, qr_198_4, qr_198_6, qr_198_7, qr_198_8, qr_198_9, qr_198_10, qr_198_11, qr_198_13, qr_198_16, qr_198_17, qr_198_18, qr_198_21, qr_198_22, qr_198_23, qr_198_26, qr_198_29, qr_198_30, qr_198_31, qr_198_32, qr_198_34, qr_198_37, qr_198_38, qr_198_39, qr_198_42, qr_198_43, qr_198_45, qr_198_48, qr_198_49, qr_198_52, qr_198_53, qr_198_56, qr_198_57, qr_198_59, qr_198_62, qr_198_63, qr_198_66, qr_198_67, qr_198_68, qr_198_69, qr_198_72, qr_198_75, qr_198_76, qr_198_77, qr_198_78, qr_198_79, qr_198_82, qr_198_83, qr_198_85, qr_198_88, qr_198_89, qr_198_92, qr_198_93, true_and, and_true, false_and, and_false, Option.bind_some, Option.toList_some, Option.toList_none, List.nil_append, List.cons_append, if_true, if_false, ite_true, ite_false, not_true_eq_false, not_false_eq_true, qn_lt0, qn_ge0, qn_lt, qn_le, qn_eq, qn_e0, qn_gt0, qn_le0, qn_m1, nI_add, pk_mul, qb_e0, Classical.not_not, c3, h2, g, Nat.le_refl]
      rfl
    exact ⟨fun _ => hd, stepA _ nx j h1 rfl rfl hd (ih _ h4).2.1, stepO _ nx j h1 rfl rfl hd (ih _ h4).2.2⟩
  | sub f nx ihf ih =>
    intro x h
    obtain ⟨j, rfl, h1, h2, h3, h4⟩ := h
    have hd : ∀ D, (qt_dp (.sub f nx)).1 + 2 ≤ D → qa_ex D 198 [qa_a (some u), qa_i (nI j)] (K, I, R, n, z) = some (some (qa_i (qa_bi ((qt_ev g (.sub f nx)).1 = true))), (K, I, R, n, z)) := by
      intro D hD
      simp only [qt_dp] at hD
      obtain ⟨d, rfl⟩ : ∃ d, D = d + 1 := ⟨D - 1, by omega⟩
      have g := (ihf _ h3).2.2 d (qa_i (nI j)) (by omega)
      simp (disch := first | assumption | omega | exact Or.inl rfl | exact Or.inr rfl | exact qb_01) only [qe_198, qr_198_0, qr_198_1, qr_198_4, qr_198_6, qr_198_7, qr_198_8, qr_198_9, qr_198_10, qr_198_11, qr_198_13, qr_198_16, qr_198_17, qr_198_18, qr_198_21, qr_198_22, qr_198_23, qr_198_26, qr_198_29, qr_198_30, qr_198_31, qr_198_32, qr_198_34, qr_198_37, qr_198_38, qr_198_39, qr_198_42, qr_198_43, qr_198_45, qr_198_48, qr_198_49, qr_198_52, qr_198_53, qr_198_56, qr_198_57, qr_198_59, qr_198_62, qr_198_63, qr_198_66, qr_198_67, qr_198_68, qr_198_69, qr_198_72, qr_198_75, qr_198_76, qr_198_77, qr_198_78, qr_198_79, qr_198_82, qr_198_83, qr_198_85, qr_198_88, qr_198_89, qr_198_92, qr_198_93, true_and, and_true, false_and, and_false, Option.bind_some, Option.toList_some, Option.toList_none, List.nil_append, List.cons_append, if_true, if_false, ite_true, ite_false, not_true_eq_false, not_false_eq_true, qn_lt0, qn_ge0, qn_lt, qn_le, qn_eq, qn_e0, qn_gt0, qn_le0, qn_m1, nI_add, pk_mul, qb_e0, Classical.not_not, c3, h2, g, show 100 ≤ 101 by decide]
      rfl
    exact ⟨fun _ => hd, stepA _ nx j h1 rfl rfl hd (ih _ h4).2.1, stepO _ nx j h1 rfl rfl hd (ih _ h4).2.2⟩
theorem qs_MO_blocks_all (hM : qp_MO K R u) : ∀ (t : qt_T) (x : Int32), qt_M (I (u + 5)) t x → qt_wf 10 t → (qt_ne t = true → (qt_ev (qm_g I u) t).1 = false → ∀ D rt l3, (qt_dp t).1 + 2 ≤ D → qa_run D 222 2 [qa_a (some u), rt, qa_i x, l3] [] [] (K, I, R, n, z) = some (some (qa_i (nI (qt_bl (qm_g I u) t).1)), (K, I, R, n, z))) ∧
    ((qt_ev (qm_g I u) t).2.1 = false → ∀ D rt j, j < 170 → I (u + 5) (22 + j) = nI 100 → (qt_dp t).2 + 2 ≤ D → qa_run D 222 27 [qa_a (some u), rt, qa_i (nI j), qa_i x] [] [] (K, I, R, n, z) = some (some (qa_i (nI (qt_bl (qm_g I u) t).2)), (K, I, R, n, z))) := by
  have hM' := hM
  obtain ⟨m0, -, -, -, -, ⟨c1, c2, c3⟩, -⟩ := hM
  have full := fun t x hx => (qs_MO_isFulfilled_all (n := n) (z := z) (I := I) hM' t x hx).1
  generalize hg : qm_g I u = g at full ⊢
  have step : ∀ (t nx : qt_T) (i : Nat), i < 170 → qt_M (I (u + 5)) t (nI i) → qt_ne t = true → (qt_ev g t).2.1 = ((qt_ev g t).1 && (qt_ev g nx).2.1) → (qt_bl g t).2 = (if (qt_ev g t).1 = true then (qt_bl g nx).2 else (qt_bl g t).1) → (qt_dp t).2 = max (qt_dp t).1 (qt_dp nx).2 →
      ((qt_ev g t).1 = false → ∀ D rt l3, (qt_dp t).1 + 2 ≤ D → qa_run D 222 2 [qa_a (some u), rt, qa_i (nI i), l3] [] [] (K, I, R, n, z) = some (some (qa_i (nI (qt_bl g t).1)), (K, I, R, n, z))) →
      ((qt_ev g nx).2.1 = false → ∀ D rt j, j < 170 → I (u + 5) (22 + j) = nI 100 → (qt_dp nx).2 + 2 ≤ D → qa_run D 222 27 [qa_a (some u), rt, qa_i (nI j), qa_i (I (u + 5) (362 + i))] [] [] (K, I, R, n, z) = some (some (qa_i (nI (qt_bl g nx).2)), (K, I, R, n, z))) →
      (qt_ev g t).2.1 = false → ∀ D rt j, j < 170 → I (u + 5) (22 + j) = nI 100 → (qt_dp t).2 + 2 ≤ D → qa_run D 222 27 [qa_a (some u), rt, qa_i (nI j), qa_i (nI i)] [] [] (K, I, R, n, z) = some (some (qa_i (nI (qt_bl g t).2)), (K, I, R, n, z)) := by
    intro t nx i hi hx hne hev hbl hdp h1 h2 hfa D rt j hj hkj hD
    have g0 := full t (nI i) hx hne D (by omega)
    rw [hev] at hfa
    rw [qr_222_27, hbl]
    cases hv : (qt_ev g t).1 with
    | true =>
      rw [hv, Bool.true_and] at hfa
      rw [hv] at g0
      have g2 := h2 hfa D rt j hj hkj (by omega)
      simp (disch := first | assumption | omega | exact Or.inl rfl | exact Or.inr rfl | exact qb_01) only [qr_222_0, qr_222_1, qr_222_3, qr_222_6, qr_222_8, qr_222_9, qr_222_10, qr_222_11, qr_222_13, qr_222_16, qr_222_17, qr_222_20, qr_222_23, qr_222_24, qr_222_25, qr_222_26, qr_222_28, qr_222_31, qr_222_33, qr_222_34, qr_222_35, qr_222_36, qr_222_38, qr_222_41, qr_222_42, qr_222_43, qr_222_46, qr_222_49, qr_222_50, qr_222_53, qr_222_56, qr_222_57, qr_222_58, qr_222_59, qr_222_60, qr_222_63, qr_222_64, qr_222_65, qr_222_68, qr_222_69, qr_222_72, qr_222_74, qr_222_75, qr_222_76, qr_222_77, true_and, and_true, false_and, and_false, Option.bind_some, Option.toList_some, Option.toList_none, List.nil_append, List.cons_append, if_true, if_false, ite_true, ite_false, not_true_eq_false, not_false_eq_true, qn_lt0, qn_ge0, qn_lt, qn_le, qn_eq, qn_e0, qn_gt0, qn_le0, qn_m1, nI_add, pk_mul, qb_e0, Classical.not_not, c3, hkj, g0, qb_tt, qb_T, g2, Nat.one_ne_zero]
    | false =>
      rw [hv] at g0
      have g1 := h1 hv D rt (qa_i (nI i)) (by omega)
      simp (disch := first | assumption | omega | exact Or.inl rfl | exact Or.inr rfl | exact qb_01) only [qr_222_0, qr_222_1, qr_222_3, qr_222_6, qr_222_8, qr_222_9, qr_222_10, qr_222_11, qr_222_13, qr_222_16, qr_222_17, qr_222_20, qr_222_23, qr_222_24, qr_222_25, qr_222_26, qr_222_28, qr_222_31, qr_222_33, qr_222_34, qr_222_35, qr_222_36, qr_222_38, qr_222_41, qr_222_42, qr_222_43, qr_222_46, qr_222_49, qr_222_50, qr_222_53, qr_222_56, qr_222_57, qr_222_58, qr_222_59, qr_222_60, qr_222_63, qr_222_64, qr_222_65, qr_222_68, qr_222_69, qr_222_72, qr_222_74, qr_222_75, qr_222_76, qr_222_77, true_and, and_true, false_and, and_false, Option.bind_some, Option.toList_some, Option.toList_none, List.nil_append, List.cons_append, if_true, if_false, ite_true, ite_false, not_true_eq_false, not_false_eq_true, qn_lt0, qn_ge0, qn_lt, qn_le, qn_eq, qn_e0, qn_gt0, qn_le0, qn_m1, nI_add, pk_mul, qb_e0, Classical.not_not, c3, hkj, g0, qb_ff, qb_F, g1, Bool.false_eq_true]
  intro t
  induction t with
  | num v =>
    intro o h hw
    refine ⟨fun h => absurd h (by intro q; cases q), fun q => absurd q (by intro q; cases q)⟩
  | var i => intro o h; exact h.elim
  | neg a => intro o h; exact h.elim
  | mulR a k => intro o h; exact h.elim
  | mulL k nx ih =>
    intro x h hw
    have hC := h
    obtain ⟨j, rfl, h1, h2, h3, h4⟩ := h
    have hd : ∀ D rt l3, (qt_dp (.mulL k nx)).1 + 2 ≤ D → qa_run D 222 2 [qa_a (some u), rt, qa_i (nI j), l3] [] [] (K, I, R, n, z) = some (some (qa_i (nI (qt_bl g (.mulL k nx)).1)), (K, I, R, n, z)) := by
      intro D rt l3 hD
      have e1 : ¬ 100 ≤ k.toNat := by omega
      have e2 : k.toNat < 100 := by omega
      rw [qr_222_2]
      simp (disch := first | assumption | omega | exact Or.inl rfl | exact Or.inr rfl | exact qb_01) only [qr_222_0, qr_222_1, qr_222_3, qr_222_6, qr_222_8, qr_222_9, qr_222_10, qr_222_11, qr_222_13, qr_222_16, qr_222_17, qr_222_20, qr_222_23, qr_222_24, qr_222_25, qr_222_26, qr_222_28, qr_222_31, qr_222_33, qr_222_34, qr_222_35, qr_222_36, qr_222_38, qr_222_41, qr_222_42, qr_222_43, qr_222_46, qr_222_49, qr_222_50, qr_222_53, qr_222_56, qr_222_57, qr_222_58, qr_222_59, qr_222_60, qr_222_63, qr_222_64, qr_222_65, qr_222_68, qr_222_69, qr_222_72, qr_222_74, qr_222_75, qr_222_76, qr_222_77, true_and, and_true, false_and, and_false, Option.bind_some, Option.toList_some, Option.toList_none, List.nil_append, List.cons_append, if_true, if_false, ite_true, ite_false, not_true_eq_false, not_false_eq_true, qn_lt0, qn_ge0, qn_lt, qn_le, qn_eq, qn_e0, qn_gt0, qn_le0, qn_m1, nI_add, pk_mul, qb_e0, Classical.not_not, c3, h3, e1, e2, qt_bl]
    exact ⟨fun _ _ => hd, step _ nx j h1 hC rfl rfl rfl rfl (fun _ => hd) (ih _ h4 hw.2).2⟩
  | add f nx ihf ih =>
    intro x h hw
    have hC := h
    obtain ⟨j, rfl, h1, h2, h3, h4⟩ := h
    have hd : (qt_ev g (.add f nx)).1 = false → ∀ D rt l3, (qt_dp (.add f nx)).1 + 2 ≤ D → qa_run D 222 2 [qa_a (some u), rt, qa_i (nI j), l3] [] [] (K, I, R, n, z) = some (some (qa_i (nI (qt_bl g (.add f nx)).1)), (K, I, R, n, z)) := by
      intro hfa D rt l3 hD
      simp only [qt_dp] at hD
      have g := (ihf _ h3 hw.2.1).2 hfa D rt j h1 h2 (by omega)
      rw [qr_222_2]
      simp (disch := first | assumption | omega | exact Or.inl rfl | exact Or.inr rfl | exact qb_01) only [qr_222_0, qr_222_1, qr_222_3, qr_222_6, qr_222_8, qr_222_9, qr_222_10, qr_222_11, qr_222_13, qr_222_16, qr_222_17, qr_222_20, qr_222_23, qr_222_24, qr_222_25, qr_222_26, qr_222_28, qr_222_31, qr_222_33, qr_222_34, qr_222_35, qr_222_36, qr_222_38, qr_222_41, qr_222_42, qr_222_43, qr_222_46, qr_222_49, qr_222_50, qr_222_53, qr_222_56, qr_222_57, qr_222_58, qr_222_59, qr_222_60, qr_222_63, qr_222_64, qr_222_65, qr_222_68, qr_222_69, qr_222_72, qr_222_74, qr_222_75, qr_222_76, qr_222_77, true_and, and_true, false_and, and_false, Option.bind_some, Option.toList_some, Option.toList_none, List.nil_append, List.cons_append, if_true, if_false, ite_true, ite_false, not_true_eq_false, not_false_eq_true, qn_lt0, qn_ge0, qn_lt, qn_le, qn_eq, qn_e0, qn_gt0, qn_le0, qn_m1, nI_add, pk_mul, qb_e0, Classical.not_not, c3, h2, g, qt_bl, show ¬ 100 < 100 by decide, Nat.le_refl]
    exact ⟨fun _ => hd, step _ nx j h1 hC rfl rfl rfl rfl hd (ih _ h4 hw.2.2).2⟩
  | sub f nx ihf ih =>
    intro x h hw
    have hC := h
    obtain ⟨j, rfl, h1, h2, h3, h4⟩ := h
    have hfh : (qt_ev g f).2.2 = false → (qt_ev g f).1 = false := by
      intro q
      cases f with
      | mulL k nx => simp only [qt_ev, Bool.or_eq_false_iff] at q ⊢; exact q.1
      | add f nx => simp only [qt_ev, Bool.or_eq_false_iff] at q ⊢; exact q.1
      | sub f nx => simp only [qt_ev, Bool.or_eq_false_iff] at q ⊢; exact q.1
      | num v => rfl
      | var i => rfl
      | neg a => rfl
      | mulR a k => rfl
    have hd : (qt_ev g (.sub f nx)).1 = false → ∀ D rt l3, (qt_dp (.sub f nx)).1 + 2 ≤ D → qa_run D 222 2 [qa_a (some u), rt, qa_i (nI j), l3] [] [] (K, I, R, n, z) = some (some (qa_i (nI (qt_bl g (.sub f nx)).1)), (K, I, R, n, z)) := by
      intro hfa D rt l3 hD
      simp only [qt_dp] at hD
      have hdp1 := qt_dp_1 (t := f)
      have g := (ihf _ h3 hw.2.1).1 hw.1 (hfh hfa) D rt (qa_i (I (u + 5) (192 + j))) (by omega)
      rw [qr_222_2]
      simp (disch := first | assumption | omega | exact Or.inl rfl | exact Or.inr rfl | exact qb_01) only [qr_222_0, qr_222_1, qr_222_3, qr_222_6, qr_222_8, qr_222_9, qr_222_10, qr_222_11, qr_222_13, qr_222_16, qr_222_17, qr_222_20, qr_222_23, qr_222_24, qr_222_25, qr_222_26, qr_222_28, qr_222_31, qr_222_33, qr_222_34, qr_222_35, qr_222_36, qr_222_38, qr_222_41, qr_222_42, qr_222_43, qr_222_46, qr_222_49, qr_222_50, qr_222_53, qr_222_56, qr_222_57, qr_222_58, qr_222_59, qr_222_60, qr_222_63, qr_222_64, qr_222_65, qr_222_68, qr_222_69, qr_222_72, qr_222_74, qr_222_75, qr_222_76, qr_222_77, true_and, and_true, false_and, and_false, Option.bind_some, Option.toList_some, Option.toList_none, List.nil_append, List.cons_append, if_true, if_false, ite_true, ite_false, not_true_eq_false, not_false_eq_true, qn_lt0, qn_ge0, qn_lt, qn_le, qn_eq, qn_e0, qn_gt0, qn_le0, qn_m1, nI_add, pk_mul, qb_e0, Classical.not_not, c3, h2, show ¬ 101 < 100 by decide, show 100 ≤ 101 by decide]
      rw [qr_222_27]
      simp (disch := first | assumption | omega | exact Or.inl rfl | exact Or.inr rfl | exact qb_01) only [qr_222_0, qr_222_1, qr_222_3, qr_222_6, qr_222_8, qr_222_9, qr_222_10, qr_222_11, qr_222_13, qr_222_16, qr_222_17, qr_222_20, qr_222_23, qr_222_24, qr_222_25, qr_222_26, qr_222_28, qr_222_31, qr_222_33, qr_222_34, qr_222_35, qr_222_36, qr_222_38, qr_222_41, qr_222_42, qr_222_43, qr_222_46, qr_222_49, qr_222_50, qr_222_53, qr_222_56, qr_222_57, qr_222_58, qr_222_59, qr_222_60, qr_222_63, qr_222_64, qr_222_65, qr_222_68, qr_222_69, qr_222_72, qr_222_74, qr_222_75, qr_222_76, qr_222_77, true_and, and_true, false_and, and_false, Option.bind_some, Option.toList_some, Option.toList_none, List.nil_append, List.cons_append, if_true, if_false, ite_true, ite_false, not_true_eq_false, not_false_eq_true, qn_lt0, qn_ge0, qn_lt, qn_le, qn_eq, qn_e0, qn_gt0, qn_le0, qn_m1, nI_add, pk_mul, qb_e0, Classical.not_not, c3, h2, g, qt_bl, show ¬ 101 = 100 by decide]
    exact ⟨fun _ => hd, step _ nx j h1 hC rfl rfl rfl rfl hd (ih _ h4 hw.2.2).2⟩
end Q28
