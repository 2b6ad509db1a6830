/-! Trees in the class: whether they are fulfilled, what blocks. -/
theorem qb_T [Decidable True] : qa_bi True = nI 1 := qb_t trivial
theorem qb_F [Decidable False] : qa_bi False = nI 0 := qb_f (fun h => h)
theorem qb_tt : qa_bi (true = true) = nI 1 := rfl
theorem qb_ff : qa_bi (false = true) = nI 0 := rfl
section Q27
variable {a b : Nat} {K : Nat → Nat × Nat} {I : Nat → Nat → Int32} {R : Nat → Nat → Option Nat} {n z : Nat} {x y w mb : Int32} {h : qa_H} {u nk ni k i j m B : Nat}
theorem qs_EP_isFulfilled_all (mb : Int32) : ∀ (t : qt_T) (o : Option Nat), qt_C K I R t o → (qt_ne t = true → ∀ D e, (qt_dp t).1 ≤ D → e + (qt_dp t).1 ≤ 13 → qa_ex D 97 [qa_a o, qa_i mb, qa_i (nI e)] (K, I, R, n, z) = some (some (qa_i (qa_bi ((qt_ev (qt_bit mb) t).1 = true))), (K, I, R, n, z))) ∧
    (∀ D e rt, (qt_dp t).2 ≤ D → e + 1 + (qt_dp t).2 ≤ 13 → qa_run D 97 57 [rt, qa_i mb, qa_i (nI e), qa_i (nI 1), qa_a o] [] [] (K, I, R, n, z) = some (some (qa_i (qa_bi ((qt_ev (qt_bit mb) t).2.1 = true))), (K, I, R, n, z))) ∧
    (∀ D e rt, (qt_dp t).2 ≤ D → e + 1 + (qt_dp t).2 ≤ 13 → qa_run D 97 57 [rt, qa_i mb, qa_i (nI e), qa_i (nI 0), qa_a o] [] [] (K, I, R, n, z) = some (some (qa_i (qa_bi ((qt_ev (qt_bit mb) t).2.2 = true))), (K, I, R, n, z))) := by
  have stepA : ∀ (t nx : qt_T) (a : Nat), K a = (10, 0) → (qt_ev (qt_bit mb) t).2.1 = ((qt_ev (qt_bit mb) t).1 && (qt_ev (qt_bit mb) nx).2.1) → (qt_dp t).2 = max (qt_dp t).1 (qt_dp nx).2 → (∀ D e, (qt_dp t).1 ≤ D → e + (qt_dp t).1 ≤ 13 → qa_ex D 97 [qa_a (some a), qa_i mb, qa_i (nI e)] (K, I, R, n, z) = some (some (qa_i (qa_bi ((qt_ev (qt_bit mb) t).1 = true))), (K, I, R, n, z))) →
      (∀ D e rt, (qt_dp nx).2 ≤ D → e + 1 + (qt_dp nx).2 ≤ 13 → qa_run D 97 57 [rt, qa_i mb, qa_i (nI e), qa_i (nI 1), qa_a (R a 3)] [] [] (K, I, R, n, z) = some (some (qa_i (qa_bi ((qt_ev (qt_bit mb) nx).2.1 = true))), (K, I, R, n, z))) →
      ∀ D e rt, (qt_dp t).2 ≤ D → e + 1 + (qt_dp t).2 ≤ 13 → qa_run D 97 57 [rt, qa_i mb, qa_i (nI e), qa_i (nI 1), qa_a (some a)] [] [] (K, I, R, n, z) = some (some (qa_i (qa_bi ((qt_ev (qt_bit mb) t).2.1 = true))), (K, I, R, n, z)) := by
    intro t nx a hk hev hdp h1 h2 D e rt hD he
    have g1 := h1 D (e + 1) (by omega) (by omega)
    have g2 := h2 D e rt (by omega) (by omega)
    rw [qr_97_57, hev]
    cases hv : (qt_ev (qt_bit mb) t).1 with
    | true =>
      rw [hv] at g1
      simp (disch := first | assumption | omega | exact Or.inl rfl | exact Or.inr rfl | exact qb_01) only [qr_97_0, qr_97_1_0, qr_97_1_1, qr_97_4, qr_97_5, qr_97_7, qr_97_10, qr_97_11, qr_97_12, qr_97_13, qr_97_16, qr_97_19, qr_97_20, qr_97_21, qr_97_24, qr_97_25, qr_97_26, qr_97_27, qr_97_28, qr_97_31, qr_97_32, qr_97_35, qr_97_36, qr_97_37, qr_97_38, qr_97_41, qr_97_42, qr_97_45, qr_97_46, qr_97_49, qr_97_50, qr_97_51, qr_97_52, qr_97_55, qr_97_59_0, qr_97_59_1, qr_97_62, qr_97_64, qr_97_65, qr_97_66, qr_97_67, qr_97_68, qr_97_71, qr_97_72, qr_97_75, qr_97_76, qr_97_79, qr_97_80, qr_97_83, qr_97_84, qr_97_85, qr_97_87, qr_97_90, qr_97_92, qr_97_95, qr_97_96, true_and, and_true, false_and, and_false, Option.bind_some, Option.toList_some, Option.toList_none, List.nil_append, List.cons_append, if_true, if_false, ite_true, ite_false, not_true_eq_false, not_false_eq_true, nI_add, g1, qb_tt, qb_T, g2, Bool.true_and]
    | false =>
      rw [hv] at g1
      simp (disch := first | assumption | omega | exact Or.inl rfl | exact Or.inr rfl | exact qb_01) only [qr_97_0, qr_97_1_0, qr_97_1_1, qr_97_4, qr_97_5, qr_97_7, qr_97_10, qr_97_11, qr_97_12, qr_97_13, qr_97_16, qr_97_19, qr_97_20, qr_97_21, qr_97_24, qr_97_25, qr_97_26, qr_97_27, qr_97_28, qr_97_31, qr_97_32, qr_97_35, qr_97_36, qr_97_37, qr_97_38, qr_97_41, qr_97_42, qr_97_45, qr_97_46, qr_97_49, qr_97_50, qr_97_51, qr_97_52, qr_97_55, qr_97_59_0, qr_97_59_1, qr_97_62, qr_97_64, qr_97_65, qr_97_66, qr_97_67, qr_97_68, qr_97_71, qr_97_72, qr_97_75, qr_97_76, qr_97_79, qr_97_80, qr_97_83, qr_97_84, qr_97_85, qr_97_87, qr_97_90, qr_97_92, qr_97_95, qr_97_96, true_and, and_true, false_and, and_false, Option.bind_some, Option.toList_some, Option.toList_none, List.nil_append, List.cons_append, if_true, if_false, ite_true, ite_false, not_true_eq_false, not_false_eq_true, qn_lt0, qn_ge0, qn_lt, qn_le, qn_eq, qn_e0, qn_gt0, qn_le0, qn_m1, nI_add, pk_mul, qb_e0, Classical.not_not, g1, qb_ff, qb_F, Bool.false_and, Nat.one_ne_zero, show ¬ 0 = 1 by decide]
  have stepO : ∀ (t nx : qt_T) (a : Nat), K a = (10, 0) → (qt_ev (qt_bit mb) t).2.2 = ((qt_ev (qt_bit mb) t).1 || (qt_ev (qt_bit mb) nx).2.2) → (qt_dp t).2 = max (qt_dp t).1 (qt_dp nx).2 → (∀ D e, (qt_dp t).1 ≤ D → e + (qt_dp t).1 ≤ 13 → qa_ex D 97 [qa_a (some a), qa_i mb, qa_i (nI e)] (K, I, R, n, z) = some (some (qa_i (qa_bi ((qt_ev (qt_bit mb) t).1 = true))), (K, I, R, n, z))) →
      (∀ D e rt, (qt_dp nx).2 ≤ D → e + 1 + (qt_dp nx).2 ≤ 13 → qa_run D 97 57 [rt, qa_i mb, qa_i (nI e), qa_i (nI 0), qa_a (R a 3)] [] [] (K, I, R, n, z) = some (some (qa_i (qa_bi ((qt_ev (qt_bit mb) nx).2.2 = true))), (K, I, R, n, z))) →
      ∀ D e rt, (qt_dp t).2 ≤ D → e + 1 + (qt_dp t).2 ≤ 13 → qa_run D 97 57 [rt, qa_i mb, qa_i (nI e), qa_i (nI 0), qa_a (some a)] [] [] (K, I, R, n, z) = some (some (qa_i (qa_bi ((qt_ev (qt_bit mb) t).2.2 = true))), (K, I, R, n, z)) := by
    intro t nx a hk hev hdp h1 h2 D e rt hD he
    have g1 := h1 D (e + 1) (by omega) (by omega)
    have g2 := h2 D e rt (by omega) (by omega)
    rw [qr_97_57, hev]
    cases hv : (qt_ev (qt_bit mb) t).1 with
    | false =>
      rw [hv] at g1
      simp (disch := first | assumption | omega | exact Or.inl rfl | exact Or.inr rfl | exact qb_01) only [qr_97_0, qr_97_1_0, qr_97_1_1, qr_97_4, qr_97_5, qr_97_7, qr_97_10, qr_97_11, qr_97_12, qr_97_13, qr_97_16, qr_97_19, qr_97_20, qr_97_21, qr_97_24, qr_97_25, qr_97_26, qr_97_27, qr_97_28, qr_97_31, qr_97_32, qr_97_35, qr_97_36, qr_97_37, qr_97_38, qr_97_41, qr_97_42, qr_97_45, qr_97_46, qr_97_49, qr_97_50, qr_97_51, qr_97_52, qr_97_55, qr_97_59_0, qr_97_59_1, qr_97_62, qr_97_64, qr_97_65, qr_97_66, qr_97_67, qr_97_68, qr_97_71, qr_97_72, qr_97_75, qr_97_76, qr_97_79, qr_97_80, qr_97_83, qr_97_84, qr_97_85, qr_97_87, qr_97_90, qr_97_92, qr_97_95, qr_97_96, true_and, and_true, false_and, and_false, Option.bind_some, Option.toList_some, Option.toList_none, List.nil_append, List.cons_append, if_true, if_false, ite_true, ite_false, not_true_eq_false, not_false_eq_true, nI_add, g1, qb_ff, qb_F, g2, Bool.false_or]
    | true =>
      rw [hv] at g1
      simp (disch := first | assumption | omega | exact Or.inl rfl | exact Or.inr rfl | exact qb_01) only [qr_97_0, qr_97_1_0, qr_97_1_1, qr_97_4, qr_97_5, qr_97_7, qr_97_10, qr_97_11, qr_97_12, qr_97_13, qr_97_16, qr_97_19, qr_97_20, qr_97_21, qr_97_24, qr_97_25, qr_97_26, qr_97_27, qr_97_28, qr_97_31, qr_97_32, qr_97_35, qr_97_36, qr_97_37, qr_97_38, qr_97_41, qr_97_42, qr_97_45, qr_97_46, qr_97_49, qr_97_50, qr_97_51, qr_97_52, qr_97_55, qr_97_59_0, qr_97_59_1, qr_97_62, qr_97_64, qr_97_65, qr_97_66, qr_97_67, qr_97_68, qr_97_71, qr_97_72, qr_97_75, qr_97_76, qr_97_79, qr_97_80, qr_97_83, qr_97_84, qr_97_85, qr_97_87, qr_97_90, qr_97_92, qr_97_95, qr_97_96, true_and, and_true, false_and, and_false, Option.bind_some, Option.toList_some, Option.toList_none, List.nil_append, List.cons_append, if_true, if_false, ite_true, ite_false, not_true_eq_false, not_false_eq_true, qn_lt0, qn_ge0, qn_lt, qn_le, qn_eq, qn_e0, qn_gt0, qn_le0, qn_m1, nI_add, pk_mul, qb_e0, Classical.not_not, g1, qb_tt, qb_T, Bool.true_or, Nat.one_ne_zero]
  intro t
  induction t with
  | num v =>
    intro o h
    have h : o = none := h
    subst h
    refine ⟨fun h => absurd h (by intro q; cases q), fun D e rt hD he => ?_, fun D e rt hD he => ?_⟩
    · rw [qr_97_57]
      simp (disch := first | assumption | omega | exact Or.inl rfl | exact Or.inr rfl | exact qb_01) only [qr_97_0, qr_97_1_0, qr_97_1_1, qr_97_4, qr_97_5, qr_97_7, qr_97_10, qr_97_11, qr_97_12, qr_97_13, qr_97_16, qr_97_19, qr_97_20, qr_97_21, qr_97_24, qr_97_25, qr_97_26, qr_97_27, qr_97_28, qr_97_31, qr_97_32, qr_97_35, qr_97_36, qr_97_37, qr_97_38, qr_97_41, qr_97_42, qr_97_45, qr_97_46, qr_97_49, qr_97_50, qr_97_51, qr_97_52, qr_97_55, qr_97_59_0, qr_97_59_1, qr_97_62, qr_97_64, qr_97_65, qr_97_66, qr_97_67, qr_97_68, qr_97_71, qr_97_72, qr_97_75, qr_97_76, qr_97_79, qr_97_80, qr_97_83, qr_97_84, qr_97_85, qr_97_87, qr_97_90, qr_97_92, qr_97_95, qr_97_96]
      rfl
    · rw [qr_97_57]
      simp (disch := first | assumption | omega | exact Or.inl rfl | exact Or.inr rfl | exact qb_01) only [qr_97_0, qr_97_1_0, qr_97_1_1, qr_97_4, qr_97_5, qr_97_7, qr_97_10, qr_97_11, qr_97_12, qr_97_13, qr_97_16, qr_97_19, qr_97_20, qr_97_21, qr_97_24, qr_97_25, qr_97_26, qr_97_27, qr_97_28, qr_97_31, qr_97_32, qr_97_35, qr_97_36, qr_97_37, qr_97_38, qr_97_41, qr_97_42, qr_97_45, qr_97_46, qr_97_49, qr_97_50, qr_97_51, qr_97_52, qr_97_55, qr_97_59_0, qr_97_59_1, qr_97_62, qr_97_64, qr_97_65, qr_97_66, qr_97_67, qr_97_68, qr_97_71, qr_97_72, qr_97_75, qr_97_76, qr_97_79, qr_97_80, qr_97_83, qr_97_84, qr_97_85, qr_97_87, qr_97_90, qr_97_92, qr_97_95, qr_97_96]
      rfl
  | var i => intro o h; exact h.elim
  | neg a => intro o h; exact h.elim
  | mulR a k => intro o h; exact h.elim
  | mulL k nx ih =>
    intro o h
    obtain ⟨a, rfl, -, h1, h2, h3, h4⟩ := h
    have hd : ∀ D e, (qt_dp (.mulL k nx)).1 ≤ D → e + (qt_dp (.mulL k nx)).1 ≤ 13 → qa_ex D 97 [qa_a (some a), qa_i mb, qa_i (nI e)] (K, I, R, n, z) = some (some (qa_i (qa_bi ((qt_ev (qt_bit mb) (.mulL k nx)).1 = true))), (K, I, R, n, z)) := by
      intro D e hD he
      simp only [qt_dp] at hD he
      obtain ⟨d, rfl⟩ : ∃ d, D = d + 1 := ⟨D - 1, by omega⟩
      have e1 : e ≤ 12 := by omega
      simp (disch := first | assumption | omega | exact Or.inl rfl | exact Or.inr rfl | exact qb_01) only [qe_97, qr_97_0, qr_97_1_0, qr_97_1_1, qr_97_4, qr_97_5, qr_97_7, qr_97_10, qr_97_11, qr_97_12, qr_97_13, qr_97_16, qr_97_19, qr_97_20, qr_97_21, qr_97_24, qr_97_25, qr_97_26, qr_97_27, qr_97_28, qr_97_31, qr_97_32, qr_97_35, qr_97_36, qr_97_37, qr_97_38, qr_97_41, qr_97_42, qr_97_45, qr_97_46, qr_97_49, qr_97_50, qr_97_51, qr_97_52, qr_97_55, qr_97_59_0, qr_97_59_1, qr_97_62, qr_97_64, qr_97_65, qr_97_66, qr_97_67, qr_97_68, qr_97_71, qr_97_72, qr_97_75, qr_97_76, qr_97_79, qr_97_80, qr_97_83, qr_97_84, qr_97_85, qr_97_87, qr_97_90, qr_97_92, qr_97_95, qr_97_96, true_and, and_true, false_and, and_false, Option.bind_some, Option.toList_some, Option.toList_none, List.nil_append, List.cons_append, if_true, if_false, ite_true, ite_false, not_true_eq_false, not_false_eq_true, qn_lt0, qn_ge0, qn_lt, qn_le, qn_eq, qn_e0, qn_gt0, qn_le0, qn_m1, nI_add, pk_mul, qb_e0, Classical.not_not, h2, h3, e1]
      by_cases hq : mb >>> (nI k.toNat &&& 31) &&& nI 1 = nI 1
      · have hv : (qt_ev (qt_bit mb) (.mulL k nx)).1 = true := decide_eq_true hq
        rw [if_neg (fun w => w hq), qb_t hv]
      · have hv : ¬ (qt_ev (qt_bit mb) (.mulL k nx)).1 = true := fun w => hq (of_decide_eq_true w)
        rw [if_pos hq, qb_f hv]
    exact ⟨fun _ => hd, stepA _ nx a h1 rfl rfl hd (ih _ h4).2.1, stepO _ nx a h1 rfl rfl hd (ih _ h4).2.2⟩
  | add f nx ihf ih =>
    intro o h
    obtain ⟨a, rfl, -, h1, h2, h3, h4⟩ := h
    have hd : ∀ D e, (qt_dp (.add f nx)).1 ≤ D → e + (qt_dp (.add f nx)).1 ≤ 13 → qa_ex D 97 [qa_a (some a), qa_i mb, qa_i (nI e)] (K, I, R, n, z) = some (some (qa_i (qa_bi ((qt_ev (qt_bit mb) (.add f nx)).1 = true))), (K, I, R, n, z)) := by
      intro D e hD he
      simp only [qt_dp] at hD he
      obtain ⟨d, rfl⟩ : ∃ d, D = d + 1 := ⟨D - 1, by omega⟩
      have e1 : e ≤ 12 := by omega
      have g := (ihf _ h3).2.1 d e (qa_a (some a)) (by omega) (by omega)
      simp (disch := first | assumption | omega | exact Or.inl rfl | exact Or.inr rfl | exact qb_01) only [qe_97, qr_97_0, qr_97_1_0, qr_97_1_1, qr_97_4, qr_97_5, qr_97_7, qr_97_10, qr_97_11, qr_97_12, qr_97_13, qr_97_16, qr_97_19, qr_97_20, qr_97_21, qr_97_24, qr_97_25, qr_97_26, qr_97_27, qr_97_28, qr_97_31, qr_97_32, qr_97_35, qr_97_36, qr_97_37, qr_97_38, qr_97_41, qr_97_42, qr_97_45, qr_97_46, qr_97_49, qr_97_50, qr_97_51, qr_97_52, qr_97_55, qr_97_59_0, qr_97_59_1, qr_97_62, qr_97_64, qr_97_65, qr_97_66, qr_97_67, qr_97_68, qr_97_71, qr_97_72, qr_97_75, qr_97_76, qr_97_79, qr_97_80, qr_97_83, qr_97_84, qr_97_85, qr_97_87, qr_97_90, qr_97_92, qr_97_95, qr_97_96, true_and, and_true, false_and, and_false, Option.bind_some, Option.toList_some, Option.toList_none, List.nil_append, List.cons_append, if_true, if_false, ite_true, ite_false, not_true_eq_false, not_false_eq_true, qn_lt0, qn_ge0, qn_lt, qn_le, qn_eq, qn_e0, qn_gt0, qn_le0, qn_m1, nI_add, pk_mul, qb_e0, Classical.not_not, h2, e1, g, Nat.one_ne_zero]
      rfl
    exact ⟨fun _ => hd, stepA _ nx a h1 rfl rfl hd (ih _ h4).2.1, stepO _ nx a h1 rfl rfl hd (ih _ h4).2.2⟩
  | sub f nx ihf ih =>
    intro o h
    obtain ⟨a, rfl, -, h1, h2, h3, h4⟩ := h
    have hd : ∀ D e, (qt_dp (.sub f nx)).1 ≤ D → e + (qt_dp (.sub f nx)).1 ≤ 13 → qa_ex D 97 [qa_a (some a), qa_i mb, qa_i (nI e)] (K, I, R, n, z) = some (some (qa_i (qa_bi ((qt_ev (qt_bit mb) (.sub f nx)).1 = true))), (K, I, R, n, z)) := by
      intro D e hD he
      simp only [qt_dp] at hD he
      obtain ⟨d, rfl⟩ : ∃ d, D = d + 1 := ⟨D - 1, by omega⟩
      have e1 : e ≤ 12 := by omega
      have g := (ihf _ h3).2.2 d e (qa_a (some a)) (by omega) (by omega)
      simp (disch := first | assumption | omega | exact Or.inl rfl | exact Or.inr rfl | exact qb_01) only [qe_97, qr_97_0, qr_97_1_0, qr_97_1_1, qr_97_4, qr_97_5, qr_97_7, qr_97_10, qr_97_11, qr_97_12, qr_97_13, qr_97_16, qr_97_19, qr_97_20, qr_97_21, qr_97_24, qr_97_25, qr_97_26, qr_97_27, qr_97_28, qr_97_31, qr_97_32, qr_97_35, qr_97_36, qr_97_37, qr_97_38, qr_97_41, qr_97_42, qr_97_45, qr_97_46, qr_97_49, qr_97_50, qr_97_51, qr_97_52, qr_97_55, qr_97_59_0, qr_97_59_1, qr_97_62, qr_97_64, qr_97_65, qr_97_66, qr_97_67, qr_97_68, qr_97_71, qr_97_72, qr_97_75, qr_97_76, qr_97_79, qr_97_80, qr_97_83, qr_97_84, qr_97_85, qr_97_87, qr_97_90, qr_97_92, qr_97_95, qr_97_96, true_and, and_true, false_and, and_false, Option.bind_some, Option.toList_some, Option.toList_none, List.nil_append, List.cons_append, if_true, if_false, ite_true, ite_false, not_true_eq_false, not_false_eq_true, qn_lt0, qn_ge0, qn_lt, qn_le, qn_eq, qn_e0, qn_gt0, qn_le0, qn_m1, nI_add, pk_mul, qb_e0, Classical.not_not, h2, e1, g, show ¬ 2 = 0 by decide, show ¬ 2 = 1 by decide]
      rfl
    exact ⟨fun _ => hd, stepA _ nx a h1 rfl rfl hd (ih _ h4).2.1, stepO _ nx a h1 rfl rfl hd (ih _ h4).2.2⟩
theorem qt_dp_1 {t : qt_T} : (qt_dp t).1 ≤ (qt_dp t).2 := by
  cases t <;> simp [qt_dp] <;> omega
theorem qs_EP_blocking_all (mb : Int32) : ∀ (t : qt_T) (o : Option Nat), qt_C K I R t o → qt_wf 10 t → (qt_ne t = true → (qt_ev (qt_bit mb) t).1 = false → ∀ D e, (qt_dp t).1 ≤ D → e + (qt_dp t).1 ≤ 13 → qa_ex D 133 [qa_a o, qa_i mb, qa_i (nI e)] (K, I, R, n, z) = some (some (qa_i (nI (qt_bl (qt_bit mb) t).1)), (K, I, R, n, z))) ∧
    ((qt_ev (qt_bit mb) t).2.1 = false → ∀ D e rt, (qt_dp t).2 ≤ D → e + 1 + (qt_dp t).2 ≤ 13 → qa_run D 133 49 [rt, qa_i mb, qa_i (nI e), qa_a o] [] [] (K, I, R, n, z) = some (some (qa_i (nI (qt_bl (qt_bit mb) t).2)), (K, I, R, n, z))) := by
  have step : ∀ (t nx : qt_T) (a : Nat), qt_C K I R t (some a) → qt_ne t = true → K a = (10, 0) → (qt_ev (qt_bit mb) t).2.1 = ((qt_ev (qt_bit mb) t).1 && (qt_ev (qt_bit mb) nx).2.1) → (qt_bl (qt_bit mb) t).2 = (if (qt_ev (qt_bit mb) t).1 = true then (qt_bl (qt_bit mb) nx).2 else (qt_bl (qt_bit mb) t).1) → (qt_dp t).2 = max (qt_dp t).1 (qt_dp nx).2 →
      ((qt_ev (qt_bit mb) t).1 = false → ∀ D e, (qt_dp t).1 ≤ D → e + (qt_dp t).1 ≤ 13 → qa_ex D 133 [qa_a (some a), qa_i mb, qa_i (nI e)] (K, I, R, n, z) = some (some (qa_i (nI (qt_bl (qt_bit mb) t).1)), (K, I, R, n, z))) →
      ((qt_ev (qt_bit mb) nx).2.1 = false → ∀ D e rt, (qt_dp nx).2 ≤ D → e + 1 + (qt_dp nx).2 ≤ 13 → qa_run D 133 49 [rt, qa_i mb, qa_i (nI e), qa_a (R a 3)] [] [] (K, I, R, n, z) = some (some (qa_i (nI (qt_bl (qt_bit mb) nx).2)), (K, I, R, n, z))) →
      (qt_ev (qt_bit mb) t).2.1 = false → ∀ D e rt, (qt_dp t).2 ≤ D → e + 1 + (qt_dp t).2 ≤ 13 → qa_run D 133 49 [rt, qa_i mb, qa_i (nI e), qa_a (some a)] [] [] (K, I, R, n, z) = some (some (qa_i (nI (qt_bl (qt_bit mb) t).2)), (K, I, R, n, z)) := by
    intro t nx a hC hne hk hev hbl hdp h1 h2 hfa D e rt hD he
    have g0 := (qs_EP_isFulfilled_all (K := K) (I := I) (R := R) (n := n) (z := z) mb t (some a) hC).1 hne D (e + 1) (by omega) (by omega)
    rw [hev] at hfa
    rw [qr_133_49, hbl]
    cases hv : (qt_ev (qt_bit mb) t).1 with
    | true =>
      rw [hv, Bool.true_and] at hfa
      rw [hv] at g0
      have g2 := h2 hfa D e rt (by omega) (by omega)
      simp (disch := first | assumption | omega | exact Or.inl rfl | exact Or.inr rfl | exact qb_01) only [qr_133_0, qr_133_1_0, qr_133_1_1, qr_133_4, qr_133_5, qr_133_7, qr_133_10, qr_133_11, qr_133_12, qr_133_13, qr_133_16, qr_133_19, qr_133_20, qr_133_23, qr_133_24, qr_133_25, qr_133_28, qr_133_29, qr_133_32, qr_133_33, qr_133_36, qr_133_37, qr_133_38, qr_133_39, qr_133_40, qr_133_43, qr_133_44, qr_133_45, qr_133_48, qr_133_50_0, qr_133_50_1, qr_133_53, qr_133_54, qr_133_55, qr_133_56, qr_133_57, qr_133_58, qr_133_61, qr_133_64, qr_133_65, qr_133_66, qr_133_67, qr_133_68, qr_133_69, qr_133_72, qr_133_73, qr_133_74, qr_133_77, qr_133_78, qr_133_81, qr_133_82, true_and, and_true, false_and, and_false, Option.bind_some, Option.toList_some, Option.toList_none, List.nil_append, List.cons_append, if_true, if_false, ite_true, ite_false, not_true_eq_false, not_false_eq_true, qn_lt0, qn_ge0, qn_lt, qn_le, qn_eq, qn_e0, qn_gt0, qn_le0, qn_m1, nI_add, pk_mul, qb_e0, Classical.not_not, g0, qb_tt, qb_T, g2, Nat.one_ne_zero]
    | false =>
      rw [hv] at g0
      have g1 := h1 hv D (e + 1) (by omega) (by omega)
      simp (disch := first | assumption | omega | exact Or.inl rfl | exact Or.inr rfl | exact qb_01) only [qr_133_0, qr_133_1_0, qr_133_1_1, qr_133_4, qr_133_5, qr_133_7, qr_133_10, qr_133_11, qr_133_12, qr_133_13, qr_133_16, qr_133_19, qr_133_20, qr_133_23, qr_133_24, qr_133_25, qr_133_28, qr_133_29, qr_133_32, qr_133_33, qr_133_36, qr_133_37, qr_133_38, qr_133_39, qr_133_40, qr_133_43, qr_133_44, qr_133_45, qr_133_48, qr_133_50_0, qr_133_50_1, qr_133_53, qr_133_54, qr_133_55, qr_133_56, qr_133_57, qr_133_58, qr_133_61, qr_133_64, qr_133_65, qr_133_66, qr_133_67, qr_133_68, qr_133_69, qr_133_72, qr_133_73, qr_133_74, qr_133_77, qr_133_78, qr_133_81, qr_133_82, true_and, and_true, false_and, and_false, Option.bind_some, Option.toList_some, Option.toList_none, List.nil_append, List.cons_append, if_true, if_false, ite_true, ite_false, not_true_eq_false, not_false_eq_true, qn_lt0, qn_ge0, qn_lt, qn_le, qn_eq, qn_e0, qn_gt0, qn_le0, qn_m1, nI_add, pk_mul, qb_e0, Classical.not_not, g0, qb_ff, qb_F, g1, Bool.false_eq_true]
  intro t
  induction t with
  | num v =>
    intro o h hw
    refine ⟨fun h => absurd h (by intro q; cases q), fun q => absurd q (by intro q; cases q)⟩
  | var i => intro o h; exact h.elim
  | neg a => intro o h; exact h.elim
  | mulR a k => intro o h; exact h.elim
  | mulL k nx ih =>
    intro o h hw
    have hC := h
    obtain ⟨a, rfl, -, h1, h2, h3, h4⟩ := h
    have hd : ∀ D e, (qt_dp (.mulL k nx)).1 ≤ D → e + (qt_dp (.mulL k nx)).1 ≤ 13 → qa_ex D 133 [qa_a (some a), qa_i mb, qa_i (nI e)] (K, I, R, n, z) = some (some (qa_i (nI (qt_bl (qt_bit mb) (.mulL k nx)).1)), (K, I, R, n, z)) := by
      intro D e hD he
      simp only [qt_dp] at hD he
      obtain ⟨d, rfl⟩ : ∃ d, D = d + 1 := ⟨D - 1, by omega⟩
      have e1 : e ≤ 12 := by omega
      simp (disch := first | assumption | omega | exact Or.inl rfl | exact Or.inr rfl | exact qb_01) only [qe_133, qr_133_0, qr_133_1_0, qr_133_1_1, qr_133_4, qr_133_5, qr_133_7, qr_133_10, qr_133_11, qr_133_12, qr_133_13, qr_133_16, qr_133_19, qr_133_20, qr_133_23, qr_133_24, qr_133_25, qr_133_28, qr_133_29, qr_133_32, qr_133_33, qr_133_36, qr_133_37, qr_133_38, qr_133_39, qr_133_40, qr_133_43, qr_133_44, qr_133_45, qr_133_48, qr_133_50_0, qr_133_50_1, qr_133_53, qr_133_54, qr_133_55, qr_133_56, qr_133_57, qr_133_58, qr_133_61, qr_133_64, qr_133_65, qr_133_66, qr_133_67, qr_133_68, qr_133_69, qr_133_72, qr_133_73, qr_133_74, qr_133_77, qr_133_78, qr_133_81, qr_133_82, true_and, and_true, false_and, and_false, Option.bind_some, Option.toList_some, Option.toList_none, List.nil_append, List.cons_append, if_true, if_false, ite_true, ite_false, not_true_eq_false, not_false_eq_true, qn_lt0, qn_ge0, qn_lt, qn_le, qn_eq, qn_e0, qn_gt0, qn_le0, qn_m1, nI_add, pk_mul, qb_e0, Classical.not_not, h2, h3, e1, qt_bl]
    exact ⟨fun _ _ => hd, step _ nx a hC rfl h1 rfl rfl rfl (fun _ => hd) (ih _ h4 hw.2).2⟩
  | add f nx ihf ih =>
    intro o h hw
    have hC := h
    obtain ⟨a, rfl, -, h1, h2, h3, h4⟩ := h
    have hd : (qt_ev (qt_bit mb) (.add f nx)).1 = false → ∀ D e, (qt_dp (.add f nx)).1 ≤ D → e + (qt_dp (.add f nx)).1 ≤ 13 → qa_ex D 133 [qa_a (some a), qa_i mb, qa_i (nI e)] (K, I, R, n, z) = some (some (qa_i (nI (qt_bl (qt_bit mb) (.add f nx)).1)), (K, I, R, n, z)) := by
      intro hfa D e hD he
      simp only [qt_dp] at hD he
      obtain ⟨d, rfl⟩ : ∃ d, D = d + 1 := ⟨D - 1, by omega⟩
      have e1 : e ≤ 12 := by omega
      have g := (ihf _ h3 hw.2.1).2 hfa d e (qa_a (some a)) (by omega) (by omega)
      simp (disch := first | assumption | omega | exact Or.inl rfl | exact Or.inr rfl | exact qb_01) only [qe_133, qr_133_0, qr_133_1_0, qr_133_1_1, qr_133_4, qr_133_5, qr_133_7, qr_133_10, qr_133_11, qr_133_12, qr_133_13, qr_133_16, qr_133_19, qr_133_20, qr_133_23, qr_133_24, qr_133_25, qr_133_28, qr_133_29, qr_133_32, qr_133_33, qr_133_36, qr_133_37, qr_133_38, qr_133_39, qr_133_40, qr_133_43, qr_133_44, qr_133_45, qr_133_48, qr_133_50_0, qr_133_50_1, qr_133_53, qr_133_54, qr_133_55, qr_133_56, qr_133_57, qr_133_58, qr_133_61, qr_133_64, qr_133_65, qr_133_66, qr_133_67, qr_133_68, qr_133_69, qr_133_72, qr_133_73, qr_133_74, qr_133_77, qr_133_78, qr_133_81, qr_133_82, true_and, and_true, false_and, and_false, Option.bind_some, Option.toList_some, Option.toList_none, List.nil_append, List.cons_append, if_true, if_false, ite_true, ite_false, not_true_eq_false, not_false_eq_true, qn_lt0, qn_ge0, qn_lt, qn_le, qn_eq, qn_e0, qn_gt0, qn_le0, qn_m1, nI_add, pk_mul, qb_e0, Classical.not_not, h2, e1, g, qt_bl, Nat.one_ne_zero, show ¬ 1 = 2 by decide]
    exact ⟨fun _ => hd, step _ nx a hC rfl h1 rfl rfl rfl hd (ih _ h4 hw.2.2).2⟩
  | sub f nx ihf ih =>
    intro o h hw
    have hC := h
    obtain ⟨a, rfl, -, h1, h2, h3, h4⟩ := h
    have hfh : (qt_ev (qt_bit mb) f).2.2 = false → (qt_ev (qt_bit mb) f).1 = false := by
      intro q
      cases f with
      | mulL k nx => simp only [qt_ev, Bool.or_eq_false_iff] at q ⊢; exact q.1
      | add f nx => simp only [qt_ev, Bool.or_eq_false_iff] at q ⊢; exact q.1
      | sub f nx => simp only [qt_ev, Bool.or_eq_false_iff] at q ⊢; exact q.1
      | num v => rfl
      | var i => rfl
      | neg a => rfl
      | mulR a k => rfl
    have hd : (qt_ev (qt_bit mb) (.sub f nx)).1 = false → ∀ D e, (qt_dp (.sub f nx)).1 ≤ D → e + (qt_dp (.sub f nx)).1 ≤ 13 → qa_ex D 133 [qa_a (some a), qa_i mb, qa_i (nI e)] (K, I, R, n, z) = some (some (qa_i (nI (qt_bl (qt_bit mb) (.sub f nx)).1)), (K, I, R, n, z)) := by
      intro hfa D e hD he
      simp only [qt_dp] at hD he
      have hdp1 := qt_dp_1 (t := f)
      obtain ⟨d, rfl⟩ : ∃ d, D = d + 1 := ⟨D - 1, by omega⟩
      have e1 : e ≤ 12 := by omega
      have g := (ihf _ h3 hw.2.1).1 hw.1 (hfh hfa) d (e + 1) (by omega) (by omega)
      simp (disch := first | assumption | omega | exact Or.inl rfl | exact Or.inr rfl | exact qb_01) only [qe_133, qr_133_0, qr_133_1_0, qr_133_1_1, qr_133_4, qr_133_5, qr_133_7, qr_133_10, qr_133_11, qr_133_12, qr_133_13, qr_133_16, qr_133_19, qr_133_20, qr_133_23, qr_133_24, qr_133_25, qr_133_28, qr_133_29, qr_133_32, qr_133_33, qr_133_36, qr_133_37, qr_133_38, qr_133_39, qr_133_40, qr_133_43, qr_133_44, qr_133_45, qr_133_48, qr_133_50_0, qr_133_50_1, qr_133_53, qr_133_54, qr_133_55, qr_133_56, qr_133_57, qr_133_58, qr_133_61, qr_133_64, qr_133_65, qr_133_66, qr_133_67, qr_133_68, qr_133_69, qr_133_72, qr_133_73, qr_133_74, qr_133_77, qr_133_78, qr_133_81, qr_133_82, true_and, and_true, false_and, and_false, Option.bind_some, Option.toList_some, Option.toList_none, List.nil_append, List.cons_append, if_true, if_false, ite_true, ite_false, not_true_eq_false, not_false_eq_true, qn_lt0, qn_ge0, qn_lt, qn_le, qn_eq, qn_e0, qn_gt0, qn_le0, qn_m1, nI_add, pk_mul, qb_e0, Classical.not_not, h2, e1, g, qt_bl, show ¬ 2 = 0 by decide]
    exact ⟨fun _ => hd, step _ nx a hC rfl h1 rfl rfl rfl hd (ih _ h4 hw.2.2).2⟩
end Q27
