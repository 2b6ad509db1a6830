/-! Constructors of the class. -/
/-- what a constructor of the object a leaves as it was, n' being the next free cell afterwards -/
def qC_f (a n' : Nat) (K : Nat → Nat × Nat) (I : Nat → Nat → Int32) (R : Nat → Nat → Option Nat) (K' : Nat → Nat × Nat) (I' : Nat → Nat → Int32) (R' : Nat → Nat → Option Nat) : Prop := ∀ b, (b < a ∨ n' ≤ b) → K' b = K b ∧ I' b = I b ∧ R' b = R b
section Q74
variable {d a b f : Nat} {K : Nat → Nat × Nat} {I : Nat → Nat → Int32} {R : Nat → Nat → Option Nat} {n z : Nat} {x y : Int32} {h : qa_H} {m c p w u : Nat} {o : Option Nat}
theorem qs_TR_init (hk : K a = (1, 0)) : ∃ K' I' R' z', qa_ex (d + 1) 1 [qa_a (some a)] (K, I, R, a + 1, z) = some (none, (K', I', R', a + 2, z')) ∧ z' = z + 80 ∧ qp_T K' R' a ∧ I' a 1 = nI 0 ∧ qC_f a (a + 2) K I R K' I' R' := by
  apply Exists.intro
  apply Exists.intro
  apply Exists.intro
  apply Exists.intro
  apply And.intro
  · (simp (disch := first | assumption | omega | exact qa_up_s _ _ _ | exact Or.inl rfl | exact Or.inr rfl | exact qb_01 | (simp (disch := omega) only [qa_up_n, qa_up_s]; done) | (simp (disch := omega) only [qa_up_n, qa_up_s]; assumption)) only [qe_1, qr_1_0, qr_1_1, qr_1_4, qr_1_5, qr_1_7, qr_1_9, qr_1_12, qr_1_13, qr_1_14, qr_1_17, true_and, and_true, false_and, and_false, Option.bind_some, Option.toList_some, Option.toList_none, List.nil_append, List.cons_append, if_true, if_false, ite_true, ite_false, not_true_eq_false, not_false_eq_true, qa_up_s, qa_up_n, qa_uu]) <;> exact rfl
  · refine ⟨rfl, ⟨?_, ?_, ?_, ?_⟩, ?_, fun b hb => ⟨?_, ?_, ?_⟩⟩
    all_goals (simp (disch := omega) only [qa_up_s, qa_up_n]; try assumption)
theorem qs_CR_init (hk : K a = (2, 0)) : ∃ I' R', qa_ex (d + 1) 2 [qa_a (some a), qa_a o] (K, I, R, n, z) = some (none, (K, I', R', n, z)) ∧ R' a 0 = o ∧ ∀ b, b ≠ a → I' b = I b ∧ R' b = R b := by
  apply Exists.intro
  apply Exists.intro
  apply And.intro
  · (simp (disch := first | assumption | omega | exact qa_up_s _ _ _ | exact Or.inl rfl | exact Or.inr rfl | exact qb_01 | (simp (disch := omega) only [qa_up_n, qa_up_s]; done) | (simp (disch := omega) only [qa_up_n, qa_up_s]; assumption)) only [qe_2, qr_2_0, qr_2_1, qr_2_4, qr_2_5, qr_2_6, qr_2_9, qr_2_10, qr_2_11, qr_2_14, true_and, and_true, false_and, and_false, Option.bind_some, Option.toList_some, Option.toList_none, List.nil_append, List.cons_append, if_true, if_false, ite_true, ite_false, not_true_eq_false, not_false_eq_true, qa_up_s, qa_up_n, qa_uu]) <;> exact rfl
  · refine ⟨?_, fun b hb => ⟨?_, ?_⟩⟩
    all_goals (simp (disch := omega) only [qa_up_s, qa_up_n]; try assumption)
theorem qs_EX_init (hk : K a = (3, 0)) : ∃ K' I' R' z', qa_ex (d + 1) 3 [qa_a (some a)] (K, I, R, a + 1, z) = some (none, (K', I', R', a + 3, z')) ∧ z' = z + 22 ∧ qp_EX K' R' a ∧ I' a 2 = nI 0 ∧ qC_f a (a + 3) K I R K' I' R' := by
  apply Exists.intro
  apply Exists.intro
  apply Exists.intro
  apply Exists.intro
  apply And.intro
  · (simp (disch := first | assumption | omega | exact qa_up_s _ _ _ | exact Or.inl rfl | exact Or.inr rfl | exact qb_01 | (simp (disch := omega) only [qa_up_n, qa_up_s]; done) | (simp (disch := omega) only [qa_up_n, qa_up_s]; assumption)) only [qe_3, qr_3_0, qr_3_1, qr_3_4, qr_3_5, qr_3_7, qr_3_9, qr_3_12, qr_3_13, qr_3_15, qr_3_17, qr_3_20, qr_3_21, qr_3_22, qr_3_25, true_and, and_true, false_and, and_false, Option.bind_some, Option.toList_some, Option.toList_none, List.nil_append, List.cons_append, if_true, if_false, ite_true, ite_false, not_true_eq_false, not_false_eq_true, qa_up_s, qa_up_n, qa_uu, Nat.add_assoc, Nat.reduceAdd]) <;> exact rfl
  · refine ⟨rfl, ⟨?_, ?_, ?_, ?_, ?_, ?_, ?_⟩, ?_, fun b hb => ⟨?_, ?_, ?_⟩⟩
    all_goals (simp (disch := omega) only [qa_up_s, qa_up_n]; try assumption)
theorem qs_SS_init (hk : K a = (7, 0)) : ∃ f : Nat → Int32, qa_ex (d + 2) 10 [qa_a (some a)] (K, I, R, n, z) = some (none, (K, va_up I a f, R, n, z)) := by
  obtain ⟨f, h1, -⟩ := qs_SS_clear (d := d) (I := I) (R := R) (n := n) (z := z) hk
  refine ⟨f, ?_⟩
  simp (disch := first | assumption | omega | exact Or.inl rfl | exact Or.inr rfl | exact qb_01) only [qe_10, qr_10_0, qr_10_1, qr_10_4, qr_10_5, qr_10_8, true_and, and_true, false_and, and_false, Option.bind_some, Option.toList_some, Option.toList_none, List.nil_append, List.cons_append, if_true, if_false, ite_true, ite_false, not_true_eq_false, not_false_eq_true, h1]
/-- the state of a Progress being made: k states -/
def qC_P (p c k : Nat) (K0 : Nat → Nat × Nat) (I0 : Nat → Nat → Int32) (R0 : Nat → Nat → Option Nat) (K : Nat → Nat × Nat) (I : Nat → Nat → Int32) (R : Nat → Nat → Option Nat) : Prop :=
  (K p = (6, 0) ∧ (K (p + 1)).1 = 101 ∧ (K (p + 1)).2 = 10 ∧ (K (p + 2)).1 = 100 ∧ (K (p + 2)).2 = 12 ∧ (K (p + 3)).1 = 100 ∧ (K (p + 3)).2 = 12 ∧ (K (p + 4)).1 = 100 ∧ (K (p + 4)).2 = 12 ∧ K (p + 5) = (7, 0)) ∧
  (R p 0 = some c ∧ R p 1 = some (p + 1) ∧ R p 2 = some (p + 2) ∧ R p 3 = some (p + 3) ∧ R p 4 = some (p + 4) ∧ R p 5 = some (p + 5)) ∧ (∀ i, i < k → K (p + 6 + i) = (7, 0) ∧ R (p + 1) i = some (p + 6 + i)) ∧ qC_f p (p + 6 + k) K0 I0 R0 K I R
theorem qs_PR_init (hk : K p = (6, 0)) : ∃ K' I' R' z', qa_ex (d + 3) 9 [qa_a (some p), qa_a (some c)] (K, I, R, p + 1, z) = some (none, (K', I', R', p + 16, z')) ∧ z' = z + 145 ∧ qp_PR K' R' p c ∧ qp_PS I' p qF_zer ∧ qC_f p (p + 16) K I R K' I' R' := by
  have loop : ∀ m k, k + m = 10 → ∀ K1 I1 R1 z1, qC_P p c k K I R K1 I1 R1 → ∃ K' I' R' z', qa_run (d + 2) 9 55 [qa_a (some p), qa_a (some c), qa_i (nI k)] [] [] (K1, I1, R1, p + 6 + k, z1) = some (none, (K', I', R', p + 16, z')) ∧ z' = z1 + 9 * m ∧ qp_PR K' R' p c ∧ qp_PS I' p qF_zer ∧ qC_f p (p + 16) K I R K' I' R' := by
    intro m
    induction m with
    | zero =>
      intro k hk K1 I1 R1 z1 hP
      have hk : k = 10 := by omega
      subst hk
      obtain ⟨⟨k0, k1, k2, k3, k4, k5, k6, k7, k8, k9⟩, ⟨r0, r1, r2, r3, r4, r5⟩, hs, hf⟩ := hP
      have hPR : qp_PR K1 R1 p c := ⟨k0, k1, k2, k3, k4, k5, k6, k7, k8, k9, r0, r1, r2, r3, r4, r5, hs⟩
      obtain ⟨I2, a1, a2, a3⟩ := qs_PR_clear (d := d) (I := I1) (n := p + 6 + 10) (z := z1) hPR
      refine ⟨K1, I2, R1, z1, ?_, rfl, hPR, a3, fun b hb => ?_⟩
      · rw [qr_9_55]
        simp (disch := first | assumption | omega | exact Or.inl rfl | exact Or.inr rfl | exact qb_01) only [qr_9_0, qr_9_1, qr_9_4, qr_9_5, qr_9_7, qr_9_10, qr_9_13, qr_9_14, qr_9_16, qr_9_18, qr_9_21, qr_9_22, qr_9_24, qr_9_26, qr_9_29, qr_9_30, qr_9_32, qr_9_34, qr_9_37, qr_9_38, qr_9_41, qr_9_42, qr_9_45, qr_9_48, qr_9_49, qr_9_50, qr_9_53, qr_9_54, qr_9_56, qr_9_58, qr_9_61, qr_9_62, qr_9_65, qr_9_66, qr_9_69, qr_9_70, qr_9_73_0, qr_9_73_1, qr_9_74, qr_9_77, qr_9_80, qr_9_81, qr_9_84, true_and, and_true, false_and, and_false, Option.bind_some, Option.toList_some, Option.toList_none, List.nil_append, List.cons_append, if_true, if_false, ite_true, ite_false, not_true_eq_false, not_false_eq_true, qn_lt0, qn_ge0, qn_lt, qn_le, qn_eq, qn_e0, qn_gt0, qn_le0, qn_m1, nI_add, pk_mul, qb_e0, Classical.not_not, Nat.le_refl, a1]
      · obtain ⟨g1, g2, g3⟩ := hf b (by omega)
        exact ⟨g1, by rw [a2 b (by omega)]; exact g2, g3⟩
    | succ m ih =>
      intro k hk K1 I1 R1 z1 hP
      obtain ⟨⟨k0, k1, k2, k3, k4, k5, k6, k7, k8, k9⟩, ⟨r0, r1, r2, r3, r4, r5⟩, hs, hf⟩ := hP
      have e1 : ¬ 10 ≤ k := by omega
      have hk10 : k < 10 := by omega
      obtain ⟨K2, hK2⟩ : ∃ K2, K2 = va_up K1 (p + 6 + k) (7, 0) := ⟨_, rfl⟩
      have hk2 : K2 (p + 6 + k) = (7, 0) := by rw [hK2, qa_up_s]
      have hn2 : ∀ b, b ≠ p + 6 + k → K2 b = K1 b := fun b hb => by rw [hK2]; exact qa_up_n _ _ hb
      obtain ⟨fz, a1⟩ := qs_SS_init (d := d) (I := va_up I1 (p + 6 + k) (fun _ => 0)) (R := va_up R1 (p + 6 + k) (fun _ => none)) (n := p + 6 + k + 1) (z := z1 + 9) hk2
      obtain ⟨R2, hR2⟩ : ∃ R2, R2 = va_up (va_up R1 (p + 6 + k) (fun _ => none)) (p + 1) (va_up (R1 (p + 1)) k (some (p + 6 + k))) := ⟨_, rfl⟩
      have q0 : K2 p = (6, 0) := by rw [hn2 p (by omega)]; exact k0
      have q1 : (K2 (p + 1)).1 = 101 := by rw [hn2 _ (by omega)]; exact k1
      have q2 : (K2 (p + 1)).2 = 10 := by rw [hn2 _ (by omega)]; exact k2
      have rr0 : R2 p = R1 p := by rw [hR2, qa_up_n _ _ (by omega), qa_up_n _ _ (by omega)]
      have rr1 : R2 (p + 1) = va_up (R1 (p + 1)) k (some (p + 6 + k)) := by rw [hR2, qa_up_s]
      have rrn : ∀ b, b ≠ p + 1 → b ≠ p + 6 + k → R2 b = R1 b := fun b h1 h2 => by rw [hR2, qa_up_n _ _ h1, qa_up_n _ _ h2]
      obtain ⟨K', I', R', z', b1, b2, b3, b4, b5⟩ := ih (k + 1) (by omega) K2 (va_up (va_up I1 (p + 6 + k) (fun _ => 0)) (p + 6 + k) fz) R2 (z1 + 9) ⟨⟨q0, q1, q2, by rw [hn2 _ (by omega)]; exact k3, by rw [hn2 _ (by omega)]; exact k4, by rw [hn2 _ (by omega)]; exact k5, by rw [hn2 _ (by omega)]; exact k6, by rw [hn2 _ (by omega)]; exact k7, by rw [hn2 _ (by omega)]; exact k8, by rw [hn2 _ (by omega)]; exact k9⟩, ⟨by rw [rr0]; exact r0, by rw [rr0]; exact r1, by rw [rr0]; exact r2, by rw [rr0]; exact r3, by rw [rr0]; exact r4, by rw [rr0]; exact r5⟩, fun i hi => by
        rw [rr1]
        by_cases he : i = k
        · subst he
          rw [qa_up_s]
          exact ⟨hk2, rfl⟩
        · rw [qa_up_n _ _ he, hn2 _ (by omega)]
          exact hs i (by omega), fun b hb => by
        obtain ⟨g1, g2, g3⟩ := hf b (by omega)
        exact ⟨by rw [hn2 b (by omega)]; exact g1, by rw [qa_up_n _ _ (by omega), qa_up_n _ _ (by omega)]; exact g2, by rw [rrn b (by omega) (by omega)]; exact g3⟩⟩
      refine ⟨K', I', R', z', ?_, by omega, b3, b4, b5⟩
      rw [qr_9_55]
      simp (disch := first | assumption | omega | exact qa_up_s _ _ _ | exact Or.inl rfl | exact Or.inr rfl | exact qb_01 | (simp (disch := omega) only [qa_up_n, qa_up_s]; done) | (simp (disch := omega) only [qa_up_n, qa_up_s]; assumption)) only [qr_9_0, qr_9_1, qr_9_4, qr_9_5, qr_9_7, qr_9_10, qr_9_13, qr_9_14, qr_9_16, qr_9_18, qr_9_21, qr_9_22, qr_9_24, qr_9_26, qr_9_29, qr_9_30, qr_9_32, qr_9_34, qr_9_37, qr_9_38, qr_9_41, qr_9_42, qr_9_45, qr_9_48, qr_9_49, qr_9_50, qr_9_53, qr_9_54, qr_9_56, qr_9_58, qr_9_61, qr_9_62, qr_9_65, qr_9_66, qr_9_69, qr_9_70, qr_9_73_0, qr_9_73_1, qr_9_74, qr_9_77, qr_9_80, qr_9_81, qr_9_84, true_and, and_true, false_and, and_false, Option.bind_some, Option.toList_some, Option.toList_none, List.nil_append, List.cons_append, if_true, if_false, ite_true, ite_false, not_true_eq_false, not_false_eq_true, qn_lt0, qn_ge0, qn_lt, qn_le, qn_eq, qn_e0, qn_gt0, qn_le0, qn_m1, nI_add, pk_mul, qb_e0, Classical.not_not, qa_up_s, qa_up_n, qa_uu, e1, r1, ← hK2, a1]
      rw [← hR2, ← qa_uu I1 (p + 6 + k) (fun _ => 0) fz]
      exact b1
  have hinit : ∃ K1 I1 R1 z1, (∀ r, qa_run (d + 2) 9 55 [qa_a (some p), qa_a (some c), qa_i (nI 0)] [] [] (K1, I1, R1, p + 6, z1) = r → qa_ex (d + 3) 9 [qa_a (some p), qa_a (some c)] (K, I, R, p + 1, z) = r) ∧ z1 = z + 55 ∧ qC_P p c 0 K I R K1 I1 R1 := by
    obtain ⟨Ka, hKa⟩ : ∃ Ka, Ka = va_up (va_up (va_up (va_up (va_up K (p + 1) (101, 10)) (p + 2) (100, 12)) (p + 3) (100, 12)) (p + 4) (100, 12)) (p + 5) (7, 0) := ⟨_, rfl⟩
    have ka5 : Ka (p + 5) = (7, 0) := by rw [hKa, qa_up_s]
    have ka0 : Ka p = (6, 0) := by rw [hKa]; (simp (disch := omega) only [qa_up_s, qa_up_n]; try assumption)
    obtain ⟨fz, a1⟩ := qs_SS_init (d := d) (I := va_up (va_up (va_up (va_up (va_up I (p + 1) (fun _ => 0)) (p + 2) (fun _ => 0)) (p + 3) (fun _ => 0)) (p + 4) (fun _ => 0)) (p + 5) (fun _ => 0)) (R := va_up (va_up (va_up (va_up (va_up (va_up (va_up (va_up (va_up R (p + 1) (fun _ => none)) p (va_up (R p) 1 (some (p + 1)))) (p + 2) (fun _ => none)) p (va_up (va_up (R p) 1 (some (p + 1))) 2 (some (p + 2)))) (p + 3) (fun _ => none)) p (va_up (va_up (va_up (R p) 1 (some (p + 1))) 2 (some (p + 2))) 3 (some (p + 3)))) (p + 4) (fun _ => none)) p (va_up (va_up (va_up (va_up (R p) 1 (some (p + 1))) 2 (some (p + 2))) 3 (some (p + 3))) 4 (some (p + 4)))) (p + 5) (fun _ => none)) (n := p + 6) (z := z + 55) ka5
    apply Exists.intro
    apply Exists.intro
    apply Exists.intro
    apply Exists.intro
    apply And.intro
    · intro r hr
      simp (disch := first | assumption | omega | exact qa_up_s _ _ _ | exact Or.inl rfl | exact Or.inr rfl | exact qb_01 | (simp (disch := omega) only [qa_up_n, qa_up_s]; done) | (simp (disch := omega) only [qa_up_n, qa_up_s]; assumption)) only [qe_9, qr_9_0, qr_9_1, qr_9_4, qr_9_5, qr_9_7, qr_9_10, qr_9_13, qr_9_14, qr_9_16, qr_9_18, qr_9_21, qr_9_22, qr_9_24, qr_9_26, qr_9_29, qr_9_30, qr_9_32, qr_9_34, qr_9_37, qr_9_38, qr_9_41, qr_9_42, qr_9_45, qr_9_48, qr_9_49, qr_9_50, qr_9_53, qr_9_54, qr_9_56, qr_9_58, qr_9_61, qr_9_62, qr_9_65, qr_9_66, qr_9_69, qr_9_70, qr_9_73_0, qr_9_73_1, qr_9_74, qr_9_77, qr_9_80, qr_9_81, qr_9_84, true_and, and_true, false_and, and_false, Option.bind_some, Option.toList_some, Option.toList_none, List.nil_append, List.cons_append, if_true, if_false, ite_true, ite_false, not_true_eq_false, not_false_eq_true, qa_up_s, qa_up_n, qa_uu, Nat.add_assoc, Nat.reduceAdd, ← hKa]
      rw [a1]
      simp (disch := first | assumption | omega | exact qa_up_s _ _ _ | exact Or.inl rfl | exact Or.inr rfl | exact qb_01 | (simp (disch := omega) only [qa_up_n, qa_up_s]; done) | (simp (disch := omega) only [qa_up_n, qa_up_s]; assumption)) only [qe_9, qr_9_0, qr_9_1, qr_9_4, qr_9_5, qr_9_7, qr_9_10, qr_9_13, qr_9_14, qr_9_16, qr_9_18, qr_9_21, qr_9_22, qr_9_24, qr_9_26, qr_9_29, qr_9_30, qr_9_32, qr_9_34, qr_9_37, qr_9_38, qr_9_41, qr_9_42, qr_9_45, qr_9_48, qr_9_49, qr_9_50, qr_9_53, qr_9_54, qr_9_56, qr_9_58, qr_9_61, qr_9_62, qr_9_65, qr_9_66, qr_9_69, qr_9_70, qr_9_73_0, qr_9_73_1, qr_9_74, qr_9_77, qr_9_80, qr_9_81, qr_9_84, true_and, and_true, false_and, and_false, Option.bind_some, Option.toList_some, Option.toList_none, List.nil_append, List.cons_append, if_true, if_false, ite_true, ite_false, not_true_eq_false, not_false_eq_true, qa_up_s, qa_up_n, qa_uu, Nat.add_assoc, Nat.reduceAdd]
      exact hr
    · refine ⟨rfl, ⟨ka0, ?_, ?_, ?_, ?_, ?_, ?_, ?_, ?_, ka5⟩, ⟨?_, ?_, ?_, ?_, ?_, ?_⟩, fun i hi => absurd hi (by omega), fun b hb => ⟨?_, ?_, ?_⟩⟩
      all_goals first | (rw [hKa]; (simp (disch := omega) only [qa_up_s, qa_up_n]; try assumption); done) | ((simp (disch := omega) only [qa_up_s, qa_up_n]; try assumption); done) | (simp (disch := omega) only [qa_up_s, qa_up_n])
  obtain ⟨K1, I1, R1, z1, h1, h2, h3⟩ := hinit
  obtain ⟨K', I', R', z', b1, b2, b3, b4, b5⟩ := loop 10 0 (by omega) K1 I1 R1 z1 h3
  exact ⟨K', I', R', z', h1 _ b1, by omega, b3, b4, b5⟩
end Q74
