/-! Constructors, continued. -/
section Q75
variable {d a b f : Nat} {K : Nat → Nat × Nat} {I : Nat → Nat → Int32} {R : Nat → Nat → Option Nat} {n z : Nat} {x y : Int32} {h : qa_H} {m c p w u : Nat} {o : Option Nat}
theorem qs_CO_init (hk : K a = (4, 0)) : ∃ K' I' R' z', qa_ex (d + 17) 4 [qa_a (some a)] (K, I, R, a + 1, z) = some (none, (K', I', R', a + 7, z')) ∧ z' = z + 58 ∧ (qC0 K' R' a ∧ ∀ fs hd, qj_A K' I' R' a (a + 3) 1 (fun _ => 70) (fun _ => .num 0) 0 fs hd) ∧ qC_f a (a + 7) K I R K' I' R' := by
  obtain ⟨K0, hK0⟩ : ∃ K0, K0 = va_up (va_up (va_up K (a + 1) (100, 12)) (a + 2) (100, 12)) (a + 3) (5, 0) := ⟨_, rfl⟩
  obtain ⟨I0, hI0⟩ : ∃ I0, I0 = va_up (va_up (va_up (va_up I (a + 1) (fun _ => 0)) (a + 2) (fun _ => 0)) a (va_up (I a) 2 (nI 0))) (a + 3) (fun _ => 0) := ⟨_, rfl⟩
  obtain ⟨R0, hR0⟩ : ∃ R0, R0 = va_up (va_up (va_up (va_up (va_up R (a + 1) (fun _ => none)) a (va_up (R a) 0 (some (a + 1)))) (a + 2) (fun _ => none)) a (va_up (va_up (R a) 0 (some (a + 1))) 1 (some (a + 2)))) (a + 3) (fun _ => none) := ⟨_, rfl⟩
  have hK03 : K0 (a + 3) = (5, 0) := by rw [hK0, qa_up_s]
  obtain ⟨K1, I1, R1, g0, g1, g2, g3, g4, g5, g6, g7, g8, g9, g10⟩ := qs_CU_init (d := d + 15) (I := I0) (R := R0) (n := a + 4) (z := z + 28) hK03 (by omega)
  have k1 : K1 a = (4, 0) := by rw [g8 a (by omega), hK0]; (simp (disch := omega) only [qa_up_s, qa_up_n]; try assumption)
  have k11 : K1 (a + 1) = (100, 12) := by rw [g8 _ (by omega), hK0]; (simp (disch := omega) only [qa_up_s, qa_up_n]; try assumption)
  have k12 : K1 (a + 2) = (100, 12) := by rw [g8 _ (by omega), hK0]; (simp (disch := omega) only [qa_up_s, qa_up_n]; try assumption)
  have k13 : K1 (a + 3) = (5, 0) := by rw [g8 _ (by omega), hK03]
  obtain ⟨R2, hR2⟩ : ∃ R2, R2 = va_up R1 a (va_up (R1 a) 3 (some (a + 3))) := ⟨_, rfl⟩
  have r23 : R2 (a + 3) = R1 (a + 3) := by rw [hR2, qa_up_n _ _ (by omega)]
  have hU : qU_S K1 I1 R2 (a + 7) (a + 3) 0 (fun _ => 70) (fun _ => .num 0) := ⟨⟨k13, by rw [show a + 3 + 1 = a + 4 by omega, g1], by rw [show a + 3 + 1 = a + 4 by omega, g1], by rw [show a + 3 + 2 = a + 4 + 1 by omega, g2], by rw [show a + 3 + 2 = a + 4 + 1 by omega, g2], by rw [show a + 3 + 3 = a + 4 + 2 by omega, g3], by rw [show a + 3 + 3 = a + 4 + 2 by omega, g3], by rw [r23]; exact g4, by rw [r23]; exact g5, by rw [r23]; exact g6⟩, by omega, g7, fun i hi => absurd hi (by omega)⟩
  obtain ⟨I3, R3, b1, b2, b3, b4⟩ := qs_CU_addSkill (d := d) (z := z + 58) (mk := 70) (t := .num 0) (o := none) hU (by omega) rfl (by decide) (by omega)
  have ra : R2 a = va_up (R1 a) 3 (some (a + 3)) := by rw [hR2, qa_up_s]
  have ra3 : R2 a 3 = some (a + 3) := by rw [ra, qa_up_s]
  have R1a : R1 a = va_up (va_up (R a) 0 (some (a + 1))) 1 (some (a + 2)) := by rw [g10 a (by omega) (by omega), hR0]; (simp (disch := omega) only [qa_up_s, qa_up_n]; try assumption)
  have r3a : R3 a = va_up (va_up (va_up (R a) 0 (some (a + 1))) 1 (some (a + 2))) 3 (some (a + 3)) := by rw [b4 a (by omega), ra, R1a]
  have i3a : I3 a 2 = nI 0 := by rw [b3 a (by omega), g9 a (by omega) (by omega), hI0]; (simp (disch := omega) only [qa_up_s, qa_up_n]; try assumption)
  have cC : qC0 K1 R3 a := ⟨k1, by rw [k11], by rw [k11], by rw [k12], by rw [k12], by rw [r3a]; (simp (disch := omega) only [qa_up_s, qa_up_n]; try assumption), by rw [r3a]; (simp (disch := omega) only [qa_up_s, qa_up_n]; try assumption)⟩
  have eT : va_up (fun _ : Nat => (.num 0 : qt_T)) 0 (.num 0) = fun _ => .num 0 := by
    funext i
    unfold va_up
    split <;> rfl
  have eP : va_up (fun _ : Nat => 70) 0 70 = fun _ => 70 := by
    funext i
    unfold va_up
    split <;> rfl
  rw [eT, eP] at b2
  obtain ⟨c1, c2, c3, c4⟩ := b2
  refine ⟨K1, I3, R3, z + 58, ?_, rfl, ⟨cC, fun fs hd => ⟨⟨⟨cC.1, cC.2.1, cC.2.2.1, cC.2.2.2.1, cC.2.2.2.2.1, cC.2.2.2.2.2.1, cC.2.2.2.2.2.2, by rw [r3a, qa_up_s]⟩, c1, c3, by omega, by omega, fun k hk => ⟨(c4 k hk).1, (c4 k hk).2.1⟩, i3a, by omega, fun i hi => absurd hi (by omega)⟩, fun k hk => ⟨(c4 k hk).2.2, trivial, by show (0 : Nat) ≤ 13; omega⟩, fun k hk => trivial⟩⟩, fun b hb => ⟨?_, ?_, ?_⟩⟩
  · simp (disch := first | assumption | omega | exact qa_up_s _ _ _ | exact Or.inl rfl | exact Or.inr rfl | exact qb_01 | (simp (disch := omega) only [qa_up_n, qa_up_s]; done) | (simp (disch := omega) only [qa_up_n, qa_up_s]; assumption)) only [qe_4, qr_4_0, qr_4_1, qr_4_4, qr_4_5, qr_4_7, qr_4_9, qr_4_12, qr_4_13, qr_4_15, qr_4_17, qr_4_20, qr_4_21, qr_4_22, qr_4_25, qr_4_26, qr_4_29, qr_4_30, qr_4_33, qr_4_36, qr_4_37, qr_4_40, qr_4_42, qr_4_43, qr_4_46, true_and, and_true, false_and, and_false, Option.bind_some, Option.toList_some, Option.toList_none, List.nil_append, List.cons_append, if_true, if_false, ite_true, ite_false, not_true_eq_false, not_false_eq_true, qa_up_s, qa_up_n, qa_uu, Nat.add_assoc, Nat.reduceAdd, ← hK0, ← hI0, ← hR0, g0, ← hR2, ra3, b1]
  · rw [g8 b (by omega), hK0, qa_up_n _ _ (by omega), qa_up_n _ _ (by omega), qa_up_n _ _ (by omega)]
  · rw [b3 b (by omega), g9 b (by omega) (by omega), hI0, qa_up_n _ _ (by omega), qa_up_n _ _ (by omega), qa_up_n _ _ (by omega), qa_up_n _ _ (by omega)]
  · rw [b4 b (by omega), hR2, qa_up_n _ _ (by omega), g10 b (by omega) (by omega), hR0, qa_up_n _ _ (by omega), qa_up_n _ _ (by omega), qa_up_n _ _ (by omega), qa_up_n _ _ (by omega), qa_up_n _ _ (by omega)]
theorem qs_LG_init (hk : K w = (8, 0)) : ∃ K' I' R' z', qa_ex (d + 4) 13 [qa_a (some w), qa_a (some c)] (K, I, R, w + 1, z) = some (none, (K', I', R', w + 19, z')) ∧ z' = z + 272 ∧ (qp_LG K' R' w c ∧ ∀ el er, qp_LS I' w 0 0 el er qF_zer) ∧ qC_f w (w + 19) K I R K' I' R' := by
  obtain ⟨K0, hK0⟩ : ∃ K0, K0 = va_up (va_up (va_up K (w + 1) (100, 60)) (w + 2) (100, 60)) (w + 3) (6, 0) := ⟨_, rfl⟩
  obtain ⟨I0, hI0⟩ : ∃ I0, I0 = va_up (va_up (va_up (va_up I (w + 1) (fun _ => 0)) (w + 2) (fun _ => 0)) w (va_up (va_up (I w) 3 (nI 0)) 4 (nI 0))) (w + 3) (fun _ => 0) := ⟨_, rfl⟩
  obtain ⟨R0, hR0⟩ : ∃ R0, R0 = va_up (va_up (va_up (va_up (va_up R (w + 1) (fun _ => none)) w (va_up (R w) 0 (some (w + 1)))) (w + 2) (fun _ => none)) w (va_up (va_up (R w) 0 (some (w + 1))) 1 (some (w + 2)))) (w + 3) (fun _ => none) := ⟨_, rfl⟩
  have hK03 : K0 (w + 3) = (6, 0) := by rw [hK0, qa_up_s]
  obtain ⟨K1, I1, R1, z1, a1, a2, a3, a4, a5⟩ := qs_PR_init (d := d) (c := c) (I := I0) (R := R0) (z := z + 127) hK03
  have a1 := a1
  simp only [Nat.add_assoc, Nat.reduceAdd] at a1
  have k1 : K1 w = (8, 0) := by rw [(a5 w (by omega)).1, hK0]; (simp (disch := omega) only [qa_up_s, qa_up_n]; try assumption)
  have k11 : K1 (w + 1) = (100, 60) := by rw [(a5 _ (by omega)).1, hK0]; (simp (disch := omega) only [qa_up_s, qa_up_n]; try assumption)
  have k12 : K1 (w + 2) = (100, 60) := by rw [(a5 _ (by omega)).1, hK0]; (simp (disch := omega) only [qa_up_s, qa_up_n]; try assumption)
  obtain ⟨R2, hR2⟩ : ∃ R2, R2 = va_up R1 w (va_up (R1 w) 2 (some (w + 3))) := ⟨_, rfl⟩
  have r2w : R2 w = va_up (va_up (va_up (R w) 0 (some (w + 1))) 1 (some (w + 2))) 2 (some (w + 3)) := by rw [hR2, qa_up_s, (a5 w (by omega)).2.2, hR0]; (simp (disch := omega) only [qa_up_s, qa_up_n]; try assumption)
  have i1w : I1 w = va_up (va_up (I w) 3 (nI 0)) 4 (nI 0) := by rw [(a5 w (by omega)).2.1, hI0]; (simp (disch := omega) only [qa_up_s, qa_up_n]; try assumption)
  refine ⟨K1, I1, R2, z1, ?_, by omega, ⟨⟨k1, by rw [k11], by rw [k11], by rw [k12], by rw [k12], by rw [r2w]; (simp (disch := omega) only [qa_up_s, qa_up_n]; try assumption), by rw [r2w]; (simp (disch := omega) only [qa_up_s, qa_up_n]; try assumption), by rw [r2w]; (simp (disch := omega) only [qa_up_s, qa_up_n]; try assumption), qp_PR_cg a3 (fun _ _ _ => rfl) (fun b h1 _ => by rw [hR2, qa_up_n _ _ (by omega)])⟩, fun el er => ⟨by rw [i1w]; (simp (disch := omega) only [qa_up_s, qa_up_n]; try assumption), by omega, by rw [i1w]; (simp (disch := omega) only [qa_up_s, qa_up_n]; try assumption), by omega, fun j hj => absurd hj (by omega), a4⟩⟩, fun b hb => ⟨?_, ?_, ?_⟩⟩
  · simp (disch := first | assumption | omega | exact qa_up_s _ _ _ | exact Or.inl rfl | exact Or.inr rfl | exact qb_01 | (simp (disch := omega) only [qa_up_n, qa_up_s]; done) | (simp (disch := omega) only [qa_up_n, qa_up_s]; assumption)) only [qe_13, qr_13_0, qr_13_1, qr_13_4, qr_13_5, qr_13_7, qr_13_9, qr_13_12, qr_13_13, qr_13_15, qr_13_17, qr_13_20, qr_13_21, qr_13_22, qr_13_25, qr_13_26, qr_13_27, qr_13_30, qr_13_31, qr_13_34, qr_13_35, qr_13_36, qr_13_39, qr_13_42, true_and, and_true, false_and, and_false, Option.bind_some, Option.toList_some, Option.toList_none, List.nil_append, List.cons_append, if_true, if_false, ite_true, ite_false, not_true_eq_false, not_false_eq_true, qa_up_s, qa_up_n, qa_uu, Nat.add_assoc, Nat.reduceAdd, ← hK0, ← hI0, ← hR0, a1, ← hR2]
  · rw [(a5 b (by omega)).1, hK0, qa_up_n _ _ (by omega), qa_up_n _ _ (by omega), qa_up_n _ _ (by omega)]
  · rw [(a5 b (by omega)).2.1, hI0, qa_up_n _ _ (by omega), qa_up_n _ _ (by omega), qa_up_n _ _ (by omega), qa_up_n _ _ (by omega)]
  · rw [hR2, qa_up_n _ _ (by omega), (a5 b (by omega)).2.2, hR0, qa_up_n _ _ (by omega), qa_up_n _ _ (by omega), qa_up_n _ _ (by omega), qa_up_n _ _ (by omega), qa_up_n _ _ (by omega)]
def qC_H (w c k : Nat) (K0 : Nat → Nat × Nat) (I0 : Nat → Nat → Int32) (R0 : Nat → Nat → Option Nat) (K : Nat → Nat × Nat) (I : Nat → Nat → Int32) (R : Nat → Nat → Option Nat) : Prop :=
  K w = (9, 0) ∧ (K (w + 1)).1 = 102 ∧ (K (w + 1)).2 = 6 ∧ R w 0 = some (w + 1) ∧ I w 1 = nI 0 ∧ I w 2 = nI 0 ∧ (∀ i, i < k → R (w + 1) i = some (w + 2 + 16 * i) ∧ qp_PR K R (w + 2 + 16 * i) c) ∧ qC_f w (w + 2 + 16 * k) K0 I0 R0 K I R
theorem qs_HI_init (hk : K w = (9, 0)) : ∃ K' I' R' z', qa_ex (d + 4) 14 [qa_a (some w), qa_a (some c)] (K, I, R, w + 1, z) = some (none, (K', I', R', w + 98, z')) ∧ z' = z + 918 ∧ (qp_HI K' R' w ∧ ∀ P, qp_HS I' w 0 0 P) ∧ qC_f w (w + 98) K I R K' I' R' := by
  have loop : ∀ m k, k + m = 6 → ∀ K1 I1 R1 z1, qC_H w c k K I R K1 I1 R1 → ∃ K' I' R' z', qa_run (d + 3) 14 25 [qa_a (some w), qa_a (some c), qa_i (nI k)] [] [] (K1, I1, R1, w + 2 + 16 * k, z1) = some (none, (K', I', R', w + 98, z')) ∧ z' = z1 + 152 * m ∧ (qp_HI K' R' w ∧ ∀ P, qp_HS I' w 0 0 P) ∧ qC_f w (w + 98) K I R K' I' R' := by
    intro m
    induction m with
    | zero =>
      intro k hk K1 I1 R1 z1 hP
      have hk : k = 6 := by omega
      subst hk
      obtain ⟨q1, q2, q3, q4, q5, q6, q7, q8⟩ := hP
      refine ⟨K1, I1, R1, z1, ?_, rfl, ⟨⟨q1, q2, q3, q4, fun j hj => ⟨(q7 j hj).1, c, (q7 j hj).2⟩⟩, fun P => ⟨q5, by omega, q6, by omega, fun j hj => absurd hj (by omega)⟩⟩, q8⟩
      rw [qr_14_25]
      simp (disch := first | assumption | omega | exact Or.inl rfl | exact Or.inr rfl | exact qb_01) only [qr_14_0, qr_14_1, qr_14_4, qr_14_5, qr_14_7, qr_14_10, qr_14_13, qr_14_14, qr_14_15, qr_14_18, qr_14_19, qr_14_20, qr_14_23, qr_14_24, qr_14_26, qr_14_28, qr_14_31, qr_14_32, qr_14_35, qr_14_36, qr_14_39, qr_14_40, qr_14_41, qr_14_44_0, qr_14_44_1, qr_14_45, qr_14_48, qr_14_51, true_and, and_true, false_and, and_false, Option.bind_some, Option.toList_some, Option.toList_none, List.nil_append, List.cons_append, if_true, if_false, ite_true, ite_false, not_true_eq_false, not_false_eq_true, qn_lt0, qn_ge0, qn_lt, qn_le, qn_eq, qn_e0, qn_gt0, qn_le0, qn_m1, nI_add, pk_mul, qb_e0, Classical.not_not, Nat.le_refl, Nat.add_assoc, Nat.reduceAdd, Nat.reduceMul]
    | succ m ih =>
      intro k hk K1 I1 R1 z1 hP
      have e1 : ¬ 6 ≤ k := by omega
      obtain ⟨q1, q2, q3, q4, q5, q6, q7, q8⟩ := hP
      have hk6 : k < (K1 (w + 1)).2 := by omega
      obtain ⟨p, hp⟩ : ∃ p, p = w + 2 + 16 * k := ⟨_, rfl⟩
      rw [← hp]
      have hK2 : va_up K1 p (6, 0) p = (6, 0) := qa_up_s _ _ _
      obtain ⟨K3, I3, R3, z3, a1, a2, a3, a4, a5⟩ := qs_PR_init (d := d) (c := c) (I := va_up I1 p (fun _ => 0)) (R := va_up R1 p (fun _ => none)) (z := z1 + 7) hK2
      have kb : ∀ b, (b < p ∨ p + 16 ≤ b) → K3 b = K1 b ∧ I3 b = I1 b ∧ R3 b = R1 b := fun b hb => by
        obtain ⟨g1, g2, g3⟩ := a5 b hb
        exact ⟨by rw [g1, qa_up_n _ _ (by omega)], by rw [g2, qa_up_n _ _ (by omega)], by rw [g3, qa_up_n _ _ (by omega)]⟩
      have k3 : (K3 (w + 1)).1 = 102 := by rw [(kb _ (by omega)).1]; exact q2
      have k32 : k < (K3 (w + 1)).2 := by rw [(kb _ (by omega)).1]; omega
      have k3p : K3 p = (6, 0) := a3.1
      have k30 : K3 w = (9, 0) := by rw [(kb _ (by omega)).1]; exact q1
      obtain ⟨R4, hR4⟩ : ∃ R4, R4 = va_up R3 (w + 1) (va_up (R3 (w + 1)) k (some p)) := ⟨_, rfl⟩
      have rb : ∀ b, b ≠ w + 1 → R4 b = R3 b := fun b hb => by rw [hR4]; exact qa_up_n _ _ hb
      obtain ⟨K', I', R', z', b1, b2, b3, b4⟩ := ih (k + 1) (by omega) K3 I3 R4 z3 ⟨k30, k3, by rw [(kb _ (by omega)).1]; exact q3, by rw [rb w (by omega), (kb _ (by omega)).2.2]; exact q4, by rw [(kb _ (by omega)).2.1]; exact q5, by rw [(kb _ (by omega)).2.1]; exact q6, fun i hi => by
        rw [hR4, qa_up_s, ← hR4]
        by_cases he : i = k
        · subst he
          rw [qa_up_s, ← hp]
          exact ⟨rfl, qp_PR_cg a3 (fun _ _ _ => rfl) (fun b _ _ => rb b (by omega))⟩
        · rw [qa_up_n _ _ he, (kb _ (by omega)).2.2]
          exact ⟨(q7 i (by omega)).1, qp_PR_cg (q7 i (by omega)).2 (fun b _ _ => (kb b (by omega)).1) (fun b _ _ => by rw [rb b (by omega)]; exact (kb b (by omega)).2.2)⟩, fun b hb => by
        obtain ⟨g1, g2, g3⟩ := kb b (by omega)
        obtain ⟨f1, f2, f3⟩ := q8 b (by omega)
        exact ⟨g1.trans f1, g2.trans f2, (rb b (by omega)).trans (g3.trans f3)⟩⟩
      rw [show w + 2 + 16 * (k + 1) = p + 16 by omega] at b1
      refine ⟨K', I', R', z', ?_, by omega, b3, b4⟩
      rw [qr_14_25]
      simp (disch := first | assumption | omega | exact qa_up_s _ _ _ | exact Or.inl rfl | exact Or.inr rfl | exact qb_01 | (simp (disch := omega) only [qa_up_n, qa_up_s]; done) | (simp (disch := omega) only [qa_up_n, qa_up_s]; assumption)) only [qr_14_0, qr_14_1, qr_14_4, qr_14_5, qr_14_7, qr_14_10, qr_14_13, qr_14_14, qr_14_15, qr_14_18, qr_14_19, qr_14_20, qr_14_23, qr_14_24, qr_14_26, qr_14_28, qr_14_31, qr_14_32, qr_14_35, qr_14_36, qr_14_39, qr_14_40, qr_14_41, qr_14_44_0, qr_14_44_1, qr_14_45, qr_14_48, qr_14_51, true_and, and_true, false_and, and_false, Option.bind_some, Option.toList_some, Option.toList_none, List.nil_append, List.cons_append, if_true, if_false, ite_true, ite_false, not_true_eq_false, not_false_eq_true, qn_lt0, qn_ge0, qn_lt, qn_le, qn_eq, qn_e0, qn_gt0, qn_le0, qn_m1, nI_add, pk_mul, qb_e0, Classical.not_not, qa_up_s, qa_up_n, qa_uu, e1, q4, a1, ← hR4, b1]
  obtain ⟨K1, hK1⟩ : ∃ K1, K1 = va_up K (w + 1) (102, 6) := ⟨_, rfl⟩
  have k1w : K1 w = (9, 0) := by rw [hK1]; (simp (disch := omega) only [qa_up_s, qa_up_n]; try assumption)
  obtain ⟨I1, hI1⟩ : ∃ I1, I1 = va_up (va_up I (w + 1) (fun _ => 0)) w (va_up (va_up (I w) 1 (nI 0)) 2 (nI 0)) := ⟨_, rfl⟩
  obtain ⟨R1, hR1⟩ : ∃ R1, R1 = va_up (va_up R (w + 1) (fun _ => none)) w (va_up (R w) 0 (some (w + 1))) := ⟨_, rfl⟩
  obtain ⟨K', I', R', z', b1, b2, b3, b4⟩ := loop 6 0 (by omega) K1 I1 R1 (z + 6) ⟨by rw [hK1]; (simp (disch := omega) only [qa_up_s, qa_up_n]; try assumption), by rw [hK1]; (simp (disch := omega) only [qa_up_s, qa_up_n]; try assumption), by rw [hK1]; (simp (disch := omega) only [qa_up_s, qa_up_n]; try assumption), by rw [hR1]; (simp (disch := omega) only [qa_up_s, qa_up_n]; try assumption), by rw [hI1]; (simp (disch := omega) only [qa_up_s, qa_up_n]; try assumption), by rw [hI1]; (simp (disch := omega) only [qa_up_s, qa_up_n]; try assumption), fun i hi => absurd hi (by omega), fun b hb => ⟨by rw [hK1, qa_up_n _ _ (by omega)], by rw [hI1, qa_up_n _ _ (by omega), qa_up_n _ _ (by omega)], by rw [hR1, qa_up_n _ _ (by omega), qa_up_n _ _ (by omega)]⟩⟩
  refine ⟨K', I', R', z', ?_, by omega, b3, b4⟩
  simp (disch := first | assumption | omega | exact qa_up_s _ _ _ | exact Or.inl rfl | exact Or.inr rfl | exact qb_01 | (simp (disch := omega) only [qa_up_n, qa_up_s]; done) | (simp (disch := omega) only [qa_up_n, qa_up_s]; assumption)) only [qe_14, qr_14_0, qr_14_1, qr_14_4, qr_14_5, qr_14_7, qr_14_10, qr_14_13, qr_14_14, qr_14_15, qr_14_18, qr_14_19, qr_14_20, qr_14_23, qr_14_24, qr_14_26, qr_14_28, qr_14_31, qr_14_32, qr_14_35, qr_14_36, qr_14_39, qr_14_40, qr_14_41, qr_14_44_0, qr_14_44_1, qr_14_45, qr_14_48, qr_14_51, true_and, and_true, false_and, and_false, Option.bind_some, Option.toList_some, Option.toList_none, List.nil_append, List.cons_append, if_true, if_false, ite_true, ite_false, not_true_eq_false, not_false_eq_true, qa_up_s, qa_up_n, qa_uu, Nat.add_assoc, Nat.reduceAdd, ← hK1, ← hI1, ← hR1]
  exact b1
end Q75
