/-! The class reads a whole curriculum. -/
/-- the first k skills stand in the curriculum at q -/
def qU_S (K : Nat → Nat × Nat) (I : Nat → Nat → Int32) (R : Nat → Nat → Option Nat) (n q k : Nat) (pm : Nat → Nat) (T : Nat → qt_T) : Prop :=
  qp_CU K R q ∧ q + 4 ≤ n ∧ I q 3 = nI k ∧ ∀ i, i < k → I (q + 1) i = nI (pm i) ∧ I (q + 2) i = qt_rq (T i) ∧ qt_CB (q + 4) n K I R (T i) (R (q + 3) i)
def qR_G (rd q n z : Nat) (K : Nat → Nat × Nat) (I : Nat → Nat → Int32) (R : Nat → Nat → Option Nat) (n' z' : Nat) (K' : Nat → Nat × Nat) (I' : Nat → Nat → Int32) (R' : Nat → Nat → Option Nat) : Prop :=
  n ≤ n' ∧ z' + 4 * n = z + 4 * n' ∧ (∀ a, (a < n ∨ n' ≤ a) → K' a = K a) ∧ (∀ a, a < q → a ≠ rd → I' a = I a) ∧ ∀ a, a < q → R' a = R a
theorem qR_G_t {rd q n n1 n2 z z1 z2 : Nat} {K K1 K2 : Nat → Nat × Nat} {I I1 I2 : Nat → Nat → Int32} {R R1 R2 : Nat → Nat → Option Nat} (h1 : qR_G rd q n z K I R n1 z1 K1 I1 R1) (h2 : qR_G rd q n1 z1 K1 I1 R1 n2 z2 K2 I2 R2) : qR_G rd q n z K I R n2 z2 K2 I2 R2 := by
  obtain ⟨p1, p2, p3, p4, p5⟩ := h1
  obtain ⟨q1, q2, q3, q4, q5⟩ := h2
  exact ⟨by omega, by omega, fun a ha => (q3 a (by omega)).trans (p3 a (by omega)), fun a ha hr => (q4 a ha hr).trans (p4 a ha hr), fun a ha => (q5 a ha).trans (p5 a ha)⟩
theorem qR_G_F {rd b q n z n' z' : Nat} {K K' : Nat → Nat × Nat} {I I' : Nat → Nat → Int32} {R R' : Nat → Nat → Option Nat} (h : qR_F rd b n z K I R n' z' K' I' R') (hq : q ≤ n) (hb : q ≤ b) : qR_G rd q n z K I R n' z' K' I' R' := by
  obtain ⟨p1, p2, p3, p4, p5⟩ := h
  exact ⟨p1, p2, p3, fun a ha => p4 a (by omega), fun a ha => p5 a (by omega) (by omega)⟩
theorem qR_x_G {rd tx L i j q n z n' z' : Nat} {c : Nat → Nat} {K K' : Nat → Nat × Nat} {I I' : Nat → Nat → Int32} {R R' : Nat → Nat → Option Nat} (hX : qR_x K I R rd tx L c i) (hG : qR_G rd q n z K I R n' z' K' I' R') (hr : rd < q) (ht : tx + 1 < q) (hq : q ≤ n) (hi : I' rd 1 = nI j) (hj : j ≤ L) : qR_x K' I' R' rd tx L c j := by
  obtain ⟨p1, p2, p3, p4, p5⟩ := hG
  have hF : qR_F rd q q 0 K I R q 0 (fun a => if a < q then K' a else K a) I' R' := ⟨Nat.le_refl _, rfl, fun a ha => by
    show (if a < q then K' a else K a) = K a
    split
    · exact p3 a (by omega)
    · rfl, p4, fun a ha _ => p5 a ha⟩
  have := qR_x_F hX hF hr ht (Or.inl (Nat.le_refl _)) hi hj
  obtain ⟨x1, x2, x3, ⟨t1, t2, t3, t4⟩, x5, x6, x7, x8, x9⟩ := this
  have hk : ∀ a, a < q → (if a < q then K' a else K a) = K' a := fun a ha => if_pos ha
  exact ⟨(hk rd hr).symm.trans x1, x2, x3, ⟨(hk tx (by omega)).symm.trans t1, by rw [← hk (tx + 1) ht]; exact t2, by rw [← hk (tx + 1) ht]; exact t3, t4⟩, x5, x6, x7, x8, x9⟩
theorem qU_F {rd b q n z n' z' k : Nat} {pm : Nat → Nat} {T : Nat → qt_T} {K K' : Nat → Nat × Nat} {I I' : Nat → Nat → Int32} {R R' : Nat → Nat → Option Nat} (hU : qU_S K I R n q k pm T) (hF : qR_F rd b n z K I R n' z' K' I' R') (hr : rd < q) (hb : n ≤ b) : qU_S K' I' R' n' q k pm T := by
  obtain ⟨⟨u0, u1, u2, u3, u4, u5, u6, v0, v1, v2⟩, h2, h3, h4⟩ := hU
  obtain ⟨p1, p2, p3, p4, p5⟩ := hF
  have k0 := p3 q (by omega)
  have k1 := p3 (q + 1) (by omega)
  have k2 := p3 (q + 2) (by omega)
  have k3 := p3 (q + 3) (by omega)
  have r0 := p5 q (by omega) (by omega)
  have r3 := p5 (q + 3) (by omega) (by omega)
  have i0 := p4 q (by omega) (by omega)
  have i1 := p4 (q + 1) (by omega) (by omega)
  have i2 := p4 (q + 2) (by omega) (by omega)
  refine ⟨⟨by rw [k0]; exact u0, by rw [k1]; exact u1, by rw [k1]; exact u2, by rw [k2]; exact u3, by rw [k2]; exact u4, by rw [k3]; exact u5, by rw [k3]; exact u6, by rw [r0]; exact v0, by rw [r0]; exact v1, by rw [r0]; exact v2⟩, by omega, by rw [i0]; exact h3, fun i hi => ?_⟩
  obtain ⟨g1, g2, g3⟩ := h4 i hi
  rw [i1, i2, r3]
  exact ⟨g1, g2, qt_CB_cg (fun a h1 h2 => ⟨p3 a (by omega), p4 a (by omega) (by omega), p5 a (by omega) (by omega)⟩) (Nat.le_refl _) p1 g3⟩
section Q63
variable {d a b f : Nat} {K : Nat → Nat × Nat} {I : Nat → Nat → Int32} {R : Nat → Nat → Option Nat} {n z : Nat} {x y : Int32} {h : qa_H} {i j m p q g w v r k na l rd tx L mk : Nat} {c : Nat → Nat} {o : Option Nat} {t : qt_T} {pm : Nat → Nat} {T : Nat → qt_T}
theorem qs_CU_addSkill (hU : qU_S K I R n q k pm T) (hk : k < 10) (ho : qt_CB (q + 4) n K I R t o) (hd : (qt_dp t).1 ≤ 13) (hq : 1 ≤ q) : ∃ I' R', qa_ex (d + 16) 6 [qa_a (some q), qa_i (nI mk), qa_a o] (K, I, R, n, z) = some (none, (K, I', R', n, z)) ∧ qU_S K I' R' n q (k + 1) (va_up pm k mk) (va_up T k t) ∧ (∀ a, a < q ∨ q + 4 ≤ a → I' a = I a) ∧ ∀ a, a ≠ q + 3 → R' a = R a := by
  obtain ⟨⟨u0, u1, u2, u3, u4, u5, u6, v0, v1, v2⟩, h2, h3, h4⟩ := hU
  have e1 : ¬ 10 ≤ k := by omega
  obtain ⟨I', hI'⟩ : ∃ I', I' = va_up (va_up (va_up I (q + 1) (va_up (I (q + 1)) k (nI mk))) (q + 2) (va_up (I (q + 2)) k (qt_rq t))) q (va_up (I q) 3 (nI (k + 1))) := ⟨_, rfl⟩
  obtain ⟨R', hR'⟩ : ∃ R', R' = va_up R (q + 3) (va_up (R (q + 3)) k o) := ⟨_, rfl⟩
  have i0 : I' q = va_up (I q) 3 (nI (k + 1)) := by rw [hI', qa_up_s]
  have i1 : I' (q + 1) = va_up (I (q + 1)) k (nI mk) := by rw [hI', qa_up_n _ _ (by omega), qa_up_n _ _ (by omega), qa_up_s]
  have i2 : I' (q + 2) = va_up (I (q + 2)) k (qt_rq t) := by rw [hI', qa_up_n _ _ (by omega), qa_up_s]
  have i3 : ∀ a, a < q ∨ q + 4 ≤ a → I' a = I a := fun a ha => by rw [hI', qa_up_n _ _ (by omega), qa_up_n _ _ (by omega), qa_up_n _ _ (by omega)]
  have r3 : R' (q + 3) = va_up (R (q + 3)) k o := by rw [hR', qa_up_s]
  have r4 : ∀ a, a ≠ q + 3 → R' a = R a := fun a ha => by rw [hR', qa_up_n _ _ ha]
  refine ⟨I', R', ?_, ⟨⟨u0, u1, u2, u3, u4, u5, u6, by rw [r4 q (by omega)]; exact v0, by rw [r4 q (by omega)]; exact v1, by rw [r4 q (by omega)]; exact v2⟩, h2, by rw [i0, qa_up_s], fun i hi => ?_⟩, i3, r4⟩
  · rcases qt_C_o (qt_CB_C ho) with ⟨g1, g2⟩ | ⟨g1, b, g2, g3, g4⟩
    · subst g2
      rw [show qt_rq t = nI 0 from if_neg (by rw [g1]; simp)] at hI'
      simp (disch := first | assumption | omega | exact Or.inl rfl | exact Or.inr rfl | exact qb_01) only [qe_6, qr_6_0, qr_6_1, qr_6_4, qr_6_6, qr_6_9, qr_6_10, qr_6_13, qr_6_14, qr_6_17, qr_6_18, qr_6_19, qr_6_20, qr_6_23, qr_6_24, qr_6_27, qr_6_28_0, qr_6_28_1, qr_6_29, qr_6_30, qr_6_33, qr_6_34, qr_6_37, qr_6_38_0, qr_6_38_1, qr_6_41, qr_6_42, qr_6_45, qr_6_46, qr_6_49, qr_6_50, qr_6_51, qr_6_52, qr_6_55, qr_6_56, qr_6_57, qr_6_60, true_and, and_true, false_and, and_false, Option.bind_some, Option.toList_some, Option.toList_none, List.nil_append, List.cons_append, if_true, if_false, ite_true, ite_false, not_true_eq_false, not_false_eq_true, qn_lt0, qn_ge0, qn_lt, qn_le, qn_eq, qn_e0, qn_gt0, qn_le0, qn_m1, nI_add, pk_mul, qb_e0, Classical.not_not, qa_up_s, qa_up_n, qa_uu, h3, e1, v0, v1, v2]
      rw [hI', hR']
    · subst g2
      rw [show qt_rq t = (qt_sk t).1 from if_pos g1] at hI'
      have hsk := qs_EP_skills (d := d) (I := va_up I (q + 1) (va_up (I (q + 1)) k (nI mk))) (R := R') (n := n) (z := z) (qt_CB_C (qt_CB_cg (fun a h1 h2 => ⟨rfl, qa_up_n _ _ (by omega), r4 a (by omega)⟩) (Nat.le_refl _) (Nat.le_refl _) ho)) hd g1
      rw [hR'] at hsk
      simp (disch := first | assumption | omega | exact Or.inl rfl | exact Or.inr rfl | exact qb_01) only [qe_6, qr_6_0, qr_6_1, qr_6_4, qr_6_6, qr_6_9, qr_6_10, qr_6_13, qr_6_14, qr_6_17, qr_6_18, qr_6_19, qr_6_20, qr_6_23, qr_6_24, qr_6_27, qr_6_28_0, qr_6_28_1, qr_6_29, qr_6_30, qr_6_33, qr_6_34, qr_6_37, qr_6_38_0, qr_6_38_1, qr_6_41, qr_6_42, qr_6_45, qr_6_46, qr_6_49, qr_6_50, qr_6_51, qr_6_52, qr_6_55, qr_6_56, qr_6_57, qr_6_60, true_and, and_true, false_and, and_false, Option.bind_some, Option.toList_some, Option.toList_none, List.nil_append, List.cons_append, if_true, if_false, ite_true, ite_false, not_true_eq_false, not_false_eq_true, qn_lt0, qn_ge0, qn_lt, qn_le, qn_eq, qn_e0, qn_gt0, qn_le0, qn_m1, nI_add, pk_mul, qb_e0, Classical.not_not, qa_up_s, qa_up_n, qa_uu, h3, e1, v0, v1, v2, hsk]
      rw [hI', hR']
  · rw [i1, i2, r3]
    have hcb : ∀ t o, qt_CB (q + 4) n K I R t o → qt_CB (q + 4) n K I' R' t o := fun t o hc => qt_CB_cg (fun a h1 h2 => ⟨rfl, i3 a (by omega), r4 a (by omega)⟩) (Nat.le_refl _) (Nat.le_refl _) hc
    by_cases he : i = k
    · subst he
      rw [qa_up_s, qa_up_s, qa_up_s, qa_up_s, qa_up_s]
      exact ⟨rfl, rfl, hcb _ _ ho⟩
    · obtain ⟨g1, g2, g3⟩ := h4 i (by omega)
      rw [qa_up_n _ _ he, qa_up_n _ _ he, qa_up_n _ _ he, qa_up_n _ _ he, qa_up_n _ _ he]
      exact ⟨g1, g2, hcb _ _ g3⟩
theorem qs_CR_readPassMark (hX : qR_x K I R rd tx L c i) : ∃ v I', qa_ex (d + 3) 22 [qa_a (some rd)] (K, I, R, n, z) = some (some (qa_i v), (K, I', R, n, z)) ∧ (∀ a, a ≠ rd → I' a = I a) ∧ I' rd 1 = nI (qP_mk c i).2 ∧ ((qP_mk c i).1 = none → v = -1) ∧ ∀ mk, (qP_mk c i).1 = some mk → v = nI mk := by
  have x1 := hX.1
  have x3 := hX.2.2.1
  have hc := hX.2.2.2.2.2.2.2.1
  have hlt : ∀ j, ¬ c j = 200 → j < L := fun j hj => Decidable.byContradiction fun h => hj (hc j (by omega))
  have d1 := qs_CR_digitHere (d := d) (n := n) (z := z) hX
  unfold qP_mk
  by_cases h1 : 49 ≤ c i ∧ c i ≤ 57
  · rw [if_pos h1]
    rw [if_pos (by omega)] at d1
    have hi := hlt i (by omega)
    have e1 : ¬ c i - 48 < 1 := by omega
    have e2 : 1 ≤ c i - 48 := by omega
    obtain ⟨I1, hI1⟩ : ∃ I1, I1 = va_up I rd (va_up (I rd) 1 (nI (i + 1))) := ⟨_, rfl⟩
    have hX1 := qR_x_o hX hi (by omega)
    rw [← hI1] at hX1
    have d2 := qs_CR_digitHere (d := d) (n := n) (z := z) hX1
    have x13 := hX1.2.2.1
    by_cases h2 : 48 ≤ c (i + 1) ∧ c (i + 1) ≤ 57
    · rw [if_pos h2] at d2 ⊢
      have e3 : (nI (c (i + 1) - 48) = -1) = False := qn_m1 (by omega)
      refine ⟨nI (10 * (c i - 48) + (c (i + 1) - 48)), va_up I1 rd (va_up (I1 rd) 1 (nI (i + 1 + 1))), ?_, fun a ha => by rw [qa_up_n _ _ ha, hI1, qa_up_n _ _ ha], by rw [qa_up_s, qa_up_s], fun h => absurd h (by simp), fun mk hk => by cases hk; rfl⟩
      simp (disch := first | assumption | omega | exact Or.inl rfl | exact Or.inr rfl | exact qb_01) only [qe_22, qr_22_0, qr_22_1, qr_22_4, qr_22_5, qr_22_6, qr_22_7, qr_22_10, qr_22_11, qr_22_12, qr_22_13, qr_22_14, qr_22_17, qr_22_18, qr_22_19, qr_22_22, qr_22_23, qr_22_26, qr_22_27, qr_22_28, qr_22_29, qr_22_32, qr_22_33, qr_22_34, qr_22_35, qr_22_36, qr_22_39, qr_22_40, qr_22_41, qr_22_44, qr_22_46, qr_22_47, qr_22_48, qr_22_49, qr_22_50, true_and, and_true, false_and, and_false, Option.bind_some, Option.toList_some, Option.toList_none, List.nil_append, List.cons_append, if_true, if_false, ite_true, ite_false, not_true_eq_false, not_false_eq_true, qn_lt0, qn_ge0, qn_lt, qn_le, qn_eq, qn_e0, qn_gt0, qn_le0, qn_m1, nI_add, pk_mul, qb_e0, Classical.not_not, d1, e2, x3, ← hI1, d2, e3, x13]
    · rw [if_neg h2] at d2 ⊢
      refine ⟨nI (c i - 48), I1, ?_, fun a ha => by rw [hI1, qa_up_n _ _ ha], x13, fun h => absurd h (by simp), fun mk hk => by cases hk; rfl⟩
      simp (disch := first | assumption | omega | exact Or.inl rfl | exact Or.inr rfl | exact qb_01) only [qe_22, qr_22_0, qr_22_1, qr_22_4, qr_22_5, qr_22_6, qr_22_7, qr_22_10, qr_22_11, qr_22_12, qr_22_13, qr_22_14, qr_22_17, qr_22_18, qr_22_19, qr_22_22, qr_22_23, qr_22_26, qr_22_27, qr_22_28, qr_22_29, qr_22_32, qr_22_33, qr_22_34, qr_22_35, qr_22_36, qr_22_39, qr_22_40, qr_22_41, qr_22_44, qr_22_46, qr_22_47, qr_22_48, qr_22_49, qr_22_50, true_and, and_true, false_and, and_false, Option.bind_some, Option.toList_some, Option.toList_none, List.nil_append, List.cons_append, if_true, if_false, ite_true, ite_false, not_true_eq_false, not_false_eq_true, qn_lt0, qn_ge0, qn_lt, qn_le, qn_eq, qn_e0, qn_gt0, qn_le0, qn_m1, nI_add, pk_mul, qb_e0, Classical.not_not, d1, e2, x3, ← hI1, d2]
  · rw [if_neg h1]
    refine ⟨-1, I, ?_, fun _ _ => rfl, x3, fun _ => rfl, fun mk hk => absurd hk (by simp)⟩
    by_cases h2 : 48 ≤ c i ∧ c i ≤ 57
    · rw [if_pos h2] at d1
      have e1 : c i - 48 = 0 := by omega
      have e2 : ¬ 1 ≤ 0 := by omega
      rw [e1] at d1
      simp (disch := first | assumption | omega | exact Or.inl rfl | exact Or.inr rfl | exact qb_01) only [qe_22, qr_22_0, qr_22_1, qr_22_4, qr_22_5, qr_22_6, qr_22_7, qr_22_10, qr_22_11, qr_22_12, qr_22_13, qr_22_14, qr_22_17, qr_22_18, qr_22_19, qr_22_22, qr_22_23, qr_22_26, qr_22_27, qr_22_28, qr_22_29, qr_22_32, qr_22_33, qr_22_34, qr_22_35, qr_22_36, qr_22_39, qr_22_40, qr_22_41, qr_22_44, qr_22_46, qr_22_47, qr_22_48, qr_22_49, qr_22_50, true_and, and_true, false_and, and_false, Option.bind_some, Option.toList_some, Option.toList_none, List.nil_append, List.cons_append, if_true, if_false, ite_true, ite_false, not_true_eq_false, not_false_eq_true, qn_lt0, qn_ge0, qn_lt, qn_le, qn_eq, qn_e0, qn_gt0, qn_le0, qn_m1, nI_add, pk_mul, qb_e0, Classical.not_not, d1, e2]
    · rw [if_neg h2] at d1
      have e2 : ¬ nI 1 ≤ (-1 : Int32) := by decide
      simp (disch := first | assumption | omega | exact Or.inl rfl | exact Or.inr rfl | exact qb_01) only [qe_22, qr_22_0, qr_22_1, qr_22_4, qr_22_5, qr_22_6, qr_22_7, qr_22_10, qr_22_11, qr_22_12, qr_22_13, qr_22_14, qr_22_17, qr_22_18, qr_22_19, qr_22_22, qr_22_23, qr_22_26, qr_22_27, qr_22_28, qr_22_29, qr_22_32, qr_22_33, qr_22_34, qr_22_35, qr_22_36, qr_22_39, qr_22_40, qr_22_41, qr_22_44, qr_22_46, qr_22_47, qr_22_48, qr_22_49, qr_22_50, true_and, and_true, false_and, and_false, Option.bind_some, Option.toList_some, Option.toList_none, List.nil_append, List.cons_append, if_true, if_false, ite_true, ite_false, not_true_eq_false, not_false_eq_true, qn_lt0, qn_ge0, qn_lt, qn_le, qn_eq, qn_e0, qn_gt0, qn_le0, qn_m1, nI_add, pk_mul, qb_e0, Classical.not_not, d1, e2]
theorem qs_CR_readSkill (hX : qR_x K I R rd tx L c i) (hU : qU_S K I R n q k pm T) (hk : k < 10) (hr : rd < q) (ht : tx + 1 < q) (hq : 200 ≤ q) : ∃ v K' I' R' n' z', qa_ex (d + 25) 21 [qa_a (some rd), qa_a (some q)] (K, I, R, n, z) = some (some (qa_i v), (K', I', R', n', z')) ∧ qR_G rd q n z K I R n' z' K' I' R' ∧ I' rd 1 = nI (qP_sk c k i).2 ∧ n' ≤ n + ((qP_sk c k i).2 - i) ∧ ((qP_sk c k i).1 = none → v = nI 0) ∧ ∀ s, (qP_sk c k i).1 = some s → v = nI 1 ∧ qU_S K' I' R' n' q (k + 1) (va_up pm k s.1) (va_up T k s.2) := by
  have x1 := hX.1
  have hc := hX.2.2.2.2.2.2.2.1
  have u0 := hU.1.1
  have hqn := hU.2.1
  have hlt : ∀ j, ¬ c j = 200 → j < L := fun j hj => Decidable.byContradiction fun h => hj (hc j (by omega))
  obtain ⟨v1, I1, a1, a2, a3, a4, a5⟩ := qs_CR_readPassMark (d := d + 21) (n := n) (z := z) hX
  have hok := qP_mk_ok hc hX.2.2.2.2.2.2.1
  have hF1 : qR_F rd n n z K I R n z K I1 R := qR_F_r a2
  have hX1 := fun h => qR_x_F hX hF1 (by omega) (by omega) (Or.inl (Nat.le_refl _)) a3 h
  unfold qP_sk
  generalize qP_mk c i = p at a3 a4 a5 hok hX1 ⊢
  obtain ⟨r, j⟩ := p
  obtain ⟨k1, k2, k3⟩ := hok
  have k1 : i ≤ j := k1
  have k2 : j ≤ L := k2
  have hX1 := hX1 k2
  cases r with
  | none =>
    have hv := a4 rfl
    subst hv
    refine ⟨nI 0, K, I1, R, n, z, ?_, qR_G_F hF1 (by omega) (by omega), a3, by show n ≤ n + (j - i); omega, fun _ => rfl, fun s hs => absurd hs (by show ¬ (none : Option (Nat × qt_T)) = some s; simp)⟩
    simp (disch := first | assumption | omega | exact Or.inl rfl | exact Or.inr rfl | exact qb_01) only [qe_21, qr_21_0, qr_21_1, qr_21_4, qr_21_5, qr_21_6, qr_21_7, qr_21_10, qr_21_11, qr_21_12, qr_21_13, qr_21_15, qr_21_18, qr_21_21, qr_21_22, qr_21_23, qr_21_24, qr_21_27, qr_21_28, qr_21_29, qr_21_30, qr_21_31, qr_21_34, qr_21_35, qr_21_38, qr_21_39, qr_21_40_0, qr_21_40_1, qr_21_43, qr_21_44, qr_21_45, qr_21_46, qr_21_47, qr_21_48, qr_21_51, qr_21_52, true_and, and_true, false_and, and_false, Option.bind_some, Option.toList_some, Option.toList_none, List.nil_append, List.cons_append, if_true, if_false, ite_true, ite_false, not_true_eq_false, not_false_eq_true, qn_lt0, qn_ge0, qn_lt, qn_le, qn_eq, qn_e0, qn_gt0, qn_le0, qn_m1, nI_add, pk_mul, qb_e0, Classical.not_not, a1]
  | some v =>
    have hv := a5 v rfl
    subst hv
    obtain ⟨b1, b2, b3, b4⟩ := k3 v rfl
    have e0 : (nI v = -1) = False := qn_m1 (by omega)
    have hac := qs_CR_accept (d := d + 22) (n := n) (z := z) (w := 61) hX1 (by omega)
    have hU1 := qU_F hU hF1 hr (Nat.le_refl _)
    rw [show qP_sk1 c k (some v, j) = if c j = 61 then qP_sk2 v (qP c k 400 2 0 (j + 1)) else (some (v, .num 0), j) from rfl]
    by_cases h1 : c j = 61
    · rw [if_pos h1] at hac ⊢
      have hj := hlt j (by omega)
      obtain ⟨I2, hI2⟩ : ∃ I2, I2 = va_up I1 rd (va_up (I1 rd) 1 (nI (j + 1))) := ⟨_, rfl⟩
      have hX2 := qR_x_o hX1 hj (by omega)
      have hac : _ = some (some (qa_i (nI 1)), (K, va_up I1 rd (va_up (I1 rd) 1 (nI (j + 1))), R, n, z)) := hac
      rw [← hI2] at hX2 hac
      have hF2 : qR_F rd n n z K I1 R n z K I2 R := qR_F_r (fun a ha => by rw [hI2]; exact qa_up_n _ _ ha)
      have hU2 := qU_F hU1 hF2 hr (Nat.le_refl _)
      have hsz : I2 q 3 = nI k := hU2.2.2.1
      obtain ⟨o, K3, I3, R3, n3, z3, c1, c2, c3, c4, c5, c6⟩ := (qR_all (rd := rd) (tx := tx) (m := k) (by omega) hc 400).2.2.1 0 (j + 1) (d + 24) K I2 R n z (by omega) (by have := hX.2.2.2.2.2.1; omega) (by omega) hX2 (by omega) (by omega) (by omega)
      have hok2 := qP_ok (m := k) hc 400 2 0 (j + 1) (by omega) (by omega) (by omega)
      generalize qP c k 400 2 0 (j + 1) = p at c3 c4 c5 c6 hok2 ⊢
      obtain ⟨r, j'⟩ := p
      obtain ⟨m1, m2, m3⟩ := hok2
      have m1 : j + 1 ≤ j' := m1
      have m2 : j' ≤ L := m2
      have c4 : n3 ≤ n + (j' - (j + 1)) := c4
      have hG := qR_G_F (q := q) (qR_F_t (qR_F_t hF1 hF2 (Or.inr rfl)) c2 (Or.inr rfl)) (by omega) (by omega)
      cases r with
      | none =>
        have ho := c5 rfl
        subst ho
        refine ⟨nI 0, K3, I3, R3, n3, z3, ?_, hG, c3, by show n3 ≤ n + (j' - i); omega, fun _ => rfl, fun s hs => absurd hs (by show ¬ (none : Option (Nat × qt_T)) = some s; simp)⟩
        simp (disch := first | assumption | omega | exact Or.inl rfl | exact Or.inr rfl | exact qb_01) only [qe_21, qr_21_0, qr_21_1, qr_21_4, qr_21_5, qr_21_6, qr_21_7, qr_21_10, qr_21_11, qr_21_12, qr_21_13, qr_21_15, qr_21_18, qr_21_21, qr_21_22, qr_21_23, qr_21_24, qr_21_27, qr_21_28, qr_21_29, qr_21_30, qr_21_31, qr_21_34, qr_21_35, qr_21_38, qr_21_39, qr_21_40_0, qr_21_40_1, qr_21_43, qr_21_44, qr_21_45, qr_21_46, qr_21_47, qr_21_48, qr_21_51, qr_21_52, true_and, and_true, false_and, and_false, Option.bind_some, Option.toList_some, Option.toList_none, List.nil_append, List.cons_append, if_true, if_false, ite_true, ite_false, not_true_eq_false, not_false_eq_true, qn_lt0, qn_ge0, qn_lt, qn_le, qn_eq, qn_e0, qn_gt0, qn_le0, qn_m1, nI_add, pk_mul, qb_e0, Classical.not_not, a1, e0, hac, qs_CU_size, hsz, c1, Nat.one_ne_zero]
      | some t =>
        obtain ⟨b, g1, g2, g3, g4, g5⟩ := c6 t rfl
        subst g1
        obtain ⟨m4, m5, -⟩ := m3 t rfl
        obtain ⟨m6, m7, m8, m9, m10⟩ := m5 (by omega)
        have hU3 := qU_F hU2 c2 hr (Nat.le_refl _)
        have hn3 := c2.1
        have hCB : qt_CB (q + 4) n3 K3 I3 R3 t (some b) := by
          have := qt_RB_C (hi := n3) (r := .num 0) (qt_RB_cg (lo' := n) (fun _ _ _ => ⟨rfl, rfl, rfl⟩) (Nat.le_refl _) rfl rfl rfl g4) g2 g3 (by omega) (show qt_CB n n3 K3 I3 R3 (.num 0) (R3 b 3) from g5)
          rw [m8] at this
          exact qt_CB_cg (fun _ _ _ => ⟨rfl, rfl, rfl⟩) hqn (Nat.le_refl _) this
        obtain ⟨I4, R4, f1, f2, f3, f4⟩ := qs_CU_addSkill (d := d + 8) (z := z3) (mk := v) hU3 hk hCB (by omega) (by omega)
        have hG2 : qR_G rd q n3 z3 K3 I3 R3 n3 z3 K3 I4 R4 := ⟨Nat.le_refl _, rfl, fun _ _ => rfl, fun a ha _ => f3 a (by omega), fun a ha => f4 a (by omega)⟩
        have u03 := hU3.1.1
        refine ⟨nI 1, K3, I4, R4, n3, z3, ?_, qR_G_t hG hG2, by rw [f3 rd (by omega)]; exact c3, by show n3 ≤ n + (j' - i); omega, fun h => absurd h (by show ¬ (some (v, t) : Option (Nat × qt_T)) = none; simp), fun s hs => ?_⟩
        · simp (disch := first | assumption | omega | exact Or.inl rfl | exact Or.inr rfl | exact qb_01) only [qe_21, qr_21_0, qr_21_1, qr_21_4, qr_21_5, qr_21_6, qr_21_7, qr_21_10, qr_21_11, qr_21_12, qr_21_13, qr_21_15, qr_21_18, qr_21_21, qr_21_22, qr_21_23, qr_21_24, qr_21_27, qr_21_28, qr_21_29, qr_21_30, qr_21_31, qr_21_34, qr_21_35, qr_21_38, qr_21_39, qr_21_40_0, qr_21_40_1, qr_21_43, qr_21_44, qr_21_45, qr_21_46, qr_21_47, qr_21_48, qr_21_51, qr_21_52, true_and, and_true, false_and, and_false, Option.bind_some, Option.toList_some, Option.toList_none, List.nil_append, List.cons_append, if_true, if_false, ite_true, ite_false, not_true_eq_false, not_false_eq_true, qn_lt0, qn_ge0, qn_lt, qn_le, qn_eq, qn_e0, qn_gt0, qn_le0, qn_m1, nI_add, pk_mul, qb_e0, Classical.not_not, a1, e0, hac, qs_CU_size, hsz, c1, f1, Nat.one_ne_zero]
        · cases hs
          exact ⟨rfl, f2⟩
    · rw [if_neg h1] at hac ⊢
      obtain ⟨I4, R4, f1, f2, f3, f4⟩ := qs_CU_addSkill (d := d + 8) (z := z) (mk := v) (t := .num 0) (o := none) hU1 hk rfl (by show 0 ≤ 13; omega) (by omega)
      have hG2 : qR_G rd q n z K I1 R n z K I4 R4 := ⟨Nat.le_refl _, rfl, fun _ _ => rfl, fun a ha _ => f3 a (by omega), fun a ha => f4 a (by omega)⟩
      refine ⟨nI 1, K, I4, R4, n, z, ?_, qR_G_t (qR_G_F hF1 (by omega) (by omega)) hG2, by rw [f3 rd (by omega)]; exact a3, by show n ≤ n + (j - i); omega, fun h => absurd h (by simp), fun s hs => ?_⟩
      · simp (disch := first | assumption | omega | exact Or.inl rfl | exact Or.inr rfl | exact qb_01) only [qe_21, qr_21_0, qr_21_1, qr_21_4, qr_21_5, qr_21_6, qr_21_7, qr_21_10, qr_21_11, qr_21_12, qr_21_13, qr_21_15, qr_21_18, qr_21_21, qr_21_22, qr_21_23, qr_21_24, qr_21_27, qr_21_28, qr_21_29, qr_21_30, qr_21_31, qr_21_34, qr_21_35, qr_21_38, qr_21_39, qr_21_40_0, qr_21_40_1, qr_21_43, qr_21_44, qr_21_45, qr_21_46, qr_21_47, qr_21_48, qr_21_51, qr_21_52, true_and, and_true, false_and, and_false, Option.bind_some, Option.toList_some, Option.toList_none, List.nil_append, List.cons_append, if_true, if_false, ite_true, ite_false, not_true_eq_false, not_false_eq_true, qn_lt0, qn_ge0, qn_lt, qn_le, qn_eq, qn_e0, qn_gt0, qn_le0, qn_m1, nI_add, pk_mul, qb_e0, Classical.not_not, a1, e0, hac, f1]
      · cases hs
        exact ⟨rfl, f2⟩
def qU_i (K : Nat → Nat × Nat) (I : Nat → Nat → Int32) (R : Nat → Nat → Option Nat) (n a : Nat) (K' : Nat → Nat × Nat) (I' : Nat → Nat → Int32) (R' : Nat → Nat → Option Nat) : Prop :=
  K' n = (100, 10) ∧ K' (n + 1) = (100, 10) ∧ K' (n + 2) = (103, 10) ∧ R' a 0 = some n ∧ R' a 1 = some (n + 1) ∧ R' a 2 = some (n + 2) ∧ I' a 3 = nI 0 ∧ (∀ b, (b < n ∨ n + 3 ≤ b) → K' b = K b) ∧ (∀ b, b ≠ a → (b < n ∨ n + 3 ≤ b) → I' b = I b) ∧ (∀ b, b ≠ a → (b < n ∨ n + 3 ≤ b) → R' b = R b)
theorem qU_new {K' : Nat → Nat × Nat} {I' : Nat → Nat → Int32} {R' : Nat → Nat → Option Nat} (ha : a < n) (hK : K' = va_up (va_up (va_up K n (100, 10)) (n + 1) (100, 10)) (n + 2) (103, 10)) (hI : I' = va_up (va_up (va_up (va_up I n (fun _ => 0)) (n + 1) (fun _ => 0)) (n + 2) (fun _ => 0)) a (va_up (I a) 3 (nI 0))) (hR : R' = va_up (va_up (va_up (va_up (va_up (va_up R n (fun _ => none)) a (va_up (R a) 0 (some n))) (n + 1) (fun _ => none)) a (va_up (va_up (R a) 0 (some n)) 1 (some (n + 1)))) (n + 2) (fun _ => none)) a (va_up (va_up (va_up (R a) 0 (some n)) 1 (some (n + 1))) 2 (some (n + 2)))) : qU_i K I R n a K' I' R' := by
  subst hK hI hR
  refine ⟨?_, ?_, ?_, ?_, ?_, ?_, ?_, fun b hb => ?_, fun b hb hb2 => ?_, fun b hb hb2 => ?_⟩
  all_goals simp (disch := omega) only [qa_up_s, qa_up_n]
theorem qs_CU_init (hk : K a = (5, 0)) (ha : a < n) : ∃ K' I' R', qa_ex (d + 1) 5 [qa_a (some a)] (K, I, R, n, z) = some (none, (K', I', R', n + 3, z + 30)) ∧ qU_i K I R n a K' I' R' := by
  refine ⟨_, _, _, ?_, qU_new ha rfl rfl rfl⟩
  simp (disch := first | assumption | omega | exact qa_up_s _ _ _ | exact Or.inl rfl | exact Or.inr rfl | exact qb_01 | (simp (disch := omega) only [qa_up_n, qa_up_s]; done) | (simp (disch := omega) only [qa_up_n, qa_up_s]; assumption)) only [qe_5, qr_5_0, qr_5_1, qr_5_4, qr_5_5, qr_5_7, qr_5_9, qr_5_12, qr_5_13, qr_5_15, qr_5_17, qr_5_20, qr_5_21, qr_5_23, qr_5_26, qr_5_29, qr_5_30, qr_5_31, qr_5_34, true_and, and_true, false_and, and_false, Option.bind_some, Option.toList_some, Option.toList_none, List.nil_append, List.cons_append, if_true, if_false, ite_true, ite_false, not_true_eq_false, not_false_eq_true, qa_up_s, qa_up_n, qa_uu, Nat.add_assoc, Nat.reduceAdd]
theorem qs_CR_read (hX : qR_x K I R rd tx L c i) (hr : rd < n) (ht : tx + 1 < n) (hn : 204 ≤ n) : ∃ o K' I' R' n' z', qa_ex (d + 26) 20 [qa_a (some rd)] (K, I, R, n, z) = some (some (qa_a o), (K', I', R', n', z')) ∧ (∀ a, (a < n ∨ n' ≤ a) → K' a = K a) ∧ (∀ a, a < n → a ≠ rd → I' a = I a) ∧ (∀ a, a < n → R' a = R a) ∧ n ≤ n' ∧ n' ≤ n + 84 ∧ z' ≤ z + 354 ∧ I' rd 1 = nI (qP_al c L 10 0 0 (fun _ => 0) (fun _ => .num 0)).2 ∧ ((qP_al c L 10 0 0 (fun _ => 0) (fun _ => .num 0)).1 = none → o = none) ∧ ∀ s, (qP_al c L 10 0 0 (fun _ => 0) (fun _ => .num 0)).1 = some s → o = some n ∧ qU_S K' I' R' n' n s.1 s.2.1 s.2.2 := by
  have x1 := hX.1
  have x2 := hX.2.1
  have hL := hX.2.2.2.2.2.1
  have hc := hX.2.2.2.2.2.2.2.1
  obtain ⟨I0, hI0⟩ : ∃ I0, I0 = va_up (va_up I rd (va_up (I rd) 1 (nI 0))) n (fun _ => 0) := ⟨_, rfl⟩
  obtain ⟨K0, hK0⟩ : ∃ K0, K0 = va_up K n (5, 0) := ⟨_, rfl⟩
  obtain ⟨R0, hR0⟩ : ∃ R0, R0 = va_up R n (fun _ => none) := ⟨_, rfl⟩
  have hK0n : K0 n = (5, 0) := by rw [hK0, qa_up_s]
  obtain ⟨K1, I1, R1, g0, g1, g2, g3, g4, g5, g6, g7, g8, g9, g10⟩ := qs_CU_init (d := d + 24) (I := I0) (R := R0) (z := z + 4) hK0n (Nat.lt_succ_self n)
  have hG : qR_G rd n (n + 4) (z + 34) K I R (n + 4) (z + 34) (fun a => if a < n ∨ n + 4 ≤ a then K1 a else K a) I1 R1 := ⟨Nat.le_refl _, rfl, fun a ha => by
      show (if a < n ∨ n + 4 ≤ a then K1 a else K a) = K a
      split
      · rw [g8 a (by omega), hK0, qa_up_n _ _ (by omega)]
      · rfl, fun a ha hr => by rw [g9 a (by omega) (by omega), hI0, qa_up_n _ _ (by omega), qa_up_n _ _ hr], fun a ha => by rw [g10 a (by omega) (by omega), hR0, qa_up_n _ _ (by omega)]⟩
  have hK1 : ∀ a, (a < n ∨ n + 4 ≤ a) → K1 a = K a := fun a ha => by rw [g8 a (by omega), hK0, qa_up_n _ _ (by omega)]
  have hX1 : qR_x K1 I1 R1 rd tx L c 0 := by
    have h1 : qR_G rd n n 0 K I R n 0 (fun a => if a < n then K1 a else K a) I1 R1 := ⟨Nat.le_refl _, rfl, fun a ha => by
      show (if a < n then K1 a else K a) = K a
      split
      · exact hK1 a (by omega)
      · rfl, hG.2.2.2.1, hG.2.2.2.2⟩
    obtain ⟨y1, y2, y3, ⟨t1, t2, t3, t4⟩, y5, y6, y7, y8, y9⟩ := qR_x_G (j := 0) hX h1 hr ht (Nat.le_refl _) (by rw [g9 rd (by omega) (by omega), hI0, qa_up_n _ _ (by omega), qa_up_s, qa_up_s]) (by omega)
    have hk : ∀ a, a < n → (if a < n then K1 a else K a) = K1 a := fun a ha => if_pos ha
    exact ⟨(hk rd hr).symm.trans y1, y2, y3, ⟨(hk tx (by omega)).symm.trans t1, by rw [← hk (tx + 1) ht]; exact t2, by rw [← hk (tx + 1) ht]; exact t3, t4⟩, y5, y6, y7, y8, y9⟩
  have hU1 : qU_S K1 I1 R1 (n + 4) n 0 (fun _ => 0) (fun _ => .num 0) := ⟨⟨by rw [g8 n (by omega)]; exact hK0n, by rw [g1], by rw [g1], by rw [show n + 2 = n + 1 + 1 by omega, g2], by rw [show n + 2 = n + 1 + 1 by omega, g2], by rw [show n + 3 = n + 1 + 2 by omega, g3], by rw [show n + 3 = n + 1 + 2 by omega, g3], g4, g5, g6⟩, Nat.le_refl _, g7, fun i hi => absurd hi (by omega)⟩
  have loop : ∀ f k i pm T l3, k + f = 10 → ∀ K2 I2 R2 n2 z2, qR_x K2 I2 R2 rd tx L c i → qU_S K2 I2 R2 n2 n k pm T → ∃ o K' I' R' n' z', qa_run (d + 25) 20 15 [qa_a (some rd), qa_a (some n), qa_i (nI k), l3] [] [] (K2, I2, R2, n2, z2) = some (some (qa_a o), (K', I', R', n', z')) ∧ qR_G rd n n2 z2 K2 I2 R2 n' z' K' I' R' ∧ n' ≤ n2 + ((qP_al c L f k i pm T).2 - i) ∧ I' rd 1 = nI (qP_al c L f k i pm T).2 ∧ ((qP_al c L f k i pm T).1 = none → o = none) ∧ ∀ s, (qP_al c L f k i pm T).1 = some s → o = some n ∧ qU_S K' I' R' n' n s.1 s.2.1 s.2.2 := by
    intro f
    induction f with
    | zero =>
      intro k i pm T l3 hk K2 I2 R2 n2 z2 hX2 hU2
      have hk : k = 10 := by omega
      subst hk
      refine ⟨none, K2, I2, R2, n2, z2, ?_, ⟨Nat.le_refl _, rfl, fun _ _ => rfl, fun _ _ _ => rfl, fun _ _ => rfl⟩, by show n2 ≤ n2 + (i - i); omega, hX2.2.2.1, fun _ => rfl, fun s hs => absurd hs (by show ¬ (none : Option (Nat × (Nat → Nat) × (Nat → qt_T))) = some s; simp)⟩
      rw [qr_20_15]
      simp (disch := first | assumption | omega | exact Or.inl rfl | exact Or.inr rfl | exact qb_01) only [qr_20_0, qr_20_1, qr_20_2, qr_20_5, qr_20_8, qr_20_9, qr_20_12, qr_20_13, qr_20_14, qr_20_16, qr_20_18, qr_20_21, qr_20_22, qr_20_23, qr_20_26, qr_20_29, qr_20_30, qr_20_31, qr_20_32, qr_20_35, qr_20_36, qr_20_39, qr_20_42, qr_20_45, qr_20_46, qr_20_47, qr_20_48, qr_20_50, qr_20_53, qr_20_54, qr_20_57, qr_20_58, qr_20_59, qr_20_60, qr_20_63, qr_20_64, qr_20_66, qr_20_69, qr_20_72, qr_20_73, qr_20_74, qr_20_77, qr_20_80, qr_20_81, true_and, and_true, false_and, and_false, Option.bind_some, Option.toList_some, Option.toList_none, List.nil_append, List.cons_append, if_true, if_false, ite_true, ite_false, not_true_eq_false, not_false_eq_true, qn_lt0, qn_ge0, qn_lt, qn_le, qn_eq, qn_e0, qn_gt0, qn_le0, qn_m1, nI_add, pk_mul, qb_e0, Classical.not_not, Nat.le_refl]
    | succ f ih =>
      intro k i pm T l3 hk K2 I2 R2 n2 z2 hX2 hU2
      have e1 : ¬ 10 ≤ k := by omega
      obtain ⟨v, K3, I3, R3, n3, z3, a1, a2, a3, a4, a5, a6⟩ := qs_CR_readSkill (d := d) (z := z2) hX2 hU2 (by omega) hr ht (by omega)
      have hok := qP_sk_ok (k := k) hc hX2.2.2.2.2.2.2.1
      have hqn := hU2.2.1
      have hXf := fun h => qR_x_G hX2 a2 hr ht (by omega) a3 h
      have x12 := hX2.1
      rw [show qP_al c L (f + 1) k i pm T = qP_a1 c L k pm T (qP_sk c k i) (fun pm' T' => qP_al c L f (k + 1) ((qP_sk c k i).2 + 1) pm' T') from rfl]
      generalize qP_sk c k i = p at a3 a4 a5 a6 hok hXf ⊢
      obtain ⟨r, j⟩ := p
      obtain ⟨k1, k2, k3⟩ := hok
      have k1 : i ≤ j := k1
      have k2 : j ≤ L := k2
      have a4 : n3 ≤ n2 + (j - i) := a4
      have hX3 : qR_x K3 I3 R3 rd tx L c j := hXf k2
      cases r with
      | none =>
        have hv := a5 rfl
        subst hv
        refine ⟨none, K3, I3, R3, n3, z3, ?_, a2, a4, a3, fun _ => rfl, fun s hs => absurd hs (by show ¬ (none : Option (Nat × (Nat → Nat) × (Nat → qt_T))) = some s; simp)⟩
        rw [qr_20_15]
        simp (disch := first | assumption | omega | exact Or.inl rfl | exact Or.inr rfl | exact qb_01) only [qr_20_0, qr_20_1, qr_20_2, qr_20_5, qr_20_8, qr_20_9, qr_20_12, qr_20_13, qr_20_14, qr_20_16, qr_20_18, qr_20_21, qr_20_22, qr_20_23, qr_20_26, qr_20_29, qr_20_30, qr_20_31, qr_20_32, qr_20_35, qr_20_36, qr_20_39, qr_20_42, qr_20_45, qr_20_46, qr_20_47, qr_20_48, qr_20_50, qr_20_53, qr_20_54, qr_20_57, qr_20_58, qr_20_59, qr_20_60, qr_20_63, qr_20_64, qr_20_66, qr_20_69, qr_20_72, qr_20_73, qr_20_74, qr_20_77, qr_20_80, qr_20_81, true_and, and_true, false_and, and_false, Option.bind_some, Option.toList_some, Option.toList_none, List.nil_append, List.cons_append, if_true, if_false, ite_true, ite_false, not_true_eq_false, not_false_eq_true, qn_lt0, qn_ge0, qn_lt, qn_le, qn_eq, qn_e0, qn_gt0, qn_le0, qn_m1, nI_add, pk_mul, qb_e0, Classical.not_not, e1, a1]
      | some s0 =>
        obtain ⟨hv, hU3⟩ := a6 s0 rfl
        subst hv
        have y1 := hX3.1
        have y2 := hX3.2.1
        have y3 := hX3.2.2.1
        have yt := hX3.2.2.2.1.1
        have yl := hX3.2.2.2.2.1.1
        rw [show qP_a1 c L k pm T (some s0, j) (fun pm' T' => qP_al c L f (k + 1) ((some s0, j).2 + 1) pm' T') = if L ≤ j then (some (k + 1, va_up pm k s0.1, va_up T k s0.2), j) else if k = 9 ∨ ¬ c j = 59 then (none, j) else qP_al c L f (k + 1) (j + 1) (va_up pm k s0.1) (va_up T k s0.2) from rfl]
        by_cases h1 : L ≤ j
        · rw [if_pos h1]
          refine ⟨some n, K3, I3, R3, n3, z3, ?_, a2, a4, a3, fun h => absurd h (by simp), fun s hs => ?_⟩
          · have h2 : ¬ j < L := by omega
            rw [qr_20_15]
            simp (disch := first | assumption | omega | exact Or.inl rfl | exact Or.inr rfl | exact qb_01) only [qr_20_0, qr_20_1, qr_20_2, qr_20_5, qr_20_8, qr_20_9, qr_20_12, qr_20_13, qr_20_14, qr_20_16, qr_20_18, qr_20_21, qr_20_22, qr_20_23, qr_20_26, qr_20_29, qr_20_30, qr_20_31, qr_20_32, qr_20_35, qr_20_36, qr_20_39, qr_20_42, qr_20_45, qr_20_46, qr_20_47, qr_20_48, qr_20_50, qr_20_53, qr_20_54, qr_20_57, qr_20_58, qr_20_59, qr_20_60, qr_20_63, qr_20_64, qr_20_66, qr_20_69, qr_20_72, qr_20_73, qr_20_74, qr_20_77, qr_20_80, qr_20_81, true_and, and_true, false_and, and_false, Option.bind_some, Option.toList_some, Option.toList_none, List.nil_append, List.cons_append, if_true, if_false, ite_true, ite_false, not_true_eq_false, not_false_eq_true, qn_lt0, qn_ge0, qn_lt, qn_le, qn_eq, qn_e0, qn_gt0, qn_le0, qn_m1, nI_add, pk_mul, qb_e0, Classical.not_not, e1, a1, y2, y3, qs_TR_length, yl, h2, Nat.one_ne_zero]
          · cases hs
            exact ⟨rfl, hU3⟩
        · rw [if_neg h1]
          have h2 : j < L := by omega
          have hac := qs_CR_accept (d := d + 23) (n := n3) (z := z3) (w := 59) hX3 (by omega)
          by_cases h3 : k = 9
          · rw [if_pos (Or.inl h3)]
            subst h3
            refine ⟨none, K3, I3, R3, n3, z3, ?_, a2, a4, a3, fun _ => rfl, fun s hs => absurd hs (by simp)⟩
            rw [qr_20_15]
            simp (disch := first | assumption | omega | exact Or.inl rfl | exact Or.inr rfl | exact qb_01) only [qr_20_0, qr_20_1, qr_20_2, qr_20_5, qr_20_8, qr_20_9, qr_20_12, qr_20_13, qr_20_14, qr_20_16, qr_20_18, qr_20_21, qr_20_22, qr_20_23, qr_20_26, qr_20_29, qr_20_30, qr_20_31, qr_20_32, qr_20_35, qr_20_36, qr_20_39, qr_20_42, qr_20_45, qr_20_46, qr_20_47, qr_20_48, qr_20_50, qr_20_53, qr_20_54, qr_20_57, qr_20_58, qr_20_59, qr_20_60, qr_20_63, qr_20_64, qr_20_66, qr_20_69, qr_20_72, qr_20_73, qr_20_74, qr_20_77, qr_20_80, qr_20_81, true_and, and_true, false_and, and_false, Option.bind_some, Option.toList_some, Option.toList_none, List.nil_append, List.cons_append, if_true, if_false, ite_true, ite_false, not_true_eq_false, not_false_eq_true, qn_lt0, qn_ge0, qn_lt, qn_le, qn_eq, qn_e0, qn_gt0, qn_le0, qn_m1, nI_add, pk_mul, qb_e0, Classical.not_not, e1, a1, y2, y3, qs_TR_length, yl, h2, Nat.one_ne_zero]
          · by_cases h4 : c j = 59
            · rw [if_neg (fun q => q.elim h3 (fun q => q h4))]
              rw [if_pos h4] at hac
              obtain ⟨I4, hI4⟩ : ∃ I4, I4 = va_up I3 rd (va_up (I3 rd) 1 (nI (j + 1))) := ⟨_, rfl⟩
              have hX4 := qR_x_o hX3 h2 (by omega)
              rw [← hI4] at hX4 hac
              have hn3 := a2.1
              have hF4 : qR_F rd n3 n3 z3 K3 I3 R3 n3 z3 K3 I4 R3 := qR_F_r (fun a ha => by rw [hI4]; exact qa_up_n _ _ ha)
              have hU4 := qU_F hU3 hF4 hr (Nat.le_refl _)
              obtain ⟨o, K5, I5, R5, n5, z5, b1, b2, b3, b4, b5, b6⟩ := ih (k + 1) (j + 1) (va_up pm k s0.1) (va_up T k s0.2) (qa_i (nI 0)) (by omega) K3 I4 R3 n3 z3 hX4 hU4
              have hle : j + 1 ≤ (qP_al c L f (k + 1) (j + 1) (va_up pm k s0.1) (va_up T k s0.2)).2 := by
                clear b1 b2 b3 b4 b5 b6
                have : ∀ f k i pm T, i ≤ L → i ≤ (qP_al c L f k i pm T).2 := by
                  intro f
                  induction f with
                  | zero => intro k i pm T _; exact Nat.le_refl i
                  | succ f ih =>
                    intro k i pm T hi
                    have hsk := qP_sk_ok (k := k) hc hi
                    have hii := fun h pm' T' => ih (k + 1) ((qP_sk c k i).2 + 1) pm' T' h
                    unfold qP_al
                    generalize qP_sk c k i = p at hsk hii ⊢
                    obtain ⟨r, j⟩ := p
                    obtain ⟨q1, q2, -⟩ := hsk
                    have q1 : i ≤ j := q1
                    unfold qP_a1
                    cases r with
                    | none => exact q1
                    | some s0 =>
                      simp only []
                      split
                      · exact q1
                      · split
                        · exact q1
                        · rename_i h5 h6
                          have := hii (by show j + 1 ≤ L; omega) (va_up pm k s0.1) (va_up T k s0.2)
                          exact Nat.le_trans q1 (Nat.le_trans (Nat.le_succ j) this)
                exact this _ _ _ _ _ (by omega)
              refine ⟨o, K5, I5, R5, n5, z5, ?_, qR_G_t (qR_G_t a2 (qR_G_F hF4 (by omega) (by omega))) b2, by omega, b4, b5, b6⟩
              rw [qr_20_15]
              simp (disch := first | assumption | omega | exact Or.inl rfl | exact Or.inr rfl | exact qb_01) only [qr_20_0, qr_20_1, qr_20_2, qr_20_5, qr_20_8, qr_20_9, qr_20_12, qr_20_13, qr_20_14, qr_20_16, qr_20_18, qr_20_21, qr_20_22, qr_20_23, qr_20_26, qr_20_29, qr_20_30, qr_20_31, qr_20_32, qr_20_35, qr_20_36, qr_20_39, qr_20_42, qr_20_45, qr_20_46, qr_20_47, qr_20_48, qr_20_50, qr_20_53, qr_20_54, qr_20_57, qr_20_58, qr_20_59, qr_20_60, qr_20_63, qr_20_64, qr_20_66, qr_20_69, qr_20_72, qr_20_73, qr_20_74, qr_20_77, qr_20_80, qr_20_81, true_and, and_true, false_and, and_false, Option.bind_some, Option.toList_some, Option.toList_none, List.nil_append, List.cons_append, if_true, if_false, ite_true, ite_false, not_true_eq_false, not_false_eq_true, qn_lt0, qn_ge0, qn_lt, qn_le, qn_eq, qn_e0, qn_gt0, qn_le0, qn_m1, nI_add, pk_mul, qb_e0, Classical.not_not, e1, a1, y2, y3, qs_TR_length, yl, h2, h3, hac, Nat.one_ne_zero]
              exact b1
            · rw [if_pos (Or.inr h4)]
              rw [if_neg h4] at hac
              refine ⟨none, K3, I3, R3, n3, z3, ?_, a2, a4, a3, fun _ => rfl, fun s hs => absurd hs (by simp)⟩
              rw [qr_20_15]
              simp (disch := first | assumption | omega | exact Or.inl rfl | exact Or.inr rfl | exact qb_01) only [qr_20_0, qr_20_1, qr_20_2, qr_20_5, qr_20_8, qr_20_9, qr_20_12, qr_20_13, qr_20_14, qr_20_16, qr_20_18, qr_20_21, qr_20_22, qr_20_23, qr_20_26, qr_20_29, qr_20_30, qr_20_31, qr_20_32, qr_20_35, qr_20_36, qr_20_39, qr_20_42, qr_20_45, qr_20_46, qr_20_47, qr_20_48, qr_20_50, qr_20_53, qr_20_54, qr_20_57, qr_20_58, qr_20_59, qr_20_60, qr_20_63, qr_20_64, qr_20_66, qr_20_69, qr_20_72, qr_20_73, qr_20_74, qr_20_77, qr_20_80, qr_20_81, true_and, and_true, false_and, and_false, Option.bind_some, Option.toList_some, Option.toList_none, List.nil_append, List.cons_append, if_true, if_false, ite_true, ite_false, not_true_eq_false, not_false_eq_true, qn_lt0, qn_ge0, qn_lt, qn_le, qn_eq, qn_e0, qn_gt0, qn_le0, qn_m1, nI_add, pk_mul, qb_e0, Classical.not_not, e1, a1, y2, y3, qs_TR_length, yl, h2, h3, hac, Nat.one_ne_zero]
  obtain ⟨o, K5, I5, R5, n5, z5, b1, b2, b3, b4, b5, b6⟩ := loop 10 0 0 (fun _ => 0) (fun _ => .num 0) qa_u (by omega) K1 I1 R1 (n + 4) (z + 34) hX1 hU1
  have hal := qP_al_ok hc 10 0 0 (fun _ => 0) (fun _ => .num 0) (by omega) (by omega) (fun i hi => absurd hi (by omega)) (Nat.le_refl 0)
  obtain ⟨b7, b8, b9, b10, b11⟩ := b2
  refine ⟨o, K5, I5, R5, n5, z5, ?_, fun a ha => ?_, fun a ha hr => ?_, fun a ha => ?_, by omega, by omega, by omega, b4, b5, b6⟩
  · simp (disch := first | assumption | omega | exact qa_up_s _ _ _ | exact Or.inl rfl | exact Or.inr rfl | exact qb_01 | (simp (disch := omega) only [qa_up_n, qa_up_s]; done) | (simp (disch := omega) only [qa_up_n, qa_up_s]; assumption)) only [qe_20, qr_20_0, qr_20_1, qr_20_2, qr_20_5, qr_20_8, qr_20_9, qr_20_12, qr_20_13, qr_20_14, qr_20_16, qr_20_18, qr_20_21, qr_20_22, qr_20_23, qr_20_26, qr_20_29, qr_20_30, qr_20_31, qr_20_32, qr_20_35, qr_20_36, qr_20_39, qr_20_42, qr_20_45, qr_20_46, qr_20_47, qr_20_48, qr_20_50, qr_20_53, qr_20_54, qr_20_57, qr_20_58, qr_20_59, qr_20_60, qr_20_63, qr_20_64, qr_20_66, qr_20_69, qr_20_72, qr_20_73, qr_20_74, qr_20_77, qr_20_80, qr_20_81, true_and, and_true, false_and, and_false, Option.bind_some, Option.toList_some, Option.toList_none, List.nil_append, List.cons_append, if_true, if_false, ite_true, ite_false, not_true_eq_false, not_false_eq_true, qn_lt0, qn_ge0, qn_lt, qn_le, qn_eq, qn_e0, qn_gt0, qn_le0, qn_m1, nI_add, pk_mul, qb_e0, Classical.not_not, qa_up_s, qa_up_n, qa_uu]
    rw [← hK0, ← hI0, ← hR0, g0]
    simp (disch := first | assumption | omega | exact qa_up_s _ _ _ | exact Or.inl rfl | exact Or.inr rfl | exact qb_01 | (simp (disch := omega) only [qa_up_n, qa_up_s]; done) | (simp (disch := omega) only [qa_up_n, qa_up_s]; assumption)) only [qe_20, qr_20_0, qr_20_1, qr_20_2, qr_20_5, qr_20_8, qr_20_9, qr_20_12, qr_20_13, qr_20_14, qr_20_16, qr_20_18, qr_20_21, qr_20_22, qr_20_23, qr_20_26, qr_20_29, qr_20_30, qr_20_31, qr_20_32, qr_20_35, qr_20_36, qr_20_39, qr_20_42, qr_20_45, qr_20_46, qr_20_47, qr_20_48, qr_20_50, qr_20_53, qr_20_54, qr_20_57, qr_20_58, qr_20_59, qr_20_60, qr_20_63, qr_20_64, qr_20_66, qr_20_69, qr_20_72, qr_20_73, qr_20_74, qr_20_77, qr_20_80, qr_20_81, true_and, and_true, false_and, and_false, Option.bind_some, Option.toList_some, Option.toList_none, List.nil_append, List.cons_append, if_true, if_false, ite_true, ite_false, not_true_eq_false, not_false_eq_true, qn_lt0, qn_ge0, qn_lt, qn_le, qn_eq, qn_e0, qn_gt0, qn_le0, qn_m1, nI_add, pk_mul, qb_e0, Classical.not_not, qa_up_s, qa_up_n, qa_uu]
    exact b1
  · rw [b9 a (by omega), hK1 a (by omega)]
  · rw [b10 a ha hr]; exact hG.2.2.2.1 a ha hr
  · rw [b11 a ha]; exact hG.2.2.2.2 a ha
end Q63
