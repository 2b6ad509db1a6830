/-! Advice of the model. -/
theorem qn_cu (f g : Int32) : f + nI 16 + g + nI 16 = f + g + nI 32 := by
  rw [Int32.add_assoc f (nI 16) g, Int32.add_comm (nI 16) g, ← Int32.add_assoc f g (nI 16), Int32.add_assoc (f + g) (nI 16) (nI 16)]
  rfl
section Q51
variable {d a b f : Nat} {K : Nat → Nat × Nat} {I : Nat → Nat → Int32} {R : Nat → Nat → Option Nat} {n z : Nat} {x y : Int32} {h : qa_H} {u nk ni k i j m B p q c e g w v r lv : Nat} {fs hd pm : Nat → Nat} {T : Nat → qt_T}
theorem qs_MO_isOpen2 (hM : qp_MO K R u) (hi : i < 12) : qa_ex (d + 2) 179 [qa_a (some u), qa_i (nI i)] (K, I, R, n, z) = some (some (qa_i (qa_bi (qs_op (I (u + 1)) i = true))), (K, I, R, n, z)) := by
  have e1 : qa_bi (¬ I (u + 1) (91 + 3 * i + 2) = I (u + 1) 0) = qa_bi (qs_op (I (u + 1)) i = true) := qb_c (by unfold qs_op; rw [show 91 + 3 * i + 2 = 93 + 3 * i by omega]; exact decide_eq_true_iff.symm)
  rw [qs_MO_isOpen hM hi, e1]
theorem qs_MO_openItem (hM : qp_MO K R u) (hC : qp_MC (I (u + 5)) nk pm T ni fs hd) (hk : k < 2147483648) : qa_ex (d + 3) 205 [qa_a (some u), qa_i (nI k)] (K, I, R, n, z) = some (some (qa_i (qe_v (qA_oi (I (u + 1)) fs hd k ni))), (K, I, R, n, z)) := by
  have hM' := hM
  obtain ⟨m0, ⟨s1, s2, s3⟩, -, -, -, ⟨c1, c2, c3⟩, -⟩ := hM
  obtain ⟨d1, d2, h10, hn, h12, -, -, -, hit⟩ := hC
  obtain ⟨s, hs⟩ : ∃ s, s = I (u + 1) := ⟨_, rfl⟩
  have loop : ∀ m i l4, i + m = ni → qa_run (d + 2) 205 4 [qa_a (some u), qa_i (nI k), qa_i (qe_v (qA_oi s fs hd k i)), qa_i (nI i), l4] [] [] (K, I, R, n, z) = some (some (qa_i (qe_v (qA_oi s fs hd k ni))), (K, I, R, n, z)) := by
    intro m
    induction m with
    | zero =>
      intro i l4 hi
      have hi : i = ni := by omega
      subst hi
      rw [qr_205_4]
      simp (disch := first | assumption | omega | exact Or.inl rfl | exact Or.inr rfl | exact qb_01) only [qr_205_0, qr_205_1, qr_205_2, qr_205_3, qr_205_5, qr_205_6, qr_205_9, qr_205_10, qr_205_11, qr_205_14, qr_205_15, qr_205_18, qr_205_21, qr_205_22, qr_205_23, qr_205_24, qr_205_25, qr_205_28, qr_205_29, qr_205_30, qr_205_33, qr_205_36, qr_205_37, qr_205_40, qr_205_41, qr_205_43, qr_205_45, qr_205_48, qr_205_49, qr_205_52, qr_205_53, qr_205_56, qr_205_59, qr_205_60, qr_205_61, qr_205_62, qr_205_63, qr_205_66, qr_205_69, qr_205_70, qr_205_71, qr_205_72, qr_205_75, qr_205_76, qr_205_79, qr_205_80, qr_205_81, qr_205_84, qr_205_87, qr_205_88, true_and, and_true, false_and, and_false, Option.bind_some, Option.toList_some, Option.toList_none, List.nil_append, List.cons_append, if_true, if_false, ite_true, ite_false, not_true_eq_false, not_false_eq_true, qn_lt0, qn_ge0, qn_lt, qn_le, qn_eq, qn_e0, qn_gt0, qn_le0, qn_m1, nI_add, pk_mul, qb_e0, Classical.not_not, c3, hn, Nat.le_refl]
    | succ m ih =>
      intro i l4 hi
      have e1 : ¬ ni ≤ i := by omega
      have hi12 : i < 12 := by omega
      have hin : i < ni := by omega
      have hle : qA_oi s fs hd k i ≤ i := qA_oi_le
      obtain ⟨hf1, hf2, hf3, hf4⟩ := hit i hin
      have hf31 : fs i < 2147483648 := by omega
      have hst : qA_oi s fs hd k (i + 1) = if fs i = k ∧ qs_op s i = true then (if qA_oi s fs hd k i = 0 then i + 1 else if hd i < hd (qA_oi s fs hd k i - 1) then i + 1 else qA_oi s fs hd k i) else qA_oi s fs hd k i := rfl
      have hop := qs_MO_isOpen2 (d := d) (I := I) (n := n) (z := z) hM' hi12
      rw [← hs] at hop
      by_cases h1 : fs i = k
      · by_cases h2 : qs_op s i = true
        · have e2 := ih (i + 1) (qa_i (nI 1)) (by omega)
          rw [hst, if_pos ⟨h1, h2⟩] at e2
          generalize qA_oi s fs hd k i = b at e2 hle ⊢
          cases b with
          | zero =>
            rw [if_pos rfl, qe_vs] at e2
            rw [qr_205_4]
            simp (disch := first | assumption | omega | exact Or.inl rfl | exact Or.inr rfl | exact qb_01) only [qr_205_0, qr_205_1, qr_205_2, qr_205_3, qr_205_5, qr_205_6, qr_205_9, qr_205_10, qr_205_11, qr_205_14, qr_205_15, qr_205_18, qr_205_21, qr_205_22, qr_205_23, qr_205_24, qr_205_25, qr_205_28, qr_205_29, qr_205_30, qr_205_33, qr_205_36, qr_205_37, qr_205_40, qr_205_41, qr_205_43, qr_205_45, qr_205_48, qr_205_49, qr_205_52, qr_205_53, qr_205_56, qr_205_59, qr_205_60, qr_205_61, qr_205_62, qr_205_63, qr_205_66, qr_205_69, qr_205_70, qr_205_71, qr_205_72, qr_205_75, qr_205_76, qr_205_79, qr_205_80, qr_205_81, qr_205_84, qr_205_87, qr_205_88, true_and, and_true, false_and, and_false, Option.bind_some, Option.toList_some, Option.toList_none, List.nil_append, List.cons_append, if_true, if_false, ite_true, ite_false, not_true_eq_false, not_false_eq_true, qn_lt0, qn_ge0, qn_lt, qn_le, qn_eq, qn_e0, qn_gt0, qn_le0, qn_m1, nI_add, pk_mul, qb_e0, Classical.not_not, c3, hn, e1, hf1, eq_true h1, hop, h2, qe_v0, Nat.one_ne_zero, qn_m1l]
            exact e2
          | succ b =>
            have hbn : b < ni := by omega
            have hb12 : b < 12 := by omega
            obtain ⟨hb1, hb2, hb3, hb4⟩ := hit b hbn
            rw [if_neg (by omega), Nat.add_sub_cancel] at e2
            rw [qr_205_4]
            by_cases h3 : hd i < hd b
            · have h4 : ¬ hd b ≤ hd i := by omega
              rw [if_pos h3, qe_vs] at e2
              simp (disch := first | assumption | omega | exact Or.inl rfl | exact Or.inr rfl | exact qb_01) only [qr_205_0, qr_205_1, qr_205_2, qr_205_3, qr_205_5, qr_205_6, qr_205_9, qr_205_10, qr_205_11, qr_205_14, qr_205_15, qr_205_18, qr_205_21, qr_205_22, qr_205_23, qr_205_24, qr_205_25, qr_205_28, qr_205_29, qr_205_30, qr_205_33, qr_205_36, qr_205_37, qr_205_40, qr_205_41, qr_205_43, qr_205_45, qr_205_48, qr_205_49, qr_205_52, qr_205_53, qr_205_56, qr_205_59, qr_205_60, qr_205_61, qr_205_62, qr_205_63, qr_205_66, qr_205_69, qr_205_70, qr_205_71, qr_205_72, qr_205_75, qr_205_76, qr_205_79, qr_205_80, qr_205_81, qr_205_84, qr_205_87, qr_205_88, true_and, and_true, false_and, and_false, Option.bind_some, Option.toList_some, Option.toList_none, List.nil_append, List.cons_append, if_true, if_false, ite_true, ite_false, not_true_eq_false, not_false_eq_true, qn_lt0, qn_ge0, qn_lt, qn_le, qn_eq, qn_e0, qn_gt0, qn_le0, qn_m1, nI_add, pk_mul, qb_e0, Classical.not_not, c3, hn, e1, hf1, hf2, hb2, eq_true h1, hop, h2, qe_vs, Nat.one_ne_zero, h4]
              exact e2
            · have h4 : hd b ≤ hd i := by omega
              rw [if_neg h3, qe_vs] at e2
              simp (disch := first | assumption | omega | exact Or.inl rfl | exact Or.inr rfl | exact qb_01) only [qr_205_0, qr_205_1, qr_205_2, qr_205_3, qr_205_5, qr_205_6, qr_205_9, qr_205_10, qr_205_11, qr_205_14, qr_205_15, qr_205_18, qr_205_21, qr_205_22, qr_205_23, qr_205_24, qr_205_25, qr_205_28, qr_205_29, qr_205_30, qr_205_33, qr_205_36, qr_205_37, qr_205_40, qr_205_41, qr_205_43, qr_205_45, qr_205_48, qr_205_49, qr_205_52, qr_205_53, qr_205_56, qr_205_59, qr_205_60, qr_205_61, qr_205_62, qr_205_63, qr_205_66, qr_205_69, qr_205_70, qr_205_71, qr_205_72, qr_205_75, qr_205_76, qr_205_79, qr_205_80, qr_205_81, qr_205_84, qr_205_87, qr_205_88, true_and, and_true, false_and, and_false, Option.bind_some, Option.toList_some, Option.toList_none, List.nil_append, List.cons_append, if_true, if_false, ite_true, ite_false, not_true_eq_false, not_false_eq_true, qn_lt0, qn_ge0, qn_lt, qn_le, qn_eq, qn_e0, qn_gt0, qn_le0, qn_m1, nI_add, pk_mul, qb_e0, Classical.not_not, c3, hn, e1, hf1, hf2, hb2, eq_true h1, hop, h2, qe_vs, Nat.one_ne_zero, eq_true h4]
              exact e2
        · have e2 := ih (i + 1) (qa_i (nI 0)) (by omega)
          rw [hst, if_neg (fun q => h2 q.2)] at e2
          rw [qr_205_4]
          simp (disch := first | assumption | omega | exact Or.inl rfl | exact Or.inr rfl | exact qb_01) only [qr_205_0, qr_205_1, qr_205_2, qr_205_3, qr_205_5, qr_205_6, qr_205_9, qr_205_10, qr_205_11, qr_205_14, qr_205_15, qr_205_18, qr_205_21, qr_205_22, qr_205_23, qr_205_24, qr_205_25, qr_205_28, qr_205_29, qr_205_30, qr_205_33, qr_205_36, qr_205_37, qr_205_40, qr_205_41, qr_205_43, qr_205_45, qr_205_48, qr_205_49, qr_205_52, qr_205_53, qr_205_56, qr_205_59, qr_205_60, qr_205_61, qr_205_62, qr_205_63, qr_205_66, qr_205_69, qr_205_70, qr_205_71, qr_205_72, qr_205_75, qr_205_76, qr_205_79, qr_205_80, qr_205_81, qr_205_84, qr_205_87, qr_205_88, true_and, and_true, false_and, and_false, Option.bind_some, Option.toList_some, Option.toList_none, List.nil_append, List.cons_append, if_true, if_false, ite_true, ite_false, not_true_eq_false, not_false_eq_true, qn_lt0, qn_ge0, qn_lt, qn_le, qn_eq, qn_e0, qn_gt0, qn_le0, qn_m1, nI_add, pk_mul, qb_e0, Classical.not_not, c3, hn, e1, hf1, eq_true h1, hop, eq_false h2]
          exact e2
      · have e2 := ih (i + 1) (qa_i (nI 0)) (by omega)
        rw [hst, if_neg (fun q => h1 q.1)] at e2
        rw [qr_205_4]
        simp (disch := first | assumption | omega | exact Or.inl rfl | exact Or.inr rfl | exact qb_01) only [qr_205_0, qr_205_1, qr_205_2, qr_205_3, qr_205_5, qr_205_6, qr_205_9, qr_205_10, qr_205_11, qr_205_14, qr_205_15, qr_205_18, qr_205_21, qr_205_22, qr_205_23, qr_205_24, qr_205_25, qr_205_28, qr_205_29, qr_205_30, qr_205_33, qr_205_36, qr_205_37, qr_205_40, qr_205_41, qr_205_43, qr_205_45, qr_205_48, qr_205_49, qr_205_52, qr_205_53, qr_205_56, qr_205_59, qr_205_60, qr_205_61, qr_205_62, qr_205_63, qr_205_66, qr_205_69, qr_205_70, qr_205_71, qr_205_72, qr_205_75, qr_205_76, qr_205_79, qr_205_80, qr_205_81, qr_205_84, qr_205_87, qr_205_88, true_and, and_true, false_and, and_false, Option.bind_some, Option.toList_some, Option.toList_none, List.nil_append, List.cons_append, if_true, if_false, ite_true, ite_false, not_true_eq_false, not_false_eq_true, qn_lt0, qn_ge0, qn_lt, qn_le, qn_eq, qn_e0, qn_gt0, qn_le0, qn_m1, nI_add, pk_mul, qb_e0, Classical.not_not, c3, hn, e1, hf1, eq_false h1]
        exact e2
  have e1 := loop ni 0 qa_u (by omega)
  rw [← hs]
  simp (disch := first | assumption | omega | exact Or.inl rfl | exact Or.inr rfl | exact qb_01) only [qe_205, qr_205_0, qr_205_1, qr_205_2, qr_205_3, qr_205_5, qr_205_6, qr_205_9, qr_205_10, qr_205_11, qr_205_14, qr_205_15, qr_205_18, qr_205_21, qr_205_22, qr_205_23, qr_205_24, qr_205_25, qr_205_28, qr_205_29, qr_205_30, qr_205_33, qr_205_36, qr_205_37, qr_205_40, qr_205_41, qr_205_43, qr_205_45, qr_205_48, qr_205_49, qr_205_52, qr_205_53, qr_205_56, qr_205_59, qr_205_60, qr_205_61, qr_205_62, qr_205_63, qr_205_66, qr_205_69, qr_205_70, qr_205_71, qr_205_72, qr_205_75, qr_205_76, qr_205_79, qr_205_80, qr_205_81, qr_205_84, qr_205_87, qr_205_88, true_and, and_true, false_and, and_false, Option.bind_some, Option.toList_some, Option.toList_none, List.nil_append, List.cons_append, if_true, if_false, ite_true, ite_false, not_true_eq_false, not_false_eq_true, qn_lt0, qn_ge0, qn_lt, qn_le, qn_eq, qn_e0, qn_gt0, qn_le0, qn_m1, nI_add, pk_mul, qb_e0, Classical.not_not]
  exact e1
theorem qe_v_lt {b : Nat} (h : b < 2147483648) : (qe_v b < 0) = (b = 0) := by
  cases b with
  | zero => rw [qe_v0]; exact propext ⟨fun _ => rfl, fun _ => by decide⟩
  | succ b => rw [qe_vs, qn_lt0 (by omega)]; exact propext ⟨fun q => q.elim, fun q => by omega⟩
theorem qe_v_ge {b : Nat} (h : b < 2147483648) : (0 ≤ qe_v b) = ¬ (b = 0) := by
  cases b with
  | zero => rw [qe_v0]; exact propext ⟨fun q => absurd q (by decide), fun q => absurd rfl q⟩
  | succ b => rw [qe_vs, qn_ge0 (by omega)]; exact propext ⟨fun _ q => by omega, fun _ => trivial⟩
theorem qe_v_m1 {b : Nat} (h : b < 2147483648) : (qe_v b = -1) = (b = 0) := by
  cases b with
  | zero => rw [qe_v0]; exact propext ⟨fun _ => rfl, fun _ => rfl⟩
  | succ b => rw [qe_vs, qn_m1 (by omega)]; exact propext ⟨fun q => q.elim, fun q => by omega⟩
theorem qs_MO_forReview (hM : qp_MO K R u) (hC : qp_MC (I (u + 5)) nk pm T ni fs hd) (hv : qv_S B (I (u + 1))) (hB : B < 1000000) : qa_ex (d + 4) 210 [qa_a (some u)] (K, I, R, n, z) = some (some (qa_i (qe_v (qA_it (I (u + 1)) fs hd ni (qA_rv (I (u + 1)) nk ni fs hd nk)))), (K, I, R, n, z)) := by
  have hM' := hM
  have hC' := hC
  obtain ⟨m0, ⟨s1, s2, s3⟩, -, -, -, ⟨c1, c2, c3⟩, -⟩ := hM
  obtain ⟨hn, -, h10, -, h12, -, -, -, hit⟩ := hC
  have hop := fun k hk => qs_MO_openItem (d := d) (I := I) (n := n) (z := z) (k := k) hM' hC' hk
  have hdu := fun k hk => qs_MO_isDue (d := d + 1) (I := I) (n := n) (z := z) (k := k) hM' hv hB hk
  obtain ⟨s, hs⟩ : ∃ s, s = I (u + 1) := ⟨_, rfl⟩
  rw [← hs] at hop hdu ⊢
  have loop : ∀ m k l3, k + m = nk → qa_run (d + 3) 210 4 [qa_a (some u), qa_i (qe_v (qA_rv s nk ni fs hd k)), qa_i (nI k), l3] [] [] (K, I, R, n, z) = some (some (qa_i (qe_v (qA_it s fs hd ni (qA_rv s nk ni fs hd nk)))), (K, I, R, n, z)) := by
    intro m
    induction m with
    | zero =>
      intro k l3 hk
      have hk : k = nk := by omega
      subst hk
      have hle : qA_rv s k ni fs hd k ≤ k := qA_bs_le
      rw [qr_210_4]
      unfold qA_it
      generalize qA_rv s k ni fs hd k = b at hle ⊢
      cases b with
      | zero =>
        simp (disch := first | assumption | omega | exact Or.inl rfl | exact Or.inr rfl | exact qb_01) only [qr_210_0, qr_210_1, qr_210_2, qr_210_3, qr_210_5, qr_210_6, qr_210_9, qr_210_10, qr_210_11, qr_210_14, qr_210_15, qr_210_16, qr_210_19, qr_210_22, qr_210_23, qr_210_24, qr_210_27, qr_210_30, qr_210_31, qr_210_34, qr_210_35, qr_210_36, qr_210_37, qr_210_40, qr_210_41, qr_210_44, qr_210_45, qr_210_48, qr_210_49, qr_210_50, qr_210_53, qr_210_54, qr_210_55, qr_210_58, qr_210_59, qr_210_60, qr_210_63, qr_210_64, qr_210_67, qr_210_68, qr_210_71, qr_210_72, qr_210_73, qr_210_76, qr_210_79, qr_210_80, qr_210_83, qr_210_84, qr_210_87, qr_210_88, qr_210_89, qr_210_92, true_and, and_true, false_and, and_false, Option.bind_some, Option.toList_some, Option.toList_none, List.nil_append, List.cons_append, if_true, if_false, ite_true, ite_false, not_true_eq_false, not_false_eq_true, qn_lt0, qn_ge0, qn_lt, qn_le, qn_eq, qn_e0, qn_gt0, qn_le0, qn_m1, nI_add, pk_mul, qb_e0, Classical.not_not, c3, hn, Nat.le_refl, qe_v0, qn_m1z]
      | succ b =>
        have hb31 : b < 2147483648 := by omega
        rw [if_neg (by omega), Nat.add_sub_cancel]
        simp (disch := first | assumption | omega | exact Or.inl rfl | exact Or.inr rfl | exact qb_01) only [qr_210_0, qr_210_1, qr_210_2, qr_210_3, qr_210_5, qr_210_6, qr_210_9, qr_210_10, qr_210_11, qr_210_14, qr_210_15, qr_210_16, qr_210_19, qr_210_22, qr_210_23, qr_210_24, qr_210_27, qr_210_30, qr_210_31, qr_210_34, qr_210_35, qr_210_36, qr_210_37, qr_210_40, qr_210_41, qr_210_44, qr_210_45, qr_210_48, qr_210_49, qr_210_50, qr_210_53, qr_210_54, qr_210_55, qr_210_58, qr_210_59, qr_210_60, qr_210_63, qr_210_64, qr_210_67, qr_210_68, qr_210_71, qr_210_72, qr_210_73, qr_210_76, qr_210_79, qr_210_80, qr_210_83, qr_210_84, qr_210_87, qr_210_88, qr_210_89, qr_210_92, true_and, and_true, false_and, and_false, Option.bind_some, Option.toList_some, Option.toList_none, List.nil_append, List.cons_append, if_true, if_false, ite_true, ite_false, not_true_eq_false, not_false_eq_true, qn_lt0, qn_ge0, qn_lt, qn_le, qn_eq, qn_e0, qn_gt0, qn_le0, qn_m1, nI_add, pk_mul, qb_e0, Classical.not_not, c3, hn, Nat.le_refl, qe_vs, hop b hb31]
    | succ m ih =>
      intro k l3 hk
      have e1 : ¬ nk ≤ k := by omega
      have hk10 : k < 10 := by omega
      have hk31 : k < 2147483648 := by omega
      have hle : qA_rv s nk ni fs hd k ≤ k := qA_bs_le
      have hol : qA_oi s fs hd k ni ≤ ni := qA_oi_le
      have hol31 : qA_oi s fs hd k ni < 2147483648 := by omega
      have hstp : qA_rv s nk ni fs hd (k + 1) = if (qs_du s k && decide (¬ qA_oi s fs hd k ni = 0)) = true then (if qA_rv s nk ni fs hd k = 0 then k + 1 else if decide (s (1 + 9 * k + 3) < s (1 + 9 * (qA_rv s nk ni fs hd k - 1) + 3)) = true then k + 1 else qA_rv s nk ni fs hd k) else qA_rv s nk ni fs hd k := rfl
      by_cases h1 : qs_du s k = true
      · by_cases h2 : qA_oi s fs hd k ni = 0
        · rw [h1, h2] at hstp
          simp only [decide_true, decide_false, Bool.true_and, true_and, and_true, false_and, and_false, Option.bind_some, Option.toList_some, Option.toList_none, List.nil_append, List.cons_append, if_true, if_false, ite_true, ite_false, not_true_eq_false, not_false_eq_true, Bool.false_eq_true] at hstp
          have e2 := ih (k + 1) (qa_i (nI 0)) (by omega)
          rw [hstp] at e2
          rw [qr_210_4]
          simp (disch := first | assumption | omega | exact Or.inl rfl | exact Or.inr rfl | exact qb_01) only [qr_210_0, qr_210_1, qr_210_2, qr_210_3, qr_210_5, qr_210_6, qr_210_9, qr_210_10, qr_210_11, qr_210_14, qr_210_15, qr_210_16, qr_210_19, qr_210_22, qr_210_23, qr_210_24, qr_210_27, qr_210_30, qr_210_31, qr_210_34, qr_210_35, qr_210_36, qr_210_37, qr_210_40, qr_210_41, qr_210_44, qr_210_45, qr_210_48, qr_210_49, qr_210_50, qr_210_53, qr_210_54, qr_210_55, qr_210_58, qr_210_59, qr_210_60, qr_210_63, qr_210_64, qr_210_67, qr_210_68, qr_210_71, qr_210_72, qr_210_73, qr_210_76, qr_210_79, qr_210_80, qr_210_83, qr_210_84, qr_210_87, qr_210_88, qr_210_89, qr_210_92, true_and, and_true, false_and, and_false, Option.bind_some, Option.toList_some, Option.toList_none, List.nil_append, List.cons_append, if_true, if_false, ite_true, ite_false, not_true_eq_false, not_false_eq_true, qn_lt0, qn_ge0, qn_lt, qn_le, qn_eq, qn_e0, qn_gt0, qn_le0, qn_m1, nI_add, pk_mul, qb_e0, Classical.not_not, c3, hn, e1, hdu k hk10, h1, hop k hk31, qe_v_lt, h2]
          exact e2
        · rw [h1] at hstp
          simp only [decide_true, eq_false h2, Bool.true_and, true_and, and_true, false_and, and_false, Option.bind_some, Option.toList_some, Option.toList_none, List.nil_append, List.cons_append, if_true, if_false, ite_true, ite_false, not_true_eq_false, not_false_eq_true] at hstp
          have e2 := ih (k + 1) (qa_i (nI 1)) (by omega)
          rw [hstp] at e2
          generalize qA_rv s nk ni fs hd k = b at e2 hle ⊢
          cases b with
          | zero =>
            rw [if_pos rfl, qe_vs] at e2
            rw [qr_210_4]
            simp (disch := first | assumption | omega | exact Or.inl rfl | exact Or.inr rfl | exact qb_01) only [qr_210_0, qr_210_1, qr_210_2, qr_210_3, qr_210_5, qr_210_6, qr_210_9, qr_210_10, qr_210_11, qr_210_14, qr_210_15, qr_210_16, qr_210_19, qr_210_22, qr_210_23, qr_210_24, qr_210_27, qr_210_30, qr_210_31, qr_210_34, qr_210_35, qr_210_36, qr_210_37, qr_210_40, qr_210_41, qr_210_44, qr_210_45, qr_210_48, qr_210_49, qr_210_50, qr_210_53, qr_210_54, qr_210_55, qr_210_58, qr_210_59, qr_210_60, qr_210_63, qr_210_64, qr_210_67, qr_210_68, qr_210_71, qr_210_72, qr_210_73, qr_210_76, qr_210_79, qr_210_80, qr_210_83, qr_210_84, qr_210_87, qr_210_88, qr_210_89, qr_210_92, true_and, and_true, false_and, and_false, Option.bind_some, Option.toList_some, Option.toList_none, List.nil_append, List.cons_append, if_true, if_false, ite_true, ite_false, not_true_eq_false, not_false_eq_true, qn_lt0, qn_ge0, qn_lt, qn_le, qn_eq, qn_e0, qn_gt0, qn_le0, qn_m1, nI_add, pk_mul, qb_e0, Classical.not_not, c3, hn, e1, hdu k hk10, h1, hop k hk31, qe_v_lt, eq_false h2, qe_v0, qn_m1l, Nat.one_ne_zero]
            exact e2
          | succ b =>
            have hb10 : b < 10 := by omega
            rw [if_neg (by omega), Nat.add_sub_cancel] at e2
            rw [qr_210_4]
            by_cases h3 : s (1 + 9 * b + 3) ≤ s (1 + 9 * k + 3)
            · have h4 : ¬ s (1 + 9 * k + 3) < s (1 + 9 * b + 3) := Int32.not_lt.mpr h3
              rw [if_neg (by simpa using h4), qe_vs] at e2
              simp (disch := first | assumption | omega | exact Or.inl rfl | exact Or.inr rfl | exact qb_01) only [qr_210_0, qr_210_1, qr_210_2, qr_210_3, qr_210_5, qr_210_6, qr_210_9, qr_210_10, qr_210_11, qr_210_14, qr_210_15, qr_210_16, qr_210_19, qr_210_22, qr_210_23, qr_210_24, qr_210_27, qr_210_30, qr_210_31, qr_210_34, qr_210_35, qr_210_36, qr_210_37, qr_210_40, qr_210_41, qr_210_44, qr_210_45, qr_210_48, qr_210_49, qr_210_50, qr_210_53, qr_210_54, qr_210_55, qr_210_58, qr_210_59, qr_210_60, qr_210_63, qr_210_64, qr_210_67, qr_210_68, qr_210_71, qr_210_72, qr_210_73, qr_210_76, qr_210_79, qr_210_80, qr_210_83, qr_210_84, qr_210_87, qr_210_88, qr_210_89, qr_210_92, true_and, and_true, false_and, and_false, Option.bind_some, Option.toList_some, Option.toList_none, List.nil_append, List.cons_append, if_true, if_false, ite_true, ite_false, not_true_eq_false, not_false_eq_true, qn_lt0, qn_ge0, qn_lt, qn_le, qn_eq, qn_e0, qn_gt0, qn_le0, qn_m1, nI_add, pk_mul, qb_e0, Classical.not_not, c3, s3, hn, e1, hdu k hk10, h1, hop k hk31, qe_v_lt, eq_false h2, qe_vs, Nat.one_ne_zero, qs_MO_of, ← hs, eq_true h3]
              exact e2
            · have h4 : s (1 + 9 * k + 3) < s (1 + 9 * b + 3) := Int32.not_le.mp h3
              rw [if_pos (by simpa using h4), qe_vs] at e2
              simp (disch := first | assumption | omega | exact Or.inl rfl | exact Or.inr rfl | exact qb_01) only [qr_210_0, qr_210_1, qr_210_2, qr_210_3, qr_210_5, qr_210_6, qr_210_9, qr_210_10, qr_210_11, qr_210_14, qr_210_15, qr_210_16, qr_210_19, qr_210_22, qr_210_23, qr_210_24, qr_210_27, qr_210_30, qr_210_31, qr_210_34, qr_210_35, qr_210_36, qr_210_37, qr_210_40, qr_210_41, qr_210_44, qr_210_45, qr_210_48, qr_210_49, qr_210_50, qr_210_53, qr_210_54, qr_210_55, qr_210_58, qr_210_59, qr_210_60, qr_210_63, qr_210_64, qr_210_67, qr_210_68, qr_210_71, qr_210_72, qr_210_73, qr_210_76, qr_210_79, qr_210_80, qr_210_83, qr_210_84, qr_210_87, qr_210_88, qr_210_89, qr_210_92, true_and, and_true, false_and, and_false, Option.bind_some, Option.toList_some, Option.toList_none, List.nil_append, List.cons_append, if_true, if_false, ite_true, ite_false, not_true_eq_false, not_false_eq_true, qn_lt0, qn_ge0, qn_lt, qn_le, qn_eq, qn_e0, qn_gt0, qn_le0, qn_m1, nI_add, pk_mul, qb_e0, Classical.not_not, c3, s3, hn, e1, hdu k hk10, h1, hop k hk31, qe_v_lt, eq_false h2, qe_vs, Nat.one_ne_zero, qs_MO_of, ← hs, eq_false h3]
              exact e2
      · rw [eq_false_of_ne_true h1] at hstp
        simp only [Bool.false_and, Bool.false_eq_true, true_and, and_true, false_and, and_false, Option.bind_some, Option.toList_some, Option.toList_none, List.nil_append, List.cons_append, if_true, if_false, ite_true, ite_false, not_true_eq_false, not_false_eq_true] at hstp
        have e2 := ih (k + 1) (qa_i (nI 0)) (by omega)
        rw [hstp] at e2
        rw [qr_210_4]
        simp (disch := first | assumption | omega | exact Or.inl rfl | exact Or.inr rfl | exact qb_01) only [qr_210_0, qr_210_1, qr_210_2, qr_210_3, qr_210_5, qr_210_6, qr_210_9, qr_210_10, qr_210_11, qr_210_14, qr_210_15, qr_210_16, qr_210_19, qr_210_22, qr_210_23, qr_210_24, qr_210_27, qr_210_30, qr_210_31, qr_210_34, qr_210_35, qr_210_36, qr_210_37, qr_210_40, qr_210_41, qr_210_44, qr_210_45, qr_210_48, qr_210_49, qr_210_50, qr_210_53, qr_210_54, qr_210_55, qr_210_58, qr_210_59, qr_210_60, qr_210_63, qr_210_64, qr_210_67, qr_210_68, qr_210_71, qr_210_72, qr_210_73, qr_210_76, qr_210_79, qr_210_80, qr_210_83, qr_210_84, qr_210_87, qr_210_88, qr_210_89, qr_210_92, true_and, and_true, false_and, and_false, Option.bind_some, Option.toList_some, Option.toList_none, List.nil_append, List.cons_append, if_true, if_false, ite_true, ite_false, not_true_eq_false, not_false_eq_true, qn_lt0, qn_ge0, qn_lt, qn_le, qn_eq, qn_e0, qn_gt0, qn_le0, qn_m1, nI_add, pk_mul, qb_e0, Classical.not_not, c3, hn, e1, hdu k hk10, eq_false h1]
        exact e2
  have e1 := loop nk 0 qa_u (by omega)
  simp (disch := first | assumption | omega | exact Or.inl rfl | exact Or.inr rfl | exact qb_01) only [qe_210, qr_210_0, qr_210_1, qr_210_2, qr_210_3, qr_210_5, qr_210_6, qr_210_9, qr_210_10, qr_210_11, qr_210_14, qr_210_15, qr_210_16, qr_210_19, qr_210_22, qr_210_23, qr_210_24, qr_210_27, qr_210_30, qr_210_31, qr_210_34, qr_210_35, qr_210_36, qr_210_37, qr_210_40, qr_210_41, qr_210_44, qr_210_45, qr_210_48, qr_210_49, qr_210_50, qr_210_53, qr_210_54, qr_210_55, qr_210_58, qr_210_59, qr_210_60, qr_210_63, qr_210_64, qr_210_67, qr_210_68, qr_210_71, qr_210_72, qr_210_73, qr_210_76, qr_210_79, qr_210_80, qr_210_83, qr_210_84, qr_210_87, qr_210_88, qr_210_89, qr_210_92, true_and, and_true, false_and, and_false, Option.bind_some, Option.toList_some, Option.toList_none, List.nil_append, List.cons_append, if_true, if_false, ite_true, ite_false, not_true_eq_false, not_false_eq_true, qn_lt0, qn_ge0, qn_lt, qn_le, qn_eq, qn_e0, qn_gt0, qn_le0, qn_m1, nI_add, pk_mul, qb_e0, Classical.not_not]
  exact e1
theorem qs_MO_isLess (hM : qp_MO K R u) (hk : k < 10) (hb : b < 10) : qa_ex (d + 2) 206 [qa_a (some u), qa_i (nI k), qa_i (nI b)] (K, I, R, n, z) = some (some (qa_i (qa_bi (qf_les (I (u + 1) (1 + 9 * k + 0)) (I (u + 1) (1 + 9 * k + 1)) (I (u + 1) (1 + 9 * b + 0)) (I (u + 1) (1 + 9 * b + 1)) = true))), (K, I, R, n, z)) := by
  obtain ⟨m0, ⟨s1, s2, s3⟩, -⟩ := hM
  simp (disch := first | assumption | omega | exact Or.inl rfl | exact Or.inr rfl | exact qb_01) only [qe_206, qr_206_0, qr_206_1, qr_206_4, qr_206_5, qr_206_6, qr_206_9, qr_206_10, qr_206_12, qr_206_13, qr_206_14, qr_206_15, qr_206_18, qr_206_19, qr_206_20, qr_206_23, qr_206_24, qr_206_26, qr_206_27, qr_206_29, qr_206_30, qr_206_32, qr_206_33, qr_206_36, qr_206_37, qr_206_38, qr_206_41, qr_206_42, qr_206_43, qr_206_45, qr_206_46, qr_206_47, qr_206_49, qr_206_50, qr_206_51, qr_206_54, qr_206_55, qr_206_56, qr_206_59, qr_206_60, qr_206_61, qr_206_63, qr_206_64, qr_206_65, qr_206_68, qr_206_69, qr_206_72, qr_206_73, true_and, and_true, false_and, and_false, Option.bind_some, Option.toList_some, Option.toList_none, List.nil_append, List.cons_append, if_true, if_false, ite_true, ite_false, not_true_eq_false, not_false_eq_true, s3, qs_MO_of, qn_cu]
  unfold qf_les
  by_cases q : (I (u + 1) (1 + 9 * b + 0) + nI 16) * (I (u + 1) (1 + 9 * k + 0) + I (u + 1) (1 + 9 * k + 1) + nI 32) ≤ (I (u + 1) (1 + 9 * k + 0) + nI 16) * (I (u + 1) (1 + 9 * b + 0) + I (u + 1) (1 + 9 * b + 1) + nI 32)
  · rw [if_pos q, qb_f (by simpa using q)]
  · rw [if_neg q, qb_t (by simpa using q)]
end Q51
