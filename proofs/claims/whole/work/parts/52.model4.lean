/-! Advice of the model, continued. -/
theorem qt_rd_cg {g g' : Nat → Bool} {m : Nat} {t : qt_T} (h : ∀ i, i < m → g i = g' i) (hw : qt_wf m t) : qt_rd g t = qt_rd g' t := by
  unfold qt_rd
  rw [qt_ev_congr h hw]
section Q52
variable {d a b f : Nat} {K : Nat → Nat × Nat} {I : Nat → Nat → Int32} {R : Nat → Nat → Option Nat} {n z : Nat} {x y : Int32} {h : qa_H} {u nk ni k i j m B p q c e g w v r lv : Nat} {fs hd pm : Nat → Nat} {T : Nat → qt_T}
theorem qm_g2 (hC : qp_MC (I (u + 5)) nk pm T ni fs hd) (hk : k < nk) : qm_g I u k = qs_g (I (u + 1)) (fun k => nI (pm k)) k := by
  show qf_mst _ _ _ = qf_mst _ _ _
  rw [(hC.2.2.2.2.2.1 k hk).1]
theorem qs_MO_isMastered2 (hM : qp_MO K R u) (hC : qp_MC (I (u + 5)) nk pm T ni fs hd) (hk : k < nk) : qa_ex (d + 2) 188 [qa_a (some u), qa_i (nI k)] (K, I, R, n, z) = some (some (qa_i (qa_bi (qs_g (I (u + 1)) (fun k => nI (pm k)) k = true))), (K, I, R, n, z)) := by
  have h10 := hC.2.2.1
  rw [qs_MO_isMastered hM (by omega), ← qm_g2 hC hk]
theorem qs_MO_mastered2 (hM : qp_MO K R u) (hC : qp_MC (I (u + 5)) nk pm T ni fs hd) : qa_ex (d + 3) 187 [qa_a (some u)] (K, I, R, n, z) = some (some (qa_i (qf_ms (qs_g (I (u + 1)) (fun k => nI (pm k))) nk)), (K, I, R, n, z)) := by
  rw [qs_MO_mastered hM hC.1 hC.2.2.1, qf_ms_congr (g' := qs_g (I (u + 1)) (fun k => nI (pm k))) (fun i hi => qm_g2 hC hi)]
theorem qs_MO_isReady2 (hM : qp_MO K R u) (hC : qp_MC (I (u + 5)) nk pm T ni fs hd) (hk : k < nk) : qa_ex (d + 17) 197 [qa_a (some u), qa_i (nI k)] (K, I, R, n, z) = some (some (qa_i (qa_bi (qt_rd (qs_g (I (u + 1)) (fun k => nI (pm k))) (T k) = true))), (K, I, R, n, z)) := by
  rw [qs_MO_isReady hM hk hC.2.2.1 hC.2.2.2.2.2.2.1, qt_rd_cg (fun i hi => qm_g2 hC (by omega)) (hC.2.2.2.2.2.2.2.1 k hk)]
theorem qs_MO_forLearning (hM : qp_MO K R u) (hC : qp_MC (I (u + 5)) nk pm T ni fs hd) : qa_ex (d + 18) 204 [qa_a (some u)] (K, I, R, n, z) = some (some (qa_i (qe_v (qA_it (I (u + 1)) fs hd ni (qA_ln (I (u + 1)) (fun k => nI (pm k)) T nk ni fs hd nk)))), (K, I, R, n, z)) := by
  have hM' := hM
  have hC' := hC
  obtain ⟨m0, ⟨s1, s2, s3⟩, -, -, -, ⟨c1, c2, c3⟩, -⟩ := hM
  obtain ⟨hn, -, h10, -, h12, -, -, -, hit⟩ := hC
  have hop := fun k hk => qs_MO_openItem (d := d + 14) (I := I) (n := n) (z := z) (k := k) hM' hC' hk
  have hma := fun k hk => qs_MO_isMastered2 (d := d + 15) (I := I) (n := n) (z := z) (k := k) hM' hC' hk
  have hrd := fun k hk => qs_MO_isReady2 (d := d) (I := I) (n := n) (z := z) (k := k) hM' hC' hk
  have hls := fun k b hk hb => qs_MO_isLess (d := d + 15) (I := I) (n := n) (z := z) (k := k) (b := b) hM' hk hb
  obtain ⟨ps, hps⟩ : ∃ ps : Nat → Int32, ps = fun k => nI (pm k) := ⟨_, rfl⟩
  obtain ⟨s, hs⟩ : ∃ s, s = I (u + 1) := ⟨_, rfl⟩
  rw [← hs] at hop hls ⊢
  rw [← hs, ← hps] at hma hrd
  rw [← hps]
  have loop : ∀ m k l3, k + m = nk → qa_run (d + 17) 204 4 [qa_a (some u), qa_i (qe_v (qA_ln s ps T nk ni fs hd k)), qa_i (nI k), l3] [] [] (K, I, R, n, z) = some (some (qa_i (qe_v (qA_it s fs hd ni (qA_ln s ps T nk ni fs hd nk)))), (K, I, R, n, z)) := by
    intro m
    induction m with
    | zero =>
      intro k l3 hk
      have hk : k = nk := by omega
      subst hk
      have hle : qA_ln s ps T k ni fs hd k ≤ k := qA_bs_le
      rw [qr_204_4]
      unfold qA_it
      generalize qA_ln s ps T k ni fs hd k = b at hle ⊢
      cases b with
      | zero =>
        simp (disch := first | assumption | omega | exact Or.inl rfl | exact Or.inr rfl | exact qb_01) only [qr_204_0, qr_204_1, qr_204_2, qr_204_3, qr_204_5, qr_204_6, qr_204_9, qr_204_10, qr_204_11, qr_204_14, qr_204_15, qr_204_16, qr_204_19, qr_204_22, qr_204_23, qr_204_24, qr_204_27, qr_204_30, qr_204_31, qr_204_32, qr_204_35, qr_204_38, qr_204_39, qr_204_42, qr_204_43, qr_204_44, qr_204_45, qr_204_48, qr_204_49, qr_204_52, qr_204_53, qr_204_54, qr_204_55, qr_204_58, qr_204_61, qr_204_62, qr_204_65, qr_204_66, qr_204_67, qr_204_70, qr_204_73, qr_204_74, qr_204_77, qr_204_78, qr_204_81, qr_204_82, qr_204_83, qr_204_86, true_and, and_true, false_and, and_false, Option.bind_some, Option.toList_some, Option.toList_none, List.nil_append, List.cons_append, if_true, if_false, ite_true, ite_false, not_true_eq_false, not_false_eq_true, qn_lt0, qn_ge0, qn_lt, qn_le, qn_eq, qn_e0, qn_gt0, qn_le0, qn_m1, nI_add, pk_mul, qb_e0, Classical.not_not, c3, hn, Nat.le_refl, qe_v0, qn_m1z]
      | succ b =>
        have hb31 : b < 2147483648 := by omega
        rw [if_neg (by omega), Nat.add_sub_cancel]
        simp (disch := first | assumption | omega | exact Or.inl rfl | exact Or.inr rfl | exact qb_01) only [qr_204_0, qr_204_1, qr_204_2, qr_204_3, qr_204_5, qr_204_6, qr_204_9, qr_204_10, qr_204_11, qr_204_14, qr_204_15, qr_204_16, qr_204_19, qr_204_22, qr_204_23, qr_204_24, qr_204_27, qr_204_30, qr_204_31, qr_204_32, qr_204_35, qr_204_38, qr_204_39, qr_204_42, qr_204_43, qr_204_44, qr_204_45, qr_204_48, qr_204_49, qr_204_52, qr_204_53, qr_204_54, qr_204_55, qr_204_58, qr_204_61, qr_204_62, qr_204_65, qr_204_66, qr_204_67, qr_204_70, qr_204_73, qr_204_74, qr_204_77, qr_204_78, qr_204_81, qr_204_82, qr_204_83, qr_204_86, true_and, and_true, false_and, and_false, Option.bind_some, Option.toList_some, Option.toList_none, List.nil_append, List.cons_append, if_true, if_false, ite_true, ite_false, not_true_eq_false, not_false_eq_true, qn_lt0, qn_ge0, qn_lt, qn_le, qn_eq, qn_e0, qn_gt0, qn_le0, qn_m1, nI_add, pk_mul, qb_e0, Classical.not_not, c3, hn, Nat.le_refl, qe_vs, hop b hb31]
    | succ m ih =>
      intro k l3 hk
      have e1 : ¬ nk ≤ k := by omega
      have hk10 : k < 10 := by omega
      have hkn : k < nk := by omega
      have hk31 : k < 2147483648 := by omega
      have hle : qA_ln s ps T nk ni fs hd k ≤ k := qA_bs_le
      have hol : qA_oi s fs hd k ni ≤ ni := qA_oi_le
      have hol31 : qA_oi s fs hd k ni < 2147483648 := by omega
      have hstp : qA_ln s ps T nk ni fs hd (k + 1) = if ((!qs_g s ps k && qt_rd (qs_g s ps) (T k)) && decide (¬ qA_oi s fs hd k ni = 0)) = true then (if qA_ln s ps T nk ni fs hd k = 0 then k + 1 else if qf_les (s (1 + 9 * k + 0)) (s (1 + 9 * k + 1)) (s (1 + 9 * (qA_ln s ps T nk ni fs hd k - 1) + 0)) (s (1 + 9 * (qA_ln s ps T nk ni fs hd k - 1) + 1)) = true then k + 1 else qA_ln s ps T nk ni fs hd k) else qA_ln s ps T nk ni fs hd k := rfl
      by_cases h1 : qt_rd (qs_g s ps) (T k) = true
      · by_cases hg : qs_g s ps k = true
        · rw [hg] at hstp
          simp only [Bool.not_true, Bool.false_and, Bool.false_eq_true, true_and, and_true, false_and, and_false, Option.bind_some, Option.toList_some, Option.toList_none, List.nil_append, List.cons_append, if_true, if_false, ite_true, ite_false, not_true_eq_false, not_false_eq_true] at hstp
          have e2 := ih (k + 1) (qa_i (nI 0)) (by omega)
          rw [hstp] at e2
          rw [qr_204_4]
          simp (disch := first | assumption | omega | exact Or.inl rfl | exact Or.inr rfl | exact qb_01) only [qr_204_0, qr_204_1, qr_204_2, qr_204_3, qr_204_5, qr_204_6, qr_204_9, qr_204_10, qr_204_11, qr_204_14, qr_204_15, qr_204_16, qr_204_19, qr_204_22, qr_204_23, qr_204_24, qr_204_27, qr_204_30, qr_204_31, qr_204_32, qr_204_35, qr_204_38, qr_204_39, qr_204_42, qr_204_43, qr_204_44, qr_204_45, qr_204_48, qr_204_49, qr_204_52, qr_204_53, qr_204_54, qr_204_55, qr_204_58, qr_204_61, qr_204_62, qr_204_65, qr_204_66, qr_204_67, qr_204_70, qr_204_73, qr_204_74, qr_204_77, qr_204_78, qr_204_81, qr_204_82, qr_204_83, qr_204_86, true_and, and_true, false_and, and_false, Option.bind_some, Option.toList_some, Option.toList_none, List.nil_append, List.cons_append, if_true, if_false, ite_true, ite_false, not_true_eq_false, not_false_eq_true, qn_lt0, qn_ge0, qn_lt, qn_le, qn_eq, qn_e0, qn_gt0, qn_le0, qn_m1, nI_add, pk_mul, qb_e0, Classical.not_not, c3, hn, e1, hma k hkn, hrd k hkn, h1, hg]
          exact e2
        · rw [eq_false_of_ne_true hg, h1] at hstp
          by_cases h2 : qA_oi s fs hd k ni = 0
          · rw [h2] at hstp
            simp only [decide_true, decide_false, Bool.true_and, Bool.not_false, Bool.and_false, true_and, and_true, false_and, and_false, Option.bind_some, Option.toList_some, Option.toList_none, List.nil_append, List.cons_append, if_true, if_false, ite_true, ite_false, not_true_eq_false, not_false_eq_true, Bool.false_eq_true] at hstp
            have e2 := ih (k + 1) (qa_i (nI 0)) (by omega)
            rw [hstp] at e2
            rw [qr_204_4]
            simp (disch := first | assumption | omega | exact Or.inl rfl | exact Or.inr rfl | exact qb_01) only [qr_204_0, qr_204_1, qr_204_2, qr_204_3, qr_204_5, qr_204_6, qr_204_9, qr_204_10, qr_204_11, qr_204_14, qr_204_15, qr_204_16, qr_204_19, qr_204_22, qr_204_23, qr_204_24, qr_204_27, qr_204_30, qr_204_31, qr_204_32, qr_204_35, qr_204_38, qr_204_39, qr_204_42, qr_204_43, qr_204_44, qr_204_45, qr_204_48, qr_204_49, qr_204_52, qr_204_53, qr_204_54, qr_204_55, qr_204_58, qr_204_61, qr_204_62, qr_204_65, qr_204_66, qr_204_67, qr_204_70, qr_204_73, qr_204_74, qr_204_77, qr_204_78, qr_204_81, qr_204_82, qr_204_83, qr_204_86, true_and, and_true, false_and, and_false, Option.bind_some, Option.toList_some, Option.toList_none, List.nil_append, List.cons_append, if_true, if_false, ite_true, ite_false, not_true_eq_false, not_false_eq_true, qn_lt0, qn_ge0, qn_lt, qn_le, qn_eq, qn_e0, qn_gt0, qn_le0, qn_m1, nI_add, pk_mul, qb_e0, Classical.not_not, c3, hn, e1, hma k hkn, hrd k hkn, h1, eq_false hg, hop k hk31, qe_v_lt, h2]
            exact e2
          · simp only [decide_true, eq_false h2, Bool.true_and, Bool.not_false, true_and, and_true, false_and, and_false, Option.bind_some, Option.toList_some, Option.toList_none, List.nil_append, List.cons_append, if_true, if_false, ite_true, ite_false, not_true_eq_false, not_false_eq_true] at hstp
            have e2 := ih (k + 1) (qa_i (nI 1)) (by omega)
            rw [hstp] at e2
            generalize qA_ln s ps T nk ni fs hd k = b at e2 hle ⊢
            cases b with
            | zero =>
              rw [if_pos rfl, qe_vs] at e2
              rw [qr_204_4]
              simp (disch := first | assumption | omega | exact Or.inl rfl | exact Or.inr rfl | exact qb_01) only [qr_204_0, qr_204_1, qr_204_2, qr_204_3, qr_204_5, qr_204_6, qr_204_9, qr_204_10, qr_204_11, qr_204_14, qr_204_15, qr_204_16, qr_204_19, qr_204_22, qr_204_23, qr_204_24, qr_204_27, qr_204_30, qr_204_31, qr_204_32, qr_204_35, qr_204_38, qr_204_39, qr_204_42, qr_204_43, qr_204_44, qr_204_45, qr_204_48, qr_204_49, qr_204_52, qr_204_53, qr_204_54, qr_204_55, qr_204_58, qr_204_61, qr_204_62, qr_204_65, qr_204_66, qr_204_67, qr_204_70, qr_204_73, qr_204_74, qr_204_77, qr_204_78, qr_204_81, qr_204_82, qr_204_83, qr_204_86, true_and, and_true, false_and, and_false, Option.bind_some, Option.toList_some, Option.toList_none, List.nil_append, List.cons_append, if_true, if_false, ite_true, ite_false, not_true_eq_false, not_false_eq_true, qn_lt0, qn_ge0, qn_lt, qn_le, qn_eq, qn_e0, qn_gt0, qn_le0, qn_m1, nI_add, pk_mul, qb_e0, Classical.not_not, c3, hn, e1, hma k hkn, hrd k hkn, h1, eq_false hg, hop k hk31, qe_v_lt, eq_false h2, qe_v0, qn_m1l, Nat.one_ne_zero]
              exact e2
            | succ b =>
              have hb10 : b < 10 := by omega
              rw [if_neg (by omega), Nat.add_sub_cancel] at e2
              rw [qr_204_4]
              by_cases h3 : qf_les (s (1 + 9 * k + 0)) (s (1 + 9 * k + 1)) (s (1 + 9 * b + 0)) (s (1 + 9 * b + 1)) = true
              · rw [if_pos h3, qe_vs] at e2
                simp (disch := first | assumption | omega | exact Or.inl rfl | exact Or.inr rfl | exact qb_01) only [qr_204_0, qr_204_1, qr_204_2, qr_204_3, qr_204_5, qr_204_6, qr_204_9, qr_204_10, qr_204_11, qr_204_14, qr_204_15, qr_204_16, qr_204_19, qr_204_22, qr_204_23, qr_204_24, qr_204_27, qr_204_30, qr_204_31, qr_204_32, qr_204_35, qr_204_38, qr_204_39, qr_204_42, qr_204_43, qr_204_44, qr_204_45, qr_204_48, qr_204_49, qr_204_52, qr_204_53, qr_204_54, qr_204_55, qr_204_58, qr_204_61, qr_204_62, qr_204_65, qr_204_66, qr_204_67, qr_204_70, qr_204_73, qr_204_74, qr_204_77, qr_204_78, qr_204_81, qr_204_82, qr_204_83, qr_204_86, true_and, and_true, false_and, and_false, Option.bind_some, Option.toList_some, Option.toList_none, List.nil_append, List.cons_append, if_true, if_false, ite_true, ite_false, not_true_eq_false, not_false_eq_true, qn_lt0, qn_ge0, qn_lt, qn_le, qn_eq, qn_e0, qn_gt0, qn_le0, qn_m1, nI_add, pk_mul, qb_e0, Classical.not_not, c3, hn, e1, hma k hkn, hrd k hkn, h1, eq_false hg, hop k hk31, qe_v_lt, eq_false h2, qe_vs, Nat.one_ne_zero, hls k b hk10 hb10, h3]
                exact e2
              · rw [if_neg h3, qe_vs] at e2
                simp (disch := first | assumption | omega | exact Or.inl rfl | exact Or.inr rfl | exact qb_01) only [qr_204_0, qr_204_1, qr_204_2, qr_204_3, qr_204_5, qr_204_6, qr_204_9, qr_204_10, qr_204_11, qr_204_14, qr_204_15, qr_204_16, qr_204_19, qr_204_22, qr_204_23, qr_204_24, qr_204_27, qr_204_30, qr_204_31, qr_204_32, qr_204_35, qr_204_38, qr_204_39, qr_204_42, qr_204_43, qr_204_44, qr_204_45, qr_204_48, qr_204_49, qr_204_52, qr_204_53, qr_204_54, qr_204_55, qr_204_58, qr_204_61, qr_204_62, qr_204_65, qr_204_66, qr_204_67, qr_204_70, qr_204_73, qr_204_74, qr_204_77, qr_204_78, qr_204_81, qr_204_82, qr_204_83, qr_204_86, true_and, and_true, false_and, and_false, Option.bind_some, Option.toList_some, Option.toList_none, List.nil_append, List.cons_append, if_true, if_false, ite_true, ite_false, not_true_eq_false, not_false_eq_true, qn_lt0, qn_ge0, qn_lt, qn_le, qn_eq, qn_e0, qn_gt0, qn_le0, qn_m1, nI_add, pk_mul, qb_e0, Classical.not_not, c3, hn, e1, hma k hkn, hrd k hkn, h1, eq_false hg, hop k hk31, qe_v_lt, eq_false h2, qe_vs, Nat.one_ne_zero, hls k b hk10 hb10, eq_false h3]
                exact e2
      · rw [eq_false_of_ne_true h1] at hstp
        simp only [Bool.and_false, Bool.false_and, Bool.false_eq_true, true_and, and_true, false_and, and_false, Option.bind_some, Option.toList_some, Option.toList_none, List.nil_append, List.cons_append, if_true, if_false, ite_true, ite_false, not_true_eq_false, not_false_eq_true] at hstp
        have e2 := ih (k + 1) (qa_i (nI 0)) (by omega)
        rw [hstp] at e2
        rw [qr_204_4]
        simp (disch := first | assumption | omega | exact Or.inl rfl | exact Or.inr rfl | exact qb_01) only [qr_204_0, qr_204_1, qr_204_2, qr_204_3, qr_204_5, qr_204_6, qr_204_9, qr_204_10, qr_204_11, qr_204_14, qr_204_15, qr_204_16, qr_204_19, qr_204_22, qr_204_23, qr_204_24, qr_204_27, qr_204_30, qr_204_31, qr_204_32, qr_204_35, qr_204_38, qr_204_39, qr_204_42, qr_204_43, qr_204_44, qr_204_45, qr_204_48, qr_204_49, qr_204_52, qr_204_53, qr_204_54, qr_204_55, qr_204_58, qr_204_61, qr_204_62, qr_204_65, qr_204_66, qr_204_67, qr_204_70, qr_204_73, qr_204_74, qr_204_77, qr_204_78, qr_204_81, qr_204_82, qr_204_83, qr_204_86, true_and, and_true, false_and, and_false, Option.bind_some, Option.toList_some, Option.toList_none, List.nil_append, List.cons_append, if_true, if_false, ite_true, ite_false, not_true_eq_false, not_false_eq_true, qn_lt0, qn_ge0, qn_lt, qn_le, qn_eq, qn_e0, qn_gt0, qn_le0, qn_m1, nI_add, pk_mul, qb_e0, Classical.not_not, c3, hn, e1, hrd k hkn, eq_false h1]
        exact e2
  have e1 := loop nk 0 qa_u (by omega)
  simp (disch := first | assumption | omega | exact Or.inl rfl | exact Or.inr rfl | exact qb_01) only [qe_204, qr_204_0, qr_204_1, qr_204_2, qr_204_3, qr_204_5, qr_204_6, qr_204_9, qr_204_10, qr_204_11, qr_204_14, qr_204_15, qr_204_16, qr_204_19, qr_204_22, qr_204_23, qr_204_24, qr_204_27, qr_204_30, qr_204_31, qr_204_32, qr_204_35, qr_204_38, qr_204_39, qr_204_42, qr_204_43, qr_204_44, qr_204_45, qr_204_48, qr_204_49, qr_204_52, qr_204_53, qr_204_54, qr_204_55, qr_204_58, qr_204_61, qr_204_62, qr_204_65, qr_204_66, qr_204_67, qr_204_70, qr_204_73, qr_204_74, qr_204_77, qr_204_78, qr_204_81, qr_204_82, qr_204_83, qr_204_86, true_and, and_true, false_and, and_false, Option.bind_some, Option.toList_some, Option.toList_none, List.nil_append, List.cons_append, if_true, if_false, ite_true, ite_false, not_true_eq_false, not_false_eq_true, qn_lt0, qn_ge0, qn_lt, qn_le, qn_eq, qn_e0, qn_gt0, qn_le0, qn_m1, nI_add, pk_mul, qb_e0, Classical.not_not]
  exact e1
theorem qs_MO_chanceOver (hM : qp_MO K R u) (hC : qp_MC (I (u + 5)) nk pm T ni fs hd) (hi : i < ni) : qa_ex (d + 2) 200 [qa_a (some u), qa_i (nI i)] (K, I, R, n, z) = some (some (qa_i (qA_n (I (u + 1)) fs i)), (K, I, R, n, z)) := by
  obtain ⟨m0, ⟨s1, s2, s3⟩, -, -, -, ⟨c1, c2, c3⟩, -⟩ := hM
  obtain ⟨hn, -, h10, -, h12, -, -, -, hit⟩ := hC
  obtain ⟨f1, f2, f3, f4⟩ := hit i hi
  simp (disch := first | assumption | omega | exact Or.inl rfl | exact Or.inr rfl | exact qb_01) only [qe_200, qr_200_0, qr_200_1, qr_200_4, qr_200_5, qr_200_8, qr_200_11, qr_200_12, qr_200_13, qr_200_14, qr_200_15, qr_200_18, qr_200_19, qr_200_21, qr_200_22, true_and, and_true, false_and, and_false, Option.bind_some, Option.toList_some, Option.toList_none, List.nil_append, List.cons_append, if_true, if_false, ite_true, ite_false, not_true_eq_false, not_false_eq_true, s3, c3, nI_add, f1, qs_MO_of]
  rfl
theorem qs_MO_chanceUnder (hM : qp_MO K R u) (hC : qp_MC (I (u + 5)) nk pm T ni fs hd) (hi : i < ni) : qa_ex (d + 3) 201 [qa_a (some u), qa_i (nI i)] (K, I, R, n, z) = some (some (qa_i (qA_d (I (u + 1)) fs hd i)), (K, I, R, n, z)) := by
  have e0 := qs_MO_chanceOver (d := d) (n := n) (z := z) hM hC hi
  obtain ⟨m0, ⟨s1, s2, s3⟩, -, -, -, ⟨c1, c2, c3⟩, -⟩ := hM
  obtain ⟨hn, -, h10, -, h12, -, -, -, hit⟩ := hC
  obtain ⟨f1, f2, f3, f4⟩ := hit i hi
  have e1 := qn_cu (I (u + 1) (1 + 9 * fs i + 0)) (I (u + 1) (1 + 9 * fs i + 1))
  simp (disch := first | assumption | omega | exact Or.inl rfl | exact Or.inr rfl | exact qb_01) only [qe_201, qr_201_0, qr_201_1, qr_201_2, qr_201_5, qr_201_6, qr_201_9, qr_201_10, qr_201_13, qr_201_16, qr_201_17, qr_201_18, qr_201_19, qr_201_20, qr_201_23, qr_201_24, qr_201_25, qr_201_27, qr_201_28, qr_201_30, qr_201_31, qr_201_34, qr_201_37, qr_201_38, qr_201_39, qr_201_40, qr_201_41, qr_201_42, true_and, and_true, false_and, and_false, Option.bind_some, Option.toList_some, Option.toList_none, List.nil_append, List.cons_append, if_true, if_false, ite_true, ite_false, not_true_eq_false, not_false_eq_true, s3, c3, nI_add, f1, f2, qs_MO_of, e0, pk_mul]
  unfold qA_n qA_d
  rw [e1]
theorem qs_MO_over (hM : qp_MO K R u) (hC : qp_MC (I (u + 5)) nk pm T ni fs hd) (hi : i < ni) : qa_ex (d + 4) 208 [qa_a (some u), qa_i (nI i)] (K, I, R, n, z) = some (some (qa_l ((qA_n (I (u + 1)) fs i).toInt64 * ((qA_d (I (u + 1)) fs hd i).toInt64 - (qA_n (I (u + 1)) fs i).toInt64))), (K, I, R, n, z)) := by
  have m0 := hM.1
  simp (disch := first | assumption | omega | exact Or.inl rfl | exact Or.inr rfl | exact qb_01) only [qe_208, qr_208_0, qr_208_1, qr_208_2, qr_208_5, qr_208_6, qr_208_7, qr_208_8, qr_208_9, qr_208_10, qr_208_13, qr_208_14, qr_208_15, qr_208_16, qr_208_17, true_and, and_true, false_and, and_false, Option.bind_some, Option.toList_some, Option.toList_none, List.nil_append, List.cons_append, if_true, if_false, ite_true, ite_false, not_true_eq_false, not_false_eq_true, qs_MO_chanceOver hM hC hi, qs_MO_chanceUnder hM hC hi]
theorem qs_MO_under (hM : qp_MO K R u) (hC : qp_MC (I (u + 5)) nk pm T ni fs hd) (hi : i < ni) : qa_ex (d + 4) 209 [qa_a (some u), qa_i (nI i)] (K, I, R, n, z) = some (some (qa_l ((qA_d (I (u + 1)) fs hd i).toInt64 * (qA_d (I (u + 1)) fs hd i).toInt64)), (K, I, R, n, z)) := by
  have m0 := hM.1
  simp (disch := first | assumption | omega | exact Or.inl rfl | exact Or.inr rfl | exact qb_01) only [qe_209, qr_209_0, qr_209_1, qr_209_2, qr_209_5, qr_209_6, qr_209_7, qr_209_8, qr_209_9, qr_209_10, true_and, and_true, false_and, and_false, Option.bind_some, Option.toList_some, Option.toList_none, List.nil_append, List.cons_append, if_true, if_false, ite_true, ite_false, not_true_eq_false, not_false_eq_true, qs_MO_chanceUnder hM hC hi]
theorem qs_MO_forDiagnosis (hM : qp_MO K R u) (hC : qp_MC (I (u + 5)) nk pm T ni fs hd) : qa_ex (d + 5) 207 [qa_a (some u)] (K, I, R, n, z) = some (some (qa_i (qe_v (qA_dg (I (u + 1)) fs hd ni))), (K, I, R, n, z)) := by
  have hM' := hM
  have hC' := hC
  obtain ⟨m0, ⟨s1, s2, s3⟩, -, -, -, ⟨c1, c2, c3⟩, -⟩ := hM
  obtain ⟨-, -, h10, hn, h12, -, -, -, hit⟩ := hC
  have hop := fun i hi => qs_MO_isOpen2 (d := d + 2) (I := I) (n := n) (z := z) (i := i) hM' hi
  have hov := fun i hi => qs_MO_over (d := d) (I := I) (n := n) (z := z) (i := i) hM' hC' hi
  have hun := fun i hi => qs_MO_under (d := d) (I := I) (n := n) (z := z) (i := i) hM' hC' hi
  obtain ⟨s, hs⟩ : ∃ s, s = I (u + 1) := ⟨_, rfl⟩
  rw [← hs] at hop hov hun ⊢
  have loop : ∀ m i, i + m = ni → qa_run (d + 4) 207 4 [qa_a (some u), qa_i (qe_v (qA_dg s fs hd i)), qa_i (nI i)] [] [] (K, I, R, n, z) = some (some (qa_i (qe_v (qA_dg s fs hd ni))), (K, I, R, n, z)) := by
    intro m
    induction m with
    | zero =>
      intro i hi
      have hi : i = ni := by omega
      subst hi
      rw [qr_207_4]
      simp (disch := first | assumption | omega | exact Or.inl rfl | exact Or.inr rfl | exact qb_01) only [qr_207_0, qr_207_1, qr_207_2, qr_207_3, qr_207_5, qr_207_6, qr_207_9, qr_207_10, qr_207_11, qr_207_14, qr_207_15, qr_207_16, qr_207_19, qr_207_22, qr_207_23, qr_207_26, qr_207_27, qr_207_28, qr_207_31, qr_207_32, qr_207_33, qr_207_36, qr_207_37, qr_207_38, qr_207_39, qr_207_42, qr_207_43, qr_207_44, qr_207_47, qr_207_48, qr_207_49, qr_207_52, qr_207_53, qr_207_56, qr_207_57, qr_207_58, qr_207_61, qr_207_64, qr_207_65, true_and, and_true, false_and, and_false, Option.bind_some, Option.toList_some, Option.toList_none, List.nil_append, List.cons_append, if_true, if_false, ite_true, ite_false, not_true_eq_false, not_false_eq_true, qn_lt0, qn_ge0, qn_lt, qn_le, qn_eq, qn_e0, qn_gt0, qn_le0, qn_m1, nI_add, pk_mul, qb_e0, Classical.not_not, c3, hn, Nat.le_refl]
    | succ m ih =>
      intro i hi
      have e1 : ¬ ni ≤ i := by omega
      have hi12 : i < 12 := by omega
      have hin : i < ni := by omega
      have hle : qA_dg s fs hd i ≤ i := qA_bs_le
      have e2 := ih (i + 1) (by omega)
      rw [show qA_dg s fs hd (i + 1) = if qs_op s i = true then (if qA_dg s fs hd i = 0 then i + 1 else if qA_mo s fs hd i (qA_dg s fs hd i - 1) = true then i + 1 else qA_dg s fs hd i) else qA_dg s fs hd i from rfl] at e2
      by_cases h1 : qs_op s i = true
      · rw [if_pos h1] at e2
        generalize qA_dg s fs hd i = b at e2 hle ⊢
        cases b with
        | zero =>
          rw [if_pos rfl, qe_vs] at e2
          rw [qr_207_4]
          simp (disch := first | assumption | omega | exact Or.inl rfl | exact Or.inr rfl | exact qb_01) only [qr_207_0, qr_207_1, qr_207_2, qr_207_3, qr_207_5, qr_207_6, qr_207_9, qr_207_10, qr_207_11, qr_207_14, qr_207_15, qr_207_16, qr_207_19, qr_207_22, qr_207_23, qr_207_26, qr_207_27, qr_207_28, qr_207_31, qr_207_32, qr_207_33, qr_207_36, qr_207_37, qr_207_38, qr_207_39, qr_207_42, qr_207_43, qr_207_44, qr_207_47, qr_207_48, qr_207_49, qr_207_52, qr_207_53, qr_207_56, qr_207_57, qr_207_58, qr_207_61, qr_207_64, qr_207_65, true_and, and_true, false_and, and_false, Option.bind_some, Option.toList_some, Option.toList_none, List.nil_append, List.cons_append, if_true, if_false, ite_true, ite_false, not_true_eq_false, not_false_eq_true, qn_lt0, qn_ge0, qn_lt, qn_le, qn_eq, qn_e0, qn_gt0, qn_le0, qn_m1, nI_add, pk_mul, qb_e0, Classical.not_not, c3, hn, e1, hop i hi12, h1, qe_v0, qn_m1l]
          exact e2
        | succ b =>
          have hbn : b < ni := by omega
          rw [if_neg (by omega), Nat.add_sub_cancel] at e2
          rw [qr_207_4]
          unfold qA_mo at e2
          rw [Int64.mul_assoc (_ * _) (qA_d s fs hd b).toInt64 (qA_d s fs hd b).toInt64, Int64.mul_assoc (_ * _) (qA_d s fs hd i).toInt64 (qA_d s fs hd i).toInt64] at e2
          simp (disch := first | assumption | omega | exact Or.inl rfl | exact Or.inr rfl | exact qb_01) only [qr_207_0, qr_207_1, qr_207_2, qr_207_3, qr_207_5, qr_207_6, qr_207_9, qr_207_10, qr_207_11, qr_207_14, qr_207_15, qr_207_16, qr_207_19, qr_207_22, qr_207_23, qr_207_26, qr_207_27, qr_207_28, qr_207_31, qr_207_32, qr_207_33, qr_207_36, qr_207_37, qr_207_38, qr_207_39, qr_207_42, qr_207_43, qr_207_44, qr_207_47, qr_207_48, qr_207_49, qr_207_52, qr_207_53, qr_207_56, qr_207_57, qr_207_58, qr_207_61, qr_207_64, qr_207_65, true_and, and_true, false_and, and_false, Option.bind_some, Option.toList_some, Option.toList_none, List.nil_append, List.cons_append, if_true, if_false, ite_true, ite_false, not_true_eq_false, not_false_eq_true, qn_lt0, qn_ge0, qn_lt, qn_le, qn_eq, qn_e0, qn_gt0, qn_le0, qn_m1, nI_add, pk_mul, qb_e0, Classical.not_not, c3, hn, e1, hop i hi12, h1, qe_vs, hov i hin, hun b hbn, hov b hbn, hun i hin]
          generalize lg_cmp _ _ = t at e2 ⊢
          by_cases ht : t ≤ 0
          · rw [if_neg (by simpa using ht), qe_vs] at e2
            simp only [eq_true ht, true_and, and_true, false_and, and_false, Option.bind_some, Option.toList_some, Option.toList_none, List.nil_append, List.cons_append, if_true, if_false, ite_true, ite_false, not_true_eq_false, not_false_eq_true]
            exact e2
          · rw [if_pos (by simpa using ht), qe_vs] at e2
            simp only [eq_false ht, true_and, and_true, false_and, and_false, Option.bind_some, Option.toList_some, Option.toList_none, List.nil_append, List.cons_append, if_true, if_false, ite_true, ite_false, not_true_eq_false, not_false_eq_true]
            exact e2
      · rw [if_neg h1] at e2
        rw [qr_207_4]
        simp (disch := first | assumption | omega | exact Or.inl rfl | exact Or.inr rfl | exact qb_01) only [qr_207_0, qr_207_1, qr_207_2, qr_207_3, qr_207_5, qr_207_6, qr_207_9, qr_207_10, qr_207_11, qr_207_14, qr_207_15, qr_207_16, qr_207_19, qr_207_22, qr_207_23, qr_207_26, qr_207_27, qr_207_28, qr_207_31, qr_207_32, qr_207_33, qr_207_36, qr_207_37, qr_207_38, qr_207_39, qr_207_42, qr_207_43, qr_207_44, qr_207_47, qr_207_48, qr_207_49, qr_207_52, qr_207_53, qr_207_56, qr_207_57, qr_207_58, qr_207_61, qr_207_64, qr_207_65, true_and, and_true, false_and, and_false, Option.bind_some, Option.toList_some, Option.toList_none, List.nil_append, List.cons_append, if_true, if_false, ite_true, ite_false, not_true_eq_false, not_false_eq_true, qn_lt0, qn_ge0, qn_lt, qn_le, qn_eq, qn_e0, qn_gt0, qn_le0, qn_m1, nI_add, pk_mul, qb_e0, Classical.not_not, c3, hn, e1, hop i hi12, eq_false h1]
        exact e2
  have e1 := loop ni 0 (by omega)
  simp (disch := first | assumption | omega | exact Or.inl rfl | exact Or.inr rfl | exact qb_01) only [qe_207, qr_207_0, qr_207_1, qr_207_2, qr_207_3, qr_207_5, qr_207_6, qr_207_9, qr_207_10, qr_207_11, qr_207_14, qr_207_15, qr_207_16, qr_207_19, qr_207_22, qr_207_23, qr_207_26, qr_207_27, qr_207_28, qr_207_31, qr_207_32, qr_207_33, qr_207_36, qr_207_37, qr_207_38, qr_207_39, qr_207_42, qr_207_43, qr_207_44, qr_207_47, qr_207_48, qr_207_49, qr_207_52, qr_207_53, qr_207_56, qr_207_57, qr_207_58, qr_207_61, qr_207_64, qr_207_65, true_and, and_true, false_and, and_false, Option.bind_some, Option.toList_some, Option.toList_none, List.nil_append, List.cons_append, if_true, if_false, ite_true, ite_false, not_true_eq_false, not_false_eq_true, qn_lt0, qn_ge0, qn_lt, qn_le, qn_eq, qn_e0, qn_gt0, qn_le0, qn_m1, nI_add, pk_mul, qb_e0, Classical.not_not]
  exact e1
theorem qs_MO_advised (hM : qp_MO K R u) (hC : qp_MC (I (u + 5)) nk pm T ni fs hd) (hv : qv_S B (I (u + 1))) (hB : B < 1000000) (hw : w < 4) : qa_ex (d + 19) 203 [qa_a (some u), qa_i (nI w)] (K, I, R, n, z) = some (some (qa_i (qe_v (qA_ad (I (u + 1)) (fun k => nI (pm k)) T nk ni fs hd w))), (K, I, R, n, z)) := by
  have h12 := hC.2.2.2.2.1
  have m0 := hM.1
  have l1 := qA_it_le (s := I (u + 1)) (fs := fs) (hd := hd) (ni := ni) (b := qA_rv (I (u + 1)) nk ni fs hd nk)
  have l2 := qA_it_le (s := I (u + 1)) (fs := fs) (hd := hd) (ni := ni) (b := qA_ln (I (u + 1)) (fun k => nI (pm k)) T nk ni fs hd nk)
  have e1 := qs_MO_forReview (d := d + 14) (n := n) (z := z) hM hC hv hB
  have e2 := qs_MO_forLearning (d := d) (n := n) (z := z) hM hC
  have e3 := qs_MO_forDiagnosis (d := d + 13) (n := n) (z := z) hM hC
  have n0 : ¬ (1 : Nat) = 0 := by omega
  have n1 : ¬ (2 : Nat) = 0 := by omega
  have n2 : ¬ (2 : Nat) = 1 := by omega
  have n3 : ¬ (3 : Nat) = 0 := by omega
  have n4 : ¬ (3 : Nat) = 1 := by omega
  have n5 : ¬ (3 : Nat) = 2 := by omega
  have n6 : ¬ (0 : Nat) = 1 := by omega
  have n7 : ¬ (0 : Nat) = 2 := by omega
  have n8 : ¬ (0 : Nat) = 3 := by omega
  have n9 : ¬ (1 : Nat) = 3 := by omega
  have n10 : ¬ (2 : Nat) = 3 := by omega
  unfold qA_ad qA_mx
  generalize qA_it (I (u + 1)) fs hd ni (qA_rv (I (u + 1)) nk ni fs hd nk) = x1 at e1 l1 ⊢
  generalize qA_it (I (u + 1)) fs hd ni (qA_ln (I (u + 1)) (fun k => nI (pm k)) T nk ni fs hd nk) = x2 at e2 l2 ⊢
  rcases (show w = 0 ∨ w = 1 ∨ w = 2 ∨ w = 3 by omega) with rfl | rfl | rfl | rfl
  · rw [if_pos rfl]
    simp (disch := first | assumption | omega | exact Or.inl rfl | exact Or.inr rfl | exact qb_01) only [qe_203, qr_203_0, qr_203_1, qr_203_2, qr_203_5, qr_203_6, qr_203_9, qr_203_12, qr_203_13, qr_203_14, qr_203_17, qr_203_18, qr_203_21, qr_203_24, qr_203_25, qr_203_28, qr_203_29, qr_203_30, qr_203_31, qr_203_34, qr_203_35, qr_203_38, qr_203_39, qr_203_42, qr_203_43, qr_203_44, qr_203_47, qr_203_48, qr_203_51, qr_203_54, qr_203_55, qr_203_56, qr_203_57, true_and, and_true, false_and, and_false, Option.bind_some, Option.toList_some, Option.toList_none, List.nil_append, List.cons_append, if_true, if_false, ite_true, ite_false, not_true_eq_false, not_false_eq_true, qn_lt0, qn_ge0, qn_lt, qn_le, qn_eq, qn_e0, qn_gt0, qn_le0, qn_m1, nI_add, pk_mul, qb_e0, Classical.not_not, e1, n6, n7, n8]
  · rw [if_neg n0, if_pos rfl]
    simp (disch := first | assumption | omega | exact Or.inl rfl | exact Or.inr rfl | exact qb_01) only [qe_203, qr_203_0, qr_203_1, qr_203_2, qr_203_5, qr_203_6, qr_203_9, qr_203_12, qr_203_13, qr_203_14, qr_203_17, qr_203_18, qr_203_21, qr_203_24, qr_203_25, qr_203_28, qr_203_29, qr_203_30, qr_203_31, qr_203_34, qr_203_35, qr_203_38, qr_203_39, qr_203_42, qr_203_43, qr_203_44, qr_203_47, qr_203_48, qr_203_51, qr_203_54, qr_203_55, qr_203_56, qr_203_57, true_and, and_true, false_and, and_false, Option.bind_some, Option.toList_some, Option.toList_none, List.nil_append, List.cons_append, if_true, if_false, ite_true, ite_false, not_true_eq_false, not_false_eq_true, qn_lt0, qn_ge0, qn_lt, qn_le, qn_eq, qn_e0, qn_gt0, qn_le0, qn_m1, nI_add, pk_mul, qb_e0, Classical.not_not, e2, n9]
  · rw [if_neg n1, if_neg n2, if_pos rfl]
    simp (disch := first | assumption | omega | exact Or.inl rfl | exact Or.inr rfl | exact qb_01) only [qe_203, qr_203_0, qr_203_1, qr_203_2, qr_203_5, qr_203_6, qr_203_9, qr_203_12, qr_203_13, qr_203_14, qr_203_17, qr_203_18, qr_203_21, qr_203_24, qr_203_25, qr_203_28, qr_203_29, qr_203_30, qr_203_31, qr_203_34, qr_203_35, qr_203_38, qr_203_39, qr_203_42, qr_203_43, qr_203_44, qr_203_47, qr_203_48, qr_203_51, qr_203_54, qr_203_55, qr_203_56, qr_203_57, true_and, and_true, false_and, and_false, Option.bind_some, Option.toList_some, Option.toList_none, List.nil_append, List.cons_append, if_true, if_false, ite_true, ite_false, not_true_eq_false, not_false_eq_true, qn_lt0, qn_ge0, qn_lt, qn_le, qn_eq, qn_e0, qn_gt0, qn_le0, qn_m1, nI_add, pk_mul, qb_e0, Classical.not_not, e3, n2, n10]
  · rw [if_neg n3, if_neg n4, if_neg n5]
    cases x1 with
    | zero =>
      rw [qe_v0] at e1
      cases x2 with
      | zero =>
        rw [qe_v0] at e2
        simp (disch := first | assumption | omega | exact Or.inl rfl | exact Or.inr rfl | exact qb_01) only [qe_203, qr_203_0, qr_203_1, qr_203_2, qr_203_5, qr_203_6, qr_203_9, qr_203_12, qr_203_13, qr_203_14, qr_203_17, qr_203_18, qr_203_21, qr_203_24, qr_203_25, qr_203_28, qr_203_29, qr_203_30, qr_203_31, qr_203_34, qr_203_35, qr_203_38, qr_203_39, qr_203_42, qr_203_43, qr_203_44, qr_203_47, qr_203_48, qr_203_51, qr_203_54, qr_203_55, qr_203_56, qr_203_57, true_and, and_true, false_and, and_false, Option.bind_some, Option.toList_some, Option.toList_none, List.nil_append, List.cons_append, if_true, if_false, ite_true, ite_false, not_true_eq_false, not_false_eq_true, qn_lt0, qn_ge0, qn_lt, qn_le, qn_eq, qn_e0, qn_gt0, qn_le0, qn_m1, nI_add, pk_mul, qb_e0, Classical.not_not, e1, e2, e3, n4, n5, qn_m1z]
      | succ x2 =>
        rw [qe_vs] at e2
        simp (disch := first | assumption | omega | exact Or.inl rfl | exact Or.inr rfl | exact qb_01) only [qe_203, qr_203_0, qr_203_1, qr_203_2, qr_203_5, qr_203_6, qr_203_9, qr_203_12, qr_203_13, qr_203_14, qr_203_17, qr_203_18, qr_203_21, qr_203_24, qr_203_25, qr_203_28, qr_203_29, qr_203_30, qr_203_31, qr_203_34, qr_203_35, qr_203_38, qr_203_39, qr_203_42, qr_203_43, qr_203_44, qr_203_47, qr_203_48, qr_203_51, qr_203_54, qr_203_55, qr_203_56, qr_203_57, true_and, and_true, false_and, and_false, Option.bind_some, Option.toList_some, Option.toList_none, List.nil_append, List.cons_append, if_true, if_false, ite_true, ite_false, not_true_eq_false, not_false_eq_true, qn_lt0, qn_ge0, qn_lt, qn_le, qn_eq, qn_e0, qn_gt0, qn_le0, qn_m1, nI_add, pk_mul, qb_e0, Classical.not_not, e1, e2, e3, n4, n5, qn_m1z, Nat.add_one_ne_zero, qe_vs]
    | succ x1 =>
      rw [qe_vs] at e1
      simp (disch := first | assumption | omega | exact Or.inl rfl | exact Or.inr rfl | exact qb_01) only [qe_203, qr_203_0, qr_203_1, qr_203_2, qr_203_5, qr_203_6, qr_203_9, qr_203_12, qr_203_13, qr_203_14, qr_203_17, qr_203_18, qr_203_21, qr_203_24, qr_203_25, qr_203_28, qr_203_29, qr_203_30, qr_203_31, qr_203_34, qr_203_35, qr_203_38, qr_203_39, qr_203_42, qr_203_43, qr_203_44, qr_203_47, qr_203_48, qr_203_51, qr_203_54, qr_203_55, qr_203_56, qr_203_57, true_and, and_true, false_and, and_false, Option.bind_some, Option.toList_some, Option.toList_none, List.nil_append, List.cons_append, if_true, if_false, ite_true, ite_false, not_true_eq_false, not_false_eq_true, qn_lt0, qn_ge0, qn_lt, qn_le, qn_eq, qn_e0, qn_gt0, qn_le0, qn_m1, nI_add, pk_mul, qb_e0, Classical.not_not, e1, e2, e3, n4, n5, Nat.add_one_ne_zero, qe_vs]
end Q52
