/-! Advice of the class, continued. -/
theorem qn_b0 {x : Int32} : (x &&& nI 1 = 0) = ¬ (x &&& nI 1 = nI 1) := by
  rw [qn_b1]
  split
  · exact propext ⟨fun q => absurd q (by decide), fun q => absurd rfl q⟩
  · exact propext ⟨fun _ q => absurd q (by decide), fun _ => rfl⟩
section Q50
variable {d a b f : Nat} {K : Nat → Nat × Nat} {I : Nat → Nat → Int32} {R : Nat → Nat → Option Nat} {n z : Nat} {x y : Int32} {h : qa_H} {u nk ni k i j m B p q c e g w v r lv : Nat} {ps rq s : Nat → Int32} {fs hd : Nat → Nat} {T : Nat → qt_T}
theorem qs_PR_mastered2 (hP : qp_PR K R p c) (hC : qw_C K I R c q nk ps rq ni fs hd) (hS : qp_PS I p s) : qa_ex (d + 3) 59 [qa_a (some p)] (K, I, R, n, z) = some (some (qa_i (qf_ms (qs_g s ps) nk)), (K, I, R, n, z)) := by
  have h10 := hC.2.2.2.2.1
  rw [qs_PR_masteredSkills hP hC, qf_ms_congr (g' := qs_g s ps) (fun i hi => by show qf_mst _ _ _ = qf_mst _ _ _; rw [hS.2.1 i 0 (by omega) (by omega), hS.2.1 i 1 (by omega) (by omega)])]
theorem qs_AD_forLearning (hP : qp_PR K R p c) (hC : qw_C K I R c q nk ps rq ni fs hd) (hS : qp_PS I p s) (hT : qt_CT K I R q nk T) (hw : ∀ k, k < nk → qt_wf k (T k)) : qa_ex (d + 17) 108 [qa_a (some c), qa_a (some p)] (K, I, R, n, z) = some (some (qa_i (qe_v (qA_it s fs hd ni (qA_ln s ps T nk ni fs hd nk)))), (K, I, R, n, z)) := by
  have h10 := hC.2.2.2.2.1
  have c0 := hC.1.1
  have c7 := hC.1.2.2.2.2.2.2.2
  have hU := hC.2.1
  have u0 := hU.1
  have un := hC.2.2.1
  have p0 := hP.1
  have hst := hP.2.2.2.2.2.2.2.2.2.2.2.2.2.2.2.2
  have h12 := hC.2.2.2.2.2.2.2.1
  have hmb := qs_PR_mastered2 (d := d + 13) (n := n) (z := z) hP hC hS
  have loop : ∀ m k l6 l7 l8, k + m = nk → qa_run (d + 16) 108 13 [qa_a (some c), qa_a (some p), qa_i (qf_ms (qs_g s ps) nk), qa_i (qe_v (qA_ln s ps T nk ni fs hd k)), qa_i (qe_v (qA_it s fs hd ni (qA_ln s ps T nk ni fs hd k))), qa_i (nI k), l6, l7, l8] [] [] (K, I, R, n, z) = some (some (qa_i (qe_v (qA_it s fs hd ni (qA_ln s ps T nk ni fs hd nk)))), (K, I, R, n, z)) := by
    intro m
    induction m with
    | zero =>
      intro k l6 l7 l8 hk
      have hk : k = nk := by omega
      subst hk
      rw [qr_108_13]
      simp (disch := first | assumption | omega | exact Or.inl rfl | exact Or.inr rfl | exact qb_01) only [qr_108_0, qr_108_1, qr_108_4, qr_108_5, qr_108_6, qr_108_7, qr_108_8, qr_108_10, qr_108_11, qr_108_15, qr_108_16, qr_108_19, qr_108_22, qr_108_23, qr_108_25, qr_108_26, qr_108_27, qr_108_28, qr_108_31, qr_108_32, qr_108_35, qr_108_37, qr_108_38, qr_108_41, qr_108_44, qr_108_45, qr_108_48, qr_108_49, qr_108_51, qr_108_53, qr_108_56, qr_108_57, qr_108_58, qr_108_61, qr_108_62, qr_108_64, qr_108_67, qr_108_68, qr_108_69, qr_108_72, qr_108_75, qr_108_78, qr_108_79, qr_108_82, qr_108_83, qr_108_85, qr_108_87, qr_108_90, qr_108_92, qr_108_93, qr_108_94, qr_108_97, qr_108_100, qr_108_101, qr_108_103, qr_108_105, qr_108_106, qr_108_109, qr_108_111, qr_108_112, qr_108_114, qr_108_116, qr_108_119, qr_108_122, qr_108_124, true_and, and_true, false_and, and_false, Option.bind_some, Option.toList_some, Option.toList_none, List.nil_append, List.cons_append, if_true, if_false, ite_true, ite_false, not_true_eq_false, not_false_eq_true, qn_lt0, qn_ge0, qn_lt, qn_le, qn_eq, qn_e0, qn_gt0, qn_le0, qn_m1, nI_add, pk_mul, qb_e0, Classical.not_not, qs_CO_skills hC, Nat.le_refl]
    | succ m ih =>
      intro k l6 l7 l8 hk
      have e1 : ¬ nk ≤ k := by omega
      have hk10 : k < 10 := by omega
      have hkn : k < nk := by omega
      have hk31 : k < 2147483648 := by omega
      have hle : qA_ln s ps T nk ni fs hd k ≤ k := qA_bs_le
      have hs1 := (hst k hk10).1
      have hz := qs_AD_easiest (d := d + 13) (n := n) (z := z) hP hC hS hk31
      have hol : qA_oi s fs hd k ni ≤ ni := qA_oi_le
      have hrd := qs_CU_isReady (d := d) (n := n) (z := z) (mb := qf_ms (qs_g s ps) nk) hU un h10 hkn hT
      rw [qt_rd_bit hkn h10 (hw k hkn)] at hrd
      have hgb : qt_bit (qf_ms (qs_g s ps) nk) k = qs_g s ps k := qt_bit_ms hkn h10
      unfold qt_bit at hgb
      have hstp : qA_ln s ps T nk ni fs hd (k + 1) = if ((!qs_g s ps k && qt_rd (qs_g s ps) (T k)) && decide (¬ qA_oi s fs hd k ni = 0)) = true then (if qA_ln s ps T nk ni fs hd k = 0 then k + 1 else if qf_les (s (1 + 9 * k + 0)) (s (1 + 9 * k + 1)) (s (1 + 9 * (qA_ln s ps T nk ni fs hd k - 1) + 0)) (s (1 + 9 * (qA_ln s ps T nk ni fs hd k - 1) + 1)) = true then k + 1 else qA_ln s ps T nk ni fs hd k) else qA_ln s ps T nk ni fs hd k := rfl
      have hitk : qA_it s fs hd ni (k + 1) = qA_oi s fs hd k ni := if_neg (by omega)
      by_cases hg : qs_g s ps k = true
      · rw [hg] at hstp hgb
        simp only [Bool.not_true, Bool.false_and, Bool.false_eq_true, true_and, and_true, false_and, and_false, Option.bind_some, Option.toList_some, Option.toList_none, List.nil_append, List.cons_append, if_true, if_false, ite_true, ite_false, not_true_eq_false, not_false_eq_true] at hstp
        have hb1 := of_decide_eq_true hgb
        have hb0 : ¬ (qf_ms (qs_g s ps) nk >>> (nI k &&& 31) &&& nI 1 = 0) := by rw [qn_b0]; exact fun q => q hb1
        have e2 := ih (k + 1) (qa_i (nI 0)) (qa_i (nI 0)) (qa_i (-1)) (by omega)
        rw [hstp] at e2
        rw [qr_108_13]
        simp (disch := first | assumption | omega | exact Or.inl rfl | exact Or.inr rfl | exact qb_01) only [qr_108_0, qr_108_1, qr_108_4, qr_108_5, qr_108_6, qr_108_7, qr_108_8, qr_108_10, qr_108_11, qr_108_15, qr_108_16, qr_108_19, qr_108_22, qr_108_23, qr_108_25, qr_108_26, qr_108_27, qr_108_28, qr_108_31, qr_108_32, qr_108_35, qr_108_37, qr_108_38, qr_108_41, qr_108_44, qr_108_45, qr_108_48, qr_108_49, qr_108_51, qr_108_53, qr_108_56, qr_108_57, qr_108_58, qr_108_61, qr_108_62, qr_108_64, qr_108_67, qr_108_68, qr_108_69, qr_108_72, qr_108_75, qr_108_78, qr_108_79, qr_108_82, qr_108_83, qr_108_85, qr_108_87, qr_108_90, qr_108_92, qr_108_93, qr_108_94, qr_108_97, qr_108_100, qr_108_101, qr_108_103, qr_108_105, qr_108_106, qr_108_109, qr_108_111, qr_108_112, qr_108_114, qr_108_116, qr_108_119, qr_108_122, qr_108_124, true_and, and_true, false_and, and_false, Option.bind_some, Option.toList_some, Option.toList_none, List.nil_append, List.cons_append, if_true, if_false, ite_true, ite_false, not_true_eq_false, not_false_eq_true, qn_lt0, qn_ge0, qn_lt, qn_le, qn_eq, qn_e0, qn_gt0, qn_le0, qn_m1, nI_add, pk_mul, qb_e0, Classical.not_not, qs_CO_skills hC, e1, eq_false hb0]
        exact e2
      · have hg := eq_false_of_ne_true hg
        rw [hg] at hstp hgb
        have hb1 := of_decide_eq_false hgb
        have hb0 : (qf_ms (qs_g s ps) nk >>> (nI k &&& 31) &&& nI 1 = 0) := by rw [qn_b0]; exact hb1
        by_cases h1 : qt_rd (qs_g s ps) (T k) = true
        · cases hok : qA_oi s fs hd k ni with
          | zero =>
            rw [hok, qe_v0] at hz
            rw [hok, h1] at hstp
            simp only [decide_true, decide_false, Bool.true_and, Bool.not_false, Bool.and_false, true_and, and_true, false_and, and_false, Option.bind_some, Option.toList_some, Option.toList_none, List.nil_append, List.cons_append, if_true, if_false, ite_true, ite_false, not_true_eq_false, not_false_eq_true, Bool.false_eq_true] at hstp
            have e2 := fun l7 => ih (k + 1) (qa_i (nI 1)) l7 (qa_i (-1)) (by omega)
            rw [hstp] at e2
            generalize qA_ln s ps T nk ni fs hd k = b at e2 hle ⊢
            cases b with
            | zero =>
              rw [qr_108_13]
              simp (disch := first | assumption | omega | exact Or.inl rfl | exact Or.inr rfl | exact qb_01) only [qr_108_0, qr_108_1, qr_108_4, qr_108_5, qr_108_6, qr_108_7, qr_108_8, qr_108_10, qr_108_11, qr_108_15, qr_108_16, qr_108_19, qr_108_22, qr_108_23, qr_108_25, qr_108_26, qr_108_27, qr_108_28, qr_108_31, qr_108_32, qr_108_35, qr_108_37, qr_108_38, qr_108_41, qr_108_44, qr_108_45, qr_108_48, qr_108_49, qr_108_51, qr_108_53, qr_108_56, qr_108_57, qr_108_58, qr_108_61, qr_108_62, qr_108_64, qr_108_67, qr_108_68, qr_108_69, qr_108_72, qr_108_75, qr_108_78, qr_108_79, qr_108_82, qr_108_83, qr_108_85, qr_108_87, qr_108_90, qr_108_92, qr_108_93, qr_108_94, qr_108_97, qr_108_100, qr_108_101, qr_108_103, qr_108_105, qr_108_106, qr_108_109, qr_108_111, qr_108_112, qr_108_114, qr_108_116, qr_108_119, qr_108_122, qr_108_124, true_and, and_true, false_and, and_false, Option.bind_some, Option.toList_some, Option.toList_none, List.nil_append, List.cons_append, if_true, if_false, ite_true, ite_false, not_true_eq_false, not_false_eq_true, qn_lt0, qn_ge0, qn_lt, qn_le, qn_eq, qn_e0, qn_gt0, qn_le0, qn_m1, nI_add, pk_mul, qb_e0, Classical.not_not, qs_CO_skills hC, e1, eq_true hb0, c7, qs_CO_curriculum, hrd, h1, qe_v0, hz, Nat.one_ne_zero]
              exact e2 _
            | succ b =>
              have hb10 : b < 10 := by omega
              have hsb := (hst b hb10).1
              rw [qr_108_13]
              by_cases h3 : qf_les (s (1 + 9 * k + 0)) (s (1 + 9 * k + 1)) (s (1 + 9 * b + 0)) (s (1 + 9 * b + 1)) = true
              · simp (disch := first | assumption | omega | exact Or.inl rfl | exact Or.inr rfl | exact qb_01) only [qr_108_0, qr_108_1, qr_108_4, qr_108_5, qr_108_6, qr_108_7, qr_108_8, qr_108_10, qr_108_11, qr_108_15, qr_108_16, qr_108_19, qr_108_22, qr_108_23, qr_108_25, qr_108_26, qr_108_27, qr_108_28, qr_108_31, qr_108_32, qr_108_35, qr_108_37, qr_108_38, qr_108_41, qr_108_44, qr_108_45, qr_108_48, qr_108_49, qr_108_51, qr_108_53, qr_108_56, qr_108_57, qr_108_58, qr_108_61, qr_108_62, qr_108_64, qr_108_67, qr_108_68, qr_108_69, qr_108_72, qr_108_75, qr_108_78, qr_108_79, qr_108_82, qr_108_83, qr_108_85, qr_108_87, qr_108_90, qr_108_92, qr_108_93, qr_108_94, qr_108_97, qr_108_100, qr_108_101, qr_108_103, qr_108_105, qr_108_106, qr_108_109, qr_108_111, qr_108_112, qr_108_114, qr_108_116, qr_108_119, qr_108_122, qr_108_124, true_and, and_true, false_and, and_false, Option.bind_some, Option.toList_some, Option.toList_none, List.nil_append, List.cons_append, if_true, if_false, ite_true, ite_false, not_true_eq_false, not_false_eq_true, qn_lt0, qn_ge0, qn_lt, qn_le, qn_eq, qn_e0, qn_gt0, qn_le0, qn_m1, nI_add, pk_mul, qb_e0, Classical.not_not, qs_CO_skills hC, e1, eq_true hb0, c7, qs_CO_curriculum, hrd, h1, qe_vs, hz, Nat.one_ne_zero, qs_PR_stateOf hP hk10, qs_PR_stateOf hP hb10, qs_SS_hasLessMasteryThan hs1 hsb, hS.2.1 k 0 hk10 (by omega), hS.2.1 k 1 hk10 (by omega), hS.2.1 b 0 hb10 (by omega), hS.2.1 b 1 hb10 (by omega), h3]
                exact e2 _
              · simp (disch := first | assumption | omega | exact Or.inl rfl | exact Or.inr rfl | exact qb_01) only [qr_108_0, qr_108_1, qr_108_4, qr_108_5, qr_108_6, qr_108_7, qr_108_8, qr_108_10, qr_108_11, qr_108_15, qr_108_16, qr_108_19, qr_108_22, qr_108_23, qr_108_25, qr_108_26, qr_108_27, qr_108_28, qr_108_31, qr_108_32, qr_108_35, qr_108_37, qr_108_38, qr_108_41, qr_108_44, qr_108_45, qr_108_48, qr_108_49, qr_108_51, qr_108_53, qr_108_56, qr_108_57, qr_108_58, qr_108_61, qr_108_62, qr_108_64, qr_108_67, qr_108_68, qr_108_69, qr_108_72, qr_108_75, qr_108_78, qr_108_79, qr_108_82, qr_108_83, qr_108_85, qr_108_87, qr_108_90, qr_108_92, qr_108_93, qr_108_94, qr_108_97, qr_108_100, qr_108_101, qr_108_103, qr_108_105, qr_108_106, qr_108_109, qr_108_111, qr_108_112, qr_108_114, qr_108_116, qr_108_119, qr_108_122, qr_108_124, true_and, and_true, false_and, and_false, Option.bind_some, Option.toList_some, Option.toList_none, List.nil_append, List.cons_append, if_true, if_false, ite_true, ite_false, not_true_eq_false, not_false_eq_true, qn_lt0, qn_ge0, qn_lt, qn_le, qn_eq, qn_e0, qn_gt0, qn_le0, qn_m1, nI_add, pk_mul, qb_e0, Classical.not_not, qs_CO_skills hC, e1, eq_true hb0, c7, qs_CO_curriculum, hrd, h1, qe_vs, Nat.one_ne_zero, qs_PR_stateOf hP hk10, qs_PR_stateOf hP hb10, qs_SS_hasLessMasteryThan hs1 hsb, hS.2.1 k 0 hk10 (by omega), hS.2.1 k 1 hk10 (by omega), hS.2.1 b 0 hb10 (by omega), hS.2.1 b 1 hb10 (by omega), eq_false h3]
                exact e2 _
          | succ o =>
            rw [hok, qe_vs] at hz
            rw [hok, h1] at hstp
            simp only [decide_true, decide_false, Bool.true_and, Bool.not_false, true_and, and_true, false_and, and_false, Option.bind_some, Option.toList_some, Option.toList_none, List.nil_append, List.cons_append, if_true, if_false, ite_true, ite_false, not_true_eq_false, not_false_eq_true, Nat.add_one_ne_zero] at hstp
            rw [hok] at hitk
            generalize qA_ln s ps T nk ni fs hd k = b at hstp hle ⊢
            cases b with
            | zero =>
              rw [if_pos rfl] at hstp
              have e2 := ih (k + 1) (qa_i (nI 1)) (qa_i (nI 1)) (qa_i (nI o)) (by omega)
              rw [hstp, hitk, qe_vs, qe_vs] at e2
              rw [qr_108_13]
              simp (disch := first | assumption | omega | exact Or.inl rfl | exact Or.inr rfl | exact qb_01) only [qr_108_0, qr_108_1, qr_108_4, qr_108_5, qr_108_6, qr_108_7, qr_108_8, qr_108_10, qr_108_11, qr_108_15, qr_108_16, qr_108_19, qr_108_22, qr_108_23, qr_108_25, qr_108_26, qr_108_27, qr_108_28, qr_108_31, qr_108_32, qr_108_35, qr_108_37, qr_108_38, qr_108_41, qr_108_44, qr_108_45, qr_108_48, qr_108_49, qr_108_51, qr_108_53, qr_108_56, qr_108_57, qr_108_58, qr_108_61, qr_108_62, qr_108_64, qr_108_67, qr_108_68, qr_108_69, qr_108_72, qr_108_75, qr_108_78, qr_108_79, qr_108_82, qr_108_83, qr_108_85, qr_108_87, qr_108_90, qr_108_92, qr_108_93, qr_108_94, qr_108_97, qr_108_100, qr_108_101, qr_108_103, qr_108_105, qr_108_106, qr_108_109, qr_108_111, qr_108_112, qr_108_114, qr_108_116, qr_108_119, qr_108_122, qr_108_124, true_and, and_true, false_and, and_false, Option.bind_some, Option.toList_some, Option.toList_none, List.nil_append, List.cons_append, if_true, if_false, ite_true, ite_false, not_true_eq_false, not_false_eq_true, qn_lt0, qn_ge0, qn_lt, qn_le, qn_eq, qn_e0, qn_gt0, qn_le0, qn_m1, nI_add, pk_mul, qb_e0, Classical.not_not, qs_CO_skills hC, e1, eq_true hb0, c7, qs_CO_curriculum, hrd, h1, qe_v0, hz, Nat.one_ne_zero]
              exact e2
            | succ b =>
              have hb10 : b < 10 := by omega
              have hsb := (hst b hb10).1
              rw [if_neg (by omega), Nat.add_sub_cancel] at hstp
              rw [qr_108_13]
              by_cases h3 : qf_les (s (1 + 9 * k + 0)) (s (1 + 9 * k + 1)) (s (1 + 9 * b + 0)) (s (1 + 9 * b + 1)) = true
              · rw [if_pos h3] at hstp
                have e2 := ih (k + 1) (qa_i (nI 1)) (qa_i (nI 1)) (qa_i (nI o)) (by omega)
                rw [hstp, hitk, qe_vs, qe_vs] at e2
                simp (disch := first | assumption | omega | exact Or.inl rfl | exact Or.inr rfl | exact qb_01) only [qr_108_0, qr_108_1, qr_108_4, qr_108_5, qr_108_6, qr_108_7, qr_108_8, qr_108_10, qr_108_11, qr_108_15, qr_108_16, qr_108_19, qr_108_22, qr_108_23, qr_108_25, qr_108_26, qr_108_27, qr_108_28, qr_108_31, qr_108_32, qr_108_35, qr_108_37, qr_108_38, qr_108_41, qr_108_44, qr_108_45, qr_108_48, qr_108_49, qr_108_51, qr_108_53, qr_108_56, qr_108_57, qr_108_58, qr_108_61, qr_108_62, qr_108_64, qr_108_67, qr_108_68, qr_108_69, qr_108_72, qr_108_75, qr_108_78, qr_108_79, qr_108_82, qr_108_83, qr_108_85, qr_108_87, qr_108_90, qr_108_92, qr_108_93, qr_108_94, qr_108_97, qr_108_100, qr_108_101, qr_108_103, qr_108_105, qr_108_106, qr_108_109, qr_108_111, qr_108_112, qr_108_114, qr_108_116, qr_108_119, qr_108_122, qr_108_124, true_and, and_true, false_and, and_false, Option.bind_some, Option.toList_some, Option.toList_none, List.nil_append, List.cons_append, if_true, if_false, ite_true, ite_false, not_true_eq_false, not_false_eq_true, qn_lt0, qn_ge0, qn_lt, qn_le, qn_eq, qn_e0, qn_gt0, qn_le0, qn_m1, nI_add, pk_mul, qb_e0, Classical.not_not, qs_CO_skills hC, e1, eq_true hb0, c7, qs_CO_curriculum, hrd, h1, qe_vs, hz, Nat.one_ne_zero, qs_PR_stateOf hP hk10, qs_PR_stateOf hP hb10, qs_SS_hasLessMasteryThan hs1 hsb, hS.2.1 k 0 hk10 (by omega), hS.2.1 k 1 hk10 (by omega), hS.2.1 b 0 hb10 (by omega), hS.2.1 b 1 hb10 (by omega), h3]
                exact e2
              · rw [if_neg h3] at hstp
                have e2 := ih (k + 1) (qa_i (nI 1)) (qa_i (nI 0)) (qa_i (-1)) (by omega)
                rw [hstp, qe_vs] at e2
                simp (disch := first | assumption | omega | exact Or.inl rfl | exact Or.inr rfl | exact qb_01) only [qr_108_0, qr_108_1, qr_108_4, qr_108_5, qr_108_6, qr_108_7, qr_108_8, qr_108_10, qr_108_11, qr_108_15, qr_108_16, qr_108_19, qr_108_22, qr_108_23, qr_108_25, qr_108_26, qr_108_27, qr_108_28, qr_108_31, qr_108_32, qr_108_35, qr_108_37, qr_108_38, qr_108_41, qr_108_44, qr_108_45, qr_108_48, qr_108_49, qr_108_51, qr_108_53, qr_108_56, qr_108_57, qr_108_58, qr_108_61, qr_108_62, qr_108_64, qr_108_67, qr_108_68, qr_108_69, qr_108_72, qr_108_75, qr_108_78, qr_108_79, qr_108_82, qr_108_83, qr_108_85, qr_108_87, qr_108_90, qr_108_92, qr_108_93, qr_108_94, qr_108_97, qr_108_100, qr_108_101, qr_108_103, qr_108_105, qr_108_106, qr_108_109, qr_108_111, qr_108_112, qr_108_114, qr_108_116, qr_108_119, qr_108_122, qr_108_124, true_and, and_true, false_and, and_false, Option.bind_some, Option.toList_some, Option.toList_none, List.nil_append, List.cons_append, if_true, if_false, ite_true, ite_false, not_true_eq_false, not_false_eq_true, qn_lt0, qn_ge0, qn_lt, qn_le, qn_eq, qn_e0, qn_gt0, qn_le0, qn_m1, nI_add, pk_mul, qb_e0, Classical.not_not, qs_CO_skills hC, e1, eq_true hb0, c7, qs_CO_curriculum, hrd, h1, qe_vs, Nat.one_ne_zero, qs_PR_stateOf hP hk10, qs_PR_stateOf hP hb10, qs_SS_hasLessMasteryThan hs1 hsb, hS.2.1 k 0 hk10 (by omega), hS.2.1 k 1 hk10 (by omega), hS.2.1 b 0 hb10 (by omega), hS.2.1 b 1 hb10 (by omega), eq_false h3]
                exact e2
        · have h1f := eq_false_of_ne_true h1
          rw [h1f] at hstp
          simp only [Bool.not_false, Bool.true_and, Bool.false_and, Bool.false_eq_true, true_and, and_true, false_and, and_false, Option.bind_some, Option.toList_some, Option.toList_none, List.nil_append, List.cons_append, if_true, if_false, ite_true, ite_false, not_true_eq_false, not_false_eq_true] at hstp
          have e2 := ih (k + 1) (qa_i (nI 0)) (qa_i (nI 0)) (qa_i (-1)) (by omega)
          rw [hstp] at e2
          rw [qr_108_13]
          simp (disch := first | assumption | omega | exact Or.inl rfl | exact Or.inr rfl | exact qb_01) only [qr_108_0, qr_108_1, qr_108_4, qr_108_5, qr_108_6, qr_108_7, qr_108_8, qr_108_10, qr_108_11, qr_108_15, qr_108_16, qr_108_19, qr_108_22, qr_108_23, qr_108_25, qr_108_26, qr_108_27, qr_108_28, qr_108_31, qr_108_32, qr_108_35, qr_108_37, qr_108_38, qr_108_41, qr_108_44, qr_108_45, qr_108_48, qr_108_49, qr_108_51, qr_108_53, qr_108_56, qr_108_57, qr_108_58, qr_108_61, qr_108_62, qr_108_64, qr_108_67, qr_108_68, qr_108_69, qr_108_72, qr_108_75, qr_108_78, qr_108_79, qr_108_82, qr_108_83, qr_108_85, qr_108_87, qr_108_90, qr_108_92, qr_108_93, qr_108_94, qr_108_97, qr_108_100, qr_108_101, qr_108_103, qr_108_105, qr_108_106, qr_108_109, qr_108_111, qr_108_112, qr_108_114, qr_108_116, qr_108_119, qr_108_122, qr_108_124, true_and, and_true, false_and, and_false, Option.bind_some, Option.toList_some, Option.toList_none, List.nil_append, List.cons_append, if_true, if_false, ite_true, ite_false, not_true_eq_false, not_false_eq_true, qn_lt0, qn_ge0, qn_lt, qn_le, qn_eq, qn_e0, qn_gt0, qn_le0, qn_m1, nI_add, pk_mul, qb_e0, Classical.not_not, qs_CO_skills hC, e1, eq_true hb0, c7, qs_CO_curriculum, hrd, eq_false h1]
          exact e2
  have e1 := loop nk 0 qa_u qa_u qa_u (by omega)
  simp (disch := first | assumption | omega | exact Or.inl rfl | exact Or.inr rfl | exact qb_01) only [qe_108, qr_108_0, qr_108_1, qr_108_4, qr_108_5, qr_108_6, qr_108_7, qr_108_8, qr_108_10, qr_108_11, qr_108_15, qr_108_16, qr_108_19, qr_108_22, qr_108_23, qr_108_25, qr_108_26, qr_108_27, qr_108_28, qr_108_31, qr_108_32, qr_108_35, qr_108_37, qr_108_38, qr_108_41, qr_108_44, qr_108_45, qr_108_48, qr_108_49, qr_108_51, qr_108_53, qr_108_56, qr_108_57, qr_108_58, qr_108_61, qr_108_62, qr_108_64, qr_108_67, qr_108_68, qr_108_69, qr_108_72, qr_108_75, qr_108_78, qr_108_79, qr_108_82, qr_108_83, qr_108_85, qr_108_87, qr_108_90, qr_108_92, qr_108_93, qr_108_94, qr_108_97, qr_108_100, qr_108_101, qr_108_103, qr_108_105, qr_108_106, qr_108_109, qr_108_111, qr_108_112, qr_108_114, qr_108_116, qr_108_119, qr_108_122, qr_108_124, true_and, and_true, false_and, and_false, Option.bind_some, Option.toList_some, Option.toList_none, List.nil_append, List.cons_append, if_true, if_false, ite_true, ite_false, not_true_eq_false, not_false_eq_true, qn_lt0, qn_ge0, qn_lt, qn_le, qn_eq, qn_e0, qn_gt0, qn_le0, qn_m1, nI_add, pk_mul, qb_e0, Classical.not_not, hmb]
  exact e1
theorem qs_PR_chanceNumerator (hP : qp_PR K R p c) (hC : qw_C K I R c q nk ps rq ni fs hd) (hS : qp_PS I p s) (hi : i < ni) : qa_ex (d + 3) 99 [qa_a (some p), qa_i (nI i)] (K, I, R, n, z) = some (some (qa_i (qA_n s fs i)), (K, I, R, n, z)) := by
  have h10 := hC.2.2.2.2.1
  have hf := (hC.2.2.2.2.2.2.2.2 i hi).2.2.1
  have hf10 : fs i < 10 := by omega
  have c0 := hC.1.1
  have p0 := hP.1
  have r0 := hP.2.2.2.2.2.2.2.2.2.2.1
  have hs1 := (hP.2.2.2.2.2.2.2.2.2.2.2.2.2.2.2.2 (fs i) hf10).1
  simp (disch := first | assumption | omega | exact Or.inl rfl | exact Or.inr rfl | exact qb_01) only [qe_99, qr_99_0, qr_99_1, qr_99_2, qr_99_5, qr_99_6, qr_99_9, qr_99_12, qr_99_15, true_and, and_true, false_and, and_false, Option.bind_some, Option.toList_some, Option.toList_none, List.nil_append, List.cons_append, if_true, if_false, ite_true, ite_false, not_true_eq_false, not_false_eq_true, r0, qs_CO_skillOf hC hi, qs_PR_stateOf hP hf10, qs_SS_masteryNumerator, hS.2.1 (fs i) 0 hf10 (by omega)]
  rfl
theorem qs_PR_chanceDenominator (hP : qp_PR K R p c) (hC : qw_C K I R c q nk ps rq ni fs hd) (hS : qp_PS I p s) (hi : i < ni) : qa_ex (d + 3) 100 [qa_a (some p), qa_i (nI i)] (K, I, R, n, z) = some (some (qa_i (qA_d s fs hd i)), (K, I, R, n, z)) := by
  have h10 := hC.2.2.2.2.1
  have hf := (hC.2.2.2.2.2.2.2.2 i hi).2.2.1
  have hf10 : fs i < 10 := by omega
  have c0 := hC.1.1
  have p0 := hP.1
  have r0 := hP.2.2.2.2.2.2.2.2.2.2.1
  have hs1 := (hP.2.2.2.2.2.2.2.2.2.2.2.2.2.2.2.2 (fs i) hf10).1
  simp (disch := first | assumption | omega | exact Or.inl rfl | exact Or.inr rfl | exact qb_01) only [qe_100, qr_100_0, qr_100_1, qr_100_2, qr_100_5, qr_100_6, qr_100_9, qr_100_12, qr_100_15, qr_100_17, qr_100_18, qr_100_21, qr_100_22, qr_100_25, qr_100_26, qr_100_27, true_and, and_true, false_and, and_false, Option.bind_some, Option.toList_some, Option.toList_none, List.nil_append, List.cons_append, if_true, if_false, ite_true, ite_false, not_true_eq_false, not_false_eq_true, r0, qs_CO_skillOf hC hi, qs_CO_difficultyOf hC hi, qs_PR_stateOf hP hf10, qs_SS_masteryDenominator, hS.2.1 (fs i) 0 hf10 (by omega), hS.2.1 (fs i) 1 hf10 (by omega), pk_mul]
  rfl
theorem qs_AD_tellsMore (hP : qp_PR K R p c) (hC : qw_C K I R c q nk ps rq ni fs hd) (hS : qp_PS I p s) (hi : i < ni) (hb : b < ni) : qa_ex (d + 4) 111 [qa_i (nI i), qa_i (nI b), qa_a (some p)] (K, I, R, n, z) = some (some (qa_i (qa_bi (qA_mo s fs hd i b = true))), (K, I, R, n, z)) := by
  have p0 := hP.1
  simp (disch := first | assumption | omega | exact Or.inl rfl | exact Or.inr rfl | exact qb_01) only [qe_111, qr_111_0, qr_111_1, qr_111_2, qr_111_5, qr_111_6, qr_111_7, qr_111_8, qr_111_9, qr_111_12, qr_111_13, qr_111_15, qr_111_16, qr_111_17, qr_111_20, qr_111_21, qr_111_23, qr_111_24, qr_111_25, qr_111_28, qr_111_29, qr_111_31, qr_111_32, qr_111_34, qr_111_35, qr_111_36, qr_111_37, qr_111_39, qr_111_40, qr_111_42, qr_111_43, qr_111_45, qr_111_47, qr_111_49, qr_111_50, qr_111_51, qr_111_53, qr_111_54, qr_111_56, qr_111_57, qr_111_58, qr_111_61, qr_111_62, qr_111_65, qr_111_66, true_and, and_true, false_and, and_false, Option.bind_some, Option.toList_some, Option.toList_none, List.nil_append, List.cons_append, if_true, if_false, ite_true, ite_false, not_true_eq_false, not_false_eq_true, qs_PR_chanceNumerator hP hC hS hi, qs_PR_chanceNumerator hP hC hS hb, qs_PR_chanceDenominator hP hC hS hi, qs_PR_chanceDenominator hP hC hS hb]
  unfold qA_mo
  generalize lg_cmp _ _ = t
  by_cases ht : t ≤ 0
  · rw [if_pos ht, qb_f (by simpa using ht)]
  · rw [if_neg ht, qb_t (by simpa using ht)]
theorem qs_AD_forDiagnosis (hP : qp_PR K R p c) (hC : qw_C K I R c q nk ps rq ni fs hd) (hS : qp_PS I p s) : qa_ex (d + 5) 110 [qa_a (some c), qa_a (some p)] (K, I, R, n, z) = some (some (qa_i (qe_v (qA_dg s fs hd ni))), (K, I, R, n, z)) := by
  have c0 := hC.1.1
  have p0 := hP.1
  have h12 := hC.2.2.2.2.2.2.2.1
  have hn := hC.2.2.2.2.2.2.1
  have loop : ∀ m i, i + m = ni → qa_run (d + 4) 110 4 [qa_a (some c), qa_a (some p), qa_i (qe_v (qA_dg s fs hd i)), qa_i (nI i)] [] [] (K, I, R, n, z) = some (some (qa_i (qe_v (qA_dg s fs hd ni))), (K, I, R, n, z)) := by
    intro m
    induction m with
    | zero =>
      intro i hi
      have hi : i = ni := by omega
      subst hi
      rw [qr_110_4]
      simp (disch := first | assumption | omega | exact Or.inl rfl | exact Or.inr rfl | exact qb_01) only [qr_110_0, qr_110_1, qr_110_2, qr_110_3, qr_110_5, qr_110_6, qr_110_9, qr_110_12, qr_110_13, qr_110_14, qr_110_17, qr_110_20, qr_110_21, qr_110_22, qr_110_25, qr_110_26, qr_110_27, qr_110_28, qr_110_31, qr_110_34, qr_110_35, qr_110_36, qr_110_39, qr_110_42, qr_110_43, true_and, and_true, false_and, and_false, Option.bind_some, Option.toList_some, Option.toList_none, List.nil_append, List.cons_append, if_true, if_false, ite_true, ite_false, not_true_eq_false, not_false_eq_true, qn_lt0, qn_ge0, qn_lt, qn_le, qn_eq, qn_e0, qn_gt0, qn_le0, qn_m1, nI_add, pk_mul, qb_e0, Classical.not_not, qs_CO_items, hn, Nat.le_refl]
    | succ m ih =>
      intro i hi
      have e1 : ¬ ni ≤ i := by omega
      have hi12 : i < 12 := by omega
      have hin : i < ni := by omega
      have hle : qA_dg s fs hd i ≤ i := qA_bs_le
      have e2 := ih (i + 1) (by omega)
      rw [show qA_dg s fs hd (i + 1) = if qs_op s i = true then (if qA_dg s fs hd i = 0 then i + 1 else if qA_mo s fs hd i (qA_dg s fs hd i - 1) = true then i + 1 else qA_dg s fs hd i) else qA_dg s fs hd i from rfl] at e2
      by_cases h1 : qs_op s i = true
      · rw [if_pos h1] at e2
        generalize qA_dg s fs hd i = b at e2 hle ⊢
        cases b with
        | zero =>
          rw [if_pos rfl, qe_vs] at e2
          rw [qr_110_4]
          simp (disch := first | assumption | omega | exact Or.inl rfl | exact Or.inr rfl | exact qb_01) only [qr_110_0, qr_110_1, qr_110_2, qr_110_3, qr_110_5, qr_110_6, qr_110_9, qr_110_12, qr_110_13, qr_110_14, qr_110_17, qr_110_20, qr_110_21, qr_110_22, qr_110_25, qr_110_26, qr_110_27, qr_110_28, qr_110_31, qr_110_34, qr_110_35, qr_110_36, qr_110_39, qr_110_42, qr_110_43, true_and, and_true, false_and, and_false, Option.bind_some, Option.toList_some, Option.toList_none, List.nil_append, List.cons_append, if_true, if_false, ite_true, ite_false, not_true_eq_false, not_false_eq_true, qn_lt0, qn_ge0, qn_lt, qn_le, qn_eq, qn_e0, qn_gt0, qn_le0, qn_m1, nI_add, pk_mul, qb_e0, Classical.not_not, qs_CO_items, hn, e1, qs_PR_isOpen2 hP hS hi12, h1, qe_v0]
          exact e2
        | succ b =>
          have hbn : b < ni := by omega
          rw [if_neg (by omega), Nat.add_sub_cancel] at e2
          rw [qr_110_4]
          by_cases h3 : qA_mo s fs hd i b = true
          · rw [if_pos h3, qe_vs] at e2
            simp (disch := first | assumption | omega | exact Or.inl rfl | exact Or.inr rfl | exact qb_01) only [qr_110_0, qr_110_1, qr_110_2, qr_110_3, qr_110_5, qr_110_6, qr_110_9, qr_110_12, qr_110_13, qr_110_14, qr_110_17, qr_110_20, qr_110_21, qr_110_22, qr_110_25, qr_110_26, qr_110_27, qr_110_28, qr_110_31, qr_110_34, qr_110_35, qr_110_36, qr_110_39, qr_110_42, qr_110_43, true_and, and_true, false_and, and_false, Option.bind_some, Option.toList_some, Option.toList_none, List.nil_append, List.cons_append, if_true, if_false, ite_true, ite_false, not_true_eq_false, not_false_eq_true, qn_lt0, qn_ge0, qn_lt, qn_le, qn_eq, qn_e0, qn_gt0, qn_le0, qn_m1, nI_add, pk_mul, qb_e0, Classical.not_not, qs_CO_items, hn, e1, qs_PR_isOpen2 hP hS hi12, h1, qe_vs, qs_AD_tellsMore hP hC hS hin hbn, h3]
            exact e2
          · rw [if_neg h3, qe_vs] at e2
            simp (disch := first | assumption | omega | exact Or.inl rfl | exact Or.inr rfl | exact qb_01) only [qr_110_0, qr_110_1, qr_110_2, qr_110_3, qr_110_5, qr_110_6, qr_110_9, qr_110_12, qr_110_13, qr_110_14, qr_110_17, qr_110_20, qr_110_21, qr_110_22, qr_110_25, qr_110_26, qr_110_27, qr_110_28, qr_110_31, qr_110_34, qr_110_35, qr_110_36, qr_110_39, qr_110_42, qr_110_43, true_and, and_true, false_and, and_false, Option.bind_some, Option.toList_some, Option.toList_none, List.nil_append, List.cons_append, if_true, if_false, ite_true, ite_false, not_true_eq_false, not_false_eq_true, qn_lt0, qn_ge0, qn_lt, qn_le, qn_eq, qn_e0, qn_gt0, qn_le0, qn_m1, nI_add, pk_mul, qb_e0, Classical.not_not, qs_CO_items, hn, e1, qs_PR_isOpen2 hP hS hi12, h1, qe_vs, qs_AD_tellsMore hP hC hS hin hbn, eq_false h3]
            exact e2
      · rw [if_neg h1] at e2
        rw [qr_110_4]
        simp (disch := first | assumption | omega | exact Or.inl rfl | exact Or.inr rfl | exact qb_01) only [qr_110_0, qr_110_1, qr_110_2, qr_110_3, qr_110_5, qr_110_6, qr_110_9, qr_110_12, qr_110_13, qr_110_14, qr_110_17, qr_110_20, qr_110_21, qr_110_22, qr_110_25, qr_110_26, qr_110_27, qr_110_28, qr_110_31, qr_110_34, qr_110_35, qr_110_36, qr_110_39, qr_110_42, qr_110_43, true_and, and_true, false_and, and_false, Option.bind_some, Option.toList_some, Option.toList_none, List.nil_append, List.cons_append, if_true, if_false, ite_true, ite_false, not_true_eq_false, not_false_eq_true, qn_lt0, qn_ge0, qn_lt, qn_le, qn_eq, qn_e0, qn_gt0, qn_le0, qn_m1, nI_add, pk_mul, qb_e0, Classical.not_not, qs_CO_items, hn, e1, qs_PR_isOpen2 hP hS hi12, eq_false h1]
        exact e2
  have e1 := loop ni 0 (by omega)
  simp (disch := first | assumption | omega | exact Or.inl rfl | exact Or.inr rfl | exact qb_01) only [qe_110, qr_110_0, qr_110_1, qr_110_2, qr_110_3, qr_110_5, qr_110_6, qr_110_9, qr_110_12, qr_110_13, qr_110_14, qr_110_17, qr_110_20, qr_110_21, qr_110_22, qr_110_25, qr_110_26, qr_110_27, qr_110_28, qr_110_31, qr_110_34, qr_110_35, qr_110_36, qr_110_39, qr_110_42, qr_110_43, true_and, and_true, false_and, and_false, Option.bind_some, Option.toList_some, Option.toList_none, List.nil_append, List.cons_append, if_true, if_false, ite_true, ite_false, not_true_eq_false, not_false_eq_true, qn_lt0, qn_ge0, qn_lt, qn_le, qn_eq, qn_e0, qn_gt0, qn_le0, qn_m1, nI_add, pk_mul, qb_e0, Classical.not_not]
  exact e1
theorem qs_AD_mixed (hP : qp_PR K R p c) (hC : qw_C K I R c q nk ps rq ni fs hd) (hS : qp_PS I p s) (hT : qt_CT K I R q nk T) (hw : ∀ k, k < nk → qt_wf k (T k)) : qa_ex (d + 18) 112 [qa_a (some c), qa_a (some p)] (K, I, R, n, z) = some (some (qa_i (qe_v (qA_mx s ps T nk ni fs hd))), (K, I, R, n, z)) := by
  have h12 := hC.2.2.2.2.2.2.2.1
  have l1 := qA_it_le (s := s) (fs := fs) (hd := hd) (ni := ni) (b := qA_rv s nk ni fs hd nk)
  have l2 := qA_it_le (s := s) (fs := fs) (hd := hd) (ni := ni) (b := qA_ln s ps T nk ni fs hd nk)
  have e1 := qs_AD_forReview (d := d + 13) (n := n) (z := z) hP hC hS
  have e2 := qs_AD_forLearning (d := d) (n := n) (z := z) hP hC hS hT hw
  have e3 := qs_AD_forDiagnosis (d := d + 12) (n := n) (z := z) hP hC hS
  unfold qA_mx
  generalize qA_it s fs hd ni (qA_rv s nk ni fs hd nk) = x1 at e1 l1 ⊢
  generalize qA_it s fs hd ni (qA_ln s ps T nk ni fs hd nk) = x2 at e2 l2 ⊢
  cases x1 with
  | zero =>
    rw [qe_v0] at e1
    cases x2 with
    | zero =>
      rw [qe_v0] at e2
      simp (disch := first | assumption | omega | exact Or.inl rfl | exact Or.inr rfl | exact qb_01) only [qe_112, qr_112_0, qr_112_1, qr_112_2, qr_112_5, qr_112_6, qr_112_7, qr_112_8, qr_112_11, qr_112_12, qr_112_13, qr_112_16, qr_112_17, qr_112_18, qr_112_19, qr_112_22, qr_112_23, qr_112_24, qr_112_27, qr_112_30, qr_112_31, true_and, and_true, false_and, and_false, Option.bind_some, Option.toList_some, Option.toList_none, List.nil_append, List.cons_append, if_true, if_false, ite_true, ite_false, not_true_eq_false, not_false_eq_true, qn_lt0, qn_ge0, qn_lt, qn_le, qn_eq, qn_e0, qn_gt0, qn_le0, qn_m1, nI_add, pk_mul, qb_e0, Classical.not_not, e1, e2, e3]
    | succ x2 =>
      rw [qe_vs] at e2
      simp (disch := first | assumption | omega | exact Or.inl rfl | exact Or.inr rfl | exact qb_01) only [qe_112, qr_112_0, qr_112_1, qr_112_2, qr_112_5, qr_112_6, qr_112_7, qr_112_8, qr_112_11, qr_112_12, qr_112_13, qr_112_16, qr_112_17, qr_112_18, qr_112_19, qr_112_22, qr_112_23, qr_112_24, qr_112_27, qr_112_30, qr_112_31, true_and, and_true, false_and, and_false, Option.bind_some, Option.toList_some, Option.toList_none, List.nil_append, List.cons_append, if_true, if_false, ite_true, ite_false, not_true_eq_false, not_false_eq_true, qn_lt0, qn_ge0, qn_lt, qn_le, qn_eq, qn_e0, qn_gt0, qn_le0, qn_m1, nI_add, pk_mul, qb_e0, Classical.not_not, e1, e2, e3, Nat.add_one_ne_zero, qe_vs]
  | succ x1 =>
    rw [qe_vs] at e1
    simp (disch := first | assumption | omega | exact Or.inl rfl | exact Or.inr rfl | exact qb_01) only [qe_112, qr_112_0, qr_112_1, qr_112_2, qr_112_5, qr_112_6, qr_112_7, qr_112_8, qr_112_11, qr_112_12, qr_112_13, qr_112_16, qr_112_17, qr_112_18, qr_112_19, qr_112_22, qr_112_23, qr_112_24, qr_112_27, qr_112_30, qr_112_31, true_and, and_true, false_and, and_false, Option.bind_some, Option.toList_some, Option.toList_none, List.nil_append, List.cons_append, if_true, if_false, ite_true, ite_false, not_true_eq_false, not_false_eq_true, qn_lt0, qn_ge0, qn_lt, qn_le, qn_eq, qn_e0, qn_gt0, qn_le0, qn_m1, nI_add, pk_mul, qb_e0, Classical.not_not, e1, e2, e3, Nat.add_one_ne_zero, qe_vs]
theorem qs_AD_byWay (hP : qp_PR K R p c) (hC : qw_C K I R c q nk ps rq ni fs hd) (hS : qp_PS I p s) (hT : qt_CT K I R q nk T) (hw : ∀ k, k < nk → qt_wf k (T k)) (hv : v < 4) : qa_ex (d + 19) 102 [qa_i (nI v), qa_a (some c), qa_a (some p)] (K, I, R, n, z) = some (some (qa_i (qe_v (qA_ad s ps T nk ni fs hd v))), (K, I, R, n, z)) := by
  have n0 : ¬ (1 : Nat) = 0 := by omega
  have n1 : ¬ (2 : Nat) = 0 := by omega
  have n2 : ¬ (2 : Nat) = 1 := by omega
  have n3 : ¬ (3 : Nat) = 0 := by omega
  have n4 : ¬ (3 : Nat) = 1 := by omega
  have n5 : ¬ (3 : Nat) = 2 := by omega
  unfold qA_ad
  rcases (show v = 0 ∨ v = 1 ∨ v = 2 ∨ v = 3 by omega) with rfl | rfl | rfl | rfl
  · rw [if_pos rfl]
    simp (disch := first | assumption | omega | exact Or.inl rfl | exact Or.inr rfl | exact qb_01) only [qe_102, qr_102_0, qr_102_1_0, qr_102_1_1, qr_102_1_2, qr_102_1_d, qr_102_28, qr_102_29, qr_102_30, qr_102_33, qr_102_34, qr_102_35, qr_102_36, qr_102_39, qr_102_40, qr_102_41, qr_102_42, qr_102_45, qr_102_46, qr_102_47, qr_102_48, qr_102_51, true_and, and_true, false_and, and_false, Option.bind_some, Option.toList_some, Option.toList_none, List.nil_append, List.cons_append, if_true, if_false, ite_true, ite_false, not_true_eq_false, not_false_eq_true, qs_AD_forReview hP hC hS]
  · rw [if_neg n0, if_pos rfl]
    simp (disch := first | assumption | omega | exact Or.inl rfl | exact Or.inr rfl | exact qb_01) only [qe_102, qr_102_0, qr_102_1_0, qr_102_1_1, qr_102_1_2, qr_102_1_d, qr_102_28, qr_102_29, qr_102_30, qr_102_33, qr_102_34, qr_102_35, qr_102_36, qr_102_39, qr_102_40, qr_102_41, qr_102_42, qr_102_45, qr_102_46, qr_102_47, qr_102_48, qr_102_51, true_and, and_true, false_and, and_false, Option.bind_some, Option.toList_some, Option.toList_none, List.nil_append, List.cons_append, if_true, if_false, ite_true, ite_false, not_true_eq_false, not_false_eq_true, qs_AD_forLearning hP hC hS hT hw]
  · rw [if_neg n1, if_neg n2, if_pos rfl]
    simp (disch := first | assumption | omega | exact Or.inl rfl | exact Or.inr rfl | exact qb_01) only [qe_102, qr_102_0, qr_102_1_0, qr_102_1_1, qr_102_1_2, qr_102_1_d, qr_102_28, qr_102_29, qr_102_30, qr_102_33, qr_102_34, qr_102_35, qr_102_36, qr_102_39, qr_102_40, qr_102_41, qr_102_42, qr_102_45, qr_102_46, qr_102_47, qr_102_48, qr_102_51, true_and, and_true, false_and, and_false, Option.bind_some, Option.toList_some, Option.toList_none, List.nil_append, List.cons_append, if_true, if_false, ite_true, ite_false, not_true_eq_false, not_false_eq_true, qs_AD_forDiagnosis hP hC hS]
  · have h3 : (nI 3).toInt < 0 ∨ 2 < (nI 3).toInt := by decide
    rw [if_neg n3, if_neg n4, if_neg n5]
    simp (disch := first | assumption | omega | exact Or.inl rfl | exact Or.inr rfl | exact qb_01) only [qe_102, qr_102_0, qr_102_1_0, qr_102_1_1, qr_102_1_2, qr_102_1_d, qr_102_28, qr_102_29, qr_102_30, qr_102_33, qr_102_34, qr_102_35, qr_102_36, qr_102_39, qr_102_40, qr_102_41, qr_102_42, qr_102_45, qr_102_46, qr_102_47, qr_102_48, qr_102_51, true_and, and_true, false_and, and_false, Option.bind_some, Option.toList_some, Option.toList_none, List.nil_append, List.cons_append, if_true, if_false, ite_true, ite_false, not_true_eq_false, not_false_eq_true, qs_AD_mixed hP hC hS hT hw]
end Q50
