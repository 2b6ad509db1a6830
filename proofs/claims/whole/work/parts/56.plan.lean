/-! Plans of the model. Explanations, both sides. -/
section Q56
variable {d a b f : Nat} {K : Nat → Nat × Nat} {I : Nat → Nat → Int32} {R : Nat → Nat → Option Nat} {n z : Nat} {x y : Int32} {h : qa_H} {u nk ni k i j m B p q c e g w v r lv t na : Nat} {s bs : Nat → Int32} {fs hd pm el er : Nat → Nat} {T : Nat → qt_T}
theorem qs_MO_plan (hM : qp_MO K R u) (hC : qp_MC (I (u + 5)) nk pm T ni fs hd) (hv : qv_S B (I (u + 1))) (hB : B < 900000) (hZ : qv_Z (I (u + 1))) (hZa : qv_Z (I (u + 3))) (hj : 1 ≤ j) (hj2 : j ≤ 30) (hna : 1 ≤ na) (hna2 : na ≤ 12) (hw : w < 3) : qa_ex (d + 20) 215 [qa_a (some u), qa_i (nI j), qa_i (nI na), qa_i (nI w)] (K, I, R, n, z) = some (some (qa_i (if w = 0 then nI (qF_pd nk pm T ni fs hd na (I (u + 1)) j).2 else if w = 1 then qf_si (qs_ev (qF_pd nk pm T ni fs hd na (I (u + 1)) j).1) nk else qf_bc (qf_ms (qs_g (qF_pd nk pm T ni fs hd na (I (u + 1)) j).1 (fun k => nI (pm k))) nk))), (K, va_up I (u + 3) (I (u + 1)), R, n, z)) := by
  have hM' := hM
  have k10 := hC.2.2.1
  have i12 := hC.2.2.2.2.1
  have hfi : ∀ i, i < ni → fs i < nk := fun i hi => (hC.2.2.2.2.2.2.2.2 i hi).2.2.1
  obtain ⟨m0, ⟨s1, s2, s3⟩, ⟨b1, b2, b3⟩, ⟨a1, a2, a3⟩, -, ⟨c1, c2, c3⟩, -⟩ := hM
  generalize hres : (if w = 0 then nI (qF_pd nk pm T ni fs hd na (I (u + 1)) j).2 else if w = 1 then qf_si (qs_ev (qF_pd nk pm T ni fs hd na (I (u + 1)) j).1) nk else qf_bc (qf_ms (qs_g (qF_pd nk pm T ni fs hd na (I (u + 1)) j).1 (fun k => nI (pm k))) nk)) = res
  have hpd : ∀ i, qv_S (B + 13 * i) (qF_pd nk pm T ni fs hd na (I (u + 1)) i).1 ∧ qv_Z (qF_pd nk pm T ni fs hd na (I (u + 1)) i).1 := by
    intro i
    induction i with
    | zero => exact ⟨hv, hZ⟩
    | succ i ih =>
      have h1 : qv_S (B + 13 * i + 1) (qF_d nk i (qF_pd nk pm T ni fs hd na (I (u + 1)) i).1) ∧ qv_Z (qF_d nk i (qF_pd nk pm T ni fs hd na (I (u + 1)) i).1) := by
        unfold qF_d
        split
        · exact ⟨qv_S_mono ih.1 (by omega), ih.2⟩
        · exact ⟨qv_S_pas ih.1 k10, qv_Z_pas ih.2 k10⟩
      exact ⟨qv_S_mono (qv_S_m k10 hfi h1.1) (by omega), qv_Z_m k10 i12 hfi h1.2⟩
  have had : ∀ dd s' B', qv_S B' s' → B' < 1000000 → qa_ex (dd + 19) 203 [qa_a (some u), qa_i (nI 3)] (K, va_up (va_up I (u + 3) (I (u + 1))) (u + 1) s', R, n, z) = some (some (qa_i (qe_v (qA_m nk pm T ni fs hd s'))), (K, va_up (va_up I (u + 3) (I (u + 1))) (u + 1) s', R, n, z)) := by
    intro dd s' B' h1 h2
    rw [qt_advised hM' hC h1 h2 (by omega), qA_ad_3]
    rfl
  have inner : ∀ m i s' B' A dd rt, i + m = na → qv_S B' s' → B' + m < 950000 → qv_Z s' → (∀ l6 l7, qa_run (d + 19) 215 51 [qa_a (some u), qa_i (nI j), qa_i (nI na), qa_i (nI w), qa_i (nI (A + (qF_m nk pm T ni fs hd m s').2)), qa_i (nI (dd + 1)), l6, l7] [] [] (K, va_up (va_up I (u + 3) (I (u + 1))) (u + 1) (qF_m nk pm T ni fs hd m s').1, R, n, z) = rt) → qa_run (d + 19) 215 76 [qa_a (some u), qa_i (nI j), qa_i (nI na), qa_i (nI w), qa_i (nI A), qa_i (nI dd), qa_i (qe_v (qA_m nk pm T ni fs hd s')), qa_i (nI i)] [] [] (K, va_up (va_up I (u + 3) (I (u + 1))) (u + 1) s', R, n, z) = rt := by
    intro m
    induction m with
    | zero =>
      intro i s' B' A dd rt hi h1 h2 h3 hq
      have hi : i = na := by omega
      subst hi
      rw [qr_215_76]
      simp (disch := first | assumption | omega | exact Or.inl rfl | exact Or.inr rfl | exact qb_01) only [qr_215_0, qr_215_1, qr_215_2, qr_215_4, qr_215_7, qr_215_10, qr_215_11, qr_215_12, qr_215_14, qr_215_17, qr_215_20, qr_215_21, qr_215_22, qr_215_23, qr_215_26, qr_215_29, qr_215_31, qr_215_32, qr_215_33, qr_215_36, qr_215_37, qr_215_40, qr_215_42, qr_215_45, qr_215_46, qr_215_48, qr_215_49, qr_215_53, qr_215_54, qr_215_57, qr_215_59, qr_215_62, qr_215_63, qr_215_66, qr_215_67, qr_215_68, qr_215_71, qr_215_73, qr_215_74, qr_215_78, qr_215_79, qr_215_82, qr_215_84, qr_215_87, qr_215_88, qr_215_90, qr_215_91, qr_215_94, qr_215_97, qr_215_98, qr_215_99, qr_215_102, qr_215_104, qr_215_107, qr_215_110, qr_215_113, qr_215_116, qr_215_117, qr_215_120, qr_215_122, qr_215_125, qr_215_126, qr_215_127, qr_215_130, qr_215_131, qr_215_134, qr_215_137, qr_215_138, qr_215_141, qr_215_144, qr_215_146, qr_215_147, qr_215_150, qr_215_151, qr_215_154, qr_215_156, qr_215_159, qr_215_161, true_and, and_true, false_and, and_false, Option.bind_some, Option.toList_some, Option.toList_none, List.nil_append, List.cons_append, if_true, if_false, ite_true, ite_false, not_true_eq_false, not_false_eq_true, qn_lt0, qn_ge0, qn_lt, qn_le, qn_eq, qn_e0, qn_gt0, qn_le0, qn_m1, nI_add, pk_mul, qb_e0, Classical.not_not, Nat.le_refl]
      exact hq _ _
    | succ m ih =>
      intro i s' B' A dd rt hi h1 h2 h3 hq
      have e0 : ¬ na ≤ i := by omega
      have hle := qA_m_le (nk := nk) (pm := pm) (T := T) (ni := ni) (fs := fs) (hd := hd) (s := s')
      by_cases hl : qA_m nk pm T ni fs hd s' = 0
      · unfold qF_m at hq
        simp only [if_pos hl, Nat.add_zero] at hq
        rw [hl, qe_v0, qr_215_76]
        simp (disch := first | assumption | omega | exact Or.inl rfl | exact Or.inr rfl | exact qb_01) only [qr_215_0, qr_215_1, qr_215_2, qr_215_4, qr_215_7, qr_215_10, qr_215_11, qr_215_12, qr_215_14, qr_215_17, qr_215_20, qr_215_21, qr_215_22, qr_215_23, qr_215_26, qr_215_29, qr_215_31, qr_215_32, qr_215_33, qr_215_36, qr_215_37, qr_215_40, qr_215_42, qr_215_45, qr_215_46, qr_215_48, qr_215_49, qr_215_53, qr_215_54, qr_215_57, qr_215_59, qr_215_62, qr_215_63, qr_215_66, qr_215_67, qr_215_68, qr_215_71, qr_215_73, qr_215_74, qr_215_78, qr_215_79, qr_215_82, qr_215_84, qr_215_87, qr_215_88, qr_215_90, qr_215_91, qr_215_94, qr_215_97, qr_215_98, qr_215_99, qr_215_102, qr_215_104, qr_215_107, qr_215_110, qr_215_113, qr_215_116, qr_215_117, qr_215_120, qr_215_122, qr_215_125, qr_215_126, qr_215_127, qr_215_130, qr_215_131, qr_215_134, qr_215_137, qr_215_138, qr_215_141, qr_215_144, qr_215_146, qr_215_147, qr_215_150, qr_215_151, qr_215_154, qr_215_156, qr_215_159, qr_215_161, true_and, and_true, false_and, and_false, Option.bind_some, Option.toList_some, Option.toList_none, List.nil_append, List.cons_append, if_true, if_false, ite_true, ite_false, not_true_eq_false, not_false_eq_true, qn_lt0, qn_ge0, qn_lt, qn_le, qn_eq, qn_e0, qn_gt0, qn_le0, qn_m1, nI_add, pk_mul, qb_e0, Classical.not_not, e0, qn_m1l]
        exact hq _ _
      · unfold qF_m at hq
        simp only [if_neg hl] at hq
        obtain ⟨e, he⟩ : ∃ e, qA_m nk pm T ni fs hd s' = e + 1 := ⟨_, (Nat.succ_pred_eq_of_ne_zero hl).symm⟩
        rw [he] at hq
        have g1 := qv_S_step (e := e + 1) (r := 1) (pm := pm) (T := T) h1 k10 (by omega) hfi
        have g2 := qv_Z_step (e := e + 1) (r := 1) (pm := pm) (T := T) h3 k10 i12 (by omega) hfi
        have e4 := qt_answers (d := d + 4) (I := I) (n := n) (z := z) (i := e) (r := 1) hM' hC h1 (by omega) (Or.inr rfl)
        have e5 := had (d) _ _ g1 (by omega)
        have e2 := ih (i + 1) (qF_step nk pm T fs (e + 1) 1 s') (B' + 1) (A + 1) dd rt (by omega) g1 (by omega) g2 (fun l6 l7 => by rw [show A + 1 + (qF_m nk pm T ni fs hd m (qF_step nk pm T fs (e + 1) 1 s')).2 = A + ((qF_m nk pm T ni fs hd m (qF_step nk pm T fs (e + 1) 1 s')).2 + 1) by omega]; exact hq l6 l7)
        rw [he, qe_vs, qr_215_76]
        simp (disch := first | assumption | omega | exact Or.inl rfl | exact Or.inr rfl | exact qb_01) only [qr_215_0, qr_215_1, qr_215_2, qr_215_4, qr_215_7, qr_215_10, qr_215_11, qr_215_12, qr_215_14, qr_215_17, qr_215_20, qr_215_21, qr_215_22, qr_215_23, qr_215_26, qr_215_29, qr_215_31, qr_215_32, qr_215_33, qr_215_36, qr_215_37, qr_215_40, qr_215_42, qr_215_45, qr_215_46, qr_215_48, qr_215_49, qr_215_53, qr_215_54, qr_215_57, qr_215_59, qr_215_62, qr_215_63, qr_215_66, qr_215_67, qr_215_68, qr_215_71, qr_215_73, qr_215_74, qr_215_78, qr_215_79, qr_215_82, qr_215_84, qr_215_87, qr_215_88, qr_215_90, qr_215_91, qr_215_94, qr_215_97, qr_215_98, qr_215_99, qr_215_102, qr_215_104, qr_215_107, qr_215_110, qr_215_113, qr_215_116, qr_215_117, qr_215_120, qr_215_122, qr_215_125, qr_215_126, qr_215_127, qr_215_130, qr_215_131, qr_215_134, qr_215_137, qr_215_138, qr_215_141, qr_215_144, qr_215_146, qr_215_147, qr_215_150, qr_215_151, qr_215_154, qr_215_156, qr_215_159, qr_215_161, true_and, and_true, false_and, and_false, Option.bind_some, Option.toList_some, Option.toList_none, List.nil_append, List.cons_append, if_true, if_false, ite_true, ite_false, not_true_eq_false, not_false_eq_true, qn_lt0, qn_ge0, qn_lt, qn_le, qn_eq, qn_e0, qn_gt0, qn_le0, qn_m1, nI_add, pk_mul, qb_e0, Classical.not_not, e0, e4, e5]
        exact e2
  have loop : ∀ m i, i + m = j → ∀ l6 l7, qa_run (d + 19) 215 51 [qa_a (some u), qa_i (nI j), qa_i (nI na), qa_i (nI w), qa_i (nI (qF_pd nk pm T ni fs hd na (I (u + 1)) i).2), qa_i (nI i), l6, l7] [] [] (K, va_up (va_up I (u + 3) (I (u + 1))) (u + 1) (qF_pd nk pm T ni fs hd na (I (u + 1)) i).1, R, n, z) = some (some (qa_i res), (K, va_up I (u + 3) (I (u + 1)), R, n, z)) := by
    intro m
    induction m with
    | zero =>
      intro i hi l6 l7
      have hi : i = j := by omega
      subst hi
      have e1 := qm_back (d := d + 18) (R := R) (n := n) (z := z) hM' hZ (hpd i).2
      have e2 := qs_MO_evidence (d := d + 17) (I := va_up (va_up I (u + 3) (I (u + 1))) (u + 1) (qF_pd nk pm T ni fs hd na (I (u + 1)) i).1) (n := n) (z := z) (nk := nk) hM' (by rw [qa_up_n _ _ (by omega), qa_up_n _ _ (by omega)]; exact hC.1) k10
      have e3 := qs_MO_mastered2 (d := d + 16) (I := va_up (va_up I (u + 3) (I (u + 1))) (u + 1) (qF_pd nk pm T ni fs hd na (I (u + 1)) i).1) (n := n) (z := z) (nk := nk) (pm := pm) (T := T) (ni := ni) (fs := fs) (hd := hd) hM' (by rw [qa_up_n _ _ (by omega), qa_up_n _ _ (by omega)]; exact hC)
      rw [qa_up_s] at e2 e3
      rw [← hres, qr_215_51]
      rcases (show w = 0 ∨ w = 1 ∨ w = 2 by omega) with rfl | rfl | rfl
      · simp (disch := first | assumption | omega | exact Or.inl rfl | exact Or.inr rfl | exact qb_01) only [qr_215_0, qr_215_1, qr_215_2, qr_215_4, qr_215_7, qr_215_10, qr_215_11, qr_215_12, qr_215_14, qr_215_17, qr_215_20, qr_215_21, qr_215_22, qr_215_23, qr_215_26, qr_215_29, qr_215_31, qr_215_32, qr_215_33, qr_215_36, qr_215_37, qr_215_40, qr_215_42, qr_215_45, qr_215_46, qr_215_48, qr_215_49, qr_215_53, qr_215_54, qr_215_57, qr_215_59, qr_215_62, qr_215_63, qr_215_66, qr_215_67, qr_215_68, qr_215_71, qr_215_73, qr_215_74, qr_215_78, qr_215_79, qr_215_82, qr_215_84, qr_215_87, qr_215_88, qr_215_90, qr_215_91, qr_215_94, qr_215_97, qr_215_98, qr_215_99, qr_215_102, qr_215_104, qr_215_107, qr_215_110, qr_215_113, qr_215_116, qr_215_117, qr_215_120, qr_215_122, qr_215_125, qr_215_126, qr_215_127, qr_215_130, qr_215_131, qr_215_134, qr_215_137, qr_215_138, qr_215_141, qr_215_144, qr_215_146, qr_215_147, qr_215_150, qr_215_151, qr_215_154, qr_215_156, qr_215_159, qr_215_161, true_and, and_true, false_and, and_false, Option.bind_some, Option.toList_some, Option.toList_none, List.nil_append, List.cons_append, if_true, if_false, ite_true, ite_false, not_true_eq_false, not_false_eq_true, qn_lt0, qn_ge0, qn_lt, qn_le, qn_eq, qn_e0, qn_gt0, qn_le0, qn_m1, nI_add, pk_mul, qb_e0, Classical.not_not, Nat.le_refl, s3, a3, e1]
      · simp (disch := first | assumption | omega | exact Or.inl rfl | exact Or.inr rfl | exact qb_01) only [qr_215_0, qr_215_1, qr_215_2, qr_215_4, qr_215_7, qr_215_10, qr_215_11, qr_215_12, qr_215_14, qr_215_17, qr_215_20, qr_215_21, qr_215_22, qr_215_23, qr_215_26, qr_215_29, qr_215_31, qr_215_32, qr_215_33, qr_215_36, qr_215_37, qr_215_40, qr_215_42, qr_215_45, qr_215_46, qr_215_48, qr_215_49, qr_215_53, qr_215_54, qr_215_57, qr_215_59, qr_215_62, qr_215_63, qr_215_66, qr_215_67, qr_215_68, qr_215_71, qr_215_73, qr_215_74, qr_215_78, qr_215_79, qr_215_82, qr_215_84, qr_215_87, qr_215_88, qr_215_90, qr_215_91, qr_215_94, qr_215_97, qr_215_98, qr_215_99, qr_215_102, qr_215_104, qr_215_107, qr_215_110, qr_215_113, qr_215_116, qr_215_117, qr_215_120, qr_215_122, qr_215_125, qr_215_126, qr_215_127, qr_215_130, qr_215_131, qr_215_134, qr_215_137, qr_215_138, qr_215_141, qr_215_144, qr_215_146, qr_215_147, qr_215_150, qr_215_151, qr_215_154, qr_215_156, qr_215_159, qr_215_161, true_and, and_true, false_and, and_false, Option.bind_some, Option.toList_some, Option.toList_none, List.nil_append, List.cons_append, if_true, if_false, ite_true, ite_false, not_true_eq_false, not_false_eq_true, qn_lt0, qn_ge0, qn_lt, qn_le, qn_eq, qn_e0, qn_gt0, qn_le0, qn_m1, nI_add, pk_mul, qb_e0, Classical.not_not, Nat.le_refl, s3, a3, e1, e2, Nat.one_ne_zero]
      · simp (disch := first | assumption | omega | exact Or.inl rfl | exact Or.inr rfl | exact qb_01) only [qr_215_0, qr_215_1, qr_215_2, qr_215_4, qr_215_7, qr_215_10, qr_215_11, qr_215_12, qr_215_14, qr_215_17, qr_215_20, qr_215_21, qr_215_22, qr_215_23, qr_215_26, qr_215_29, qr_215_31, qr_215_32, qr_215_33, qr_215_36, qr_215_37, qr_215_40, qr_215_42, qr_215_45, qr_215_46, qr_215_48, qr_215_49, qr_215_53, qr_215_54, qr_215_57, qr_215_59, qr_215_62, qr_215_63, qr_215_66, qr_215_67, qr_215_68, qr_215_71, qr_215_73, qr_215_74, qr_215_78, qr_215_79, qr_215_82, qr_215_84, qr_215_87, qr_215_88, qr_215_90, qr_215_91, qr_215_94, qr_215_97, qr_215_98, qr_215_99, qr_215_102, qr_215_104, qr_215_107, qr_215_110, qr_215_113, qr_215_116, qr_215_117, qr_215_120, qr_215_122, qr_215_125, qr_215_126, qr_215_127, qr_215_130, qr_215_131, qr_215_134, qr_215_137, qr_215_138, qr_215_141, qr_215_144, qr_215_146, qr_215_147, qr_215_150, qr_215_151, qr_215_154, qr_215_156, qr_215_159, qr_215_161, true_and, and_true, false_and, and_false, Option.bind_some, Option.toList_some, Option.toList_none, List.nil_append, List.cons_append, if_true, if_false, ite_true, ite_false, not_true_eq_false, not_false_eq_true, qn_lt0, qn_ge0, qn_lt, qn_le, qn_eq, qn_e0, qn_gt0, qn_le0, qn_m1, nI_add, pk_mul, qb_e0, Classical.not_not, Nat.reduceEqDiff, Nat.reduceLT, Nat.reduceLeDiff, Nat.not_lt_zero, Nat.zero_le, Nat.le_refl, s3, a3, e1, e3, qs_MO_bits2 k10]
    | succ m ih =>
      intro i hi l6 l7
      have e0 : ¬ j ≤ i := by omega
      obtain ⟨p1, p2⟩ := hpd i
      have e2 := ih (i + 1) (by omega)
      have hin := inner na 0 (qF_d nk i (qF_pd nk pm T ni fs hd na (I (u + 1)) i).1) (B + 13 * i + 1) (qF_pd nk pm T ni fs hd na (I (u + 1)) i).2 i _ (by omega) (by
        unfold qF_d
        split
        · exact qv_S_mono p1 (by omega)
        · exact qv_S_pas p1 k10) (by omega) (by
        unfold qF_d
        split
        · exact p2
        · exact qv_Z_pas p2 k10) e2
      by_cases hi0 : i = 0
      · subst hi0
        rw [show qF_d nk 0 (qF_pd nk pm T ni fs hd na (I (u + 1)) 0).1 = (qF_pd nk pm T ni fs hd na (I (u + 1)) 0).1 from if_pos rfl] at hin
        have e5 := had (d) _ _ p1 (by omega)
        rw [qr_215_51]
        simp (disch := first | assumption | omega | exact Or.inl rfl | exact Or.inr rfl | exact qb_01) only [qr_215_0, qr_215_1, qr_215_2, qr_215_4, qr_215_7, qr_215_10, qr_215_11, qr_215_12, qr_215_14, qr_215_17, qr_215_20, qr_215_21, qr_215_22, qr_215_23, qr_215_26, qr_215_29, qr_215_31, qr_215_32, qr_215_33, qr_215_36, qr_215_37, qr_215_40, qr_215_42, qr_215_45, qr_215_46, qr_215_48, qr_215_49, qr_215_53, qr_215_54, qr_215_57, qr_215_59, qr_215_62, qr_215_63, qr_215_66, qr_215_67, qr_215_68, qr_215_71, qr_215_73, qr_215_74, qr_215_78, qr_215_79, qr_215_82, qr_215_84, qr_215_87, qr_215_88, qr_215_90, qr_215_91, qr_215_94, qr_215_97, qr_215_98, qr_215_99, qr_215_102, qr_215_104, qr_215_107, qr_215_110, qr_215_113, qr_215_116, qr_215_117, qr_215_120, qr_215_122, qr_215_125, qr_215_126, qr_215_127, qr_215_130, qr_215_131, qr_215_134, qr_215_137, qr_215_138, qr_215_141, qr_215_144, qr_215_146, qr_215_147, qr_215_150, qr_215_151, qr_215_154, qr_215_156, qr_215_159, qr_215_161, true_and, and_true, false_and, and_false, Option.bind_some, Option.toList_some, Option.toList_none, List.nil_append, List.cons_append, if_true, if_false, ite_true, ite_false, not_true_eq_false, not_false_eq_true, qn_lt0, qn_ge0, qn_lt, qn_le, qn_eq, qn_e0, qn_gt0, qn_le0, qn_m1, nI_add, pk_mul, qb_e0, Classical.not_not, e0, e5, Nat.le_refl]
        exact hin
      · rw [show qF_d nk i (qF_pd nk pm T ni fs hd na (I (u + 1)) i).1 = qF_pas (qF_pd nk pm T ni fs hd na (I (u + 1)) i).1 nk from if_neg hi0] at hin
        have e4 := qt_passes (d := d + 16) (I := I) (n := n) (z := z) hM' hC p1 (by omega)
        have e5 := had (d) _ _ (qv_S_pas p1 k10) (by omega)
        rw [qr_215_51]
        simp (disch := first | assumption | omega | exact Or.inl rfl | exact Or.inr rfl | exact qb_01) only [qr_215_0, qr_215_1, qr_215_2, qr_215_4, qr_215_7, qr_215_10, qr_215_11, qr_215_12, qr_215_14, qr_215_17, qr_215_20, qr_215_21, qr_215_22, qr_215_23, qr_215_26, qr_215_29, qr_215_31, qr_215_32, qr_215_33, qr_215_36, qr_215_37, qr_215_40, qr_215_42, qr_215_45, qr_215_46, qr_215_48, qr_215_49, qr_215_53, qr_215_54, qr_215_57, qr_215_59, qr_215_62, qr_215_63, qr_215_66, qr_215_67, qr_215_68, qr_215_71, qr_215_73, qr_215_74, qr_215_78, qr_215_79, qr_215_82, qr_215_84, qr_215_87, qr_215_88, qr_215_90, qr_215_91, qr_215_94, qr_215_97, qr_215_98, qr_215_99, qr_215_102, qr_215_104, qr_215_107, qr_215_110, qr_215_113, qr_215_116, qr_215_117, qr_215_120, qr_215_122, qr_215_125, qr_215_126, qr_215_127, qr_215_130, qr_215_131, qr_215_134, qr_215_137, qr_215_138, qr_215_141, qr_215_144, qr_215_146, qr_215_147, qr_215_150, qr_215_151, qr_215_154, qr_215_156, qr_215_159, qr_215_161, true_and, and_true, false_and, and_false, Option.bind_some, Option.toList_some, Option.toList_none, List.nil_append, List.cons_append, if_true, if_false, ite_true, ite_false, not_true_eq_false, not_false_eq_true, qn_lt0, qn_ge0, qn_lt, qn_le, qn_eq, qn_e0, qn_gt0, qn_le0, qn_m1, nI_add, pk_mul, qb_e0, Classical.not_not, e0, hi0, e4, e5]
        exact hin
  have e1 := qm_aside (d := d + 18) (I := I) (n := n) (z := z) hM' hZ hZa
  have e2 := loop j 0 (by omega) qa_u qa_u
  rw [show (qF_pd nk pm T ni fs hd na (I (u + 1)) 0).1 = I (u + 1) from rfl, qm_start] at e2
  have g1 : ¬ j < 1 := by omega
  have g2 : ¬ 30 < j := by omega
  have g3 : ¬ na < 1 := by omega
  have g4 : ¬ 12 < na := by omega
  have g5 : ¬ 2 < w := by omega
  simp (disch := first | assumption | omega | exact Or.inl rfl | exact Or.inr rfl | exact qb_01) only [qe_215, qr_215_0, qr_215_1, qr_215_2, qr_215_4, qr_215_7, qr_215_10, qr_215_11, qr_215_12, qr_215_14, qr_215_17, qr_215_20, qr_215_21, qr_215_22, qr_215_23, qr_215_26, qr_215_29, qr_215_31, qr_215_32, qr_215_33, qr_215_36, qr_215_37, qr_215_40, qr_215_42, qr_215_45, qr_215_46, qr_215_48, qr_215_49, qr_215_53, qr_215_54, qr_215_57, qr_215_59, qr_215_62, qr_215_63, qr_215_66, qr_215_67, qr_215_68, qr_215_71, qr_215_73, qr_215_74, qr_215_78, qr_215_79, qr_215_82, qr_215_84, qr_215_87, qr_215_88, qr_215_90, qr_215_91, qr_215_94, qr_215_97, qr_215_98, qr_215_99, qr_215_102, qr_215_104, qr_215_107, qr_215_110, qr_215_113, qr_215_116, qr_215_117, qr_215_120, qr_215_122, qr_215_125, qr_215_126, qr_215_127, qr_215_130, qr_215_131, qr_215_134, qr_215_137, qr_215_138, qr_215_141, qr_215_144, qr_215_146, qr_215_147, qr_215_150, qr_215_151, qr_215_154, qr_215_156, qr_215_159, qr_215_161, true_and, and_true, false_and, and_false, Option.bind_some, Option.toList_some, Option.toList_none, List.nil_append, List.cons_append, if_true, if_false, ite_true, ite_false, not_true_eq_false, not_false_eq_true, qn_lt0, qn_ge0, qn_lt, qn_le, qn_eq, qn_e0, qn_gt0, qn_le0, qn_m1, nI_add, pk_mul, qb_e0, Classical.not_not, Nat.reduceEqDiff, Nat.reduceLT, Nat.reduceLeDiff, Nat.not_lt_zero, Nat.zero_le, qs_MO_isIn, g1, g2, g3, g4, g5, s3, a3, e1]
  exact e2
def qp_EX (K : Nat → Nat × Nat) (R : Nat → Nat → Option Nat) (e : Nat) : Prop := K e = (3, 0) ∧ (K (e + 1)).1 = 100 ∧ (K (e + 1)).2 = 11 ∧ (K (e + 2)).1 = 100 ∧ (K (e + 2)).2 = 11 ∧ R e 0 = some (e + 1) ∧ R e 1 = some (e + 2)
/-- an explanation's levels: a row with one more -/
def qw_E (I : Nat → Nat → Int32) (e o1 o2 f : Nat) (lv : Nat) (x y : Int32) : Nat → Nat → Int32 := va_up (va_up (va_up I (e + o1) (va_up (I (e + o1)) lv x)) (e + o2) (va_up (I (e + o2)) lv y)) e (va_up (I e) f (nI (lv + 1)))
theorem qs_EX_add (hE : qp_EX K R e) (hl : I e 2 = nI lv) (h11 : lv < 11) : qa_ex (d + 1) 129 [qa_a (some e), qa_i x, qa_i y] (K, I, R, n, z) = some (none, (K, qw_E I e 1 2 2 lv x y, R, n, z)) := by
  obtain ⟨e0, e1, e2, e3, e4, e5, e6⟩ := hE
  have g : ¬ 11 ≤ lv := by omega
  simp (disch := first | assumption | omega | exact Or.inl rfl | exact Or.inr rfl | exact qb_01) only [qe_129, qr_129_0, qr_129_1, qr_129_4, qr_129_5, qr_129_8, qr_129_9, qr_129_12, qr_129_13, qr_129_16, qr_129_17, qr_129_20, qr_129_21, qr_129_24, qr_129_25, qr_129_28, qr_129_29, qr_129_32, qr_129_33, qr_129_34, qr_129_35, qr_129_38, qr_129_39, qr_129_42, qr_129_43, qr_129_44, qr_129_45, qr_129_46, qr_129_49, qr_129_50, qr_129_51, qr_129_54, true_and, and_true, false_and, and_false, Option.bind_some, Option.toList_some, Option.toList_none, List.nil_append, List.cons_append, if_true, if_false, ite_true, ite_false, not_true_eq_false, not_false_eq_true, qn_lt0, qn_ge0, qn_lt, qn_le, qn_eq, qn_e0, qn_gt0, qn_le0, qn_m1, nI_add, pk_mul, qb_e0, Classical.not_not, qa_up_s, qa_up_n, qa_uu, hl, e2, e4, e5, e6, g]
  rfl
theorem qs_MO_tells (hM : qp_MO K R u) (hl : I u 20 = nI lv) (h12 : lv < 12) : qa_ex (d + 1) 221 [qa_a (some u), qa_i x, qa_i y] (K, I, R, n, z) = some (none, (K, qw_E I u 12 13 20 lv x y, R, n, z)) := by
  obtain ⟨m0, -, -, -, -, -, -, -, -, -, -, -, ⟨o1, o2, o3⟩, ⟨n1, n2, n3⟩, -⟩ := hM
  simp (disch := first | assumption | omega | exact Or.inl rfl | exact Or.inr rfl | exact qb_01) only [qe_221, qr_221_0, qr_221_1, qr_221_4, qr_221_5, qr_221_8, qr_221_9, qr_221_10, qr_221_11, qr_221_14, qr_221_15, qr_221_18, qr_221_19, qr_221_20, qr_221_21, qr_221_22, qr_221_25, qr_221_26, qr_221_27, qr_221_30, true_and, and_true, false_and, and_false, Option.bind_some, Option.toList_some, Option.toList_none, List.nil_append, List.cons_append, if_true, if_false, ite_true, ite_false, not_true_eq_false, not_false_eq_true, qn_lt0, qn_ge0, qn_lt, qn_le, qn_eq, qn_e0, qn_gt0, qn_le0, qn_m1, nI_add, pk_mul, qb_e0, Classical.not_not, qa_up_s, qa_up_n, qa_uu, hl, o3, n3]
  rfl
end Q56
