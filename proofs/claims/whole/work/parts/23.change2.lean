/-! What changes a Progress, continued: answers, copies, clearing. -/
def qF_zer : Nat → Int32 := fun i => if i = 0 then nI 0 else if i < 91 then qf_zer ((i - 1) % 9) else if (i - 91) % 3 = 2 then (-1) else nI 0
section Q23
variable {d a b : Nat} {K : Nat → Nat × Nat} {I : Nat → Nat → Int32} {R : Nat → Nat → Option Nat} {n z : Nat} {x y : Int32} {h : qa_H} {p c q nk ni k i e : Nat} {ps rq s : Nat → Int32} {fs hd : Nat → Nat}
theorem qs_PR_takeAnswer (hP : qp_PR K R p c) (hC : qw_C K I R c q nk ps rq ni fs hd) (hs : qz_sep p c q) (hS : qp_PS I p s) (hi : i < ni) {r : Nat} (hr : r = 0 ∨ r = 1) : ∃ I', qa_ex (d + 4) 58 [qa_a (some p), qa_i (nI i), qa_i (nI r)] (K, I, R, n, z) = some (none, (K, I', R, n, z)) ∧ qz_fr p 16 I I' ∧ qp_PS I' p (qF_ans nk ps rq r (fs i) i s) := by
  have p0 := hP.1
  have r0 := hP.2.2.2.2.2.2.2.2.2.2.1
  have hst := hP.2.2.2.2.2.2.2.2.2.2.2.2.2.2.2.2
  have h10 := hC.2.2.2.2.1
  have h12 := hC.2.2.2.2.2.2.2.1
  have c7 := hC.1.2.2.2.2.2.2.2
  have loop : ∀ (mb rk : Int32) (s1 : Nat → Int32) (j o : Nat) (I : Nat → Nat → Int32) (v3 l7 : qa_V), o + j = nk → qw_C K I R c q nk ps rq ni fs hd → qp_PS I p (qF_anl r rk mb s1 o) → ∃ I', qa_run (d + 3) 58 56 [qa_a (some p), qa_i (nI i), qa_i (nI r), v3, qa_i mb, qa_i rk, qa_i (nI o), l7] [] [] (K, I, R, n, z) = some (none, (K, I', R, n, z)) ∧ qz_fr p 16 I I' ∧ qp_PS I' p (qF_cnt r i (qF_anl r rk mb s1 nk)) := by
    intro mb rk s1 j
    induction j with
    | zero =>
      intro o I v3 l7 hk hC hS
      have c0 := hC.1.1
      have hk : o = nk := by omega
      subst hk
      obtain ⟨I', g1, g2, g3⟩ := qs_PR_countAnswer (d := d + 2) (n := n) (z := z) hP hS (show i < 12 by omega) hr
      refine ⟨I', ?_, g2, g3⟩
      rw [qr_58_56]
      simp (disch := first | assumption | omega | exact Or.inl rfl | exact Or.inr rfl | exact qb_01) only [qr_58_0, qr_58_1, qr_58_4, qr_58_5, qr_58_8, qr_58_11, qr_58_12, qr_58_13, qr_58_16, qr_58_17, qr_58_20, qr_58_21, qr_58_22, qr_58_25, qr_58_27, qr_58_28, qr_58_29, qr_58_32, qr_58_33, qr_58_36, qr_58_37, qr_58_40, qr_58_41, qr_58_44, qr_58_47, qr_58_48, qr_58_51, qr_58_53, qr_58_54, qr_58_58, qr_58_59, qr_58_62, qr_58_65, qr_58_68, qr_58_70, qr_58_72, qr_58_73, qr_58_74, qr_58_75, qr_58_76, qr_58_79, qr_58_80, qr_58_83, qr_58_84, qr_58_86, qr_58_88, qr_58_91, qr_58_92, qr_58_95, qr_58_96, qr_58_98, qr_58_101, qr_58_102, qr_58_105, qr_58_108, qr_58_110, qr_58_113, qr_58_115, qr_58_117, qr_58_118, qr_58_119, qr_58_120, qr_58_123, qr_58_124, qr_58_126, qr_58_129, qr_58_130, qr_58_133, qr_58_136, qr_58_139, qr_58_140, qr_58_141, qr_58_142, qr_58_145, true_and, and_true, false_and, and_false, Option.bind_some, Option.toList_some, Option.toList_none, List.nil_append, List.cons_append, if_true, if_false, ite_true, ite_false, not_true_eq_false, not_false_eq_true, qn_lt0, qn_ge0, qn_lt, qn_le, qn_eq, qn_e0, qn_gt0, qn_le0, qn_m1, nI_add, pk_mul, qb_e0, Classical.not_not, r0, qs_CO_skills hC, Nat.le_refl, g1]
    | succ j ih =>
      intro o I v3 l7 hk hC hS
      have c0 := hC.1.1
      have e1 : ¬ nk ≤ o := by omega
      have hk10 : o < 10 := by omega
      have hs1 := (hst o hk10).1
      by_cases hb : (rk >>> (nI o &&& 31)) &&& nI 1 = nI 1
      · rcases hr with rfl | rfl
        · by_cases hm : (mb >>> (nI o &&& 31)) &&& nI 1 = 0
          · have hfr : qz_fr p 16 I (va_up I (p + 6 + o) (qf_giv 1 (I (p + 6 + o)) (nI 4))) := qz_fr_u (by omega) (by omega)
            have hF : qF_anl 0 rk mb s1 (o + 1) = qs_put (qF_anl 0 rk mb s1 o) o (qf_giv 1 (qs_sk (qF_anl 0 rk mb s1 o) o) (nI 4)) := by
              show qF_an1 0 rk mb (qF_anl 0 rk mb s1 o) o = _
              unfold qF_an1
              rw [if_pos hb, if_neg (by omega), if_pos hm]
            obtain ⟨I', g1, g2, g3⟩ := ih (o + 1) (va_up I (p + 6 + o) (qf_giv 1 (I (p + 6 + o)) (nI 4))) v3 (qa_i (nI 1)) (by omega) (qw_C_fr hC hfr hs) (by rw [hF]; exact qp_PS_sk hS hk10 (fun j hj => qf_giv_c (by omega) (fun j hj => hS.2.1 o j hk10 hj) hj))
            refine ⟨I', ?_, qz_fr_t hfr g2, g3⟩
            rw [qr_58_56]
            simp (disch := first | assumption | omega | exact Or.inl rfl | exact Or.inr rfl | exact qb_01) only [qr_58_0, qr_58_1, qr_58_4, qr_58_5, qr_58_8, qr_58_11, qr_58_12, qr_58_13, qr_58_16, qr_58_17, qr_58_20, qr_58_21, qr_58_22, qr_58_25, qr_58_27, qr_58_28, qr_58_29, qr_58_32, qr_58_33, qr_58_36, qr_58_37, qr_58_40, qr_58_41, qr_58_44, qr_58_47, qr_58_48, qr_58_51, qr_58_53, qr_58_54, qr_58_58, qr_58_59, qr_58_62, qr_58_65, qr_58_68, qr_58_70, qr_58_72, qr_58_73, qr_58_74, qr_58_75, qr_58_76, qr_58_79, qr_58_80, qr_58_83, qr_58_84, qr_58_86, qr_58_88, qr_58_91, qr_58_92, qr_58_95, qr_58_96, qr_58_98, qr_58_101, qr_58_102, qr_58_105, qr_58_108, qr_58_110, qr_58_113, qr_58_115, qr_58_117, qr_58_118, qr_58_119, qr_58_120, qr_58_123, qr_58_124, qr_58_126, qr_58_129, qr_58_130, qr_58_133, qr_58_136, qr_58_139, qr_58_140, qr_58_141, qr_58_142, qr_58_145, true_and, and_true, false_and, and_false, Option.bind_some, Option.toList_some, Option.toList_none, List.nil_append, List.cons_append, if_true, if_false, ite_true, ite_false, not_true_eq_false, not_false_eq_true, qn_lt0, qn_ge0, qn_lt, qn_le, qn_eq, qn_e0, qn_gt0, qn_le0, qn_m1, nI_add, pk_mul, qb_e0, Classical.not_not, r0, qs_CO_skills hC, e1, hb, hm, qs_PR_stateOf hP hk10, qs_SS_addAgainst hs1, g1, Nat.one_ne_zero]
          · have hF : qF_anl 0 rk mb s1 (o + 1) = qF_anl 0 rk mb s1 o := by
              show qF_an1 0 rk mb (qF_anl 0 rk mb s1 o) o = _
              unfold qF_an1
              rw [if_pos hb, if_neg (by omega), if_neg hm]
            obtain ⟨I', g1, g2, g3⟩ := ih (o + 1) I v3 (qa_i (nI 1)) (by omega) hC (by rw [hF]; exact hS)
            refine ⟨I', ?_, g2, g3⟩
            rw [qr_58_56]
            simp (disch := first | assumption | omega | exact Or.inl rfl | exact Or.inr rfl | exact qb_01) only [qr_58_0, qr_58_1, qr_58_4, qr_58_5, qr_58_8, qr_58_11, qr_58_12, qr_58_13, qr_58_16, qr_58_17, qr_58_20, qr_58_21, qr_58_22, qr_58_25, qr_58_27, qr_58_28, qr_58_29, qr_58_32, qr_58_33, qr_58_36, qr_58_37, qr_58_40, qr_58_41, qr_58_44, qr_58_47, qr_58_48, qr_58_51, qr_58_53, qr_58_54, qr_58_58, qr_58_59, qr_58_62, qr_58_65, qr_58_68, qr_58_70, qr_58_72, qr_58_73, qr_58_74, qr_58_75, qr_58_76, qr_58_79, qr_58_80, qr_58_83, qr_58_84, qr_58_86, qr_58_88, qr_58_91, qr_58_92, qr_58_95, qr_58_96, qr_58_98, qr_58_101, qr_58_102, qr_58_105, qr_58_108, qr_58_110, qr_58_113, qr_58_115, qr_58_117, qr_58_118, qr_58_119, qr_58_120, qr_58_123, qr_58_124, qr_58_126, qr_58_129, qr_58_130, qr_58_133, qr_58_136, qr_58_139, qr_58_140, qr_58_141, qr_58_142, qr_58_145, true_and, and_true, false_and, and_false, Option.bind_some, Option.toList_some, Option.toList_none, List.nil_append, List.cons_append, if_true, if_false, ite_true, ite_false, not_true_eq_false, not_false_eq_true, qn_lt0, qn_ge0, qn_lt, qn_le, qn_eq, qn_e0, qn_gt0, qn_le0, qn_m1, nI_add, pk_mul, qb_e0, Classical.not_not, r0, qs_CO_skills hC, e1, hb, hm, g1, Nat.one_ne_zero]
        · have hfr : qz_fr p 16 I (va_up I (p + 6 + o) (qf_giv 0 (I (p + 6 + o)) (nI 4))) := qz_fr_u (by omega) (by omega)
          have hF : qF_anl 1 rk mb s1 (o + 1) = qs_put (qF_anl 1 rk mb s1 o) o (qf_giv 0 (qs_sk (qF_anl 1 rk mb s1 o) o) (nI 4)) := by
            show qF_an1 1 rk mb (qF_anl 1 rk mb s1 o) o = _
            unfold qF_an1
            rw [if_pos hb, if_pos rfl]
          obtain ⟨I', g1, g2, g3⟩ := ih (o + 1) (va_up I (p + 6 + o) (qf_giv 0 (I (p + 6 + o)) (nI 4))) v3 (qa_i (nI 1)) (by omega) (qw_C_fr hC hfr hs) (by rw [hF]; exact qp_PS_sk hS hk10 (fun j hj => qf_giv_c (by omega) (fun j hj => hS.2.1 o j hk10 hj) hj))
          refine ⟨I', ?_, qz_fr_t hfr g2, g3⟩
          rw [qr_58_56]
          simp (disch := first | assumption | omega | exact Or.inl rfl | exact Or.inr rfl | exact qb_01) only [qr_58_0, qr_58_1, qr_58_4, qr_58_5, qr_58_8, qr_58_11, qr_58_12, qr_58_13, qr_58_16, qr_58_17, qr_58_20, qr_58_21, qr_58_22, qr_58_25, qr_58_27, qr_58_28, qr_58_29, qr_58_32, qr_58_33, qr_58_36, qr_58_37, qr_58_40, qr_58_41, qr_58_44, qr_58_47, qr_58_48, qr_58_51, qr_58_53, qr_58_54, qr_58_58, qr_58_59, qr_58_62, qr_58_65, qr_58_68, qr_58_70, qr_58_72, qr_58_73, qr_58_74, qr_58_75, qr_58_76, qr_58_79, qr_58_80, qr_58_83, qr_58_84, qr_58_86, qr_58_88, qr_58_91, qr_58_92, qr_58_95, qr_58_96, qr_58_98, qr_58_101, qr_58_102, qr_58_105, qr_58_108, qr_58_110, qr_58_113, qr_58_115, qr_58_117, qr_58_118, qr_58_119, qr_58_120, qr_58_123, qr_58_124, qr_58_126, qr_58_129, qr_58_130, qr_58_133, qr_58_136, qr_58_139, qr_58_140, qr_58_141, qr_58_142, qr_58_145, true_and, and_true, false_and, and_false, Option.bind_some, Option.toList_some, Option.toList_none, List.nil_append, List.cons_append, if_true, if_false, ite_true, ite_false, not_true_eq_false, not_false_eq_true, qn_lt0, qn_ge0, qn_lt, qn_le, qn_eq, qn_e0, qn_gt0, qn_le0, qn_m1, nI_add, pk_mul, qb_e0, Classical.not_not, r0, qs_CO_skills hC, e1, hb, qs_PR_stateOf hP hk10, qs_SS_addFor hs1, g1, Nat.one_ne_zero]
      · have hF : qF_anl r rk mb s1 (o + 1) = qF_anl r rk mb s1 o := by
          show qF_an1 r rk mb (qF_anl r rk mb s1 o) o = _
          unfold qF_an1
          rw [if_neg hb]
        obtain ⟨I', g1, g2, g3⟩ := ih (o + 1) I v3 (qa_i (nI 0)) (by omega) hC (by rw [hF]; exact hS)
        refine ⟨I', ?_, g2, g3⟩
        rw [qr_58_56]
        simp (disch := first | assumption | omega | exact Or.inl rfl | exact Or.inr rfl | exact qb_01) only [qr_58_0, qr_58_1, qr_58_4, qr_58_5, qr_58_8, qr_58_11, qr_58_12, qr_58_13, qr_58_16, qr_58_17, qr_58_20, qr_58_21, qr_58_22, qr_58_25, qr_58_27, qr_58_28, qr_58_29, qr_58_32, qr_58_33, qr_58_36, qr_58_37, qr_58_40, qr_58_41, qr_58_44, qr_58_47, qr_58_48, qr_58_51, qr_58_53, qr_58_54, qr_58_58, qr_58_59, qr_58_62, qr_58_65, qr_58_68, qr_58_70, qr_58_72, qr_58_73, qr_58_74, qr_58_75, qr_58_76, qr_58_79, qr_58_80, qr_58_83, qr_58_84, qr_58_86, qr_58_88, qr_58_91, qr_58_92, qr_58_95, qr_58_96, qr_58_98, qr_58_101, qr_58_102, qr_58_105, qr_58_108, qr_58_110, qr_58_113, qr_58_115, qr_58_117, qr_58_118, qr_58_119, qr_58_120, qr_58_123, qr_58_124, qr_58_126, qr_58_129, qr_58_130, qr_58_133, qr_58_136, qr_58_139, qr_58_140, qr_58_141, qr_58_142, qr_58_145, true_and, and_true, false_and, and_false, Option.bind_some, Option.toList_some, Option.toList_none, List.nil_append, List.cons_append, if_true, if_false, ite_true, ite_false, not_true_eq_false, not_false_eq_true, qn_lt0, qn_ge0, qn_lt, qn_le, qn_eq, qn_e0, qn_gt0, qn_le0, qn_m1, nI_add, pk_mul, qb_e0, Classical.not_not, r0, qs_CO_skills hC, e1, hb, g1]
  have hf10 : fs i < 10 := by have := (hC.2.2.2.2.2.2.2.2 i hi).2.2.1; omega
  have hfn : fs i < nk := (hC.2.2.2.2.2.2.2.2 i hi).2.2.1
  have hs1 := (hst _ hf10).1
  have e2 : ¬ ni ≤ i := by omega
  have c0 := hC.1.1
  have u0 := hC.2.1.1
  have hrqv := (hC.2.2.2.2.2.1 _ hfn).2
  have hmb : qf_ms (fun k => qf_mst (I (p + 6 + k) 0) (I (p + 6 + k) 1) (ps k)) nk = qF_mb nk ps s := qf_ms_c (fun k hk => by rw [hS.2.1 k 0 (by omega) (by omega), hS.2.1 k 1 (by omega) (by omega)])
  rcases hr with rfl | rfl
  · have hfr : qz_fr p 16 I (va_up I (p + 6 + fs i) (qf_pr0 (I (p + 6 + fs i)) (I p 6))) := qz_fr_u (by omega) (by omega)
    have hC1 := qw_C_fr hC hfr hs
    obtain ⟨I', g1, g2, g3⟩ := loop (qF_mb nk ps s) (rq (fs i)) _ nk 0 (va_up I (p + 6 + fs i) (qf_pr0 (I (p + 6 + fs i)) (I p 6))) (qa_i (nI (fs i))) qa_u (by omega) hC1 (qp_PS_sk (g := qf_pr0 (qs_sk s (fs i)) (s 0)) hS hf10 (fun j hj => by rw [hS.1]; exact qf_pr0_c (fun j hj => hS.2.1 _ j hf10 hj) hj))
    refine ⟨I', ?_, qz_fr_t hfr g2, g3⟩
    simp (disch := first | assumption | omega | exact Or.inl rfl | exact Or.inr rfl | exact qb_01) only [qe_58, qr_58_0, qr_58_1, qr_58_4, qr_58_5, qr_58_8, qr_58_11, qr_58_12, qr_58_13, qr_58_16, qr_58_17, qr_58_20, qr_58_21, qr_58_22, qr_58_25, qr_58_27, qr_58_28, qr_58_29, qr_58_32, qr_58_33, qr_58_36, qr_58_37, qr_58_40, qr_58_41, qr_58_44, qr_58_47, qr_58_48, qr_58_51, qr_58_53, qr_58_54, qr_58_58, qr_58_59, qr_58_62, qr_58_65, qr_58_68, qr_58_70, qr_58_72, qr_58_73, qr_58_74, qr_58_75, qr_58_76, qr_58_79, qr_58_80, qr_58_83, qr_58_84, qr_58_86, qr_58_88, qr_58_91, qr_58_92, qr_58_95, qr_58_96, qr_58_98, qr_58_101, qr_58_102, qr_58_105, qr_58_108, qr_58_110, qr_58_113, qr_58_115, qr_58_117, qr_58_118, qr_58_119, qr_58_120, qr_58_123, qr_58_124, qr_58_126, qr_58_129, qr_58_130, qr_58_133, qr_58_136, qr_58_139, qr_58_140, qr_58_141, qr_58_142, qr_58_145, true_and, and_true, false_and, and_false, Option.bind_some, Option.toList_some, Option.toList_none, List.nil_append, List.cons_append, if_true, if_false, ite_true, ite_false, not_true_eq_false, not_false_eq_true, qn_lt0, qn_ge0, qn_lt, qn_le, qn_eq, qn_e0, qn_gt0, qn_le0, qn_m1, nI_add, pk_mul, qb_e0, Classical.not_not, r0, c7, qs_CO_hasItem c0 hC.2.2.2.2.2.2.1, e2, qs_CO_skillOf hC hi, qs_PR_masteredSkills hP hC, hmb, qs_PR_stateOf hP hf10, qs_SS_practise0 hs1, qs_CO_curriculum, qs_CU_requiredSkills hC1.2.1 hC1.2.2.1 h10 hfn, (hC1.2.2.2.2.2.1 _ hfn).2, g1]
  · have hfr : qz_fr p 16 I (va_up I (p + 6 + fs i) (qf_pr1 (I (p + 6 + fs i)) (I p 6))) := qz_fr_u (by omega) (by omega)
    have hC1 := qw_C_fr hC hfr hs
    obtain ⟨I', g1, g2, g3⟩ := loop (qF_mb nk ps s) (rq (fs i)) _ nk 0 (va_up I (p + 6 + fs i) (qf_pr1 (I (p + 6 + fs i)) (I p 6))) (qa_i (nI (fs i))) qa_u (by omega) hC1 (qp_PS_sk (g := qf_pr1 (qs_sk s (fs i)) (s 0)) hS hf10 (fun j hj => by rw [hS.1]; exact qf_pr1_c (fun j hj => hS.2.1 _ j hf10 hj) hj))
    refine ⟨I', ?_, qz_fr_t hfr g2, g3⟩
    simp (disch := first | assumption | omega | exact Or.inl rfl | exact Or.inr rfl | exact qb_01) only [qe_58, qr_58_0, qr_58_1, qr_58_4, qr_58_5, qr_58_8, qr_58_11, qr_58_12, qr_58_13, qr_58_16, qr_58_17, qr_58_20, qr_58_21, qr_58_22, qr_58_25, qr_58_27, qr_58_28, qr_58_29, qr_58_32, qr_58_33, qr_58_36, qr_58_37, qr_58_40, qr_58_41, qr_58_44, qr_58_47, qr_58_48, qr_58_51, qr_58_53, qr_58_54, qr_58_58, qr_58_59, qr_58_62, qr_58_65, qr_58_68, qr_58_70, qr_58_72, qr_58_73, qr_58_74, qr_58_75, qr_58_76, qr_58_79, qr_58_80, qr_58_83, qr_58_84, qr_58_86, qr_58_88, qr_58_91, qr_58_92, qr_58_95, qr_58_96, qr_58_98, qr_58_101, qr_58_102, qr_58_105, qr_58_108, qr_58_110, qr_58_113, qr_58_115, qr_58_117, qr_58_118, qr_58_119, qr_58_120, qr_58_123, qr_58_124, qr_58_126, qr_58_129, qr_58_130, qr_58_133, qr_58_136, qr_58_139, qr_58_140, qr_58_141, qr_58_142, qr_58_145, true_and, and_true, false_and, and_false, Option.bind_some, Option.toList_some, Option.toList_none, List.nil_append, List.cons_append, if_true, if_false, ite_true, ite_false, not_true_eq_false, not_false_eq_true, qn_lt0, qn_ge0, qn_lt, qn_le, qn_eq, qn_e0, qn_gt0, qn_le0, qn_m1, nI_add, pk_mul, qb_e0, Classical.not_not, r0, c7, qs_CO_hasItem c0 hC.2.2.2.2.2.2.1, e2, qs_CO_skillOf hC hi, qs_PR_masteredSkills hP hC, hmb, qs_PR_stateOf hP hf10, qs_SS_practise1 hs1, qs_CO_curriculum, qs_CU_requiredSkills hC1.2.1 hC1.2.2.1 h10 hfn, (hC1.2.2.2.2.2.1 _ hfn).2, g1]
theorem qs_PR_takeNone (hP : qp_PR K R p c) (hC : qw_C K I R c q nk ps rq ni fs hd) : qa_ex (d + 4) 58 [qa_a (some p), qa_i (-1), qa_i x] (K, I, R, n, z) = some (none, (K, I, R, n, z)) := by
  have p0 := hP.1
  have r0 := hP.2.2.2.2.2.2.2.2.2.2.1
  have c0 := hC.1.1
  have e1 : ((-1 : Int32) < 0) = True := by decide
  simp (disch := first | assumption | omega | exact Or.inl rfl | exact Or.inr rfl | exact qb_01) only [qe_58, qr_58_0, qr_58_1, qr_58_4, qr_58_5, qr_58_8, qr_58_11, qr_58_12, qr_58_13, qr_58_16, qr_58_17, qr_58_20, qr_58_21, qr_58_22, qr_58_25, qr_58_27, qr_58_28, qr_58_29, qr_58_32, qr_58_33, qr_58_36, qr_58_37, qr_58_40, qr_58_41, qr_58_44, qr_58_47, qr_58_48, qr_58_51, qr_58_53, qr_58_54, qr_58_58, qr_58_59, qr_58_62, qr_58_65, qr_58_68, qr_58_70, qr_58_72, qr_58_73, qr_58_74, qr_58_75, qr_58_76, qr_58_79, qr_58_80, qr_58_83, qr_58_84, qr_58_86, qr_58_88, qr_58_91, qr_58_92, qr_58_95, qr_58_96, qr_58_98, qr_58_101, qr_58_102, qr_58_105, qr_58_108, qr_58_110, qr_58_113, qr_58_115, qr_58_117, qr_58_118, qr_58_119, qr_58_120, qr_58_123, qr_58_124, qr_58_126, qr_58_129, qr_58_130, qr_58_133, qr_58_136, qr_58_139, qr_58_140, qr_58_141, qr_58_142, qr_58_145, true_and, and_true, false_and, and_false, Option.bind_some, Option.toList_some, Option.toList_none, List.nil_append, List.cons_append, if_true, if_false, ite_true, ite_false, not_true_eq_false, not_false_eq_true, qn_lt0, qn_ge0, qn_lt, qn_le, qn_eq, qn_e0, qn_gt0, qn_le0, qn_m1, nI_add, pk_mul, qb_e0, Classical.not_not, r0, qs_CO_hasItem c0 hC.2.2.2.2.2.2.1, e1]
theorem qs_PR_copyFrom (hP : qp_PR K R p c) (hP2 : qp_PR K R b e) (hpb : b + 16 ≤ p ∨ p + 16 ≤ b) (hS : qp_PS I b s) : ∃ I', qa_ex (d + 2) 41 [qa_a (some p), qa_a (some b)] (K, I, R, n, z) = some (none, (K, I', R, n, z)) ∧ qz_fr p 16 I I' ∧ qp_PS I' p s := by
  obtain ⟨p0, p1, p2, p3, p4, p5, p6, p7, p8, p9, r0, r1, r2, r3, r4, r5, hst⟩ := hP
  obtain ⟨b0, b1, b2, b3, b4, b5, b6, b7, b8, b9, t0, t1, t2, t3, t4, t5, hst2⟩ := hP2
  have loop : ∀ j k I, k + j = 10 → qp_PS I b s → I p 6 = s 0 → (∀ k' j, k' < k → j < 9 → I (p + 6 + k') j = s (1 + 9 * k' + j)) → ∃ I', qa_run (d + 1) 41 10 [qa_a (some p), qa_a (some b), qa_i (nI k)] [] [] (K, I, R, n, z) = some (none, (K, I', R, n, z)) ∧ qz_fr p 16 I I' ∧ qp_PS I' p s := by
    intro j
    induction j with
    | zero =>
      intro k I hk hS h6 hd
      have hk : k = 10 := by omega
      subst hk
      rw [qr_41_10]
      simp (disch := first | assumption | omega | exact Or.inl rfl | exact Or.inr rfl | exact qb_01) only [qr_41_0, qr_41_1, qr_41_2, qr_41_5, qr_41_8, qr_41_9, qr_41_11, qr_41_13, qr_41_16, qr_41_17, qr_41_20, qr_41_21, qr_41_22, qr_41_23, qr_41_26, qr_41_27, qr_41_28, qr_41_31, qr_41_34, qr_41_37, qr_41_38, qr_41_41, qr_41_42, qr_41_43, qr_41_46, qr_41_47, qr_41_49, qr_41_52, qr_41_53, qr_41_56, qr_41_57, qr_41_58, qr_41_61, qr_41_62, qr_41_64, qr_41_67, qr_41_68, qr_41_71, qr_41_72, qr_41_73, qr_41_76, qr_41_77, qr_41_79, qr_41_82, true_and, and_true, false_and, and_false, Option.bind_some, Option.toList_some, Option.toList_none, List.nil_append, List.cons_append, if_true, if_false, ite_true, ite_false, not_true_eq_false, not_false_eq_true, qn_lt0, qn_ge0, qn_lt, qn_le, qn_eq, qn_e0, qn_gt0, qn_le0, qn_m1, nI_add, pk_mul, qb_e0, Classical.not_not, r2, r3, r4, t2, t3, t4, Nat.le_refl, Nat.zero_add]
      refine ⟨_, rfl, ?_, ?_⟩
      · exact qz_fr_t (qz_fr_u (by omega) (by omega)) (qz_fr_t (qz_fr_u (by omega) (by omega)) (qz_fr_u (by omega) (by omega)))
      · refine ⟨?_, fun k' j hk' hj => ?_, fun i hi => ?_⟩
        · rw [qa_up_n _ _ (by omega), qa_up_n _ _ (by omega), qa_up_n _ _ (by omega)]; exact h6
        · rw [qa_up_n _ _ (by omega), qa_up_n _ _ (by omega), qa_up_n _ _ (by omega)]; exact hd k' j hk' hj
        · obtain ⟨g1, g2, g3⟩ := hS.2.2 i hi
          refine ⟨?_, ?_, ?_⟩
          · rw [qa_up_n _ _ (by omega), qa_up_n _ _ (by omega), qa_up_s, pk_cpy_in (by omega) (by omega)]
            simpa using g1
          · rw [qa_up_n _ _ (by omega), qa_up_s, pk_cpy_in (by omega) (by omega), qa_up_n _ _ (by omega)]
            simpa using g2
          · rw [qa_up_s, pk_cpy_in (by omega) (by omega), qa_up_n _ _ (by omega), qa_up_n _ _ (by omega)]
            simpa using g3
    | succ j ih =>
      intro k I hk hS h6 hd
      have hk10 : k < 10 := by omega
      have e1 : ¬ 10 ≤ k := by omega
      obtain ⟨x1, x2⟩ := hst k hk10
      obtain ⟨y1, y2⟩ := hst2 k hk10
      obtain ⟨f, f1, f2⟩ := qs_SS_copyFrom (d := d) (I := I) (R := R) (n := n) (z := z) x1 y1 (by omega)
      have hfr : qz_fr p 16 I (va_up I (p + 6 + k) f) := qz_fr_u (by omega) (by omega)
      have hoff : ∀ a, (b ≤ a ∧ a < b + 16) → va_up I (p + 6 + k) f a = I a := fun a ha => qa_up_n _ _ (by omega)
      obtain ⟨I', g1, g2, g3⟩ := ih (k + 1) (va_up I (p + 6 + k) f) (by omega)
        ⟨by rw [hoff b (by omega)]; exact hS.1, fun k' j hk' hj => by rw [hoff _ (by omega)]; exact hS.2.1 k' j hk' hj, fun i hi => by rw [hoff _ (by omega), hoff _ (by omega), hoff _ (by omega)]; exact hS.2.2 i hi⟩
        (by rw [qa_up_n _ _ (by omega)]; exact h6)
        (fun k' j hk' hj => by
          by_cases e : k' = k
          · subst e
            rw [qa_up_s, f2 j hj]; exact hS.2.1 k' j hk10 hj
          · rw [qa_up_n _ _ (by omega)]; exact hd k' j (by omega) hj)
      refine ⟨I', ?_, qz_fr_t hfr g2, g3⟩
      rw [qr_41_10]
      simp (disch := first | assumption | omega | exact Or.inl rfl | exact Or.inr rfl | exact qb_01) only [qr_41_0, qr_41_1, qr_41_2, qr_41_5, qr_41_8, qr_41_9, qr_41_11, qr_41_13, qr_41_16, qr_41_17, qr_41_20, qr_41_21, qr_41_22, qr_41_23, qr_41_26, qr_41_27, qr_41_28, qr_41_31, qr_41_34, qr_41_37, qr_41_38, qr_41_41, qr_41_42, qr_41_43, qr_41_46, qr_41_47, qr_41_49, qr_41_52, qr_41_53, qr_41_56, qr_41_57, qr_41_58, qr_41_61, qr_41_62, qr_41_64, qr_41_67, qr_41_68, qr_41_71, qr_41_72, qr_41_73, qr_41_76, qr_41_77, qr_41_79, qr_41_82, true_and, and_true, false_and, and_false, Option.bind_some, Option.toList_some, Option.toList_none, List.nil_append, List.cons_append, if_true, if_false, ite_true, ite_false, not_true_eq_false, not_false_eq_true, qn_lt0, qn_ge0, qn_lt, qn_le, qn_eq, qn_e0, qn_gt0, qn_le0, qn_m1, nI_add, pk_mul, qb_e0, Classical.not_not, r1, t1, x2, y2, e1, f1, g1]
  have hfr : qz_fr p 16 I (va_up I p (va_up (I p) 6 (I b 6))) := qz_fr_u (by omega) (by omega)
  have hoff : ∀ a, (b ≤ a ∧ a < b + 16) → va_up I p (va_up (I p) 6 (I b 6)) a = I a := fun a ha => qa_up_n _ _ (by omega)
  obtain ⟨I', g1, g2, g3⟩ := loop 10 0 (va_up I p (va_up (I p) 6 (I b 6))) (by omega)
    ⟨by rw [hoff b (by omega)]; exact hS.1, fun k' j hk' hj => by rw [hoff _ (by omega)]; exact hS.2.1 k' j hk' hj, fun i hi => by rw [hoff _ (by omega), hoff _ (by omega), hoff _ (by omega)]; exact hS.2.2 i hi⟩
    (by rw [qa_up_s, qa_up_s]; exact hS.1) (fun k' j hk' hj => by omega)
  refine ⟨I', ?_, qz_fr_t hfr g2, g3⟩
  simp (disch := first | assumption | omega | exact Or.inl rfl | exact Or.inr rfl | exact qb_01) only [qe_41, qr_41_0, qr_41_1, qr_41_2, qr_41_5, qr_41_8, qr_41_9, qr_41_11, qr_41_13, qr_41_16, qr_41_17, qr_41_20, qr_41_21, qr_41_22, qr_41_23, qr_41_26, qr_41_27, qr_41_28, qr_41_31, qr_41_34, qr_41_37, qr_41_38, qr_41_41, qr_41_42, qr_41_43, qr_41_46, qr_41_47, qr_41_49, qr_41_52, qr_41_53, qr_41_56, qr_41_57, qr_41_58, qr_41_61, qr_41_62, qr_41_64, qr_41_67, qr_41_68, qr_41_71, qr_41_72, qr_41_73, qr_41_76, qr_41_77, qr_41_79, qr_41_82, true_and, and_true, false_and, and_false, Option.bind_some, Option.toList_some, Option.toList_none, List.nil_append, List.cons_append, if_true, if_false, ite_true, ite_false, not_true_eq_false, not_false_eq_true, g1]
end Q23
