/-! What is ready, what blocks: both sides. -/
def qt_rd (g : Nat → Bool) (t : qt_T) : Bool := !qt_ne t || (qt_ev g t).1
def qs_g (s ps : Nat → Int32) (k : Nat) : Bool := qf_mst (s (1 + 9 * k + 0)) (s (1 + 9 * k + 1)) (ps k)
section Q34
variable {d a b f : Nat} {K : Nat → Nat × Nat} {I : Nat → Nat → Int32} {R : Nat → Nat → Option Nat} {n z : Nat} {x y : Nat} {h : qa_H} {u nk ni k i j m B p q c : Nat} {l r : List Nat} {T : Nat → qt_T} {mb : Int32} {ps rq s : Nat → Int32} {fs hd : Nat → Nat}
theorem qt_rd_bit {g : Nat → Bool} (hk : k < nk) (h10 : nk ≤ 10) (hw : qt_wf k (T k)) : qt_rd (qt_bit (qf_ms g nk)) (T k) = qt_rd g (T k) := by
  unfold qt_rd
  rw [qt_ev_congr (m := k) (fun i hi => qt_bit_ms (by omega) h10) hw]
theorem qs_EP_isFulfilledBy {t : qt_T} {o : Option Nat} (hC : qt_C K I R t o) (hd : (qt_dp t).1 ≤ 13) (hne : qt_ne t = true) : qa_ex (d + 15) 96 [qa_a o, qa_i mb] (K, I, R, n, z) = some (some (qa_i (qa_bi ((qt_ev (qt_bit mb) t).1 = true))), (K, I, R, n, z)) := by
  have g := (qs_EP_isFulfilled_all (n := n) (z := z) mb t o hC).1 hne (d + 14) 0 (by omega) (by omega)
  rcases qt_C_o hC with ⟨e, -⟩ | ⟨-, c, rfl, hk2, -⟩
  · rw [hne] at e; cases e
  · simp (disch := first | assumption | omega | exact Or.inl rfl | exact Or.inr rfl | exact qb_01) only [qe_96, qr_96_0, qr_96_1, qr_96_2, qr_96_3, qr_96_6, true_and, and_true, false_and, and_false, Option.bind_some, Option.toList_some, Option.toList_none, List.nil_append, List.cons_append, if_true, if_false, ite_true, ite_false, not_true_eq_false, not_false_eq_true, g]
theorem qs_EP_firstBlocking {t : qt_T} {o : Option Nat} (hC : qt_C K I R t o) (hw : qt_wf 10 t) (hd : (qt_dp t).1 ≤ 13) (hne : qt_ne t = true) (hf : (qt_ev (qt_bit mb) t).1 = false) : qa_ex (d + 16) 132 [qa_a o, qa_i mb] (K, I, R, n, z) = some (some (qa_i (nI (qt_bl (qt_bit mb) t).1)), (K, I, R, n, z)) := by
  have g := (qs_EP_blocking_all (n := n) (z := z) mb t o hC hw).1 hne hf (d + 15) 0 (by omega) (by omega)
  rcases qt_C_o hC with ⟨e, -⟩ | ⟨-, c, rfl, hk2, -⟩
  · rw [hne] at e; cases e
  · simp (disch := first | assumption | omega | exact Or.inl rfl | exact Or.inr rfl | exact qb_01) only [qe_132, qr_132_0, qr_132_1, qr_132_2, qr_132_3, qr_132_6, true_and, and_true, false_and, and_false, Option.bind_some, Option.toList_some, Option.toList_none, List.nil_append, List.cons_append, if_true, if_false, ite_true, ite_false, not_true_eq_false, not_false_eq_true, g]
theorem qs_EP_skills {t : qt_T} {o : Option Nat} (hC : qt_C K I R t o) (hd : (qt_dp t).1 ≤ 13) (hne : qt_ne t = true) : qa_ex (d + 15) 7 [qa_a o] (K, I, R, n, z) = some (some (qa_i (qt_sk t).1), (K, I, R, n, z)) := by
  have g := (qs_EP_skillsIn_all (n := n) (z := z) t o hC).1 hne (d + 14) 0 (by omega) (by omega)
  rcases qt_C_o hC with ⟨e, -⟩ | ⟨-, c, rfl, hk2, -⟩
  · rw [hne] at e; cases e
  · simp (disch := first | assumption | omega | exact Or.inl rfl | exact Or.inr rfl | exact qb_01) only [qe_7, qr_7_0, qr_7_1, qr_7_2, qr_7_5, true_and, and_true, false_and, and_false, Option.bind_some, Option.toList_some, Option.toList_none, List.nil_append, List.cons_append, if_true, if_false, ite_true, ite_false, not_true_eq_false, not_false_eq_true, g]
theorem qs_CU_isReady (hU : qp_CU K R q) (hn : I q 3 = nI nk) (h10 : nk ≤ 10) (hk : k < nk) (hT : qt_CT K I R q nk T) : qa_ex (d + 16) 94 [qa_a (some q), qa_i (nI k), qa_i mb] (K, I, R, n, z) = some (some (qa_i (qa_bi (qt_rd (qt_bit mb) (T k) = true))), (K, I, R, n, z)) := by
  obtain ⟨t1, t2, t3⟩ := hT k hk
  have e0 := qs_CU_prerequisiteOf (d := d + 13) (n := n) (z := z) hU hn h10 hk
  obtain ⟨u0, u1, u2, u3, u4, u5, u6, v0, v1, v2⟩ := hU
  rcases qt_C_o t1 with ⟨g1, g2⟩ | ⟨g1, c, g2, g3, g4⟩
  · have hr : qt_rd (qt_bit mb) (T k) = true := by unfold qt_rd; rw [g1]; rfl
    simp (disch := first | assumption | omega | exact Or.inl rfl | exact Or.inr rfl | exact qb_01) only [qe_94, qr_94_0, qr_94_1, qr_94_2, qr_94_5, qr_94_6, qr_94_7_0, qr_94_7_1, qr_94_10, qr_94_11, qr_94_12, qr_94_15, qr_94_18, qr_94_19, qr_94_22, qr_94_23, true_and, and_true, false_and, and_false, Option.bind_some, Option.toList_some, Option.toList_none, List.nil_append, List.cons_append, if_true, if_false, ite_true, ite_false, not_true_eq_false, not_false_eq_true, e0, g2, hr]
    rfl
  · have e1 := qs_EP_isFulfilledBy (d := d) (n := n) (z := z) (mb := mb) t1 t3 g1
    have hr : qt_rd (qt_bit mb) (T k) = (qt_ev (qt_bit mb) (T k)).1 := by unfold qt_rd; rw [g1]; rfl
    rw [g2] at e1
    rw [hr]
    cases hv : (qt_ev (qt_bit mb) (T k)).1 with
    | true =>
      rw [hv] at e1
      simp (disch := first | assumption | omega | exact Or.inl rfl | exact Or.inr rfl | exact qb_01) only [qe_94, qr_94_0, qr_94_1, qr_94_2, qr_94_5, qr_94_6, qr_94_7_0, qr_94_7_1, qr_94_10, qr_94_11, qr_94_12, qr_94_15, qr_94_18, qr_94_19, qr_94_22, qr_94_23, true_and, and_true, false_and, and_false, Option.bind_some, Option.toList_some, Option.toList_none, List.nil_append, List.cons_append, if_true, if_false, ite_true, ite_false, not_true_eq_false, not_false_eq_true, qn_lt0, qn_ge0, qn_lt, qn_le, qn_eq, qn_e0, qn_gt0, qn_le0, qn_m1, nI_add, pk_mul, qb_e0, Classical.not_not, e0, g2, e1, qb_tt, qb_T, Nat.one_ne_zero]
    | false =>
      rw [hv] at e1
      simp (disch := first | assumption | omega | exact Or.inl rfl | exact Or.inr rfl | exact qb_01) only [qe_94, qr_94_0, qr_94_1, qr_94_2, qr_94_5, qr_94_6, qr_94_7_0, qr_94_7_1, qr_94_10, qr_94_11, qr_94_12, qr_94_15, qr_94_18, qr_94_19, qr_94_22, qr_94_23, true_and, and_true, false_and, and_false, Option.bind_some, Option.toList_some, Option.toList_none, List.nil_append, List.cons_append, if_true, if_false, ite_true, ite_false, not_true_eq_false, not_false_eq_true, qn_lt0, qn_ge0, qn_lt, qn_le, qn_eq, qn_e0, qn_gt0, qn_le0, qn_m1, nI_add, pk_mul, qb_e0, Classical.not_not, e0, g2, e1, qb_ff, qb_F, Bool.false_eq_true]
theorem qs_CU_firstBlocking (hU : qp_CU K R q) (hn : I q 3 = nI nk) (h10 : nk ≤ 10) (hk : k < nk) (hT : qt_CT K I R q nk T) (hf : qt_rd (qt_bit mb) (T k) = false) : qa_ex (d + 17) 131 [qa_a (some q), qa_i (nI k), qa_i mb] (K, I, R, n, z) = some (some (qa_i (nI (qt_bl (qt_bit mb) (T k)).1)), (K, I, R, n, z)) := by
  obtain ⟨t1, t2, t3⟩ := hT k hk
  have e0 := qs_CU_prerequisiteOf (d := d + 14) (n := n) (z := z) hU hn h10 hk
  obtain ⟨u0, u1, u2, u3, u4, u5, u6, v0, v1, v2⟩ := hU
  unfold qt_rd at hf
  rw [Bool.or_eq_false_iff] at hf
  obtain ⟨hf1, hf2⟩ := hf
  have hne : qt_ne (T k) = true := by simpa using hf1
  rcases qt_C_o t1 with ⟨g1, g2⟩ | ⟨g1, c, g2, g3, g4⟩
  · rw [hne] at g1; cases g1
  · have e1 := qs_EP_firstBlocking (d := d) (n := n) (z := z) t1 t2 t3 g1 hf2
    rw [g2] at e1
    simp (disch := first | assumption | omega | exact Or.inl rfl | exact Or.inr rfl | exact qb_01) only [qe_131, qr_131_0, qr_131_1, qr_131_2, qr_131_5, qr_131_6, qr_131_7_0, qr_131_7_1, qr_131_10, qr_131_11, qr_131_14, qr_131_15, qr_131_16, qr_131_19, true_and, and_true, false_and, and_false, Option.bind_some, Option.toList_some, Option.toList_none, List.nil_append, List.cons_append, if_true, if_false, ite_true, ite_false, not_true_eq_false, not_false_eq_true, e0, g2, e1]
theorem qs_PR_isReady (hP : qp_PR K R p c) (hC : qw_C K I R c q nk ps rq ni fs hd) (hS : qp_PS I p s) (hT : qt_CT K I R q nk T) (hw : ∀ k, k < nk → qt_wf k (T k)) (hk : k < nk) : qa_ex (d + 17) 93 [qa_a (some p), qa_i (nI k)] (K, I, R, n, z) = some (some (qa_i (qa_bi (qt_rd (qs_g s ps) (T k) = true))), (K, I, R, n, z)) := by
  have e0 := qs_PR_masteredSkills (d := d + 13) (n := n) (z := z) hP hC
  obtain ⟨⟨c0, c1, c2, c3, c4, c5, c6, c7⟩, hU, hn, h1, h10, -⟩ := hC
  have e1 := fun mb => qs_CU_isReady (d := d) (n := n) (z := z) (mb := mb) hU hn h10 hk hT
  have u0 := hU.1
  have hms : qf_ms (fun k => qf_mst (I (p + 6 + k) 0) (I (p + 6 + k) 1) (ps k)) nk = qf_ms (qs_g s ps) nk := by
    refine qf_ms_congr (fun i hi => ?_)
    have h0 := hS.2.1 i 0 (by omega) (by omega)
    have h1 := hS.2.1 i 1 (by omega) (by omega)
    show qf_mst _ _ _ = _
    rw [h0, h1]
    rfl
  rw [hms] at e0
  obtain ⟨p0, p1, p2, p3, p4, p5, p6, p7, p8, p9, r0, -⟩ := hP
  simp (disch := first | assumption | omega | exact Or.inl rfl | exact Or.inr rfl | exact qb_01) only [qe_93, qr_93_0, qr_93_1, qr_93_4, qr_93_7, qr_93_8, qr_93_9, qr_93_12, qr_93_15, true_and, and_true, false_and, and_false, Option.bind_some, Option.toList_some, Option.toList_none, List.nil_append, List.cons_append, if_true, if_false, ite_true, ite_false, not_true_eq_false, not_false_eq_true, r0, c7, qs_CO_curriculum, e0, e1, qt_rd_bit (T := T) hk h10 (hw k hk)]
theorem qs_MO_isReady (hM : qp_MO K R u) (hk : k < nk) (h10 : nk ≤ 10) (hT : qt_MT (I (u + 5)) nk T) : qa_ex (d + 17) 197 [qa_a (some u), qa_i (nI k)] (K, I, R, n, z) = some (some (qa_i (qa_bi (qt_rd (qm_g I u) (T k) = true))), (K, I, R, n, z)) := by
  have hM' := hM
  obtain ⟨m0, -, -, -, -, ⟨c1, c2, c3⟩, -⟩ := hM
  obtain ⟨t1, t2, t3⟩ := hT k hk
  rcases qt_M_o t1 with ⟨g1, g2⟩ | ⟨g1, c, g2, g4⟩
  · have hr : qt_rd (qm_g I u) (T k) = true := by unfold qt_rd; rw [g1]; rfl
    simp (disch := first | assumption | omega | exact Or.inl rfl | exact Or.inr rfl | exact qb_01) only [qe_197, qr_197_0, qr_197_1, qr_197_4, qr_197_6, qr_197_7, qr_197_8, qr_197_9, qr_197_12, qr_197_13, qr_197_14, qr_197_17, qr_197_19, qr_197_20, qr_197_21, qr_197_22, qr_197_25, qr_197_28, qr_197_29, qr_197_32, qr_197_33, true_and, and_true, false_and, and_false, Option.bind_some, Option.toList_some, Option.toList_none, List.nil_append, List.cons_append, if_true, if_false, ite_true, ite_false, not_true_eq_false, not_false_eq_true, qn_lt0, qn_ge0, qn_lt, qn_le, qn_eq, qn_e0, qn_gt0, qn_le0, qn_m1, nI_add, pk_mul, qb_e0, Classical.not_not, c3, g2, hr, qn_m1l]
    rfl
  · have e1 := (qs_MO_isFulfilled_all (n := n) (z := z) hM' (T k) _ t1).1 g1 (d + 16) (by omega)
    have hr : qt_rd (qm_g I u) (T k) = (qt_ev (qm_g I u) (T k)).1 := by unfold qt_rd; rw [g1]; rfl
    rw [g2] at e1
    rw [hr]
    cases hv : (qt_ev (qm_g I u) (T k)).1 with
    | true =>
      rw [hv] at e1
      simp (disch := first | assumption | omega | exact Or.inl rfl | exact Or.inr rfl | exact qb_01) only [qe_197, qr_197_0, qr_197_1, qr_197_4, qr_197_6, qr_197_7, qr_197_8, qr_197_9, qr_197_12, qr_197_13, qr_197_14, qr_197_17, qr_197_19, qr_197_20, qr_197_21, qr_197_22, qr_197_25, qr_197_28, qr_197_29, qr_197_32, qr_197_33, true_and, and_true, false_and, and_false, Option.bind_some, Option.toList_some, Option.toList_none, List.nil_append, List.cons_append, if_true, if_false, ite_true, ite_false, not_true_eq_false, not_false_eq_true, qn_lt0, qn_ge0, qn_lt, qn_le, qn_eq, qn_e0, qn_gt0, qn_le0, qn_m1, nI_add, pk_mul, qb_e0, Classical.not_not, c3, g2, e1, qb_tt, qb_T, Nat.one_ne_zero]
    | false =>
      rw [hv] at e1
      simp (disch := first | assumption | omega | exact Or.inl rfl | exact Or.inr rfl | exact qb_01) only [qe_197, qr_197_0, qr_197_1, qr_197_4, qr_197_6, qr_197_7, qr_197_8, qr_197_9, qr_197_12, qr_197_13, qr_197_14, qr_197_17, qr_197_19, qr_197_20, qr_197_21, qr_197_22, qr_197_25, qr_197_28, qr_197_29, qr_197_32, qr_197_33, true_and, and_true, false_and, and_false, Option.bind_some, Option.toList_some, Option.toList_none, List.nil_append, List.cons_append, if_true, if_false, ite_true, ite_false, not_true_eq_false, not_false_eq_true, qn_lt0, qn_ge0, qn_lt, qn_le, qn_eq, qn_e0, qn_gt0, qn_le0, qn_m1, nI_add, pk_mul, qb_e0, Classical.not_not, c3, g2, e1, qb_ff, qb_F, Bool.false_eq_true]
theorem qs_MO_blocks (hM : qp_MO K R u) (hk : k < nk) (h10 : nk ≤ 10) (hT : qt_MT (I (u + 5)) nk T) (hf : qt_rd (qm_g I u) (T k) = false) : qa_ex (d + 17) 222 [qa_a (some u), qa_i (I (u + 5) (12 + k))] (K, I, R, n, z) = some (some (qa_i (nI (qt_bl (qm_g I u) (T k)).1)), (K, I, R, n, z)) := by
  obtain ⟨t1, t2, t3⟩ := hT k hk
  unfold qt_rd at hf
  rw [Bool.or_eq_false_iff] at hf
  obtain ⟨hf1, hf2⟩ := hf
  have hne : qt_ne (T k) = true := by simpa using hf1
  have e1 := fun l1 => (qs_MO_blocks_all (n := n) (z := z) hM (T k) _ t1 t2).1 hne hf2 (d + 16) l1 qa_u (by omega)
  have m0 := hM.1
  simp (disch := first | assumption | omega | exact Or.inl rfl | exact Or.inr rfl | exact qb_01) only [qe_222, qr_222_0, qr_222_1, qr_222_3, qr_222_6, qr_222_8, qr_222_9, qr_222_10, qr_222_11, qr_222_13, qr_222_16, qr_222_17, qr_222_20, qr_222_23, qr_222_24, qr_222_25, qr_222_26, qr_222_28, qr_222_31, qr_222_33, qr_222_34, qr_222_35, qr_222_36, qr_222_38, qr_222_41, qr_222_42, qr_222_43, qr_222_46, qr_222_49, qr_222_50, qr_222_53, qr_222_56, qr_222_57, qr_222_58, qr_222_59, qr_222_60, qr_222_63, qr_222_64, qr_222_65, qr_222_68, qr_222_69, qr_222_72, qr_222_74, qr_222_75, qr_222_76, qr_222_77, e1]
end Q34
