/-! What is advised: the functions, and the class. -/
theorem qe_v0 : qe_v 0 = -1 := rfl
theorem qe_vs {b : Nat} : qe_v (b + 1) = nI b := rfl
def qs_op (s : Nat → Int32) (i : Nat) : Bool := decide (¬ s (93 + 3 * i) = s 0)
/-- the easiest open item of a skill: 0 none, i + 1 the item i -/
def qA_oi (s : Nat → Int32) (fs hd : Nat → Nat) (k : Nat) : Nat → Nat
  | 0 => 0
  | i + 1 => if fs i = k ∧ qs_op s i = true then (if qA_oi s fs hd k i = 0 then i + 1 else if hd i < hd (qA_oi s fs hd k i - 1) then i + 1 else qA_oi s fs hd k i) else qA_oi s fs hd k i
theorem qA_oi_le {s : Nat → Int32} {fs hd : Nat → Nat} {k : Nat} : ∀ {i : Nat}, qA_oi s fs hd k i ≤ i := by
  intro i
  induction i with
  | zero => exact Nat.le_refl 0
  | succ i ih =>
    unfold qA_oi
    repeat' split
    all_goals omega
/-- the best skill of those that are open to it: a first one, or one that is better -/
def qA_bs (P : Nat → Bool) (L : Nat → Nat → Bool) : Nat → Nat
  | 0 => 0
  | k + 1 => if P k = true then (if qA_bs P L k = 0 then k + 1 else if L k (qA_bs P L k - 1) = true then k + 1 else qA_bs P L k) else qA_bs P L k
theorem qA_bs_le {P : Nat → Bool} {L : Nat → Nat → Bool} : ∀ {i : Nat}, qA_bs P L i ≤ i := by
  intro i
  induction i with
  | zero => exact Nat.le_refl 0
  | succ i ih =>
    unfold qA_bs
    repeat' split
    all_goals omega
def qA_rv (s : Nat → Int32) (nk ni : Nat) (fs hd : Nat → Nat) : Nat → Nat := qA_bs (fun k => qs_du s k && decide (¬ qA_oi s fs hd k ni = 0)) (fun k b => decide (s (1 + 9 * k + 3) < s (1 + 9 * b + 3)))
def qA_ln (s : Nat → Int32) (ps : Nat → Int32) (T : Nat → qt_T) (nk ni : Nat) (fs hd : Nat → Nat) : Nat → Nat := qA_bs (fun k => (!qs_g s ps k && qt_rd (qs_g s ps) (T k)) && decide (¬ qA_oi s fs hd k ni = 0)) (fun k b => qf_les (s (1 + 9 * k + 0)) (s (1 + 9 * k + 1)) (s (1 + 9 * b + 0)) (s (1 + 9 * b + 1)))
def qA_it (s : Nat → Int32) (fs hd : Nat → Nat) (ni b : Nat) : Nat := if b = 0 then 0 else qA_oi s fs hd (b - 1) ni
def qA_n (s : Nat → Int32) (fs : Nat → Nat) (i : Nat) : Int32 := s (1 + 9 * fs i + 0) + nI 16
def qA_d (s : Nat → Int32) (fs hd : Nat → Nat) (i : Nat) : Int32 := s (1 + 9 * fs i + 0) + s (1 + 9 * fs i + 1) + nI 32 + nI (16 * hd i)
def qA_mo (s : Nat → Int32) (fs hd : Nat → Nat) (i b : Nat) : Bool := decide (¬ lg_cmp ((qA_n s fs i).toInt64 * ((qA_d s fs hd i).toInt64 - (qA_n s fs i).toInt64) * (qA_d s fs hd b).toInt64 * (qA_d s fs hd b).toInt64) ((qA_n s fs b).toInt64 * ((qA_d s fs hd b).toInt64 - (qA_n s fs b).toInt64) * (qA_d s fs hd i).toInt64 * (qA_d s fs hd i).toInt64) ≤ 0)
def qA_dg (s : Nat → Int32) (fs hd : Nat → Nat) : Nat → Nat := qA_bs (qs_op s) (qA_mo s fs hd)
def qA_mx (s : Nat → Int32) (ps : Nat → Int32) (T : Nat → qt_T) (nk ni : Nat) (fs hd : Nat → Nat) : Nat := if ¬ qA_it s fs hd ni (qA_rv s nk ni fs hd nk) = 0 then qA_it s fs hd ni (qA_rv s nk ni fs hd nk) else if ¬ qA_it s fs hd ni (qA_ln s ps T nk ni fs hd nk) = 0 then qA_it s fs hd ni (qA_ln s ps T nk ni fs hd nk) else qA_dg s fs hd ni
/-- what is advised by a way -/
def qA_ad (s : Nat → Int32) (ps : Nat → Int32) (T : Nat → qt_T) (nk ni : Nat) (fs hd : Nat → Nat) (w : Nat) : Nat := if w = 0 then qA_it s fs hd ni (qA_rv s nk ni fs hd nk) else if w = 1 then qA_it s fs hd ni (qA_ln s ps T nk ni fs hd nk) else if w = 2 then qA_dg s fs hd ni else qA_mx s ps T nk ni fs hd
theorem qA_it_le {s : Nat → Int32} {fs hd : Nat → Nat} {ni b : Nat} : qA_it s fs hd ni b ≤ ni := by
  unfold qA_it
  split
  · omega
  · exact qA_oi_le
theorem qA_ad_le {s : Nat → Int32} {ps : Nat → Int32} {T : Nat → qt_T} {nk ni : Nat} {fs hd : Nat → Nat} {w : Nat} : qA_ad s ps T nk ni fs hd w ≤ ni := by
  unfold qA_ad qA_mx
  have h1 := qA_it_le (s := s) (fs := fs) (hd := hd) (ni := ni) (b := qA_rv s nk ni fs hd nk)
  have h2 := qA_it_le (s := s) (fs := fs) (hd := hd) (ni := ni) (b := qA_ln s ps T nk ni fs hd nk)
  have h3 : qA_dg s fs hd ni ≤ ni := qA_bs_le
  repeat' split
  all_goals omega
section Q49
variable {d a b f : Nat} {K : Nat → Nat × Nat} {I : Nat → Nat → Int32} {R : Nat → Nat → Option Nat} {n z : Nat} {x y : Int32} {h : qa_H} {u nk ni k i j m B p q c e g w v r lv : Nat} {ps rq s : Nat → Int32} {fs hd : Nat → Nat} {T : Nat → qt_T}
theorem qs_PR_isOpen2 (hP : qp_PR K R p c) (hS : qp_PS I p s) (hi : i < 12) : qa_ex (d + 2) 55 [qa_a (some p), qa_i (nI i)] (K, I, R, n, z) = some (some (qa_i (qa_bi (qs_op s i = true))), (K, I, R, n, z)) := by
  have e1 : qa_bi (¬ s (93 + 3 * i) = s 0) = qa_bi (qs_op s i = true) := qb_c (by unfold qs_op; exact decide_eq_true_iff.symm)
  rw [qs_PR_isOpen hP hi]
  simp only [(hS.2.2 i hi).2.2, hS.1, e1]
theorem qs_AD_easiest (hP : qp_PR K R p c) (hC : qw_C K I R c q nk ps rq ni fs hd) (hS : qp_PS I p s) (hk : k < 2147483648) : qa_ex (d + 3) 106 [qa_i (nI k), qa_a (some c), qa_a (some p)] (K, I, R, n, z) = some (some (qa_i (qe_v (qA_oi s fs hd k ni))), (K, I, R, n, z)) := by
  have h10 := hC.2.2.2.2.1
  have c0 := hC.1.1
  have p0 := hP.1
  have hit := hC.2.2.2.2.2.2.2.2
  have h12 := hC.2.2.2.2.2.2.2.1
  have hn := hC.2.2.2.2.2.2.1
  have loop : ∀ m i l5, i + m = ni → qa_run (d + 2) 106 5 [qa_i (nI k), qa_a (some c), qa_a (some p), qa_i (qe_v (qA_oi s fs hd k i)), qa_i (nI i), l5] [] [] (K, I, R, n, z) = some (some (qa_i (qe_v (qA_oi s fs hd k ni))), (K, I, R, n, z)) := by
    intro m
    induction m with
    | zero =>
      intro i l5 hi
      have hi : i = ni := by omega
      subst hi
      rw [qr_106_5]
      simp (disch := first | assumption | omega | exact Or.inl rfl | exact Or.inr rfl | exact qb_01) only [qr_106_0, qr_106_1, qr_106_2, qr_106_3, qr_106_7, qr_106_8, qr_106_11, qr_106_14, qr_106_15, qr_106_17, qr_106_20, qr_106_21, qr_106_24, qr_106_25, qr_106_27, qr_106_30, qr_106_33, qr_106_34, qr_106_37, qr_106_38, qr_106_40, qr_106_42, qr_106_45, qr_106_46, qr_106_47, qr_106_50, qr_106_51, qr_106_53, qr_106_56, qr_106_57, qr_106_58, qr_106_61, qr_106_64, qr_106_66, qr_106_67, qr_106_70, qr_106_73, qr_106_74, true_and, and_true, false_and, and_false, Option.bind_some, Option.toList_some, Option.toList_none, List.nil_append, List.cons_append, if_true, if_false, ite_true, ite_false, not_true_eq_false, not_false_eq_true, qn_lt0, qn_ge0, qn_lt, qn_le, qn_eq, qn_e0, qn_gt0, qn_le0, qn_m1, nI_add, pk_mul, qb_e0, Classical.not_not, qs_CO_items, hn, Nat.le_refl]
    | succ m ih =>
      intro i l5 hi
      have e1 : ¬ ni ≤ i := by omega
      have hi12 : i < 12 := by omega
      have hin : i < ni := by omega
      have hle : qA_oi s fs hd k i ≤ i := qA_oi_le
      have hfk := (hit i hin).2.2.1
      have hst : qA_oi s fs hd k (i + 1) = if fs i = k ∧ qs_op s i = true then (if qA_oi s fs hd k i = 0 then i + 1 else if hd i < hd (qA_oi s fs hd k i - 1) then i + 1 else qA_oi s fs hd k i) else qA_oi s fs hd k i := rfl
      by_cases h1 : fs i = k
      · by_cases h2 : qs_op s i = true
        · have e2 := ih (i + 1) (qa_i (nI 1)) (by omega)
          rw [hst, if_pos ⟨h1, h2⟩] at e2
          generalize qA_oi s fs hd k i = b at e2 hle ⊢
          cases b with
          | zero =>
            rw [if_pos rfl, qe_vs] at e2
            rw [qr_106_5]
            simp (disch := first | assumption | omega | exact Or.inl rfl | exact Or.inr rfl | exact qb_01) only [qr_106_0, qr_106_1, qr_106_2, qr_106_3, qr_106_7, qr_106_8, qr_106_11, qr_106_14, qr_106_15, qr_106_17, qr_106_20, qr_106_21, qr_106_24, qr_106_25, qr_106_27, qr_106_30, qr_106_33, qr_106_34, qr_106_37, qr_106_38, qr_106_40, qr_106_42, qr_106_45, qr_106_46, qr_106_47, qr_106_50, qr_106_51, qr_106_53, qr_106_56, qr_106_57, qr_106_58, qr_106_61, qr_106_64, qr_106_66, qr_106_67, qr_106_70, qr_106_73, qr_106_74, true_and, and_true, false_and, and_false, Option.bind_some, Option.toList_some, Option.toList_none, List.nil_append, List.cons_append, if_true, if_false, ite_true, ite_false, not_true_eq_false, not_false_eq_true, qn_lt0, qn_ge0, qn_lt, qn_le, qn_eq, qn_e0, qn_gt0, qn_le0, qn_m1, nI_add, pk_mul, qb_e0, Classical.not_not, qs_CO_items, hn, e1, qs_CO_skillOf hC hin, eq_true h1, qs_PR_isOpen2 hP hS hi12, h2, qe_v0, Nat.one_ne_zero]
            exact e2
          | succ b =>
            have hbn : b < ni := by omega
            have i1 := (hit i hin).2.2.2
            have i2 := (hit b hbn).2.2.2
            rw [if_neg (by omega), Nat.add_sub_cancel] at e2
            rw [qr_106_5]
            by_cases h3 : hd i < hd b
            · have h4 : ¬ hd b ≤ hd i := by omega
              rw [if_pos h3, qe_vs] at e2
              simp (disch := first | assumption | omega | exact Or.inl rfl | exact Or.inr rfl | exact qb_01) only [qr_106_0, qr_106_1, qr_106_2, qr_106_3, qr_106_7, qr_106_8, qr_106_11, qr_106_14, qr_106_15, qr_106_17, qr_106_20, qr_106_21, qr_106_24, qr_106_25, qr_106_27, qr_106_30, qr_106_33, qr_106_34, qr_106_37, qr_106_38, qr_106_40, qr_106_42, qr_106_45, qr_106_46, qr_106_47, qr_106_50, qr_106_51, qr_106_53, qr_106_56, qr_106_57, qr_106_58, qr_106_61, qr_106_64, qr_106_66, qr_106_67, qr_106_70, qr_106_73, qr_106_74, true_and, and_true, false_and, and_false, Option.bind_some, Option.toList_some, Option.toList_none, List.nil_append, List.cons_append, if_true, if_false, ite_true, ite_false, not_true_eq_false, not_false_eq_true, qn_lt0, qn_ge0, qn_lt, qn_le, qn_eq, qn_e0, qn_gt0, qn_le0, qn_m1, nI_add, pk_mul, qb_e0, Classical.not_not, qs_CO_items, hn, e1, qs_CO_skillOf hC hin, eq_true h1, qs_PR_isOpen2 hP hS hi12, h2, qe_vs, Nat.one_ne_zero, qs_CO_difficultyOf hC hin, qs_CO_difficultyOf hC hbn, h4]
              exact e2
            · have h4 : hd b ≤ hd i := by omega
              rw [if_neg h3, qe_vs] at e2
              simp (disch := first | assumption | omega | exact Or.inl rfl | exact Or.inr rfl | exact qb_01) only [qr_106_0, qr_106_1, qr_106_2, qr_106_3, qr_106_7, qr_106_8, qr_106_11, qr_106_14, qr_106_15, qr_106_17, qr_106_20, qr_106_21, qr_106_24, qr_106_25, qr_106_27, qr_106_30, qr_106_33, qr_106_34, qr_106_37, qr_106_38, qr_106_40, qr_106_42, qr_106_45, qr_106_46, qr_106_47, qr_106_50, qr_106_51, qr_106_53, qr_106_56, qr_106_57, qr_106_58, qr_106_61, qr_106_64, qr_106_66, qr_106_67, qr_106_70, qr_106_73, qr_106_74, true_and, and_true, false_and, and_false, Option.bind_some, Option.toList_some, Option.toList_none, List.nil_append, List.cons_append, if_true, if_false, ite_true, ite_false, not_true_eq_false, not_false_eq_true, qn_lt0, qn_ge0, qn_lt, qn_le, qn_eq, qn_e0, qn_gt0, qn_le0, qn_m1, nI_add, pk_mul, qb_e0, Classical.not_not, qs_CO_items, hn, e1, qs_CO_skillOf hC hin, eq_true h1, qs_PR_isOpen2 hP hS hi12, h2, qe_vs, Nat.one_ne_zero, qs_CO_difficultyOf hC hin, qs_CO_difficultyOf hC hbn, eq_true h4]
              exact e2
        · have e2 := ih (i + 1) (qa_i (nI 0)) (by omega)
          rw [hst, if_neg (fun q => h2 q.2)] at e2
          rw [qr_106_5]
          simp (disch := first | assumption | omega | exact Or.inl rfl | exact Or.inr rfl | exact qb_01) only [qr_106_0, qr_106_1, qr_106_2, qr_106_3, qr_106_7, qr_106_8, qr_106_11, qr_106_14, qr_106_15, qr_106_17, qr_106_20, qr_106_21, qr_106_24, qr_106_25, qr_106_27, qr_106_30, qr_106_33, qr_106_34, qr_106_37, qr_106_38, qr_106_40, qr_106_42, qr_106_45, qr_106_46, qr_106_47, qr_106_50, qr_106_51, qr_106_53, qr_106_56, qr_106_57, qr_106_58, qr_106_61, qr_106_64, qr_106_66, qr_106_67, qr_106_70, qr_106_73, qr_106_74, true_and, and_true, false_and, and_false, Option.bind_some, Option.toList_some, Option.toList_none, List.nil_append, List.cons_append, if_true, if_false, ite_true, ite_false, not_true_eq_false, not_false_eq_true, qn_lt0, qn_ge0, qn_lt, qn_le, qn_eq, qn_e0, qn_gt0, qn_le0, qn_m1, nI_add, pk_mul, qb_e0, Classical.not_not, qs_CO_items, hn, e1, qs_CO_skillOf hC hin, eq_true h1, qs_PR_isOpen2 hP hS hi12, eq_false h2]
          exact e2
      · have e2 := ih (i + 1) (qa_i (nI 0)) (by omega)
        rw [hst, if_neg (fun q => h1 q.1)] at e2
        rw [qr_106_5]
        simp (disch := first | assumption | omega | exact Or.inl rfl | exact Or.inr rfl | exact qb_01) only [qr_106_0, qr_106_1, qr_106_2, qr_106_3, qr_106_7, qr_106_8, qr_106_11, qr_106_14, qr_106_15, qr_106_17, qr_106_20, qr_106_21, qr_106_24, qr_106_25, qr_106_27, qr_106_30, qr_106_33, qr_106_34, qr_106_37, qr_106_38, qr_106_40, qr_106_42, qr_106_45, qr_106_46, qr_106_47, qr_106_50, qr_106_51, qr_106_53, qr_106_56, qr_106_57, qr_106_58, qr_106_61, qr_106_64, qr_106_66, qr_106_67, qr_106_70, qr_106_73, qr_106_74, true_and, and_true, false_and, and_false, Option.bind_some, Option.toList_some, Option.toList_none, List.nil_append, List.cons_append, if_true, if_false, ite_true, ite_false, not_true_eq_false, not_false_eq_true, qn_lt0, qn_ge0, qn_lt, qn_le, qn_eq, qn_e0, qn_gt0, qn_le0, qn_m1, nI_add, pk_mul, qb_e0, Classical.not_not, qs_CO_items, hn, e1, qs_CO_skillOf hC hin, eq_false h1]
        exact e2
  have e1 := loop ni 0 qa_u (by omega)
  simp (disch := first | assumption | omega | exact Or.inl rfl | exact Or.inr rfl | exact qb_01) only [qe_106, qr_106_0, qr_106_1, qr_106_2, qr_106_3, qr_106_7, qr_106_8, qr_106_11, qr_106_14, qr_106_15, qr_106_17, qr_106_20, qr_106_21, qr_106_24, qr_106_25, qr_106_27, qr_106_30, qr_106_33, qr_106_34, qr_106_37, qr_106_38, qr_106_40, qr_106_42, qr_106_45, qr_106_46, qr_106_47, qr_106_50, qr_106_51, qr_106_53, qr_106_56, qr_106_57, qr_106_58, qr_106_61, qr_106_64, qr_106_66, qr_106_67, qr_106_70, qr_106_73, qr_106_74, true_and, and_true, false_and, and_false, Option.bind_some, Option.toList_some, Option.toList_none, List.nil_append, List.cons_append, if_true, if_false, ite_true, ite_false, not_true_eq_false, not_false_eq_true, qn_lt0, qn_ge0, qn_lt, qn_le, qn_eq, qn_e0, qn_gt0, qn_le0, qn_m1, nI_add, pk_mul, qb_e0, Classical.not_not]
  exact e1
/-- the loops over skills: b the best so far -/
theorem qs_AD_forReview (hP : qp_PR K R p c) (hC : qw_C K I R c q nk ps rq ni fs hd) (hS : qp_PS I p s) : qa_ex (d + 4) 103 [qa_a (some c), qa_a (some p)] (K, I, R, n, z) = some (some (qa_i (qe_v (qA_it s fs hd ni (qA_rv s nk ni fs hd nk)))), (K, I, R, n, z)) := by
  have h10 := hC.2.2.2.2.1
  have c0 := hC.1.1
  have p0 := hP.1
  have hst := hP.2.2.2.2.2.2.2.2.2.2.2.2.2.2.2.2
  have h12 := hC.2.2.2.2.2.2.2.1
  have loop : ∀ m k l5 l6, k + m = nk → qa_run (d + 3) 103 7 [qa_a (some c), qa_a (some p), qa_i (qe_v (qA_rv s nk ni fs hd k)), qa_i (qe_v (qA_it s fs hd ni (qA_rv s nk ni fs hd k))), qa_i (nI k), l5, l6] [] [] (K, I, R, n, z) = some (some (qa_i (qe_v (qA_it s fs hd ni (qA_rv s nk ni fs hd nk)))), (K, I, R, n, z)) := by
    intro m
    induction m with
    | zero =>
      intro k l5 l6 hk
      have hk : k = nk := by omega
      subst hk
      rw [qr_103_7]
      simp (disch := first | assumption | omega | exact Or.inl rfl | exact Or.inr rfl | exact qb_01) only [qr_103_0, qr_103_1, qr_103_2, qr_103_3, qr_103_4, qr_103_5, qr_103_9, qr_103_10, qr_103_13, qr_103_16, qr_103_17, qr_103_19, qr_103_22, qr_103_25, qr_103_26, qr_103_27, qr_103_30, qr_103_31, qr_103_33, qr_103_36, qr_103_39, qr_103_40, qr_103_41, qr_103_44, qr_103_47, qr_103_50, qr_103_51, qr_103_54, qr_103_55, qr_103_57, qr_103_59, qr_103_62, qr_103_64, qr_103_65, qr_103_66, qr_103_69, qr_103_72, qr_103_73, qr_103_75, qr_103_77, qr_103_78, qr_103_81, qr_103_83, qr_103_84, qr_103_86, qr_103_87, qr_103_90, qr_103_93, qr_103_94, true_and, and_true, false_and, and_false, Option.bind_some, Option.toList_some, Option.toList_none, List.nil_append, List.cons_append, if_true, if_false, ite_true, ite_false, not_true_eq_false, not_false_eq_true, qn_lt0, qn_ge0, qn_lt, qn_le, qn_eq, qn_e0, qn_gt0, qn_le0, qn_m1, nI_add, pk_mul, qb_e0, Classical.not_not, qs_CO_skills hC, Nat.le_refl]
    | succ m ih =>
      intro k l5 l6 hk
      have e1 : ¬ nk ≤ k := by omega
      have hk10 : k < 10 := by omega
      have hk31 : k < 2147483648 := by omega
      have hle : qA_rv s nk ni fs hd k ≤ k := qA_bs_le
      have hs1 := (hst k hk10).1
      have hz := qs_AD_easiest (d := d) (n := n) (z := z) hP hC hS hk31
      have hol : qA_oi s fs hd k ni ≤ ni := qA_oi_le
      have hstp : qA_rv s nk ni fs hd (k + 1) = if (qs_du s k && decide (¬ qA_oi s fs hd k ni = 0)) = true then (if qA_rv s nk ni fs hd k = 0 then k + 1 else if decide (s (1 + 9 * k + 3) < s (1 + 9 * (qA_rv s nk ni fs hd k - 1) + 3)) = true then k + 1 else qA_rv s nk ni fs hd k) else qA_rv s nk ni fs hd k := rfl
      have hitk : qA_it s fs hd ni (k + 1) = qA_oi s fs hd k ni := if_neg (by omega)
      by_cases h1 : qs_du s k = true
      · cases hok : qA_oi s fs hd k ni with
        | zero =>
          rw [hok, qe_v0] at hz
          rw [hok, h1] at hstp
          simp only [decide_true, decide_false, Bool.true_and, true_and, and_true, false_and, and_false, Option.bind_some, Option.toList_some, Option.toList_none, List.nil_append, List.cons_append, if_true, if_false, ite_true, ite_false, not_true_eq_false, not_false_eq_true, Bool.false_eq_true] at hstp
          have e2 := fun l5 => ih (k + 1) l5 (qa_i (-1)) (by omega)
          rw [hstp] at e2
          generalize qA_rv s nk ni fs hd k = b at e2 hle ⊢
          cases b with
          | zero =>
            rw [qr_103_7]
            simp (disch := first | assumption | omega | exact Or.inl rfl | exact Or.inr rfl | exact qb_01) only [qr_103_0, qr_103_1, qr_103_2, qr_103_3, qr_103_4, qr_103_5, qr_103_9, qr_103_10, qr_103_13, qr_103_16, qr_103_17, qr_103_19, qr_103_22, qr_103_25, qr_103_26, qr_103_27, qr_103_30, qr_103_31, qr_103_33, qr_103_36, qr_103_39, qr_103_40, qr_103_41, qr_103_44, qr_103_47, qr_103_50, qr_103_51, qr_103_54, qr_103_55, qr_103_57, qr_103_59, qr_103_62, qr_103_64, qr_103_65, qr_103_66, qr_103_69, qr_103_72, qr_103_73, qr_103_75, qr_103_77, qr_103_78, qr_103_81, qr_103_83, qr_103_84, qr_103_86, qr_103_87, qr_103_90, qr_103_93, qr_103_94, true_and, and_true, false_and, and_false, Option.bind_some, Option.toList_some, Option.toList_none, List.nil_append, List.cons_append, if_true, if_false, ite_true, ite_false, not_true_eq_false, not_false_eq_true, qn_lt0, qn_ge0, qn_lt, qn_le, qn_eq, qn_e0, qn_gt0, qn_le0, qn_m1, nI_add, pk_mul, qb_e0, Classical.not_not, qs_CO_skills hC, e1, qs_PR_isDue hP hS hk10, h1, qe_v0, hz, Nat.one_ne_zero]
            exact e2 _
          | succ b =>
            have hb10 : b < 10 := by omega
            have hsb := (hst b hb10).1
            rw [qr_103_7]
            by_cases h3 : s (1 + 9 * b + 3) ≤ s (1 + 9 * k + 3)
            · simp (disch := first | assumption | omega | exact Or.inl rfl | exact Or.inr rfl | exact qb_01) only [qr_103_0, qr_103_1, qr_103_2, qr_103_3, qr_103_4, qr_103_5, qr_103_9, qr_103_10, qr_103_13, qr_103_16, qr_103_17, qr_103_19, qr_103_22, qr_103_25, qr_103_26, qr_103_27, qr_103_30, qr_103_31, qr_103_33, qr_103_36, qr_103_39, qr_103_40, qr_103_41, qr_103_44, qr_103_47, qr_103_50, qr_103_51, qr_103_54, qr_103_55, qr_103_57, qr_103_59, qr_103_62, qr_103_64, qr_103_65, qr_103_66, qr_103_69, qr_103_72, qr_103_73, qr_103_75, qr_103_77, qr_103_78, qr_103_81, qr_103_83, qr_103_84, qr_103_86, qr_103_87, qr_103_90, qr_103_93, qr_103_94, true_and, and_true, false_and, and_false, Option.bind_some, Option.toList_some, Option.toList_none, List.nil_append, List.cons_append, if_true, if_false, ite_true, ite_false, not_true_eq_false, not_false_eq_true, qn_lt0, qn_ge0, qn_lt, qn_le, qn_eq, qn_e0, qn_gt0, qn_le0, qn_m1, nI_add, pk_mul, qb_e0, Classical.not_not, qs_CO_skills hC, e1, qs_PR_isDue hP hS hk10, h1, qe_vs, Nat.one_ne_zero, qs_PR_stateOf hP hk10, qs_PR_stateOf hP hb10, qs_SS_dueDay hs1, qs_SS_dueDay hsb, hS.2.1 k 3 hk10 (by omega), hS.2.1 b 3 hb10 (by omega), eq_true h3]
              exact e2 _
            · simp (disch := first | assumption | omega | exact Or.inl rfl | exact Or.inr rfl | exact qb_01) only [qr_103_0, qr_103_1, qr_103_2, qr_103_3, qr_103_4, qr_103_5, qr_103_9, qr_103_10, qr_103_13, qr_103_16, qr_103_17, qr_103_19, qr_103_22, qr_103_25, qr_103_26, qr_103_27, qr_103_30, qr_103_31, qr_103_33, qr_103_36, qr_103_39, qr_103_40, qr_103_41, qr_103_44, qr_103_47, qr_103_50, qr_103_51, qr_103_54, qr_103_55, qr_103_57, qr_103_59, qr_103_62, qr_103_64, qr_103_65, qr_103_66, qr_103_69, qr_103_72, qr_103_73, qr_103_75, qr_103_77, qr_103_78, qr_103_81, qr_103_83, qr_103_84, qr_103_86, qr_103_87, qr_103_90, qr_103_93, qr_103_94, true_and, and_true, false_and, and_false, Option.bind_some, Option.toList_some, Option.toList_none, List.nil_append, List.cons_append, if_true, if_false, ite_true, ite_false, not_true_eq_false, not_false_eq_true, qn_lt0, qn_ge0, qn_lt, qn_le, qn_eq, qn_e0, qn_gt0, qn_le0, qn_m1, nI_add, pk_mul, qb_e0, Classical.not_not, qs_CO_skills hC, e1, qs_PR_isDue hP hS hk10, h1, qe_vs, Nat.one_ne_zero, qs_PR_stateOf hP hk10, qs_PR_stateOf hP hb10, qs_SS_dueDay hs1, qs_SS_dueDay hsb, hS.2.1 k 3 hk10 (by omega), hS.2.1 b 3 hb10 (by omega), eq_false h3, hz]
              exact e2 _
        | succ o =>
          rw [hok, qe_vs] at hz
          rw [hok, h1] at hstp
          simp only [decide_true, decide_false, Bool.true_and, true_and, and_true, false_and, and_false, Option.bind_some, Option.toList_some, Option.toList_none, List.nil_append, List.cons_append, if_true, if_false, ite_true, ite_false, not_true_eq_false, not_false_eq_true, Nat.add_one_ne_zero] at hstp
          rw [hok] at hitk
          generalize qA_rv s nk ni fs hd k = b at hstp hle ⊢
          cases b with
          | zero =>
            rw [if_pos rfl] at hstp
            have e2 := ih (k + 1) (qa_i (nI 1)) (qa_i (nI o)) (by omega)
            rw [hstp, hitk, qe_vs, qe_vs] at e2
            rw [qr_103_7]
            simp (disch := first | assumption | omega | exact Or.inl rfl | exact Or.inr rfl | exact qb_01) only [qr_103_0, qr_103_1, qr_103_2, qr_103_3, qr_103_4, qr_103_5, qr_103_9, qr_103_10, qr_103_13, qr_103_16, qr_103_17, qr_103_19, qr_103_22, qr_103_25, qr_103_26, qr_103_27, qr_103_30, qr_103_31, qr_103_33, qr_103_36, qr_103_39, qr_103_40, qr_103_41, qr_103_44, qr_103_47, qr_103_50, qr_103_51, qr_103_54, qr_103_55, qr_103_57, qr_103_59, qr_103_62, qr_103_64, qr_103_65, qr_103_66, qr_103_69, qr_103_72, qr_103_73, qr_103_75, qr_103_77, qr_103_78, qr_103_81, qr_103_83, qr_103_84, qr_103_86, qr_103_87, qr_103_90, qr_103_93, qr_103_94, true_and, and_true, false_and, and_false, Option.bind_some, Option.toList_some, Option.toList_none, List.nil_append, List.cons_append, if_true, if_false, ite_true, ite_false, not_true_eq_false, not_false_eq_true, qn_lt0, qn_ge0, qn_lt, qn_le, qn_eq, qn_e0, qn_gt0, qn_le0, qn_m1, nI_add, pk_mul, qb_e0, Classical.not_not, qs_CO_skills hC, e1, qs_PR_isDue hP hS hk10, h1, qe_v0, hz, Nat.one_ne_zero]
            exact e2
          | succ b =>
            have hb10 : b < 10 := by omega
            have hsb := (hst b hb10).1
            rw [if_neg (by omega), Nat.add_sub_cancel] at hstp
            rw [qr_103_7]
            by_cases h3 : s (1 + 9 * b + 3) ≤ s (1 + 9 * k + 3)
            · have h4 : ¬ s (1 + 9 * k + 3) < s (1 + 9 * b + 3) := Int32.not_lt.mpr h3
              rw [if_neg (by simpa using h4)] at hstp
              have e2 := ih (k + 1) (qa_i (nI 0)) (qa_i (-1)) (by omega)
              rw [hstp, qe_vs] at e2
              simp (disch := first | assumption | omega | exact Or.inl rfl | exact Or.inr rfl | exact qb_01) only [qr_103_0, qr_103_1, qr_103_2, qr_103_3, qr_103_4, qr_103_5, qr_103_9, qr_103_10, qr_103_13, qr_103_16, qr_103_17, qr_103_19, qr_103_22, qr_103_25, qr_103_26, qr_103_27, qr_103_30, qr_103_31, qr_103_33, qr_103_36, qr_103_39, qr_103_40, qr_103_41, qr_103_44, qr_103_47, qr_103_50, qr_103_51, qr_103_54, qr_103_55, qr_103_57, qr_103_59, qr_103_62, qr_103_64, qr_103_65, qr_103_66, qr_103_69, qr_103_72, qr_103_73, qr_103_75, qr_103_77, qr_103_78, qr_103_81, qr_103_83, qr_103_84, qr_103_86, qr_103_87, qr_103_90, qr_103_93, qr_103_94, true_and, and_true, false_and, and_false, Option.bind_some, Option.toList_some, Option.toList_none, List.nil_append, List.cons_append, if_true, if_false, ite_true, ite_false, not_true_eq_false, not_false_eq_true, qn_lt0, qn_ge0, qn_lt, qn_le, qn_eq, qn_e0, qn_gt0, qn_le0, qn_m1, nI_add, pk_mul, qb_e0, Classical.not_not, qs_CO_skills hC, e1, qs_PR_isDue hP hS hk10, h1, qe_vs, Nat.one_ne_zero, qs_PR_stateOf hP hk10, qs_PR_stateOf hP hb10, qs_SS_dueDay hs1, qs_SS_dueDay hsb, hS.2.1 k 3 hk10 (by omega), hS.2.1 b 3 hb10 (by omega), eq_true h3]
              exact e2
            · have h4 : s (1 + 9 * k + 3) < s (1 + 9 * b + 3) := Int32.not_le.mp h3
              rw [if_pos (by simpa using h4)] at hstp
              have e2 := ih (k + 1) (qa_i (nI 1)) (qa_i (nI o)) (by omega)
              rw [hstp, hitk, qe_vs, qe_vs] at e2
              simp (disch := first | assumption | omega | exact Or.inl rfl | exact Or.inr rfl | exact qb_01) only [qr_103_0, qr_103_1, qr_103_2, qr_103_3, qr_103_4, qr_103_5, qr_103_9, qr_103_10, qr_103_13, qr_103_16, qr_103_17, qr_103_19, qr_103_22, qr_103_25, qr_103_26, qr_103_27, qr_103_30, qr_103_31, qr_103_33, qr_103_36, qr_103_39, qr_103_40, qr_103_41, qr_103_44, qr_103_47, qr_103_50, qr_103_51, qr_103_54, qr_103_55, qr_103_57, qr_103_59, qr_103_62, qr_103_64, qr_103_65, qr_103_66, qr_103_69, qr_103_72, qr_103_73, qr_103_75, qr_103_77, qr_103_78, qr_103_81, qr_103_83, qr_103_84, qr_103_86, qr_103_87, qr_103_90, qr_103_93, qr_103_94, true_and, and_true, false_and, and_false, Option.bind_some, Option.toList_some, Option.toList_none, List.nil_append, List.cons_append, if_true, if_false, ite_true, ite_false, not_true_eq_false, not_false_eq_true, qn_lt0, qn_ge0, qn_lt, qn_le, qn_eq, qn_e0, qn_gt0, qn_le0, qn_m1, nI_add, pk_mul, qb_e0, Classical.not_not, qs_CO_skills hC, e1, qs_PR_isDue hP hS hk10, h1, qe_vs, Nat.one_ne_zero, qs_PR_stateOf hP hk10, qs_PR_stateOf hP hb10, qs_SS_dueDay hs1, qs_SS_dueDay hsb, hS.2.1 k 3 hk10 (by omega), hS.2.1 b 3 hb10 (by omega), eq_false h3, hz]
              exact e2
      · rw [eq_false_of_ne_true h1] at hstp
        simp only [Bool.false_and, Bool.false_eq_true, true_and, and_true, false_and, and_false, Option.bind_some, Option.toList_some, Option.toList_none, List.nil_append, List.cons_append, if_true, if_false, ite_true, ite_false, not_true_eq_false, not_false_eq_true] at hstp
        have e2 := ih (k + 1) (qa_i (nI 0)) (qa_i (-1)) (by omega)
        rw [hstp] at e2
        rw [qr_103_7]
        simp (disch := first | assumption | omega | exact Or.inl rfl | exact Or.inr rfl | exact qb_01) only [qr_103_0, qr_103_1, qr_103_2, qr_103_3, qr_103_4, qr_103_5, qr_103_9, qr_103_10, qr_103_13, qr_103_16, qr_103_17, qr_103_19, qr_103_22, qr_103_25, qr_103_26, qr_103_27, qr_103_30, qr_103_31, qr_103_33, qr_103_36, qr_103_39, qr_103_40, qr_103_41, qr_103_44, qr_103_47, qr_103_50, qr_103_51, qr_103_54, qr_103_55, qr_103_57, qr_103_59, qr_103_62, qr_103_64, qr_103_65, qr_103_66, qr_103_69, qr_103_72, qr_103_73, qr_103_75, qr_103_77, qr_103_78, qr_103_81, qr_103_83, qr_103_84, qr_103_86, qr_103_87, qr_103_90, qr_103_93, qr_103_94, true_and, and_true, false_and, and_false, Option.bind_some, Option.toList_some, Option.toList_none, List.nil_append, List.cons_append, if_true, if_false, ite_true, ite_false, not_true_eq_false, not_false_eq_true, qn_lt0, qn_ge0, qn_lt, qn_le, qn_eq, qn_e0, qn_gt0, qn_le0, qn_m1, nI_add, pk_mul, qb_e0, Classical.not_not, qs_CO_skills hC, e1, qs_PR_isDue hP hS hk10, eq_false h1]
        exact e2
  have e1 := loop nk 0 qa_u qa_u (by omega)
  simp (disch := first | assumption | omega | exact Or.inl rfl | exact Or.inr rfl | exact qb_01) only [qe_103, qr_103_0, qr_103_1, qr_103_2, qr_103_3, qr_103_4, qr_103_5, qr_103_9, qr_103_10, qr_103_13, qr_103_16, qr_103_17, qr_103_19, qr_103_22, qr_103_25, qr_103_26, qr_103_27, qr_103_30, qr_103_31, qr_103_33, qr_103_36, qr_103_39, qr_103_40, qr_103_41, qr_103_44, qr_103_47, qr_103_50, qr_103_51, qr_103_54, qr_103_55, qr_103_57, qr_103_59, qr_103_62, qr_103_64, qr_103_65, qr_103_66, qr_103_69, qr_103_72, qr_103_73, qr_103_75, qr_103_77, qr_103_78, qr_103_81, qr_103_83, qr_103_84, qr_103_86, qr_103_87, qr_103_90, qr_103_93, qr_103_94, true_and, and_true, false_and, and_false, Option.bind_some, Option.toList_some, Option.toList_none, List.nil_append, List.cons_append, if_true, if_false, ite_true, ite_false, not_true_eq_false, not_false_eq_true, qn_lt0, qn_ge0, qn_lt, qn_le, qn_eq, qn_e0, qn_gt0, qn_le0, qn_m1, nI_add, pk_mul, qb_e0, Classical.not_not]
  exact e1
end Q49
