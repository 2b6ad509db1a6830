/-! A step of nextDay. -/
section Q72
variable {d : Nat} {K : Nat → Nat × Nat} {I : Nat → Nat → Int32} {R : Nat → Nat → Option Nat} {n z : Nat} {x y : Int32} {h : qa_H} {m : Nat}
theorem qJ_nextDay (hJ : qJ m h) (hm512 : m ≤ 512) : qJs d 80 191 [qa_i x] m h := by
  obtain ⟨K, I, R, n, z⟩ := h
  have hJ0 := hJ
  obtain ⟨j1, j2, j3, j4, j5, nk, pm, T, ni, fs, hd, s, b, g, el, er, nh, P, len, tx, wl, wt, lv, ec, en, sn, nk', pm', T', ni', fs', hd', sv, hc, hm, hp⟩ := hJ
  have hS : qS K R := j1
  have j2 : ∀ a, n ≤ a → K a = (77, 0) := j2
  have j3 : 204 ≤ n := j3
  have j4 : n ≤ 204 + 84 * m := j4
  have j5 : z ≤ 20000 + 354 * m := j5
  have hc : qZc K I R n nk pm T ni fs hd s b g el er nh P len tx wl wt lv ec en sn nk' pm' T' ni' fs' hd' sv := hc
  have hm : qZm I nk pm T ni fs hd s b g el er nh P len tx wl wt lv ec en sn nk' pm' T' ni' fs' hd' sv := hm
  obtain ⟨⟨l0, l1, l2, l3, l4, l5, l6, l7, l8, l9, l10, l11⟩, t2, t4, t6, ex, co, p1, p2, lg, hi, sc, sp, mo⟩ := id hS
  obtain ⟨q, q', nx, f, zA, zq, zn, zP, zL, zH, zT, zW, zX, zS, zV⟩ := id hc
  obtain ⟨⟨a1, a2⟩, ⟨b1, b2⟩, c1, ⟨d1, d2⟩, e1, ⟨f1, f2, f3⟩, ⟨g1, g2⟩, h1, i1, k1⟩ := id hm
  obtain ⟨⟨n1, n2⟩, n3, n4, n5, n6, n7, n8, n9, n10, n11, n12, n13⟩ := id hp
  have hC := zA.1
  have k10 := hC.2.2.2.2.1
  have i12 := hC.2.2.2.2.2.2.2.1
  have co0 := co.1
  have mo0 := mo.1
  have p17 := p1.1
  have lg0 := lg.1
  have hi0 := hi.1
  have hfi : ∀ i, i < ni → fs i < nk := fun i hi => (e1.2.2.2.2.2.2.2.2 i hi).2.2.1
  obtain ⟨m0, ⟨s1', s2', s3'⟩, -⟩ := id mo
  have s3' : R 189 0 = some 190 := s3'
  have s1' : (K 190).1 = 100 := s1'
  have s2' : (K 190).2 = 127 := s2'
  obtain ⟨v, hv1, hv2⟩ := n1.1
  have d17 : I 17 6 = nI v := by rw [zP.1]; exact hv2
  have d190 : I 190 0 = nI v := by rw [a1]; exact hv2
  by_cases hx : ¬ x < nI 1 ∧ ¬ nI 60 < x
  · obtain ⟨j, q1, q2, rfl⟩ := qn_rg3 (by omega) (by omega) hx
    have ga : ¬ j < 1 := by omega
    have gb : ¬ 60 < j := by omega
    by_cases hday : v + j ≤ 9999
    · have hN := qN_ok (B := 20000 + 100 * m) (T := T) (pm := pm) n3 b2 k10 i12 n6 n7 hfi
      have hps := qF_ps_ok (ni := ni) n1 n2 a2 k10
      obtain ⟨I1, b1c, b2c, b3c⟩ := qs_HI_push (d := d + 23) (n := n) (z := z) hi zH p1 (by omega) zP
      have zA1 := qj_A_cg zA (fun a _ _ => b2c a (by omega)) (fun a _ _ => b2c a (by omega)) (fun a _ => b2c a (by omega))
      have zP1 : qp_PS I1 17 s := qp_PS_cg zP (fun a _ _ => b2c a (by omega))
      have zL1 : qp_LS I1 49 f g el er b := qp_LS_cg zL (fun a _ _ => b2c a (by omega))
      have loop : ∀ m' k, k + m' = j → ∀ I0 f0, (∀ a, (a < 17 ∨ (33 ≤ a ∧ a < 49) ∨ 68 ≤ a) → I0 a = I1 a) → qp_PS I0 17 (qF_ps nk s k) → qp_LS I0 49 f0 (qN_g g k) (qN_e g el k) (qN_e g er k) (qN_b nk pm T fs g el er b k) → ∃ I' f', qa_run (d + 26) 80 44 [qa_a (some 1), qa_i (nI j), qa_i (nI k)] [] [] (K, I0, R, n, z) = some (some (qa_i (qF_ps nk s j 0)), (K, I', R, n, z)) ∧ (∀ a, (a < 17 ∨ (33 ≤ a ∧ a < 49) ∨ 68 ≤ a) → I' a = I1 a) ∧ qp_PS I' 17 (qF_ps nk s j) ∧ qp_LS I' 49 f' (qN_g g j) (qN_e g el j) (qN_e g er j) (qN_b nk pm T fs g el er b j) := by
        intro m'
        induction m' with
        | zero =>
          intro k hk I0 f0 hf0 hp0 hl0
          have hk : k = j := by omega
          subst hk
          have h6 : I0 17 6 = qF_ps nk s k 0 := hp0.1
          refine ⟨I0, f0, ?_, hf0, hp0, hl0⟩
          rw [qr_80_44]
          simp (disch := first | assumption | omega | exact Or.inl rfl | exact Or.inr rfl | exact qb_01) only [qr_80_0, qr_80_1, qr_80_2, qr_80_4, qr_80_7, qr_80_10, qr_80_12, qr_80_13, qr_80_14, qr_80_17, qr_80_20, qr_80_21, qr_80_22, qr_80_25, qr_80_28, qr_80_30, qr_80_31, qr_80_32, qr_80_35, qr_80_36, qr_80_39, qr_80_42, qr_80_43, qr_80_45, qr_80_46, qr_80_49, qr_80_50, qr_80_53, qr_80_56, qr_80_57, qr_80_60, qr_80_63, qr_80_66, qr_80_69, qr_80_70, qr_80_73, qr_80_76, true_and, and_true, false_and, and_false, Option.bind_some, Option.toList_some, Option.toList_none, List.nil_append, List.cons_append, if_true, if_false, ite_true, ite_false, not_true_eq_false, not_false_eq_true, qn_lt0, qn_ge0, qn_lt, qn_le, qn_eq, qn_e0, qn_gt0, qn_le0, qn_m1, nI_add, pk_mul, qb_e0, Classical.not_not, Nat.le_refl, l6, qs_PR_day, h6]
        | succ m' ih =>
          intro k hk I0 f0 hf0 hp0 hl0
          have e0 : ¬ j ≤ k := by omega
          have zA0 := qj_A_cg zA1 (fun a _ _ => hf0 a (by omega)) (fun a _ _ => hf0 a (by omega)) (fun a _ => hf0 a (by omega))
          obtain ⟨I2, c1c, c2c, c3c⟩ := qs_PR_passDay (d := d + 23) (n := n) (z := z) p1 zA0.1 (⟨by omega, by omega⟩ : qz_sep 17 10 q) hp0
          have zA2 := qj_A_cg zA0 (fun a _ _ => c2c a (by omega)) (fun a _ _ => c2c a (by omega)) (fun a _ => c2c a (by omega))
          have hl2 := qp_LS_cg hl0 (fun a _ _ => c2c a (by omega))
          obtain ⟨I3, f', u1c, u2c, u3c⟩ := qs_LG_add (d := d + 19) (n := n) (z := z) (e := 0) (r := 0) lg hl2 zA2.1 (⟨by omega, by omega⟩ : qz_sep (49 + 3) 10 q) (fun hg => ((hN k).2.1 0 (by omega)).1) (fun hg => ((hN k).2.1 0 (by omega)).2)
          rw [qe_v0] at u1c
          have u4c := qs_LG_addDay lg0 u1c
          obtain ⟨I4, f4, y1, y2, y3, y4⟩ := ih (k + 1) (by omega) I3 f' (fun a ha => by rw [u2c a (by omega), c2c a (by omega)]; exact hf0 a ha) (qp_PS_cg c3c (fun a _ _ => u2c a (by omega))) u3c
          refine ⟨I4, f4, ?_, y2, y3, y4⟩
          rw [qr_80_44]
          simp (disch := first | assumption | omega | exact Or.inl rfl | exact Or.inr rfl | exact qb_01) only [qr_80_0, qr_80_1, qr_80_2, qr_80_4, qr_80_7, qr_80_10, qr_80_12, qr_80_13, qr_80_14, qr_80_17, qr_80_20, qr_80_21, qr_80_22, qr_80_25, qr_80_28, qr_80_30, qr_80_31, qr_80_32, qr_80_35, qr_80_36, qr_80_39, qr_80_42, qr_80_43, qr_80_45, qr_80_46, qr_80_49, qr_80_50, qr_80_53, qr_80_56, qr_80_57, qr_80_60, qr_80_63, qr_80_66, qr_80_69, qr_80_70, qr_80_73, qr_80_76, true_and, and_true, false_and, and_false, Option.bind_some, Option.toList_some, Option.toList_none, List.nil_append, List.cons_append, if_true, if_false, ite_true, ite_false, not_true_eq_false, not_false_eq_true, qn_lt0, qn_ge0, qn_lt, qn_le, qn_eq, qn_e0, qn_gt0, qn_le0, qn_m1, nI_add, pk_mul, qb_e0, Classical.not_not, e0, l6, l8, c1c, u4c]
          exact y1
      obtain ⟨I3, f', y1, y2, y3, y4⟩ := loop j 0 (by omega) I1 f (fun _ _ => rfl) zP1 zL1
      have r1 : qa_ex (d + 27) 80 [qa_a (some 1), qa_i (nI j)] (K, I, R, n, z) = some (some (qa_i (qF_ps nk s j 0)), (K, I3, R, n, z)) := by
        simp (disch := first | assumption | omega | exact Or.inl rfl | exact Or.inr rfl | exact qb_01) only [qe_80, qr_80_0, qr_80_1, qr_80_2, qr_80_4, qr_80_7, qr_80_10, qr_80_12, qr_80_13, qr_80_14, qr_80_17, qr_80_20, qr_80_21, qr_80_22, qr_80_25, qr_80_28, qr_80_30, qr_80_31, qr_80_32, qr_80_35, qr_80_36, qr_80_39, qr_80_42, qr_80_43, qr_80_45, qr_80_46, qr_80_49, qr_80_50, qr_80_53, qr_80_56, qr_80_57, qr_80_60, qr_80_63, qr_80_66, qr_80_69, qr_80_70, qr_80_73, qr_80_76, true_and, and_true, false_and, and_false, Option.bind_some, Option.toList_some, Option.toList_none, List.nil_append, List.cons_append, if_true, if_false, ite_true, ite_false, not_true_eq_false, not_false_eq_true, qn_lt0, qn_ge0, qn_lt, qn_le, qn_eq, qn_e0, qn_gt0, qn_le0, qn_m1, nI_add, pk_mul, qb_e0, Classical.not_not, Nat.reduceEqDiff, Nat.reduceLT, Nat.reduceLeDiff, Nat.not_lt_zero, Nat.zero_le, qs_LA_isWithin, ga, gb, l6, qs_PR_day, d17, hday, l9, b1c]
        exact y1
      have hI : ∀ a, (a < 17 ∨ (33 ≤ a ∧ a < 49) ∨ 166 ≤ a) → I3 a = I a := fun a ha => by rw [y2 a (by omega), b2c a (by omega)]
      have zA3 := qj_A_cg zA1 (fun a _ _ => y2 a (by omega)) (fun a _ _ => y2 a (by omega)) (fun a _ => y2 a (by omega))
      have hH3 : qp_HS I3 68 ((nx + 1) % 6) (qK_n nh) (qK_P nh P s) := qp_HS_cg b3c (fun a _ _ => y2 a (by omega))
      have hm1 := qZm_cg (I' := I3) hm (fun a h1 h2 => hI a (by omega))
      obtain ⟨⟨a1, a2⟩, ⟨b1, b2⟩, c1, ⟨d1, d2⟩, e1, ⟨f1, f2, f3⟩, ⟨g1, g2⟩, h1, i1, k1⟩ := hm1
      obtain ⟨J1, k1m, k2m, k3m, k4m, k5m⟩ := qs_MO_keeps2 (d := d + 25) (I := I3) (n := n) (z := z) (P := P) mo d1 n5 d2
      have jn : ∀ a, a ≠ 189 → a ≠ 193 → J1 a = I3 a := k2m
      have k5m : ∀ j, j < qK_n nh → ∀ i, i < 127 → J1 193 (127 * j + i) = qK_P nh P s j i := by
        rw [show I3 (189 + 1) = s from a1] at k5m
        exact k5m
      have e11 : qp_MC (J1 194) nk pm T ni fs hd := by rw [jn 194 (by omega) (by omega)]; exact e1
      have mloop : ∀ m' k, k + m' = j → ∀ J, (∀ a, (a < 189 ∨ (192 < a ∧ a < 198) ∨ 199 < a) → J a = J1 a) → (∀ f, f ≠ 12 → J 189 f = J1 189 f) → J 190 = qF_ps nk s k → J 191 = qN_b nk pm T fs g el er b k → qv_Z (J 192) → J 189 12 = nI (qN_g g k) → (∀ i, i < qN_g g k → J 198 i = qe_v (qN_e g el k i) ∧ J 199 i = nI (qN_e g er k i)) → ∃ J', qa_run (d + 26) 191 36 [qa_a (some 189), qa_i (nI j), qa_i (nI k)] [] [] (K, J, R, n, z) = some (some (qa_i (qF_ps nk s j 0)), (K, J', R, n, z)) ∧ (∀ a, (a < 189 ∨ (192 < a ∧ a < 198) ∨ 199 < a) → J' a = J1 a) ∧ (∀ f, f ≠ 12 → J' 189 f = J1 189 f) ∧ J' 190 = qF_ps nk s j ∧ J' 191 = qN_b nk pm T fs g el er b j ∧ qv_Z (J' 192) ∧ J' 189 12 = nI (qN_g g j) ∧ ∀ i, i < qN_g g j → J' 198 i = qe_v (qN_e g el j i) ∧ J' 199 i = nI (qN_e g er j i) := by
        intro m'
        induction m' with
        | zero =>
          intro k hk J o1 o2 o3 o4 o5 o6 o7
          have hk : k = j := by omega
          subst hk
          refine ⟨J, ?_, o1, o2, o3, o4, o5, o6, o7⟩
          rw [qr_191_36]
          simp (disch := first | assumption | omega | exact Or.inl rfl | exact Or.inr rfl | exact qb_01) only [qr_191_0, qr_191_1, qr_191_2, qr_191_4, qr_191_7, qr_191_10, qr_191_12, qr_191_13, qr_191_14, qr_191_17, qr_191_18, qr_191_19, qr_191_20, qr_191_21, qr_191_24, qr_191_27, qr_191_29, qr_191_30, qr_191_31, qr_191_34, qr_191_35, qr_191_37, qr_191_38, qr_191_41, qr_191_42, qr_191_43, qr_191_44, qr_191_47, qr_191_48, qr_191_51, qr_191_54, qr_191_57, qr_191_58, qr_191_61, qr_191_62, qr_191_63, true_and, and_true, false_and, and_false, Option.bind_some, Option.toList_some, Option.toList_none, List.nil_append, List.cons_append, if_true, if_false, ite_true, ite_false, not_true_eq_false, not_false_eq_true, qn_lt0, qn_ge0, qn_lt, qn_le, qn_eq, qn_e0, qn_gt0, qn_le0, qn_m1, nI_add, pk_mul, qb_e0, Classical.not_not, Nat.le_refl, s3', o3]
        | succ m' ih =>
          intro k hk J o1 o2 o3 o4 o5 o6 o7
          have e0 : ¬ j ≤ k := by omega
          obtain ⟨N1, N2, N3, N4⟩ := hN k
          obtain ⟨M1, M2, M3⟩ := hps k
          have ej : qp_MC (J 194) nk pm T ni fs hd := by rw [o1 194 (by omega)]; exact e11
          obtain ⟨J2, l1m, l2m, l3m, l4m, l5m, l6m, l7m, l8m⟩ := qs_MO_logs2 (d := d + 9) (I := J) (n := n) (z := z) (B := 20000 + 100 * m + k) (nk := nk) (pm := pm) (T := T) (ni := ni) (fs := fs) (hd := hd) (g := qN_g g k) (el := qN_e g el k) (er := qN_e g er k) (e := 0) (r := 0) mo ej (by omega) (by show qv_S _ (J 191); rw [o4]; exact N3) (by show qv_Z (J 190); rw [o3]; exact M3) (by show qv_Z (J 191); rw [o4]; exact N4) o5 o6 N1 o7 N2
          rw [qe_v0] at l1m
          have l2m : J2 190 = qF_ps nk s k := l2m.trans o3
          have l3m : J2 191 = qN_b nk pm T fs g el er b (k + 1) := by
            rw [show J (189 + 2) = qN_b nk pm T fs g el er b k from o4] at l3m
            exact l3m
          have jn2 : ∀ a, (a < 189 ∨ (192 < a ∧ a < 198) ∨ 199 < a) → J2 a = J a := fun a ha => l8m a (by omega) (by omega) (by omega) (by omega) (by omega) (by omega)
          have ej2 : qp_MC (J2 194) nk pm T ni fs hd := by rw [jn2 194 (by omega)]; exact ej
          have ps := qs_MO_passes (d := d + 23) (I := J2) (R := R) (n := n) (z := z) (nk := nk) (B := 20000 + 100 * m + k) mo ej2.1 k10 (by omega) (by show qv_S _ (J2 190); rw [l2m]; exact M1)
          rw [show J2 (189 + 1) = qF_ps nk s k from l2m] at ps
          obtain ⟨J3, hJ3⟩ : ∃ J3, J3 = va_up J2 (189 + 1) (qF_pas (qF_ps nk s k) nk) := ⟨_, rfl⟩
          rw [← hJ3] at ps
          have jn3 : ∀ a, a ≠ 190 → J3 a = J2 a := fun a ha => by rw [hJ3]; exact qa_up_n _ _ (by omega)
          obtain ⟨J4, y1, y2, y3⟩ := ih (k + 1) (by omega) J3 (fun a ha => by rw [jn3 a (by omega), jn2 a ha]; exact o1 a ha) (fun f hf => by rw [jn3 189 (by omega), l7m f hf]; exact o2 f hf) (by rw [hJ3]; exact qa_up_s _ _ _) (by rw [jn3 191 (by omega)]; exact l3m) (by rw [jn3 192 (by omega)]; exact l4m) (by rw [jn3 189 (by omega)]; exact l5m) (fun i hi => by rw [jn3 198 (by omega), jn3 199 (by omega)]; exact l6m i hi)
          refine ⟨J4, ?_, y2, y3⟩
          rw [qr_191_36]
          simp (disch := first | assumption | omega | exact Or.inl rfl | exact Or.inr rfl | exact qb_01) only [qr_191_0, qr_191_1, qr_191_2, qr_191_4, qr_191_7, qr_191_10, qr_191_12, qr_191_13, qr_191_14, qr_191_17, qr_191_18, qr_191_19, qr_191_20, qr_191_21, qr_191_24, qr_191_27, qr_191_29, qr_191_30, qr_191_31, qr_191_34, qr_191_35, qr_191_37, qr_191_38, qr_191_41, qr_191_42, qr_191_43, qr_191_44, qr_191_47, qr_191_48, qr_191_51, qr_191_54, qr_191_57, qr_191_58, qr_191_61, qr_191_62, qr_191_63, true_and, and_true, false_and, and_false, Option.bind_some, Option.toList_some, Option.toList_none, List.nil_append, List.cons_append, if_true, if_false, ite_true, ite_false, not_true_eq_false, not_false_eq_true, qn_lt0, qn_ge0, qn_lt, qn_le, qn_eq, qn_e0, qn_gt0, qn_le0, qn_m1, nI_add, pk_mul, qb_e0, Classical.not_not, e0, l1m, ps]
          exact y1
      obtain ⟨J3, x1, x2, x3, x4, x5, x6, x7, x8⟩ := mloop j 0 (by omega) J1 (fun _ _ => rfl) (fun _ _ => rfl) ((jn 190 (by omega) (by omega)).trans a1) ((jn 191 (by omega) (by omega)).trans b1) (by rw [jn 192 (by omega) (by omega)]; exact c1) (by rw [k3m 12 (by omega)]; exact g1) (fun i hi => by rw [jn 198 (by omega) (by omega), jn 199 (by omega) (by omega)]; exact g2 i hi)
      have d190' : I3 190 0 = nI v := by rw [a1]; exact hv2
      have r2 : qa_ex (d + 27) 191 [qa_a (some 189), qa_i (nI j)] (K, I3, R, n, z) = some (some (qa_i (qF_ps nk s j 0)), (K, J3, R, n, z)) := by
        simp (disch := first | assumption | omega | exact Or.inl rfl | exact Or.inr rfl | exact qb_01) only [qe_191, qr_191_0, qr_191_1, qr_191_2, qr_191_4, qr_191_7, qr_191_10, qr_191_12, qr_191_13, qr_191_14, qr_191_17, qr_191_18, qr_191_19, qr_191_20, qr_191_21, qr_191_24, qr_191_27, qr_191_29, qr_191_30, qr_191_31, qr_191_34, qr_191_35, qr_191_37, qr_191_38, qr_191_41, qr_191_42, qr_191_43, qr_191_44, qr_191_47, qr_191_48, qr_191_51, qr_191_54, qr_191_57, qr_191_58, qr_191_61, qr_191_62, qr_191_63, true_and, and_true, false_and, and_false, Option.bind_some, Option.toList_some, Option.toList_none, List.nil_append, List.cons_append, if_true, if_false, ite_true, ite_false, not_true_eq_false, not_false_eq_true, qn_lt0, qn_ge0, qn_lt, qn_le, qn_eq, qn_e0, qn_gt0, qn_le0, qn_m1, nI_add, pk_mul, qb_e0, Classical.not_not, Nat.reduceEqDiff, Nat.reduceLT, Nat.reduceLeDiff, Nat.not_lt_zero, Nat.zero_le, qs_MO_isIn, ga, gb, s3', d190', hday, k1m]
        exact x1
      have hc1 : qZc K I3 R n nk pm T ni fs hd (qF_ps nk s j) (qN_b nk pm T fs g el er b j) (qN_g g j) (qN_e g el j) (qN_e g er j) (qK_n nh) (qK_P nh P s) len tx wl wt lv ec en sn nk' pm' T' ni' fs' hd' sv := ⟨q, q', ((nx + 1) % 6), f', zA3, zq, zn, y3, y4, hH3, qp_L_cg zT (by rw [hI 2 (by omega)]) (hI _ (by omega)), qp_L_cg zW (by rw [hI 4 (by omega)]) (hI _ (by omega)), qp_X_cg zX (by rw [hI 7 (by omega)]) (hI _ (by omega)) (hI _ (by omega)), by rw [hI 1 (by omega)]; exact zS, fun hs => by
      obtain ⟨v1, v2, v3, v4⟩ := zV hs
      exact ⟨qj_A_cg v1 (fun a _ _ => hI a (by omega)) (fun a _ _ => hI a (by omega)) (fun a _ => hI a (by omega)), v2, v3, qp_PS_cg v4 (fun a _ _ => hI a (by omega))⟩⟩
      have hn : ∀ a, (a < 189 ∨ 193 < a) → (a < 198 ∨ 199 < a) → J3 a = I3 a := fun a ha hb => by rw [x2 a (by omega), jn a (by omega) (by omega)]
      have h0 : ∀ f, f ≠ 4 → f ≠ 12 → J3 189 f = I3 189 f := fun f hf hg => by rw [x3 f hg, k3m f hf]
      have hm2 : qZm J3 nk pm T ni fs hd (qF_ps nk s j) (qN_b nk pm T fs g el er b j) (qN_g g j) (qN_e g el j) (qN_e g er j) (qK_n nh) (qK_P nh P s) len tx wl wt lv ec en sn nk' pm' T' ni' fs' hd' sv := ⟨⟨x4, (hps j).2.2⟩, ⟨x5, (hN j).2.2.2⟩, x6, ⟨by rw [x3 4 (by omega)]; exact k4m, fun j hj i hi => by rw [x2 193 (by omega)]; exact k5m j hj i hi⟩, by rw [x2 194 (by omega)]; exact e11, ⟨by rw [h0 9 (by omega) (by omega)]; exact f1, by rw [hn 196 (by omega) (by omega)]; exact f2, fun hs => by rw [hn 196 (by omega) (by omega), hn 197 (by omega) (by omega)]; exact f3 hs⟩, ⟨x7, x8⟩, qp_L_cg h1 (h0 14 (by omega) (by omega)) (hn 200 (by omega) (by omega)), qp_X_cg i1 (h0 20 (by omega) (by omega)) (hn 201 (by omega) (by omega)) (hn 202 (by omega) (by omega)), qp_L_cg k1 (h0 22 (by omega) (by omega)) (hn 203 (by omega) (by omega))⟩
      exact ⟨_, _, _, r1, r2, ⟨rfl, hI 0 (by omega), rfl⟩, rfl, by show J3 0 = I 0; rw [hn 0 (by omega) (by omega), hI 0 (by omega)], hS, j2, j3, by show n ≤ _; omega, by show z ≤ _; omega, nk, pm, T, ni, fs, hd, (qF_ps nk s j), (qN_b nk pm T fs g el er b j), (qN_g g j), (qN_e g el j), (qN_e g er j), (qK_n nh), (qK_P nh P s), len, tx, wl, wt, lv, ec, en, sn, nk', pm', T', ni', fs', hd', sv, qZc_cg hc1 (fun a ha => hn a (by omega) (by omega)), hm2, qZp_mono (B := 20000 + 100 * m + j) ⟨⟨(hps j).1, (hps j).2.1⟩, (hN j).2.2.1, qK_P_all (C := fun t => qv_S (20000 + 100 * m + j) t ∧ qv_I ni t) (fun i hi => ⟨qv_S_mono (n4 i hi).1 (by omega), (n4 i hi).2⟩) ⟨qv_S_mono n1 (by omega), n2⟩ n5, qK_n_le n5, (hN j).1, (hN j).2.1, n8, n9, n10, n11, n12, fun hs => ⟨qv_S_mono (n13 hs).1 (by omega), (n13 hs).2⟩⟩ (by omega)⟩
    · exact qJ_ro hJ0 ⟨-3, by simp (disch := first | assumption | omega | exact Or.inl rfl | exact Or.inr rfl | exact qb_01) only [qe_80, qr_80_0, qr_80_1, qr_80_2, qr_80_4, qr_80_7, qr_80_10, qr_80_12, qr_80_13, qr_80_14, qr_80_17, qr_80_20, qr_80_21, qr_80_22, qr_80_25, qr_80_28, qr_80_30, qr_80_31, qr_80_32, qr_80_35, qr_80_36, qr_80_39, qr_80_42, qr_80_43, qr_80_45, qr_80_46, qr_80_49, qr_80_50, qr_80_53, qr_80_56, qr_80_57, qr_80_60, qr_80_63, qr_80_66, qr_80_69, qr_80_70, qr_80_73, qr_80_76, true_and, and_true, false_and, and_false, Option.bind_some, Option.toList_some, Option.toList_none, List.nil_append, List.cons_append, if_true, if_false, ite_true, ite_false, not_true_eq_false, not_false_eq_true, qn_lt0, qn_ge0, qn_lt, qn_le, qn_eq, qn_e0, qn_gt0, qn_le0, qn_m1, nI_add, pk_mul, qb_e0, Classical.not_not, Nat.reduceEqDiff, Nat.reduceLT, Nat.reduceLeDiff, Nat.not_lt_zero, Nat.zero_le, qs_LA_isWithin, ga, gb, l6, qs_PR_day, d17, hday], by simp (disch := first | assumption | omega | exact Or.inl rfl | exact Or.inr rfl | exact qb_01) only [qe_191, qr_191_0, qr_191_1, qr_191_2, qr_191_4, qr_191_7, qr_191_10, qr_191_12, qr_191_13, qr_191_14, qr_191_17, qr_191_18, qr_191_19, qr_191_20, qr_191_21, qr_191_24, qr_191_27, qr_191_29, qr_191_30, qr_191_31, qr_191_34, qr_191_35, qr_191_37, qr_191_38, qr_191_41, qr_191_42, qr_191_43, qr_191_44, qr_191_47, qr_191_48, qr_191_51, qr_191_54, qr_191_57, qr_191_58, qr_191_61, qr_191_62, qr_191_63, true_and, and_true, false_and, and_false, Option.bind_some, Option.toList_some, Option.toList_none, List.nil_append, List.cons_append, if_true, if_false, ite_true, ite_false, not_true_eq_false, not_false_eq_true, qn_lt0, qn_ge0, qn_lt, qn_le, qn_eq, qn_e0, qn_gt0, qn_le0, qn_m1, nI_add, pk_mul, qb_e0, Classical.not_not, Nat.reduceEqDiff, Nat.reduceLT, Nat.reduceLeDiff, Nat.not_lt_zero, Nat.zero_le, qs_MO_isIn, ga, gb, s3', d190, hday]⟩
  · exact qJ_ro hJ0 ⟨-2, by simp (disch := first | assumption | omega | exact Or.inl rfl | exact Or.inr rfl | exact qb_01) only [qe_80, qr_80_0, qr_80_1, qr_80_2, qr_80_4, qr_80_7, qr_80_10, qr_80_12, qr_80_13, qr_80_14, qr_80_17, qr_80_20, qr_80_21, qr_80_22, qr_80_25, qr_80_28, qr_80_30, qr_80_31, qr_80_32, qr_80_35, qr_80_36, qr_80_39, qr_80_42, qr_80_43, qr_80_45, qr_80_46, qr_80_49, qr_80_50, qr_80_53, qr_80_56, qr_80_57, qr_80_60, qr_80_63, qr_80_66, qr_80_69, qr_80_70, qr_80_73, qr_80_76, true_and, and_true, false_and, and_false, Option.bind_some, Option.toList_some, Option.toList_none, List.nil_append, List.cons_append, if_true, if_false, ite_true, ite_false, not_true_eq_false, not_false_eq_true, qn_lt0, qn_ge0, qn_lt, qn_le, qn_eq, qn_e0, qn_gt0, qn_le0, qn_m1, nI_add, pk_mul, qb_e0, Classical.not_not, Nat.reduceEqDiff, Nat.reduceLT, Nat.reduceLeDiff, Nat.not_lt_zero, Nat.zero_le, qs_LA_isWithin, eq_false hx], by simp (disch := first | assumption | omega | exact Or.inl rfl | exact Or.inr rfl | exact qb_01) only [qe_191, qr_191_0, qr_191_1, qr_191_2, qr_191_4, qr_191_7, qr_191_10, qr_191_12, qr_191_13, qr_191_14, qr_191_17, qr_191_18, qr_191_19, qr_191_20, qr_191_21, qr_191_24, qr_191_27, qr_191_29, qr_191_30, qr_191_31, qr_191_34, qr_191_35, qr_191_37, qr_191_38, qr_191_41, qr_191_42, qr_191_43, qr_191_44, qr_191_47, qr_191_48, qr_191_51, qr_191_54, qr_191_57, qr_191_58, qr_191_61, qr_191_62, qr_191_63, true_and, and_true, false_and, and_false, Option.bind_some, Option.toList_some, Option.toList_none, List.nil_append, List.cons_append, if_true, if_false, ite_true, ite_false, not_true_eq_false, not_false_eq_true, qn_lt0, qn_ge0, qn_lt, qn_le, qn_eq, qn_e0, qn_gt0, qn_le0, qn_m1, nI_add, pk_mul, qb_e0, Classical.not_not, Nat.reduceEqDiff, Nat.reduceLT, Nat.reduceLeDiff, Nat.not_lt_zero, Nat.zero_le, qs_MO_isIn, eq_false hx]⟩
end Q72
