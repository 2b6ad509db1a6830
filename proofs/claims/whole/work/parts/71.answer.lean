/-! Steps: answer, nextDay. -/
theorem qs_LG_addAnswer {d w : Nat} {K : Nat → Nat × Nat} {I : Nat → Nat → Int32} {R : Nat → Nat → Option Nat} {n z : Nat} {x y : Int32} {h1 : qa_H} (hk : K w = (8, 0)) (e : qa_ex (d + 6) 73 [qa_a (some w), qa_i x, qa_i y] (K, I, R, n, z) = some (none, h1)) : qa_ex (d + 7) 72 [qa_a (some w), qa_i x, qa_i y] (K, I, R, n, z) = some (none, h1) := by
  simp (disch := first | assumption | omega | exact Or.inl rfl | exact Or.inr rfl | exact qb_01) only [qe_72, qr_72_0, qr_72_1, qr_72_2, qr_72_3, qr_72_6, true_and, and_true, false_and, and_false, Option.bind_some, Option.toList_some, Option.toList_none, List.nil_append, List.cons_append, if_true, if_false, ite_true, ite_false, not_true_eq_false, not_false_eq_true, e]
theorem qs_LG_addDay {d w : Nat} {K : Nat → Nat × Nat} {I : Nat → Nat → Int32} {R : Nat → Nat → Option Nat} {n z : Nat} {h1 : qa_H} (hk : K w = (8, 0)) (e : qa_ex (d + 6) 73 [qa_a (some w), qa_i (-1), qa_i (nI 0)] (K, I, R, n, z) = some (none, h1)) : qa_ex (d + 7) 82 [qa_a (some w)] (K, I, R, n, z) = some (none, h1) := by
  simp (disch := first | assumption | omega | exact Or.inl rfl | exact Or.inr rfl | exact qb_01) only [qe_82, qr_82_0, qr_82_1, qr_82_2, qr_82_3, qr_82_6, true_and, and_true, false_and, and_false, Option.bind_some, Option.toList_some, Option.toList_none, List.nil_append, List.cons_append, if_true, if_false, ite_true, ite_false, not_true_eq_false, not_false_eq_true, e]
/-- days one after the other: the log -/
def qN_g (g : Nat) : Nat → Nat
  | 0 => g
  | k + 1 => qL_g (qN_g g k)
def qN_e (g : Nat) (f : Nat → Nat) : Nat → Nat → Nat
  | 0 => f
  | k + 1 => qL_e (qN_g g k) (qN_e g f k) 0
def qN_b (nk : Nat) (pm : Nat → Nat) (T : Nat → qt_T) (fs : Nat → Nat) (g : Nat) (el er : Nat → Nat) (b : Nat → Int32) : Nat → Nat → Int32
  | 0 => b
  | k + 1 => qL_b nk pm T fs (qN_g g k) (qN_e g el k) (qN_e g er k) (qN_b nk pm T fs g el er b k)
theorem qN_ok {B nk ni g : Nat} {pm fs el er : Nat → Nat} {T : Nat → qt_T} {b : Nat → Int32} (hb : qv_S B b) (hZ : qv_Z b) (h10 : nk ≤ 10) (h12 : ni ≤ 12) (hg : g ≤ 60) (he : ∀ j, j < g → el j ≤ ni ∧ (er j = 0 ∨ er j = 1)) (hfi : ∀ i, i < ni → fs i < nk) : ∀ k, qN_g g k ≤ 60 ∧ (∀ j, j < qN_g g k → qN_e g el k j ≤ ni ∧ (qN_e g er k j = 0 ∨ qN_e g er k j = 1)) ∧ qv_S (B + k) (qN_b nk pm T fs g el er b k) ∧ qv_Z (qN_b nk pm T fs g el er b k) := by
  intro k
  induction k with
  | zero => exact ⟨hg, he, hb, hZ⟩
  | succ k ih =>
    obtain ⟨i1, i2, i3, i4⟩ := ih
    exact ⟨qL_g_le i1, qL_ok i2 (Nat.zero_le _) (Or.inl rfl) i1, qL_b_S i3 h10 i2 hfi, qL_b_Z i4 h10 h12 i2 hfi⟩
theorem qv_I_pas {nk ni : Nat} {s : Nat → Int32} (h : qv_I ni s) (h10 : nk ≤ 10) : qv_I ni (qF_pas s nk) := fun i h1 h2 => by
  rw [qF_pas_ge (by omega), qF_pas_ge (by omega)]
  exact h i h1 h2
theorem qF_ps_ok {B nk ni : Nat} {s : Nat → Int32} (h1 : qv_S B s) (h2 : qv_I ni s) (h3 : qv_Z s) (h10 : nk ≤ 10) : ∀ k, qv_S (B + k) (qF_ps nk s k) ∧ qv_I ni (qF_ps nk s k) ∧ qv_Z (qF_ps nk s k) := by
  intro k
  induction k with
  | zero => exact ⟨h1, h2, h3⟩
  | succ k ih => exact ⟨qv_S_pas ih.1 h10, qv_I_pas ih.2.1 h10, qv_Z_pas ih.2.2 h10⟩
section Q71
variable {d : Nat} {K : Nat → Nat × Nat} {I : Nat → Nat → Int32} {R : Nat → Nat → Option Nat} {n z : Nat} {x y : Int32} {h : qa_H} {m : Nat}
theorem qJ_answer (hJ : qJ m h) (hm512 : m ≤ 512) : qJs d 54 178 [qa_i x, qa_i y] m h := by
  obtain ⟨K, I, R, n, z⟩ := h
  have hJ0 := hJ
  obtain ⟨j1, j2, j3, j4, j5, nk, pm, T, ni, fs, hd, s, b, g, el, er, nh, P, len, tx, wl, wt, lv, ec, en, sn, nk', pm', T', ni', fs', hd', sv, hc, hm, hp⟩ := hJ
  have hS : qS K R := j1
  have j2 : ∀ a, n ≤ a → K a = (77, 0) := j2
  have j3 : 204 ≤ n := j3
  have j4 : n ≤ 204 + 84 * m := j4
  have j5 : z ≤ 20000 + 354 * m := j5
  have hc : qZc K I R n nk pm T ni fs hd s b g el er nh P len tx wl wt lv ec en sn nk' pm' T' ni' fs' hd' sv := hc
  have hm : qZm I nk pm T ni fs hd s b g el er nh P len tx wl wt lv ec en sn nk' pm' T' ni' fs' hd' sv := hm
  obtain ⟨⟨l0, l1, l2, l3, l4, l5, l6, l7, l8, l9, l10, l11⟩, t2, t4, t6, ex, co, p1, p2, lg, hi, sc, sp, mo⟩ := id hS
  obtain ⟨q, q', nx, f, zA, zq, zn, zP, zL, zH, zT, zW, zX, zS, zV⟩ := id hc
  obtain ⟨⟨a1, a2⟩, ⟨b1, b2⟩, c1, ⟨d1, d2⟩, e1, ⟨f1, f2, f3⟩, ⟨g1, g2⟩, h1, i1, k1⟩ := id hm
  obtain ⟨⟨n1, n2⟩, n3, n4, n5, n6, n7, n8, n9, n10, n11, n12, n13⟩ := id hp
  have hC := zA.1
  have k10 := hC.2.2.2.2.1
  have i12 := hC.2.2.2.2.2.2.2.1
  have cn := hC.2.2.2.2.2.2.1
  have mk := e1.1
  have mi := e1.2.2.2.1
  have co0 := co.1
  have mo0 := mo.1
  have p17 := p1.1
  have lg0 := lg.1
  have hi0 := hi.1
  have hfi : ∀ i, i < ni → fs i < nk := fun i hi => (e1.2.2.2.2.2.2.2.2 i hi).2.2.1
  have w3 : R 189 5 = some 194 := mo.2.2.2.2.2.1.2.2
  by_cases hx : ¬ x < 0 ∧ ¬ nI ni ≤ x
  · by_cases hy : ¬ y < nI 0 ∧ ¬ nI 1 < y
    · obtain ⟨i, hin, rfl⟩ := qn_rg hx (by omega)
      obtain ⟨r, q1, q2, rfl⟩ := qn_rg3 (by omega) (by omega) hy
      have hi12 : i < 12 := by omega
      have g3 : ¬ ni ≤ i := by omega
      have g5 : ¬ 1 < r := by omega
      have hr : r = 0 ∨ r = 1 := by omega
      by_cases ho : qs_op s i = true
      · obtain ⟨I1, b1c, b2c, b3c⟩ := qs_HI_push (d := d + 23) (n := n) (z := z) hi zH p1 (by omega) zP
        have zA1 := qj_A_cg zA (fun a _ _ => b2c a (by omega)) (fun a _ _ => b2c a (by omega)) (fun a _ => b2c a (by omega))
        have zP1 : qp_PS I1 17 s := qp_PS_cg zP (fun a _ _ => b2c a (by omega))
        obtain ⟨I2, c1c, c2c, c3c⟩ := qs_PR_takeAnswer (d := d + 22) (n := n) (z := z) (i := i) p1 zA1.1 (⟨by omega, by omega⟩ : qz_sep 17 10 q) zP1 hin hr
        obtain ⟨S, hSd⟩ : ∃ S, S = qF_step nk pm T fs (i + 1) r s := ⟨_, rfl⟩
        have c3c : qp_PS I2 17 S := by rw [hSd]; exact c3c
        have zA2 := qj_A_cg zA1 (fun a _ _ => c2c a (by omega)) (fun a _ _ => c2c a (by omega)) (fun a _ => c2c a (by omega))
        have zL2 : qp_LS I2 49 f g el er b := qp_LS_cg zL (fun a _ _ => by rw [c2c a (by omega), b2c a (by omega)])
        obtain ⟨I3, f', u1c, u2c, u3c⟩ := qs_LG_add (d := d + 19) (n := n) (z := z) (e := i + 1) (r := r) lg zL2 zA2.1 (⟨by omega, by omega⟩ : qz_sep (49 + 3) 10 q) (fun hg => (n7 0 (by omega)).1) (fun hg => (n7 0 (by omega)).2)
        rw [qe_vs] at u1c
        have u4c := qs_LG_addAnswer lg0 u1c
        have zA3 := qj_A_cg zA2 (fun a _ _ => u2c a (by omega)) (fun a _ _ => u2c a (by omega)) (fun a _ => u2c a (by omega))
        have zP3 : qp_PS I3 17 S := qp_PS_cg c3c (fun a _ _ => u2c a (by omega))
        have hI : ∀ a, (a < 17 ∨ (33 ≤ a ∧ a < 49) ∨ 166 ≤ a) → I3 a = I a := fun a ha => by rw [u2c a (by omega), c2c a (by omega), b2c a (by omega)]
        have hH3 : qp_HS I3 68 ((nx + 1) % 6) (qK_n nh) (qK_P nh P s) := qp_HS_cg b3c (fun a _ _ => by rw [u2c a (by omega), c2c a (by omega)])
        have ma := qs_PR_isMastered2 (d := d + 23) (n := n) (z := z) p1 zA3.1 zP3 (hfi i hin)
        obtain ⟨v, hv⟩ : ∃ v : Int32, v = if qs_g S (fun k => nI (pm k)) (fs i) = true then nI 1 else nI 0 := ⟨_, rfl⟩
        have r1 : qa_ex (d + 27) 54 [qa_a (some 1), qa_i (nI i), qa_i (nI r)] (K, I, R, n, z) = some (some (qa_i v), (K, I3, R, n, z)) := by
          have sk := qs_CO_skillOf (d := d + 24) (n := n) (z := z) zA3.1 hin
          have op := qs_PR_isOpen2 (d := d + 24) (n := n) (z := z) p1 zP hi12
          by_cases hq : qs_g S (fun k => nI (pm k)) (fs i) = true
          · rw [if_pos hq] at hv
            rcases hr with hr | hr
            · subst hr
              simp (disch := first | assumption | omega | exact Or.inl rfl | exact Or.inr rfl | exact qb_01) only [qe_54, qr_54_0, qr_54_1, qr_54_4, qr_54_5, qr_54_8, qr_54_11, qr_54_12, qr_54_13, qr_54_14, qr_54_15, qr_54_16, qr_54_19, qr_54_22, qr_54_24, qr_54_25, qr_54_26, qr_54_29, qr_54_30, qr_54_33, qr_54_36, qr_54_38, qr_54_39, qr_54_40, qr_54_43, qr_54_44, qr_54_47, qr_54_50, qr_54_51, qr_54_54, qr_54_55, qr_54_56, qr_54_57, qr_54_60, qr_54_61, qr_54_64, qr_54_65, qr_54_68, qr_54_69, qr_54_72, qr_54_73, qr_54_74, qr_54_77, qr_54_78, qr_54_81, qr_54_82, qr_54_85, qr_54_86, qr_54_89, qr_54_92, qr_54_95, qr_54_96, qr_54_99, qr_54_100, true_and, and_true, false_and, and_false, Option.bind_some, Option.toList_some, Option.toList_none, List.nil_append, List.cons_append, if_true, if_false, ite_true, ite_false, not_true_eq_false, not_false_eq_true, qn_lt0, qn_ge0, qn_lt, qn_le, qn_eq, qn_e0, qn_gt0, qn_le0, qn_m1, nI_add, pk_mul, qb_e0, Classical.not_not, Nat.reduceEqDiff, Nat.reduceLT, Nat.reduceLeDiff, Nat.not_lt_zero, Nat.zero_le, l5, l6, l8, l9, qs_CO_hasItem co0 cn, g3, qs_LA_isWithin, g5, op, ho, b1c, c1c, u4c, sk, ma, hq]
              rw [hv]
            · subst hr
              simp (disch := first | assumption | omega | exact Or.inl rfl | exact Or.inr rfl | exact qb_01) only [qe_54, qr_54_0, qr_54_1, qr_54_4, qr_54_5, qr_54_8, qr_54_11, qr_54_12, qr_54_13, qr_54_14, qr_54_15, qr_54_16, qr_54_19, qr_54_22, qr_54_24, qr_54_25, qr_54_26, qr_54_29, qr_54_30, qr_54_33, qr_54_36, qr_54_38, qr_54_39, qr_54_40, qr_54_43, qr_54_44, qr_54_47, qr_54_50, qr_54_51, qr_54_54, qr_54_55, qr_54_56, qr_54_57, qr_54_60, qr_54_61, qr_54_64, qr_54_65, qr_54_68, qr_54_69, qr_54_72, qr_54_73, qr_54_74, qr_54_77, qr_54_78, qr_54_81, qr_54_82, qr_54_85, qr_54_86, qr_54_89, qr_54_92, qr_54_95, qr_54_96, qr_54_99, qr_54_100, true_and, and_true, false_and, and_false, Option.bind_some, Option.toList_some, Option.toList_none, List.nil_append, List.cons_append, if_true, if_false, ite_true, ite_false, not_true_eq_false, not_false_eq_true, qn_lt0, qn_ge0, qn_lt, qn_le, qn_eq, qn_e0, qn_gt0, qn_le0, qn_m1, nI_add, pk_mul, qb_e0, Classical.not_not, Nat.reduceEqDiff, Nat.reduceLT, Nat.reduceLeDiff, Nat.not_lt_zero, Nat.zero_le, l5, l6, l8, l9, qs_CO_hasItem co0 cn, g3, qs_LA_isWithin, g5, op, ho, b1c, c1c, u4c, sk, ma, hq]
              rw [hv]
          · rw [if_neg hq] at hv
            rcases hr with hr | hr
            · subst hr
              simp (disch := first | assumption | omega | exact Or.inl rfl | exact Or.inr rfl | exact qb_01) only [qe_54, qr_54_0, qr_54_1, qr_54_4, qr_54_5, qr_54_8, qr_54_11, qr_54_12, qr_54_13, qr_54_14, qr_54_15, qr_54_16, qr_54_19, qr_54_22, qr_54_24, qr_54_25, qr_54_26, qr_54_29, qr_54_30, qr_54_33, qr_54_36, qr_54_38, qr_54_39, qr_54_40, qr_54_43, qr_54_44, qr_54_47, qr_54_50, qr_54_51, qr_54_54, qr_54_55, qr_54_56, qr_54_57, qr_54_60, qr_54_61, qr_54_64, qr_54_65, qr_54_68, qr_54_69, qr_54_72, qr_54_73, qr_54_74, qr_54_77, qr_54_78, qr_54_81, qr_54_82, qr_54_85, qr_54_86, qr_54_89, qr_54_92, qr_54_95, qr_54_96, qr_54_99, qr_54_100, true_and, and_true, false_and, and_false, Option.bind_some, Option.toList_some, Option.toList_none, List.nil_append, List.cons_append, if_true, if_false, ite_true, ite_false, not_true_eq_false, not_false_eq_true, qn_lt0, qn_ge0, qn_lt, qn_le, qn_eq, qn_e0, qn_gt0, qn_le0, qn_m1, nI_add, pk_mul, qb_e0, Classical.not_not, Nat.reduceEqDiff, Nat.reduceLT, Nat.reduceLeDiff, Nat.not_lt_zero, Nat.zero_le, l5, l6, l8, l9, qs_CO_hasItem co0 cn, g3, qs_LA_isWithin, g5, op, ho, b1c, c1c, u4c, sk, ma, eq_false hq]
              rw [hv]
            · subst hr
              simp (disch := first | assumption | omega | exact Or.inl rfl | exact Or.inr rfl | exact qb_01) only [qe_54, qr_54_0, qr_54_1, qr_54_4, qr_54_5, qr_54_8, qr_54_11, qr_54_12, qr_54_13, qr_54_14, qr_54_15, qr_54_16, qr_54_19, qr_54_22, qr_54_24, qr_54_25, qr_54_26, qr_54_29, qr_54_30, qr_54_33, qr_54_36, qr_54_38, qr_54_39, qr_54_40, qr_54_43, qr_54_44, qr_54_47, qr_54_50, qr_54_51, qr_54_54, qr_54_55, qr_54_56, qr_54_57, qr_54_60, qr_54_61, qr_54_64, qr_54_65, qr_54_68, qr_54_69, qr_54_72, qr_54_73, qr_54_74, qr_54_77, qr_54_78, qr_54_81, qr_54_82, qr_54_85, qr_54_86, qr_54_89, qr_54_92, qr_54_95, qr_54_96, qr_54_99, qr_54_100, true_and, and_true, false_and, and_false, Option.bind_some, Option.toList_some, Option.toList_none, List.nil_append, List.cons_append, if_true, if_false, ite_true, ite_false, not_true_eq_false, not_false_eq_true, qn_lt0, qn_ge0, qn_lt, qn_le, qn_eq, qn_e0, qn_gt0, qn_le0, qn_m1, nI_add, pk_mul, qb_e0, Classical.not_not, Nat.reduceEqDiff, Nat.reduceLT, Nat.reduceLeDiff, Nat.not_lt_zero, Nat.zero_le, l5, l6, l8, l9, qs_CO_hasItem co0 cn, g3, qs_LA_isWithin, g5, op, ho, b1c, c1c, u4c, sk, ma, eq_false hq]
              rw [hv]
        have hm1 := qZm_cg (I' := I3) hm (fun a h1 h2 => hI a (by omega))
        obtain ⟨⟨a1, a2⟩, ⟨b1, b2⟩, c1, ⟨d1, d2⟩, e1, ⟨f1, f2, f3⟩, ⟨g1, g2⟩, h1, i1, k1⟩ := hm1
        have mi3 := e1.2.2.2.1
        obtain ⟨J1, k1m, k2m, k3m, k4m, k5m⟩ := qs_MO_keeps2 (d := d + 25) (I := I3) (n := n) (z := z) (P := P) mo d1 n5 d2
        have jn : ∀ a, a ≠ 189 → a ≠ 193 → J1 a = I3 a := k2m
        have k5m : ∀ j, j < qK_n nh → ∀ i, i < 127 → J1 193 (127 * j + i) = qK_P nh P s j i := by
          rw [show I3 (189 + 1) = s from a1] at k5m
          exact k5m
        obtain ⟨J2, l1m, l2m, l3m, l4m, l5m, l6m, l7m, l8m⟩ := qs_MO_logs2 (d := d + 9) (I := J1) (n := n) (z := z) (B := 20000 + 100 * m) (nk := nk) (pm := pm) (T := T) (ni := ni) (fs := fs) (hd := hd) (g := g) (el := el) (er := er) (e := i + 1) (r := r) mo (by show qp_MC (J1 194) nk pm T ni fs hd; rw [jn 194 (by omega) (by omega)]; exact e1) (by omega) (by show qv_S _ (J1 191); rw [jn 191 (by omega) (by omega), b1]; exact n3) (by show qv_Z (J1 190); rw [jn 190 (by omega) (by omega), a1]; exact a2) (by show qv_Z (J1 191); rw [jn 191 (by omega) (by omega), b1]; exact b2) (by show qv_Z (J1 192); rw [jn 192 (by omega) (by omega)]; exact c1) (by rw [k3m 12 (by omega)]; exact g1) n6 (fun j hj => by show J1 198 j = _ ∧ J1 199 j = _; rw [jn 198 (by omega) (by omega), jn 199 (by omega) (by omega)]; exact g2 j hj) n7
        rw [qe_vs] at l1m
        have l2m : J2 190 = s := l2m.trans ((jn 190 (by omega) (by omega)).trans a1)
        obtain ⟨B2, hB2⟩ : ∃ B2, B2 = qL_b nk pm T fs g el er b := ⟨_, rfl⟩
        have l3m : J2 191 = B2 := by
          rw [show J1 (189 + 2) = b from (jn 191 (by omega) (by omega)).trans b1, ← hB2] at l3m
          exact l3m
        have jn2 : ∀ a, (a < 189 ∨ (192 < a ∧ a < 198) ∨ 199 < a) → J2 a = J1 a := fun a ha => l8m a (by omega) (by omega) (by omega) (by omega) (by omega) (by omega)
        have e12 : qp_MC (J2 194) nk pm T ni fs hd := by rw [jn2 194 (by omega), jn 194 (by omega) (by omega)]; exact e1
        have an := qs_MO_answers2 (d := d + 11) (I := J2) (n := n) (z := z) (B := 20000 + 100 * m) (i := i) (r := r) mo e12 (by show qv_S _ (J2 190); rw [l2m]; exact n1) hin hr
        rw [show J2 (189 + 1) = s from l2m, ← hSd] at an
        obtain ⟨J3, hJ3⟩ : ∃ J3, J3 = va_up J2 (189 + 1) S := ⟨_, rfl⟩
        rw [← hJ3] at an
        have jn3 : ∀ a, a ≠ 190 → J3 a = J2 a := fun a ha => by rw [hJ3]; exact qa_up_n _ _ (by omega)
        have j3s : J3 190 = S := by rw [hJ3]; exact qa_up_s _ _ _
        have e13 : qp_MC (J3 194) nk pm T ni fs hd := by rw [jn3 194 (by omega)]; exact e12
        have mam := qs_MO_isMastered2 (d := d + 24) (I := J3) (n := n) (z := z) mo e13 (hfi i hin)
        rw [show J3 (189 + 1) = S from j3s] at mam
        have f3s : J3 194 (532 + i) = nI (fs i) := (e13.2.2.2.2.2.2.2.2 i hin).1
        have w1 : (K 194).1 = 100 := mo.2.2.2.2.2.1.1
        have w2 : (K 194).2 = 556 := mo.2.2.2.2.2.1.2.1
        have r2 : qa_ex (d + 27) 178 [qa_a (some 189), qa_i (nI i), qa_i (nI r)] (K, I3, R, n, z) = some (some (qa_i v), (K, J3, R, n, z)) := by
          have op := qs_MO_isOpen2 (d := d + 24) (I := I3) (n := n) (z := z) mo hi12
          rw [show I3 (189 + 1) = s from a1] at op
          by_cases hq : qs_g S (fun k => nI (pm k)) (fs i) = true
          · rw [if_pos hq] at hv
            simp (disch := first | assumption | omega | exact Or.inl rfl | exact Or.inr rfl | exact qb_01) only [qe_178, qr_178_0, qr_178_1, qr_178_2, qr_178_5, qr_178_8, qr_178_9, qr_178_10, qr_178_11, qr_178_12, qr_178_13, qr_178_16, qr_178_19, qr_178_21, qr_178_22, qr_178_23, qr_178_24, qr_178_27, qr_178_30, qr_178_32, qr_178_33, qr_178_34, qr_178_37, qr_178_38, qr_178_39, qr_178_40, qr_178_43, qr_178_44, qr_178_45, qr_178_46, qr_178_49, qr_178_50, qr_178_51, qr_178_54, qr_178_57, qr_178_58, qr_178_59, qr_178_60, qr_178_63, qr_178_66, qr_178_67, qr_178_70, qr_178_71, true_and, and_true, false_and, and_false, Option.bind_some, Option.toList_some, Option.toList_none, List.nil_append, List.cons_append, if_true, if_false, ite_true, ite_false, not_true_eq_false, not_false_eq_true, qn_lt0, qn_ge0, qn_lt, qn_le, qn_eq, qn_e0, qn_gt0, qn_le0, qn_m1, nI_add, pk_mul, qb_e0, Classical.not_not, Nat.reduceEqDiff, Nat.reduceLT, Nat.reduceLeDiff, Nat.not_lt_zero, Nat.zero_le, qs_MO_isItem mo mi3 i12, g3, qs_MO_isIn, g5, op, ho, k1m, l1m, an, w3, f3s, mam, hq]
            rw [hv]
          · rw [if_neg hq] at hv
            simp (disch := first | assumption | omega | exact Or.inl rfl | exact Or.inr rfl | exact qb_01) only [qe_178, qr_178_0, qr_178_1, qr_178_2, qr_178_5, qr_178_8, qr_178_9, qr_178_10, qr_178_11, qr_178_12, qr_178_13, qr_178_16, qr_178_19, qr_178_21, qr_178_22, qr_178_23, qr_178_24, qr_178_27, qr_178_30, qr_178_32, qr_178_33, qr_178_34, qr_178_37, qr_178_38, qr_178_39, qr_178_40, qr_178_43, qr_178_44, qr_178_45, qr_178_46, qr_178_49, qr_178_50, qr_178_51, qr_178_54, qr_178_57, qr_178_58, qr_178_59, qr_178_60, qr_178_63, qr_178_66, qr_178_67, qr_178_70, qr_178_71, true_and, and_true, false_and, and_false, Option.bind_some, Option.toList_some, Option.toList_none, List.nil_append, List.cons_append, if_true, if_false, ite_true, ite_false, not_true_eq_false, not_false_eq_true, qn_lt0, qn_ge0, qn_lt, qn_le, qn_eq, qn_e0, qn_gt0, qn_le0, qn_m1, nI_add, pk_mul, qb_e0, Classical.not_not, Nat.reduceEqDiff, Nat.reduceLT, Nat.reduceLeDiff, Nat.not_lt_zero, Nat.zero_le, qs_MO_isItem mo mi3 i12, g3, qs_MO_isIn, g5, op, ho, k1m, l1m, an, w3, f3s, mam, eq_false hq]
            rw [hv]
        have hc1 : qZc K I3 R n nk pm T ni fs hd S B2 (qL_g g) (qL_e g el (i + 1)) (qL_e g er r) (qK_n nh) (qK_P nh P s) len tx wl wt lv ec en sn nk' pm' T' ni' fs' hd' sv := ⟨q, q', ((nx + 1) % 6), f', zA3, zq, zn, zP3, by rw [hB2]; exact u3c, hH3, qp_L_cg zT (by rw [hI 2 (by omega)]) (hI _ (by omega)), qp_L_cg zW (by rw [hI 4 (by omega)]) (hI _ (by omega)), qp_X_cg zX (by rw [hI 7 (by omega)]) (hI _ (by omega)) (hI _ (by omega)), by rw [hI 1 (by omega)]; exact zS, fun hs => by
      obtain ⟨v1, v2, v3, v4⟩ := zV hs
      exact ⟨qj_A_cg v1 (fun a _ _ => hI a (by omega)) (fun a _ _ => hI a (by omega)) (fun a _ => hI a (by omega)), v2, v3, qp_PS_cg v4 (fun a _ _ => hI a (by omega))⟩⟩
        have hn : ∀ a, (a < 189 ∨ 193 < a) → (a < 198 ∨ 199 < a) → J3 a = I3 a := fun a ha hb => by rw [jn3 a (by omega), jn2 a (by omega), jn a (by omega) (by omega)]
        have h0 : ∀ f, f ≠ 4 → f ≠ 12 → J3 189 f = I3 189 f := fun f hf hg => by rw [jn3 189 (by omega), l7m f hg, k3m f hf]
        have hm2 : qZm J3 nk pm T ni fs hd S B2 (qL_g g) (qL_e g el (i + 1)) (qL_e g er r) (qK_n nh) (qK_P nh P s) len tx wl wt lv ec en sn nk' pm' T' ni' fs' hd' sv := ⟨⟨j3s, by rw [hSd]; exact qv_Z_step a2 k10 i12 (by omega) hfi⟩, ⟨by rw [jn3 191 (by omega)]; exact l3m, by rw [hB2]; exact qL_b_Z b2 k10 i12 n7 hfi⟩, by rw [jn3 192 (by omega)]; exact l4m, ⟨by rw [jn3 189 (by omega), l7m 4 (by omega)]; exact k4m, fun j hj i hi => by rw [jn3 193 (by omega), jn2 193 (by omega)]; exact k5m j hj i hi⟩, e13, ⟨by rw [h0 9 (by omega) (by omega)]; exact f1, by rw [hn 196 (by omega) (by omega)]; exact f2, fun hs => by rw [hn 196 (by omega) (by omega), hn 197 (by omega) (by omega)]; exact f3 hs⟩, ⟨by rw [jn3 189 (by omega)]; exact l5m, fun j hj => by rw [jn3 198 (by omega), jn3 199 (by omega)]; exact l6m j hj⟩, qp_L_cg h1 (h0 14 (by omega) (by omega)) (hn 200 (by omega) (by omega)), qp_X_cg i1 (h0 20 (by omega) (by omega)) (hn 201 (by omega) (by omega)) (hn 202 (by omega) (by omega)), qp_L_cg k1 (h0 22 (by omega) (by omega)) (hn 203 (by omega) (by omega))⟩
        have nS : qv_S (20000 + 100 * m + 1) S := by rw [hSd]; exact qv_S_step n1 k10 (by omega) hfi
        have nI' : qv_I ni S := by rw [hSd]; exact qv_I_step n2 k10 (by omega) hfi
        have nB : qv_S (20000 + 100 * m + 1) B2 := by rw [hB2]; exact qL_b_S n3 k10 n7 hfi
        exact ⟨_, _, _, r1, r2, ⟨rfl, hI 0 (by omega), rfl⟩, rfl, by show J3 0 = I 0; rw [hn 0 (by omega) (by omega), hI 0 (by omega)], hS, j2, j3, by show n ≤ _; omega, by show z ≤ _; omega, nk, pm, T, ni, fs, hd, S, B2, (qL_g g), (qL_e g el (i + 1)), (qL_e g er r), (qK_n nh), (qK_P nh P s), len, tx, wl, wt, lv, ec, en, sn, nk', pm', T', ni', fs', hd', sv, qZc_cg hc1 (fun a ha => hn a (by omega) (by omega)), hm2, qZp_mono (B := 20000 + 100 * m + 1) ⟨⟨nS, nI'⟩, nB, qK_P_all (C := fun t => qv_S (20000 + 100 * m + 1) t ∧ qv_I ni t) (fun j hj => ⟨qv_S_mono (n4 j hj).1 (by omega), (n4 j hj).2⟩) ⟨qv_S_mono n1 (by omega), n2⟩ n5, qK_n_le n5, qL_g_le n6, qL_ok n7 (by omega) hr n6, n8, n9, n10, n11, n12, fun hs => ⟨qv_S_mono (n13 hs).1 (by omega), (n13 hs).2⟩⟩ (by omega)⟩
      · have w2 := fun d => qs_MO_isOpen2 (d := d) (I := I) (n := n) (z := z) mo hi12
        rw [show I (189 + 1) = s from a1] at w2
        exact qJ_ro hJ0 ⟨-4, by simp (disch := first | assumption | omega | exact Or.inl rfl | exact Or.inr rfl | exact qb_01) only [qe_54, qr_54_0, qr_54_1, qr_54_4, qr_54_5, qr_54_8, qr_54_11, qr_54_12, qr_54_13, qr_54_14, qr_54_15, qr_54_16, qr_54_19, qr_54_22, qr_54_24, qr_54_25, qr_54_26, qr_54_29, qr_54_30, qr_54_33, qr_54_36, qr_54_38, qr_54_39, qr_54_40, qr_54_43, qr_54_44, qr_54_47, qr_54_50, qr_54_51, qr_54_54, qr_54_55, qr_54_56, qr_54_57, qr_54_60, qr_54_61, qr_54_64, qr_54_65, qr_54_68, qr_54_69, qr_54_72, qr_54_73, qr_54_74, qr_54_77, qr_54_78, qr_54_81, qr_54_82, qr_54_85, qr_54_86, qr_54_89, qr_54_92, qr_54_95, qr_54_96, qr_54_99, qr_54_100, true_and, and_true, false_and, and_false, Option.bind_some, Option.toList_some, Option.toList_none, List.nil_append, List.cons_append, if_true, if_false, ite_true, ite_false, not_true_eq_false, not_false_eq_true, qn_lt0, qn_ge0, qn_lt, qn_le, qn_eq, qn_e0, qn_gt0, qn_le0, qn_m1, nI_add, pk_mul, qb_e0, Classical.not_not, Nat.reduceEqDiff, Nat.reduceLT, Nat.reduceLeDiff, Nat.not_lt_zero, Nat.zero_le, l5, l6, qs_CO_hasItem co0 cn, g3, g5, qs_LA_isWithin, qs_PR_isOpen2 p1 zP hi12, eq_false ho], by simp (disch := first | assumption | omega | exact Or.inl rfl | exact Or.inr rfl | exact qb_01) only [qe_178, qr_178_0, qr_178_1, qr_178_2, qr_178_5, qr_178_8, qr_178_9, qr_178_10, qr_178_11, qr_178_12, qr_178_13, qr_178_16, qr_178_19, qr_178_21, qr_178_22, qr_178_23, qr_178_24, qr_178_27, qr_178_30, qr_178_32, qr_178_33, qr_178_34, qr_178_37, qr_178_38, qr_178_39, qr_178_40, qr_178_43, qr_178_44, qr_178_45, qr_178_46, qr_178_49, qr_178_50, qr_178_51, qr_178_54, qr_178_57, qr_178_58, qr_178_59, qr_178_60, qr_178_63, qr_178_66, qr_178_67, qr_178_70, qr_178_71, true_and, and_true, false_and, and_false, Option.bind_some, Option.toList_some, Option.toList_none, List.nil_append, List.cons_append, if_true, if_false, ite_true, ite_false, not_true_eq_false, not_false_eq_true, qn_lt0, qn_ge0, qn_lt, qn_le, qn_eq, qn_e0, qn_gt0, qn_le0, qn_m1, nI_add, pk_mul, qb_e0, Classical.not_not, Nat.reduceEqDiff, Nat.reduceLT, Nat.reduceLeDiff, Nat.not_lt_zero, Nat.zero_le, qs_MO_isItem mo mi i12, g3, g5, qs_MO_isIn, w2, eq_false ho]⟩
    · exact qJ_ro hJ0 ⟨-2, by simp (disch := first | assumption | omega | exact Or.inl rfl | exact Or.inr rfl | exact qb_01) only [qe_54, qr_54_0, qr_54_1, qr_54_4, qr_54_5, qr_54_8, qr_54_11, qr_54_12, qr_54_13, qr_54_14, qr_54_15, qr_54_16, qr_54_19, qr_54_22, qr_54_24, qr_54_25, qr_54_26, qr_54_29, qr_54_30, qr_54_33, qr_54_36, qr_54_38, qr_54_39, qr_54_40, qr_54_43, qr_54_44, qr_54_47, qr_54_50, qr_54_51, qr_54_54, qr_54_55, qr_54_56, qr_54_57, qr_54_60, qr_54_61, qr_54_64, qr_54_65, qr_54_68, qr_54_69, qr_54_72, qr_54_73, qr_54_74, qr_54_77, qr_54_78, qr_54_81, qr_54_82, qr_54_85, qr_54_86, qr_54_89, qr_54_92, qr_54_95, qr_54_96, qr_54_99, qr_54_100, true_and, and_true, false_and, and_false, Option.bind_some, Option.toList_some, Option.toList_none, List.nil_append, List.cons_append, if_true, if_false, ite_true, ite_false, not_true_eq_false, not_false_eq_true, qn_lt0, qn_ge0, qn_lt, qn_le, qn_eq, qn_e0, qn_gt0, qn_le0, qn_m1, nI_add, pk_mul, qb_e0, Classical.not_not, Nat.reduceEqDiff, Nat.reduceLT, Nat.reduceLeDiff, Nat.not_lt_zero, Nat.zero_le, l5, qs_CO_hasItem co0 cn, hx, qs_LA_isWithin, eq_false hy], by simp (disch := first | assumption | omega | exact Or.inl rfl | exact Or.inr rfl | exact qb_01) only [qe_178, qr_178_0, qr_178_1, qr_178_2, qr_178_5, qr_178_8, qr_178_9, qr_178_10, qr_178_11, qr_178_12, qr_178_13, qr_178_16, qr_178_19, qr_178_21, qr_178_22, qr_178_23, qr_178_24, qr_178_27, qr_178_30, qr_178_32, qr_178_33, qr_178_34, qr_178_37, qr_178_38, qr_178_39, qr_178_40, qr_178_43, qr_178_44, qr_178_45, qr_178_46, qr_178_49, qr_178_50, qr_178_51, qr_178_54, qr_178_57, qr_178_58, qr_178_59, qr_178_60, qr_178_63, qr_178_66, qr_178_67, qr_178_70, qr_178_71, true_and, and_true, false_and, and_false, Option.bind_some, Option.toList_some, Option.toList_none, List.nil_append, List.cons_append, if_true, if_false, ite_true, ite_false, not_true_eq_false, not_false_eq_true, qn_lt0, qn_ge0, qn_lt, qn_le, qn_eq, qn_e0, qn_gt0, qn_le0, qn_m1, nI_add, pk_mul, qb_e0, Classical.not_not, Nat.reduceEqDiff, Nat.reduceLT, Nat.reduceLeDiff, Nat.not_lt_zero, Nat.zero_le, qs_MO_isItem mo mi i12, hx, qs_MO_isIn, eq_false hy]⟩
  · exact qJ_ro hJ0 ⟨-1, by simp (disch := first | assumption | omega | exact Or.inl rfl | exact Or.inr rfl | exact qb_01) only [qe_54, qr_54_0, qr_54_1, qr_54_4, qr_54_5, qr_54_8, qr_54_11, qr_54_12, qr_54_13, qr_54_14, qr_54_15, qr_54_16, qr_54_19, qr_54_22, qr_54_24, qr_54_25, qr_54_26, qr_54_29, qr_54_30, qr_54_33, qr_54_36, qr_54_38, qr_54_39, qr_54_40, qr_54_43, qr_54_44, qr_54_47, qr_54_50, qr_54_51, qr_54_54, qr_54_55, qr_54_56, qr_54_57, qr_54_60, qr_54_61, qr_54_64, qr_54_65, qr_54_68, qr_54_69, qr_54_72, qr_54_73, qr_54_74, qr_54_77, qr_54_78, qr_54_81, qr_54_82, qr_54_85, qr_54_86, qr_54_89, qr_54_92, qr_54_95, qr_54_96, qr_54_99, qr_54_100, true_and, and_true, false_and, and_false, Option.bind_some, Option.toList_some, Option.toList_none, List.nil_append, List.cons_append, if_true, if_false, ite_true, ite_false, not_true_eq_false, not_false_eq_true, qn_lt0, qn_ge0, qn_lt, qn_le, qn_eq, qn_e0, qn_gt0, qn_le0, qn_m1, nI_add, pk_mul, qb_e0, Classical.not_not, Nat.reduceEqDiff, Nat.reduceLT, Nat.reduceLeDiff, Nat.not_lt_zero, Nat.zero_le, l5, qs_CO_hasItem co0 cn, eq_false hx], by simp (disch := first | assumption | omega | exact Or.inl rfl | exact Or.inr rfl | exact qb_01) only [qe_178, qr_178_0, qr_178_1, qr_178_2, qr_178_5, qr_178_8, qr_178_9, qr_178_10, qr_178_11, qr_178_12, qr_178_13, qr_178_16, qr_178_19, qr_178_21, qr_178_22, qr_178_23, qr_178_24, qr_178_27, qr_178_30, qr_178_32, qr_178_33, qr_178_34, qr_178_37, qr_178_38, qr_178_39, qr_178_40, qr_178_43, qr_178_44, qr_178_45, qr_178_46, qr_178_49, qr_178_50, qr_178_51, qr_178_54, qr_178_57, qr_178_58, qr_178_59, qr_178_60, qr_178_63, qr_178_66, qr_178_67, qr_178_70, qr_178_71, true_and, and_true, false_and, and_false, Option.bind_some, Option.toList_some, Option.toList_none, List.nil_append, List.cons_append, if_true, if_false, ite_true, ite_false, not_true_eq_false, not_false_eq_true, qn_lt0, qn_ge0, qn_lt, qn_le, qn_eq, qn_e0, qn_gt0, qn_le0, qn_m1, nI_add, pk_mul, qb_e0, Classical.not_not, Nat.reduceEqDiff, Nat.reduceLT, Nat.reduceLeDiff, Nat.not_lt_zero, Nat.zero_le, qs_MO_isItem mo mi i12, eq_false hx]⟩
end Q71
