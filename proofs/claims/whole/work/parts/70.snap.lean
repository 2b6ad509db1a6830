/-! Steps: save, restore, undo. -/
section Q70
variable {d a b f : Nat} {K : Nat → Nat × Nat} {I : Nat → Nat → Int32} {R : Nat → Nat → Option Nat} {n z : Nat} {x y : Int32} {h : qa_H} {u m : Nat}
theorem qs_MO_save (hM : qp_MO K R u) (hZ : qv_Z (I (u + 1))) (hZ7 : qv_Z (I (u + 7))) : qa_ex (d + 2) 234 [qa_a (some u)] (K, I, R, n, z) = some (some (qa_i (I (u + 1) 0)), (K, va_up (va_up (va_up I (u + 7) (I (u + 1))) (u + 8) (qf_cpy 556 (I (u + 5)) (I (u + 8)))) u (va_up (I u) 9 (nI 1)), R, n, z)) := by
  obtain ⟨m0, ⟨s1, s2, s3⟩, -, -, -, ⟨c1, c2, c3⟩, -, ⟨d1, d2, d3⟩, ⟨e1, e2, e3⟩, -⟩ := hM
  have a1 := qs_MO_copies (d := d) (I := I) (R := R) (n := n) (z := z) (m := 127) (show u + 1 ≠ u + 7 by omega) s1 d1 (by omega) (by omega) (by omega)
  rw [qf_cpy_Z hZ hZ7] at a1
  have a2 := qs_MO_copies (d := d) (I := va_up I (u + 7) (I (u + 1))) (R := R) (n := n) (z := z) (m := 556) (show u + 5 ≠ u + 8 by omega) c1 e1 (by omega) (by omega) (by omega)
  rw [qa_up_n _ _ (show u + 5 ≠ u + 7 by omega), qa_up_n _ _ (show u + 8 ≠ u + 7 by omega)] at a2
  simp (disch := first | assumption | omega | exact Or.inl rfl | exact Or.inr rfl | exact qb_01) only [qe_234, qr_234_0, qr_234_1, qr_234_4, qr_234_5, qr_234_8, qr_234_10, qr_234_13, qr_234_14, qr_234_17, qr_234_18, qr_234_21, qr_234_24, qr_234_27, qr_234_28, qr_234_29, qr_234_32, qr_234_33, qr_234_36, qr_234_37, qr_234_38, true_and, and_true, false_and, and_false, Option.bind_some, Option.toList_some, Option.toList_none, List.nil_append, List.cons_append, if_true, if_false, ite_true, ite_false, not_true_eq_false, not_false_eq_true, qn_lt0, qn_ge0, qn_lt, qn_le, qn_eq, qn_e0, qn_gt0, qn_le0, qn_m1, nI_add, pk_mul, qb_e0, Classical.not_not, qa_up_s, qa_up_n, qa_uu, s3, d3, c3, e3, a1, a2]
theorem qs_MO_restore (hM : qp_MO K R u) (h9 : I u 9 = nI 1) (hZ : qv_Z (I (u + 1))) (hZ2 : qv_Z (I (u + 2))) (hZ7 : qv_Z (I (u + 7))) : ∃ I', qa_ex (d + 3) 235 [qa_a (some u)] (K, I, R, n, z) = some (some (qa_i (I (u + 7) 0)), (K, I', R, n, z)) ∧ I' (u + 1) = I (u + 7) ∧ I' (u + 2) = I (u + 7) ∧ I' (u + 5) = qf_cpy 556 (I (u + 8)) (I (u + 5)) ∧ I' u = va_up (va_up (I u) 4 (nI 0)) 12 (nI 0) ∧ ∀ a, a ≠ u → a ≠ u + 1 → a ≠ u + 2 → a ≠ u + 5 → I' a = I a := by
  have hM' := hM
  obtain ⟨m0, ⟨s1, s2, s3⟩, -, -, -, ⟨c1, c2, c3⟩, -, ⟨d1, d2, d3⟩, ⟨e1, e2, e3⟩, -⟩ := hM
  have a1 := qs_MO_copies (d := d + 1) (I := I) (R := R) (n := n) (z := z) (m := 127) (show u + 7 ≠ u + 1 by omega) d1 s1 (by omega) (by omega) (by omega)
  rw [qf_cpy_Z hZ7 hZ] at a1
  have a2 := qs_MO_copies (d := d + 1) (I := va_up I (u + 1) (I (u + 7))) (R := R) (n := n) (z := z) (m := 556) (show u + 8 ≠ u + 5 by omega) e1 c1 (by omega) (by omega) (by omega)
  rw [qa_up_n _ _ (show u + 8 ≠ u + 1 by omega), qa_up_n _ _ (show u + 5 ≠ u + 1 by omega)] at a2
  obtain ⟨J, hJ⟩ : ∃ J, J = va_up (va_up (va_up I (u + 1) (I (u + 7))) (u + 5) (qf_cpy 556 (I (u + 8)) (I (u + 5)))) u (va_up (I u) 4 (nI 0)) := ⟨_, rfl⟩
  have a3 := qs_MO_rebases (d := d) (I := J) (n := n) (z := z) hM'
  have j1 : J (u + 1) = I (u + 7) := by rw [hJ, qa_up_n _ _ (by omega), qa_up_n _ _ (by omega), qa_up_s]
  have j2 : J (u + 2) = I (u + 2) := by rw [hJ, qa_up_n _ _ (by omega), qa_up_n _ _ (by omega), qa_up_n _ _ (by omega)]
  have j5 : J (u + 5) = qf_cpy 556 (I (u + 8)) (I (u + 5)) := by rw [hJ, qa_up_n _ _ (by omega), qa_up_s]
  have j0 : J u = va_up (I u) 4 (nI 0) := by rw [hJ, qa_up_s]
  have jn : ∀ a, a ≠ u → a ≠ u + 1 → a ≠ u + 5 → J a = I a := fun a g1 g2 g3 => by rw [hJ, qa_up_n _ _ g1, qa_up_n _ _ g3, qa_up_n _ _ g2]
  rw [j1, j2, qf_cpy_Z hZ7 hZ2, j0] at a3
  obtain ⟨J2, hJ2⟩ : ∃ J2, J2 = va_up (va_up J (u + 2) (I (u + 7))) u (va_up (va_up (I u) 4 (nI 0)) 12 (nI 0)) := ⟨_, rfl⟩
  rw [← hJ2] at a3
  have k1 : J2 (u + 1) = I (u + 7) := by rw [hJ2, qa_up_n _ _ (by omega), qa_up_n _ _ (by omega), j1]
  refine ⟨J2, ?_, k1, by rw [hJ2, qa_up_n _ _ (by omega), qa_up_s], by rw [hJ2, qa_up_n _ _ (by omega), qa_up_n _ _ (by omega), j5], by rw [hJ2, qa_up_s], fun a g1 g2 g3 g4 => by rw [hJ2, qa_up_n _ _ g1, qa_up_n _ _ g3, jn a g1 g2 g4]⟩
  simp (disch := first | assumption | omega | exact Or.inl rfl | exact Or.inr rfl | exact qb_01) only [qe_235, qr_235_0, qr_235_1, qr_235_4, qr_235_7, qr_235_8, qr_235_9, qr_235_10, qr_235_13, qr_235_14, qr_235_17, qr_235_19, qr_235_22, qr_235_23, qr_235_26, qr_235_27, qr_235_30, qr_235_33, qr_235_36, qr_235_37, qr_235_38, qr_235_41, qr_235_42, qr_235_45, qr_235_46, qr_235_49, qr_235_50, qr_235_51, true_and, and_true, false_and, and_false, Option.bind_some, Option.toList_some, Option.toList_none, List.nil_append, List.cons_append, if_true, if_false, ite_true, ite_false, not_true_eq_false, not_false_eq_true, qn_lt0, qn_ge0, qn_lt, qn_le, qn_eq, qn_e0, qn_gt0, qn_le0, qn_m1, nI_add, pk_mul, qb_e0, Classical.not_not, qa_up_s, qa_up_n, qa_uu, h9, s3, d3, c3, e3, a1, a2, ← hJ, a3, k1, Nat.one_ne_zero]
theorem qS_save (hS : qS K R) {c : Nat} (hc : c = 10 ∨ c = 166) {c2 : Nat} : qS K (qR_p R c c2) := by
  refine qS_cg hS (fun _ _ => rfl) (fun a _ h1 h2 => qR_p_n (by omega)) (fun j hj => ?_)
  unfold qR_p
  rcases hc with hc | hc
  · subst hc
    exact ⟨by rw [qa_up_s, qa_up_n _ _ hj], by rw [qa_up_n _ _ (by omega)]⟩
  · subst hc
    exact ⟨by rw [qa_up_n _ _ (by omega)], by rw [qa_up_s, qa_up_n _ _ hj]⟩
theorem qJ_save (hJ : qJ m h) (hm512 : m ≤ 512) : qJs d 155 234 [] m h := by
  obtain ⟨K, I, R, n, z⟩ := h
  have hJ0 := hJ
  obtain ⟨j1, j2, j3, j4, j5, nk, pm, T, ni, fs, hd, s, b, g, el, er, nh, P, len, tx, wl, wt, lv, ec, en, sn, nk', pm', T', ni', fs', hd', sv, hc, hm, hp⟩ := hJ
  have hS : qS K R := j1
  have j2 : ∀ a, n ≤ a → K a = (77, 0) := j2
  have j3 : 204 ≤ n := j3
  have j4 : n ≤ 204 + 84 * m := j4
  have j5 : z ≤ 20000 + 354 * m := j5
  have hc : qZc K I R n nk pm T ni fs hd s b g el er nh P len tx wl wt lv ec en sn nk' pm' T' ni' fs' hd' sv := hc
  have hm : qZm I nk pm T ni fs hd s b g el er nh P len tx wl wt lv ec en sn nk' pm' T' ni' fs' hd' sv := hm
  obtain ⟨⟨l0, l1, l2, l3, l4, l5, l6, l7, l8, l9, l10, l11⟩, t2, t4, t6, ex, co, p1, p2, lg, hi, sc, sp, mo⟩ := id hS
  obtain ⟨q, q', nx, f, zA, zq, zn, zP, zL, zH, zT, zW, zX, zS, zV⟩ := id hc
  obtain ⟨⟨a1, a2⟩, ⟨b1, b2⟩, c1, ⟨d1, d2⟩, e1, ⟨f1, f2, f3⟩, ⟨g1, g2⟩, h1, i1, k1⟩ := id hm
  obtain ⟨⟨n1, n2⟩, n3, n4, n5, n6, n7, n8, n9, n10, n11, n12, n13⟩ := id hp
  have e1c := qs_CO_copyFrom (d := d + 25) (I := I) (n := n) (z := z) sc co (by omega)
  obtain ⟨I1, hI1⟩ : ∃ I1, I1 = qI_p I 166 10 := ⟨_, rfl⟩
  obtain ⟨R1, hR1⟩ : ∃ R1, R1 = qR_p R 166 10 := ⟨_, rfl⟩
  have hS1 : qS K R1 := by rw [hR1]; exact qS_save hS (Or.inr rfl)
  have hi1 : ∀ a, (a < 166 ∨ 169 ≤ a) → I1 a = I a := fun a ha => by rw [hI1]; exact qI_p_n (by omega)
  have hr1 : ∀ a, a ≠ 166 → R1 a = R a := fun a ha => by rw [hR1]; exact qR_p_n ha
  rw [← hI1, ← hR1] at e1c
  obtain ⟨⟨y0, y1, y2, y3, y4, y5, y6, y7, y8, y9, y10, y11⟩, -, -, -, -, -, w1, w2, -, -, -, w5, -⟩ := id hS1
  have zP1 : qp_PS I1 17 s := qp_PS_cg zP (fun a _ _ => hi1 a (by omega))
  obtain ⟨I2, b1c, b2c, b3c⟩ := qs_PR_copyFrom (d := d + 24) (n := n) (z := z) w5 w1 (by omega) zP1
  have p17 := w1.1
  have sc0 := sc.1
  have co0 := co.1
  have p173 := w5.1
  obtain ⟨I3, hI3⟩ : ∃ I3, I3 = va_up I2 1 (va_up (I2 1) 11 (nI 1)) := ⟨_, rfl⟩
  have hi3 : ∀ a, a ≠ 1 → I3 a = I2 a := fun a ha => by rw [hI3]; exact qa_up_n _ _ ha
  have hI : ∀ a, (a < 1 ∨ (1 < a ∧ a < 166) ∨ (169 ≤ a ∧ a < 173) ∨ 189 ≤ a) → I3 a = I a := fun a ha => by rw [hi3 a (by omega), b2c a (by omega), hi1 a (by omega)]
  have hd6 : I3 17 6 = s 0 := by rw [hI 17 (by omega)]; exact zP.1
  have r1 : qa_ex (d + 27) 155 [qa_a (some 1)] (K, I, R, n, z) = some (some (qa_i (s 0)), (K, I3, R1, n, z)) := by
    simp (disch := first | assumption | omega | exact Or.inl rfl | exact Or.inr rfl | exact qb_01) only [qe_155, qr_155_0, qr_155_1, qr_155_4, qr_155_5, qr_155_8, qr_155_11, qr_155_12, qr_155_15, qr_155_16, qr_155_19, qr_155_22, qr_155_23, qr_155_24, qr_155_27, qr_155_28, qr_155_31, qr_155_34, true_and, and_true, false_and, and_false, Option.bind_some, Option.toList_some, Option.toList_none, List.nil_append, List.cons_append, if_true, if_false, ite_true, ite_false, not_true_eq_false, not_false_eq_true, qn_lt0, qn_ge0, qn_lt, qn_le, qn_eq, qn_e0, qn_gt0, qn_le0, qn_m1, nI_add, pk_mul, qb_e0, Classical.not_not, Nat.reduceEqDiff, Nat.reduceLT, Nat.reduceLeDiff, Nat.not_lt_zero, Nat.zero_le, l5, l10, e1c, y6, y11, b1c, ← hI3, qs_PR_day, hd6]
  have zA3 : qj_A K I3 R1 10 q nk pm T ni fs hd := qj_A_g zA (fun a h1 h2 => ⟨rfl, hI a (by omega), hr1 a (by omega)⟩) (fun a h1 h2 => ⟨rfl, hI a (by omega), hr1 a (by omega)⟩) (fun a h1 _ => ⟨rfl, hI a (by omega), hr1 a (by omega)⟩)
  have zB3 : qj_A K I3 R1 166 q nk pm T ni fs hd := by
    have hz := qj_A_cp zA sc (by omega) (by omega) (by omega)
    rw [← hI1, ← hR1] at hz
    exact qj_A_g hz (fun a h1 h2 => ⟨rfl, by rw [hi3 a (by omega), b2c a (by omega)], rfl⟩) (fun a h1 h2 => ⟨rfl, by rw [hi3 a (by omega), b2c a (by omega)], rfl⟩) (fun a h1 _ => ⟨rfl, by rw [hi3 a (by omega), b2c a (by omega)], rfl⟩)
  have hc1 : qZc K I3 R1 n nk pm T ni fs hd s b g el er nh P len tx wl wt lv ec en true nk pm T ni fs hd s := ⟨q, q, nx, f, zA3, zq, zn, qp_PS_cg zP (fun a _ _ => hI a (by omega)), qp_LS_cg zL (fun a _ _ => hI a (by omega)), qp_HS_cg zH (fun a _ _ => hI a (by omega)), qp_L_cg zT (by rw [hI 2 (by omega)]) (hI _ (by omega)), qp_L_cg zW (by rw [hI 4 (by omega)]) (hI _ (by omega)), qp_X_cg zX (by rw [hI 7 (by omega)]) (hI _ (by omega)) (hI _ (by omega)), by rw [hI3, qa_up_s, qa_up_s]; rfl, fun _ => ⟨zB3, zq, zn, qp_PS_cg b3c (fun a _ _ => hi3 a (by omega))⟩⟩
  have hm1 := qZm_cg (I' := I3) hm (fun a h1 h2 => hI a (by omega))
  obtain ⟨⟨a1, a2⟩, ⟨b1, b2⟩, c1, ⟨d1, d2⟩, e1, ⟨f1, f2, f3⟩, ⟨g1, g2⟩, h1, i1, k1⟩ := hm1
  have mo1 : qp_MO K R1 189 := hS1.2.2.2.2.2.2.2.2.2.2.2.2
  have r2 := qs_MO_save (d := d + 25) (I := I3) (n := n) (z := z) mo1 (by show qv_Z (I3 190); rw [a1]; exact a2) f2
  rw [show I3 (189 + 1) = s from a1] at r2
  obtain ⟨I4, hI4⟩ : ∃ I4, I4 = va_up (va_up (va_up I3 (189 + 7) s) (189 + 8) (qf_cpy 556 (I3 (189 + 5)) (I3 (189 + 8)))) 189 (va_up (I3 189) 9 (nI 1)) := ⟨_, rfl⟩
  rw [← hI4] at r2
  have hn : ∀ a, (a < 189 ∨ (189 < a ∧ a < 196) ∨ 197 < a) → I4 a = I3 a := fun a ha => by rw [hI4, qa_up_n _ _ (by omega), qa_up_n _ _ (by omega), qa_up_n _ _ (by omega)]
  have h0 : ∀ f, f ≠ 9 → I4 189 f = I3 189 f := fun f hf => by rw [hI4, qa_up_s, qa_up_n _ _ hf]
  have k96 : I4 196 = s := by rw [hI4, qa_up_n _ _ (by omega), qa_up_n _ _ (by omega)]; exact qa_up_s _ _ _
  have k97 : I4 197 = qf_cpy 556 (I3 194) (I3 197) := by rw [hI4, qa_up_n _ _ (by omega)]; exact qa_up_s _ _ _
  have hm2 : qZm I4 nk pm T ni fs hd s b g el er nh P len tx wl wt lv ec en true nk pm T ni fs hd s := ⟨⟨by rw [hn 190 (by omega)]; exact a1, a2⟩, ⟨by rw [hn 191 (by omega)]; exact b1, b2⟩, by rw [hn 192 (by omega)]; exact c1, ⟨by rw [h0 4 (by omega)]; exact d1, fun j hj i hi => by rw [hn 193 (by omega)]; exact d2 j hj i hi⟩, by rw [hn 194 (by omega)]; exact e1, ⟨by rw [hI4, qa_up_s, qa_up_s]; rfl, by rw [k96]; exact a2, fun _ => ⟨k96, by rw [k97]; exact qp_MC_cg e1 (fun i hi => if_pos hi)⟩⟩, ⟨by rw [h0 12 (by omega)]; exact g1, fun j hj => by rw [hn 198 (by omega), hn 199 (by omega)]; exact g2 j hj⟩, qp_L_cg h1 (h0 14 (by omega)) (hn 200 (by omega)), qp_X_cg i1 (h0 20 (by omega)) (hn 201 (by omega)) (hn 202 (by omega)), qp_L_cg k1 (h0 22 (by omega)) (hn 203 (by omega))⟩
  exact ⟨_, _, _, r1, r2, ⟨rfl, hI 0 (by omega), rfl⟩, rfl, by show I4 0 = I 0; rw [hn 0 (by omega), hI 0 (by omega)], hS1, j2, j3, by show n ≤ _; omega, by show z ≤ _; omega, nk, pm, T, ni, fs, hd, s, b, g, el, er, nh, P, len, tx, wl, wt, lv, ec, en, true, nk, pm, T, ni, fs, hd, s, qZc_cg hc1 (fun a ha => hn a (by omega)), hm2, qZp_mono (B := 20000 + 100 * m) ⟨⟨n1, n2⟩, n3, n4, n5, n6, n7, n8, n9, n10, n11, n12, fun _ => ⟨n1, n2, n12⟩⟩ (by omega)⟩
theorem qJ_restore (hJ : qJ m h) (hm512 : m ≤ 512) : qJs d 157 235 [] m h := by
  obtain ⟨K, I, R, n, z⟩ := h
  have hJ0 := hJ
  obtain ⟨j1, j2, j3, j4, j5, nk, pm, T, ni, fs, hd, s, b, g, el, er, nh, P, len, tx, wl, wt, lv, ec, en, sn, nk', pm', T', ni', fs', hd', sv, hc, hm, hp⟩ := hJ
  have hS : qS K R := j1
  have j2 : ∀ a, n ≤ a → K a = (77, 0) := j2
  have j3 : 204 ≤ n := j3
  have j4 : n ≤ 204 + 84 * m := j4
  have j5 : z ≤ 20000 + 354 * m := j5
  have hc : qZc K I R n nk pm T ni fs hd s b g el er nh P len tx wl wt lv ec en sn nk' pm' T' ni' fs' hd' sv := hc
  have hm : qZm I nk pm T ni fs hd s b g el er nh P len tx wl wt lv ec en sn nk' pm' T' ni' fs' hd' sv := hm
  obtain ⟨⟨l0, l1, l2, l3, l4, l5, l6, l7, l8, l9, l10, l11⟩, t2, t4, t6, ex, co, p1, p2, lg, hi, sc, sp, mo⟩ := id hS
  obtain ⟨q, q', nx, f, zA, zq, zn, zP, zL, zH, zT, zW, zX, zS, zV⟩ := id hc
  obtain ⟨⟨a1, a2⟩, ⟨b1, b2⟩, c1, ⟨d1, d2⟩, e1, ⟨f1, f2, f3⟩, ⟨g1, g2⟩, h1, i1, k1⟩ := id hm
  obtain ⟨⟨n1, n2⟩, n3, n4, n5, n6, n7, n8, n9, n10, n11, n12, n13⟩ := id hp
  have m0 := mo.1
  cases sn with
  | false =>
    have z11 : I 1 11 = nI 0 := zS
    have f10 : I 189 9 = nI 0 := f1
    exact qJ_ro hJ0 ⟨-1, by simp (disch := first | assumption | omega | exact Or.inl rfl | exact Or.inr rfl | exact qb_01) only [qe_157, qr_157_0, qr_157_1, qr_157_4, qr_157_7, qr_157_8, qr_157_9, qr_157_10, qr_157_13, qr_157_14, qr_157_17, qr_157_20, qr_157_21, qr_157_24, qr_157_25, qr_157_28, qr_157_31, qr_157_32, qr_157_35, qr_157_36, qr_157_39, qr_157_42, true_and, and_true, false_and, and_false, Option.bind_some, Option.toList_some, Option.toList_none, List.nil_append, List.cons_append, if_true, if_false, ite_true, ite_false, not_true_eq_false, not_false_eq_true, qn_lt0, qn_ge0, qn_lt, qn_le, qn_eq, qn_e0, qn_gt0, qn_le0, qn_m1, nI_add, pk_mul, qb_e0, Classical.not_not, Nat.reduceEqDiff, Nat.reduceLT, Nat.reduceLeDiff, Nat.not_lt_zero, Nat.zero_le, z11], by simp (disch := first | assumption | omega | exact Or.inl rfl | exact Or.inr rfl | exact qb_01) only [qe_235, qr_235_0, qr_235_1, qr_235_4, qr_235_7, qr_235_8, qr_235_9, qr_235_10, qr_235_13, qr_235_14, qr_235_17, qr_235_19, qr_235_22, qr_235_23, qr_235_26, qr_235_27, qr_235_30, qr_235_33, qr_235_36, qr_235_37, qr_235_38, qr_235_41, qr_235_42, qr_235_45, qr_235_46, qr_235_49, qr_235_50, qr_235_51, true_and, and_true, false_and, and_false, Option.bind_some, Option.toList_some, Option.toList_none, List.nil_append, List.cons_append, if_true, if_false, ite_true, ite_false, not_true_eq_false, not_false_eq_true, qn_lt0, qn_ge0, qn_lt, qn_le, qn_eq, qn_e0, qn_gt0, qn_le0, qn_m1, nI_add, pk_mul, qb_e0, Classical.not_not, Nat.reduceEqDiff, Nat.reduceLT, Nat.reduceLeDiff, Nat.not_lt_zero, Nat.zero_le, f10]⟩
  | true =>
    have z11 : I 1 11 = nI 1 := zS
    have f10 : I 189 9 = nI 1 := f1
    obtain ⟨v1, v2, v3, v4⟩ := zV rfl
    obtain ⟨n14, n15, n16⟩ := n13 rfl
    obtain ⟨f4, f5⟩ := f3 rfl
    have e1c := qs_CO_copyFrom (d := d + 25) (I := I) (n := n) (z := z) co sc (by omega)
    obtain ⟨I1, hI1⟩ : ∃ I1, I1 = qI_p I 10 166 := ⟨_, rfl⟩
    obtain ⟨R1, hR1⟩ : ∃ R1, R1 = qR_p R 10 166 := ⟨_, rfl⟩
    have hS1 : qS K R1 := by rw [hR1]; exact qS_save hS (Or.inl rfl)
    have hi1 : ∀ a, (a < 10 ∨ 13 ≤ a) → I1 a = I a := fun a ha => by rw [hI1]; exact qI_p_n (by omega)
    have hr1 : ∀ a, a ≠ 10 → R1 a = R a := fun a ha => by rw [hR1]; exact qR_p_n ha
    rw [← hI1, ← hR1] at e1c
    obtain ⟨⟨y0, y1, y2, y3, y4, y5, y6, y7, y8, y9, y10, y11⟩, -, -, -, -, -, w1, w2, w3, w4, -, w5, -⟩ := id hS1
    have zP1 : qp_PS I1 173 sv := qp_PS_cg v4 (fun a _ _ => hi1 a (by omega))
    obtain ⟨I2, b1c, b2c, b3c⟩ := qs_PR_copyFrom (d := d + 24) (n := n) (z := z) w1 w5 (by omega) zP1
    obtain ⟨I3, c1c, c2c, c3c, c4c⟩ := qs_LA_startAgain (d := d + 22) (n := n) (z := z) y0 y6 y8 y9 w4.1 w3 w1 (by omega) b3c (by omega)
    have c3c := c3c (Or.inr (by omega))
    have hI : ∀ a, (a < 10 ∨ (13 ≤ a ∧ a < 17) ∨ (33 ≤ a ∧ a < 49) ∨ 68 < a) → I3 a = I a := fun a ha => by rw [c2c a (by omega) (by omega), b2c a (by omega), hi1 a (by omega)]
    have i68 : I3 68 = va_up (I 68) 2 (nI 0) := by rw [c3c, b2c 68 (by omega), hi1 68 (by omega)]
    have p17 := w1.1
    have sc0 := sc.1
    have co0 := co.1
    have p173 := w5.1
    have zP3 : qp_PS I3 17 sv := qp_PS_cg b3c (fun a _ _ => c2c a (by omega) (by omega))
    have hd6 : I3 17 6 = sv 0 := zP3.1
    have r1 : qa_ex (d + 27) 157 [qa_a (some 1)] (K, I, R, n, z) = some (some (qa_i (sv 0)), (K, I3, R1, n, z)) := by
      simp (disch := first | assumption | omega | exact Or.inl rfl | exact Or.inr rfl | exact qb_01) only [qe_157, qr_157_0, qr_157_1, qr_157_4, qr_157_7, qr_157_8, qr_157_9, qr_157_10, qr_157_13, qr_157_14, qr_157_17, qr_157_20, qr_157_21, qr_157_24, qr_157_25, qr_157_28, qr_157_31, qr_157_32, qr_157_35, qr_157_36, qr_157_39, qr_157_42, true_and, and_true, false_and, and_false, Option.bind_some, Option.toList_some, Option.toList_none, List.nil_append, List.cons_append, if_true, if_false, ite_true, ite_false, not_true_eq_false, not_false_eq_true, qn_lt0, qn_ge0, qn_lt, qn_le, qn_eq, qn_e0, qn_gt0, qn_le0, qn_m1, nI_add, pk_mul, qb_e0, Classical.not_not, Nat.reduceEqDiff, Nat.reduceLT, Nat.reduceLeDiff, Nat.not_lt_zero, Nat.zero_le, z11, l5, l10, e1c, y6, y11, b1c, c1c, qs_PR_day, hd6, Nat.one_ne_zero]
    have zA3 : qj_A K I3 R1 10 q' nk' pm' T' ni' fs' hd' := by
      have hz := qj_A_cp v1 co (by omega) (by omega) (by omega)
      rw [← hI1, ← hR1] at hz
      exact qj_A_g hz (fun a h1 h2 => ⟨rfl, by rw [c2c a (by omega) (by omega), b2c a (by omega)], rfl⟩) (fun a h1 h2 => ⟨rfl, by rw [c2c a (by omega) (by omega), b2c a (by omega)], rfl⟩) (fun a h1 _ => ⟨rfl, by rw [c2c a (by omega) (by omega), b2c a (by omega)], rfl⟩)
    have zB3 : qj_A K I3 R1 166 q' nk' pm' T' ni' fs' hd' := qj_A_g v1 (fun a h1 h2 => ⟨rfl, hI a (by omega), hr1 a (by omega)⟩) (fun a h1 h2 => ⟨rfl, hI a (by omega), hr1 a (by omega)⟩) (fun a h1 _ => ⟨rfl, hI a (by omega), hr1 a (by omega)⟩)
    have hc1 : qZc K I3 R1 n nk' pm' T' ni' fs' hd' sv sv 0 el er 0 P len tx wl wt lv ec en true nk' pm' T' ni' fs' hd' sv := ⟨q', q', nx, 0, zA3, v2, v3, zP3, c4c el er, ⟨by rw [i68, qa_up_n _ _ (by omega)]; exact zH.1, zH.2.1, by rw [i68, qa_up_s], by omega, fun j hj => absurd hj (by omega)⟩, qp_L_cg zT (by rw [hI 2 (by omega)]) (hI _ (by omega)), qp_L_cg zW (by rw [hI 4 (by omega)]) (hI _ (by omega)), qp_X_cg zX (by rw [hI 7 (by omega)]) (hI _ (by omega)) (hI _ (by omega)), by rw [hI 1 (by omega)]; exact zS, fun _ => ⟨zB3, v2, v3, qp_PS_cg v4 (fun a _ _ => hI a (by omega))⟩⟩
    have hm1 := qZm_cg (I' := I3) hm (fun a h1 h2 => hI a (by omega))
    obtain ⟨⟨a1, a2⟩, ⟨b1, b2⟩, c1, ⟨d1, d2⟩, e1, ⟨f1, f2, f3⟩, ⟨g1, g2⟩, h1, i1, k1⟩ := hm1
    obtain ⟨f4, f5⟩ := f3 rfl
    have mo1 : qp_MO K R1 189 := hS1.2.2.2.2.2.2.2.2.2.2.2.2
    obtain ⟨I4, r2, s1, s2, s3, s4, s5⟩ := qs_MO_restore (d := d + 24) (I := I3) (n := n) (z := z) mo1 f1 (by show qv_Z (I3 190); rw [a1]; exact a2) (by show qv_Z (I3 191); rw [b1]; exact b2) f2
    rw [show I3 (189 + 7) = sv from f4] at r2 s1 s2
    have hsz : qv_Z sv := by rw [← f4]; exact f2
    have hn : ∀ a, (a < 189 ∨ (191 < a ∧ a < 194) ∨ 194 < a) → I4 a = I3 a := fun a ha => s5 a (by omega) (by omega) (by omega) (by omega)
    have h0 : ∀ f, (f < 4 ∨ (4 < f ∧ f < 12) ∨ 12 < f) → I4 189 f = I3 189 f := fun f hf => by rw [s4, qa_up_n _ _ (by omega), qa_up_n _ _ (by omega)]
    have hm2 : qZm I4 nk' pm' T' ni' fs' hd' sv sv 0 el er 0 P len tx wl wt lv ec en true nk' pm' T' ni' fs' hd' sv := ⟨⟨s1, hsz⟩, ⟨s2, hsz⟩, by rw [hn 192 (by omega)]; exact c1, ⟨by rw [s4, qa_up_n _ _ (by omega), qa_up_s], fun j hj => absurd hj (by omega)⟩, by rw [show I4 194 = _ from s3]; exact qp_MC_cg f5 (fun i hi => if_pos hi), ⟨by rw [h0 9 (by omega)]; exact f1, by rw [hn 196 (by omega)]; exact f2, fun hs => by rw [hn 196 (by omega), hn 197 (by omega)]; exact f3 hs⟩, ⟨by rw [s4, qa_up_s], fun j hj => absurd hj (by omega)⟩, qp_L_cg h1 (h0 14 (by omega)) (hn 200 (by omega)), qp_X_cg i1 (h0 20 (by omega)) (hn 201 (by omega)) (hn 202 (by omega)), qp_L_cg k1 (h0 22 (by omega)) (hn 203 (by omega))⟩
    exact ⟨_, _, _, r1, r2, ⟨rfl, hI 0 (by omega), rfl⟩, rfl, by show I4 0 = I 0; rw [hn 0 (by omega), hI 0 (by omega)], hS1, j2, j3, by show n ≤ _; omega, by show z ≤ _; omega, nk', pm', T', ni', fs', hd', sv, sv, 0, el, er, 0, P, len, tx, wl, wt, lv, ec, en, true, nk', pm', T', ni', fs', hd', sv, qZc_cg hc1 (fun a ha => hn a (by omega)), hm2, qZp_mono (B := 20000 + 100 * m) ⟨⟨n14, n15⟩, n14, fun j hj => absurd hj (by omega), by omega, by omega, fun j hj => absurd hj (by omega), n8, n9, n10, n11, n16, n13⟩ (by omega)⟩
theorem qJ_undo (hJ : qJ m h) (hm512 : m ≤ 512) : qJs d 153 233 [] m h := by
  obtain ⟨K, I, R, n, z⟩ := h
  have hJ0 := hJ
  obtain ⟨j1, j2, j3, j4, j5, nk, pm, T, ni, fs, hd, s, b, g, el, er, nh, P, len, tx, wl, wt, lv, ec, en, sn, nk', pm', T', ni', fs', hd', sv, hc, hm, hp⟩ := hJ
  have hS : qS K R := j1
  have j2 : ∀ a, n ≤ a → K a = (77, 0) := j2
  have j3 : 204 ≤ n := j3
  have j4 : n ≤ 204 + 84 * m := j4
  have j5 : z ≤ 20000 + 354 * m := j5
  have hc : qZc K I R n nk pm T ni fs hd s b g el er nh P len tx wl wt lv ec en sn nk' pm' T' ni' fs' hd' sv := hc
  have hm : qZm I nk pm T ni fs hd s b g el er nh P len tx wl wt lv ec en sn nk' pm' T' ni' fs' hd' sv := hm
  obtain ⟨⟨l0, l1, l2, l3, l4, l5, l6, l7, l8, l9, l10, l11⟩, t2, t4, t6, ex, co, p1, p2, lg, hi, sc, sp, mo⟩ := id hS
  obtain ⟨q, q', nx, f, zA, zq, zn, zP, zL, zH, zT, zW, zX, zS, zV⟩ := id hc
  obtain ⟨⟨a1, a2⟩, ⟨b1, b2⟩, c1, ⟨d1, d2⟩, e1, ⟨f1, f2, f3⟩, ⟨g1, g2⟩, h1, i1, k1⟩ := id hm
  obtain ⟨⟨n1, n2⟩, n3, n4, n5, n6, n7, n8, n9, n10, n11, n12, n13⟩ := id hp
  have m0 := mo.1
  have hi0 := hi.1
  cases nh with
  | zero =>
    have z68 : I 68 2 = nI 0 := zH.2.2.1
    have d10 : I 189 4 = nI 0 := d1
    exact qJ_ro hJ0 ⟨-1, by simp (disch := first | assumption | omega | exact Or.inl rfl | exact Or.inr rfl | exact qb_01) only [qe_153, qr_153_0, qr_153_1, qr_153_4, qr_153_7, qr_153_10, qr_153_11, qr_153_12, qr_153_13, qr_153_16, qr_153_17, qr_153_20, qr_153_23, qr_153_24, qr_153_27, qr_153_28, qr_153_31, qr_153_34, qr_153_35, qr_153_38, qr_153_41, true_and, and_true, false_and, and_false, Option.bind_some, Option.toList_some, Option.toList_none, List.nil_append, List.cons_append, if_true, if_false, ite_true, ite_false, not_true_eq_false, not_false_eq_true, qn_lt0, qn_ge0, qn_lt, qn_le, qn_eq, qn_e0, qn_gt0, qn_le0, qn_m1, nI_add, pk_mul, qb_e0, Classical.not_not, Nat.reduceEqDiff, Nat.reduceLT, Nat.reduceLeDiff, Nat.not_lt_zero, Nat.zero_le, l9, qs_HI_size, z68], by rw [qs_MO_undo0 (d := d + 24) mo d10]⟩
  | succ ch =>
    have z68 : I 68 2 = nI (ch + 1) := zH.2.2.1
    have lg0 := lg.1
    obtain ⟨I1, b1c, b2c, b3c, b4c⟩ := qs_HI_popInto (d := d + 23) (n := n) (z := z) hi zH p1 (by omega)
    obtain ⟨I2, c1c, c2c, c3c⟩ := qs_LG_startAt (d := d + 23) (n := n) (z := z) lg p1 (by omega) b3c
    have hI : ∀ a, (a < 17 ∨ (33 ≤ a ∧ a < 49) ∨ 68 < a) → I2 a = I a := fun a ha => by rw [c2c a (by omega), b2c a (by omega) (by omega)]
    have hH2 : qp_HS I2 68 ((nx + 5) % 6) ch P := qp_HS_cg b4c (fun a _ _ => c2c a (by omega))
    have i68 : I2 68 2 = nI ch := hH2.2.2.1
    have e5 : ¬ ch + 1 = 0 := by omega
    have r1 : qa_ex (d + 27) 153 [qa_a (some 1)] (K, I, R, n, z) = some (some (qa_i (nI ch)), (K, I2, R, n, z)) := by
      simp (disch := first | assumption | omega | exact Or.inl rfl | exact Or.inr rfl | exact qb_01) only [qe_153, qr_153_0, qr_153_1, qr_153_4, qr_153_7, qr_153_10, qr_153_11, qr_153_12, qr_153_13, qr_153_16, qr_153_17, qr_153_20, qr_153_23, qr_153_24, qr_153_27, qr_153_28, qr_153_31, qr_153_34, qr_153_35, qr_153_38, qr_153_41, true_and, and_true, false_and, and_false, Option.bind_some, Option.toList_some, Option.toList_none, List.nil_append, List.cons_append, if_true, if_false, ite_true, ite_false, not_true_eq_false, not_false_eq_true, qn_lt0, qn_ge0, qn_lt, qn_le, qn_eq, qn_e0, qn_gt0, qn_le0, qn_m1, nI_add, pk_mul, qb_e0, Classical.not_not, Nat.reduceEqDiff, Nat.reduceLT, Nat.reduceLeDiff, Nat.not_lt_zero, Nat.zero_le, l9, l6, l8, qs_HI_size, z68, e5, b1c, c1c, i68]
    have hm1 := qZm_cg (I' := I2) hm (fun a h1 h2 => hI a (by omega))
    obtain ⟨⟨a1, a2⟩, ⟨b1, b2⟩, c1, ⟨d1, d2⟩, e1, ⟨f1, f2, f3⟩, ⟨g1, g2⟩, h1, i1, k1⟩ := hm1
    have r2 := qs_MO_undo (d := d + 24) (I := I2) (n := n) (z := z) mo d1 (by omega)
    obtain ⟨t, ht⟩ : ∃ t, t = qf_tk (127 * ch) 127 (I2 193) (I2 190) := ⟨_, rfl⟩
    rw [show qf_tk (127 * ch) 127 (I2 (189 + 4)) (I2 (189 + 1)) = t from ht.symm] at r2
    have htP : ∀ i, i < 127 → P ch i = t i := fun i hi => by
      rw [ht]
      unfold qf_tk
      rw [if_pos hi]
      exact (d2 ch (by omega) i hi).symm
    have htZ : qv_Z t := fun i hi => by
      rw [ht]
      unfold qf_tk
      rw [if_neg (by omega), a1]
      exact a2 i hi
    rw [qf_cpy_Z htZ (by show qv_Z (I2 191); rw [b1]; exact b2)] at r2
    obtain ⟨I4, hI4⟩ : ∃ I4, I4 = va_up (va_up (va_up I2 (189 + 1) t) (189 + 2) t) 189 (va_up (va_up (I2 189) 4 (nI ch)) 12 (nI 0)) := ⟨_, rfl⟩
    rw [← hI4] at r2
    have hn : ∀ a, (a < 189 ∨ 191 < a) → I4 a = I2 a := fun a ha => by rw [hI4, qa_up_n _ _ (by omega), qa_up_n _ _ (by omega), qa_up_n _ _ (by omega)]
    have h0 : ∀ f, (f < 4 ∨ (4 < f ∧ f < 12) ∨ 12 < f) → I4 189 f = I2 189 f := fun f hf => by rw [hI4, qa_up_s, qa_up_n _ _ (by omega), qa_up_n _ _ (by omega)]
    have s1 : I4 190 = t := by rw [hI4, qa_up_n _ _ (by omega), qa_up_n _ _ (by omega)]; exact qa_up_s _ _ _
    have s2 : I4 191 = t := by rw [hI4, qa_up_n _ _ (by omega)]; exact qa_up_s _ _ _
    have zP2 : qp_PS I2 17 t := qp_PS_eq (qp_PS_cg b3c (fun a _ _ => c2c a (by omega))) htP
    have zL2 : qp_LS I2 49 0 0 el er t := by
      obtain ⟨w1, w2, w3, w4, w5, w6⟩ := c3c el er
      exact ⟨w1, w2, w3, w4, w5, qp_PS_eq w6 htP⟩
    have hc1 : qZc K I2 R n nk pm T ni fs hd t t 0 el er ch P len tx wl wt lv ec en sn nk' pm' T' ni' fs' hd' sv := ⟨q, q', ((nx + 5) % 6), 0, qj_A_cg zA (fun a _ _ => hI a (by omega)) (fun a _ _ => hI a (by omega)) (fun a _ => hI a (by omega)), zq, zn, zP2, zL2, hH2, qp_L_cg zT (by rw [hI 2 (by omega)]) (hI _ (by omega)), qp_L_cg zW (by rw [hI 4 (by omega)]) (hI _ (by omega)), qp_X_cg zX (by rw [hI 7 (by omega)]) (hI _ (by omega)) (hI _ (by omega)), by rw [hI 1 (by omega)]; exact zS, fun hs => by
      obtain ⟨v1, v2, v3, v4⟩ := zV hs
      exact ⟨qj_A_cg v1 (fun a _ _ => hI a (by omega)) (fun a _ _ => hI a (by omega)) (fun a _ => hI a (by omega)), v2, v3, qp_PS_cg v4 (fun a _ _ => hI a (by omega))⟩⟩
    have hm2 : qZm I4 nk pm T ni fs hd t t 0 el er ch P len tx wl wt lv ec en sn nk' pm' T' ni' fs' hd' sv := ⟨⟨s1, htZ⟩, ⟨s2, htZ⟩, by rw [hn 192 (by omega)]; exact c1, ⟨by rw [hI4, qa_up_s, qa_up_n _ _ (by omega), qa_up_s], fun j hj i hi => by rw [hn 193 (by omega)]; exact d2 j (by omega) i hi⟩, by rw [hn 194 (by omega)]; exact e1, ⟨by rw [h0 9 (by omega)]; exact f1, by rw [hn 196 (by omega)]; exact f2, fun hs => by rw [hn 196 (by omega), hn 197 (by omega)]; exact f3 hs⟩, ⟨by rw [hI4, qa_up_s, qa_up_s], fun j hj => absurd hj (by omega)⟩, qp_L_cg h1 (h0 14 (by omega)) (hn 200 (by omega)), qp_X_cg i1 (h0 20 (by omega)) (hn 201 (by omega)) (hn 202 (by omega)), qp_L_cg k1 (h0 22 (by omega)) (hn 203 (by omega))⟩
    obtain ⟨n17, n18⟩ := n4 ch (by omega)
    have n19 := qv_S_eq n17 htP
    exact ⟨_, _, _, r1, r2, ⟨rfl, hI 0 (by omega), rfl⟩, rfl, by show I4 0 = I 0; rw [hn 0 (by omega), hI 0 (by omega)], hS, j2, j3, by show n ≤ _; omega, by show z ≤ _; omega, nk, pm, T, ni, fs, hd, t, t, 0, el, er, ch, P, len, tx, wl, wt, lv, ec, en, sn, nk', pm', T', ni', fs', hd', sv, qZc_cg hc1 (fun a ha => hn a (by omega)), hm2, qZp_mono (B := 20000 + 100 * m) ⟨⟨n19, qv_I_eq n18 htP⟩, n19, fun j hj => n4 j (by omega), by omega, by omega, fun j hj => absurd hj (by omega), n8, n9, n10, n11, n12, n13⟩ (by omega)⟩
end Q70
