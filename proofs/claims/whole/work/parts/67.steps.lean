/-! A step of each method that changes nothing. -/
theorem qn_rg3 {x : Int32} {a l : Nat} (ha : a < 1000000) (hl : l < 1000000) (h : ¬ x < nI a ∧ ¬ nI l < x) : ∃ i, a ≤ i ∧ i ≤ l ∧ x = nI i := by
  rcases pk_ix x (n := l + 1) (by omega) with h1 | h1 | ⟨i, h1, rfl⟩
  · refine absurd (Int32.lt_iff_toInt_lt.mpr ?_) h.1
    have h2 := Int32.lt_iff_toInt_lt.mp h1
    rw [nI_toInt (by omega)]
    have : (0 : Int32).toInt = 0 := rfl
    omega
  · refine absurd (Int32.lt_iff_toInt_lt.mpr ?_) h.2
    have h2 := Int32.le_iff_toInt_le.mp h1
    rw [nI_toInt (by omega)] at h2 ⊢
    omega
  · have h2 := h.1
    rw [qn_lt (by omega) (by omega)] at h2
    exact ⟨i, by omega, by omega, rfl⟩
section Q67
variable {m d : Nat} {h : qa_H} {x y w v : Int32}
theorem qJ_item (hJ : qJ m h) (hm : m ≤ 512) : qJs d 47 176 [qa_i x, qa_i y] m h := by
  obtain ⟨K, I, R, n, z⟩ := h
  have hJ0 := hJ
  obtain ⟨j1, j2, j3, j4, j5, nk, pm, T, ni, fs, hd, s, b, g, el, er, nh, P, len, tx, wl, wt, lv, ec, en, sn, nk', pm', T', ni', fs', hd', sv, j6, j7, j8⟩ := hJ
  have j1 : qS K R := j1
  have j6 : qZc K I R n nk pm T ni fs hd s b g el er nh P len tx wl wt lv ec en sn nk' pm' T' ni' fs' hd' sv := j6
  have j7 : qZm I nk pm T ni fs hd s b g el er nh P len tx wl wt lv ec en sn nk' pm' T' ni' fs' hd' sv := j7
  obtain ⟨q, hb⟩ := qZ_B j1 j6 j7 j8 (by omega)
  obtain ⟨v, r1, r2⟩ := qj_item (n := n) (z := z) (x := x) (y := y) hb
  exact qJ_ro hJ0 ⟨v, r1 _, r2 _⟩
theorem qJ_mastery (hJ : qJ m h) (hm : m ≤ 512) : qJs d 83 192 [qa_i x, qa_i y] m h := by
  obtain ⟨K, I, R, n, z⟩ := h
  have hJ0 := hJ
  obtain ⟨j1, j2, j3, j4, j5, nk, pm, T, ni, fs, hd, s, b, g, el, er, nh, P, len, tx, wl, wt, lv, ec, en, sn, nk', pm', T', ni', fs', hd', sv, j6, j7, j8⟩ := hJ
  have j1 : qS K R := j1
  have j6 : qZc K I R n nk pm T ni fs hd s b g el er nh P len tx wl wt lv ec en sn nk' pm' T' ni' fs' hd' sv := j6
  have j7 : qZm I nk pm T ni fs hd s b g el er nh P len tx wl wt lv ec en sn nk' pm' T' ni' fs' hd' sv := j7
  obtain ⟨q, hb⟩ := qZ_B j1 j6 j7 j8 (by omega)
  obtain ⟨v, r1, r2⟩ := qj_mastery (n := n) (z := z) (x := x) (y := y) hb
  exact qJ_ro hJ0 ⟨v, r1 _, r2 _⟩
theorem qJ_skill (hJ : qJ m h) (hm : m ≤ 512) : qJs d 87 196 [qa_i x, qa_i y] m h := by
  obtain ⟨K, I, R, n, z⟩ := h
  have hJ0 := hJ
  obtain ⟨j1, j2, j3, j4, j5, nk, pm, T, ni, fs, hd, s, b, g, el, er, nh, P, len, tx, wl, wt, lv, ec, en, sn, nk', pm', T', ni', fs', hd', sv, j6, j7, j8⟩ := hJ
  have j1 : qS K R := j1
  have j6 : qZc K I R n nk pm T ni fs hd s b g el er nh P len tx wl wt lv ec en sn nk' pm' T' ni' fs' hd' sv := j6
  have j7 : qZm I nk pm T ni fs hd s b g el er nh P len tx wl wt lv ec en sn nk' pm' T' ni' fs' hd' sv := j7
  obtain ⟨q, hb⟩ := qZ_B j1 j6 j7 j8 (by omega)
  obtain ⟨v, r1, r2⟩ := qj_skill (n := n) (z := z) (x := x) (y := y) hb
  exact qJ_ro hJ0 ⟨v, r1 _, r2 _⟩
theorem qJ_chance (hJ : qJ m h) (hm : m ≤ 512) : qJs d 98 199 [qa_i x, qa_i y] m h := by
  obtain ⟨K, I, R, n, z⟩ := h
  have hJ0 := hJ
  obtain ⟨j1, j2, j3, j4, j5, nk, pm, T, ni, fs, hd, s, b, g, el, er, nh, P, len, tx, wl, wt, lv, ec, en, sn, nk', pm', T', ni', fs', hd', sv, j6, j7, j8⟩ := hJ
  have j1 : qS K R := j1
  have j6 : qZc K I R n nk pm T ni fs hd s b g el er nh P len tx wl wt lv ec en sn nk' pm' T' ni' fs' hd' sv := j6
  have j7 : qZm I nk pm T ni fs hd s b g el er nh P len tx wl wt lv ec en sn nk' pm' T' ni' fs' hd' sv := j7
  obtain ⟨q, hb⟩ := qZ_B j1 j6 j7 j8 (by omega)
  obtain ⟨v, r1, r2⟩ := qj_chance (n := n) (z := z) (x := x) (y := y) hb
  exact qJ_ro hJ0 ⟨v, r1 _, r2 _⟩
theorem qJ_advise (hJ : qJ m h) (hm : m ≤ 512) : qJs d 101 202 [qa_i x] m h := by
  obtain ⟨K, I, R, n, z⟩ := h
  have hJ0 := hJ
  obtain ⟨j1, j2, j3, j4, j5, nk, pm, T, ni, fs, hd, s, b, g, el, er, nh, P, len, tx, wl, wt, lv, ec, en, sn, nk', pm', T', ni', fs', hd', sv, j6, j7, j8⟩ := hJ
  have j1 : qS K R := j1
  have j6 : qZc K I R n nk pm T ni fs hd s b g el er nh P len tx wl wt lv ec en sn nk' pm' T' ni' fs' hd' sv := j6
  have j7 : qZm I nk pm T ni fs hd s b g el er nh P len tx wl wt lv ec en sn nk' pm' T' ni' fs' hd' sv := j7
  obtain ⟨q, hb⟩ := qZ_B j1 j6 j7 j8 (by omega)
  obtain ⟨v, r1, r2⟩ := qj_advise (n := n) (z := z) (x := x) hb
  exact qJ_ro hJ0 ⟨v, r1 _, r2 _⟩
theorem qJ_due (hJ : qJ m h) (hm : m ≤ 512) : qJs d 113 212 [qa_i x] m h := by
  obtain ⟨K, I, R, n, z⟩ := h
  have hJ0 := hJ
  obtain ⟨j1, j2, j3, j4, j5, nk, pm, T, ni, fs, hd, s, b, g, el, er, nh, P, len, tx, wl, wt, lv, ec, en, sn, nk', pm', T', ni', fs', hd', sv, j6, j7, j8⟩ := hJ
  have j1 : qS K R := j1
  have j6 : qZc K I R n nk pm T ni fs hd s b g el er nh P len tx wl wt lv ec en sn nk' pm' T' ni' fs' hd' sv := j6
  have j7 : qZm I nk pm T ni fs hd s b g el er nh P len tx wl wt lv ec en sn nk' pm' T' ni' fs' hd' sv := j7
  obtain ⟨q, hb⟩ := qZ_B j1 j6 j7 j8 (by omega)
  obtain ⟨v, r1, r2⟩ := qj_due (n := n) (z := z) (x := x) hb
  exact qJ_ro hJ0 ⟨v, r1 _, r2 _⟩
theorem qJ_account (hJ : qJ m h) (hm : m ≤ 512) : qJs d 121 219 [qa_i x, qa_i y] m h := by
  obtain ⟨K, I, R, n, z⟩ := h
  have hJ0 := hJ
  obtain ⟨j1, j2, j3, j4, j5, nk, pm, T, ni, fs, hd, s, b, g, el, er, nh, P, len, tx, wl, wt, lv, ec, en, sn, nk', pm', T', ni', fs', hd', sv, j6, j7, j8⟩ := hJ
  have j1 : qS K R := j1
  have j6 : qZc K I R n nk pm T ni fs hd s b g el er nh P len tx wl wt lv ec en sn nk' pm' T' ni' fs' hd' sv := j6
  have j7 : qZm I nk pm T ni fs hd s b g el er nh P len tx wl wt lv ec en sn nk' pm' T' ni' fs' hd' sv := j7
  obtain ⟨q, hb⟩ := qZ_B j1 j6 j7 j8 (by omega)
  obtain ⟨v, r1, r2⟩ := qj_account (n := n) (z := z) (x := x) (y := y) hb
  exact qJ_ro hJ0 ⟨v, r1 _, r2 _⟩
theorem qJ_explanation (hJ : qJ m h) (hm : m ≤ 512) : qJs d 135 223 [qa_i x, qa_i y] m h := by
  obtain ⟨K, I, R, n, z⟩ := h
  have hJ0 := hJ
  obtain ⟨j1, j2, j3, j4, j5, nk, pm, T, ni, fs, hd, s, b, g, el, er, nh, P, len, tx, wl, wt, lv, ec, en, sn, nk', pm', T', ni', fs', hd', sv, j6, j7, j8⟩ := hJ
  have j1 : qS K R := j1
  have j6 : qZc K I R n nk pm T ni fs hd s b g el er nh P len tx wl wt lv ec en sn nk' pm' T' ni' fs' hd' sv := j6
  have j7 : qZm I nk pm T ni fs hd s b g el er nh P len tx wl wt lv ec en sn nk' pm' T' ni' fs' hd' sv := j7
  obtain ⟨⟨l0, l1, l2, l3, l4, l5, l6, l7, l8, l9, l10, l11⟩, t2, t4, t6, ex, co, p1, p2, lg, hi, sc, sp, mo⟩ := id j1
  obtain ⟨q, q', nx, f, zA, zq, zn, zP, zL, zH, zT, zW, zX, zS, zV⟩ := id j6
  obtain ⟨⟨a1, a2⟩, ⟨b1, b2⟩, c1, ⟨d1, d2⟩, e1, ⟨f1, f2, f3⟩, ⟨g1, g2⟩, h1, i1, k1⟩ := id j7
  obtain ⟨⟨n1, n2⟩, n3, n4, n5, n6, n7, n8, n9, n10, n11, n12, n13⟩ := id j8
  obtain ⟨v, r1, r2⟩ := qj_explanation (n := n) (z := z) (x := x) (y := y) l0 l4 ex zX n11 mo i1
  exact qJ_ro hJ0 ⟨v, r1 _, r2 _⟩
theorem qJ_logEntry (hJ : qJ m h) (hm : m ≤ 512) : qJs d 140 225 [qa_i x, qa_i y] m h := by
  obtain ⟨K, I, R, n, z⟩ := h
  have hJ0 := hJ
  obtain ⟨j1, j2, j3, j4, j5, nk, pm, T, ni, fs, hd, s, b, g, el, er, nh, P, len, tx, wl, wt, lv, ec, en, sn, nk', pm', T', ni', fs', hd', sv, j6, j7, j8⟩ := hJ
  have j1 : qS K R := j1
  have j6 : qZc K I R n nk pm T ni fs hd s b g el er nh P len tx wl wt lv ec en sn nk' pm' T' ni' fs' hd' sv := j6
  have j7 : qZm I nk pm T ni fs hd s b g el er nh P len tx wl wt lv ec en sn nk' pm' T' ni' fs' hd' sv := j7
  obtain ⟨⟨l0, l1, l2, l3, l4, l5, l6, l7, l8, l9, l10, l11⟩, t2, t4, t6, ex, co, p1, p2, lg, hi, sc, sp, mo⟩ := id j1
  obtain ⟨q, q', nx, f, zA, zq, zn, zP, zL, zH, zT, zW, zX, zS, zV⟩ := id j6
  obtain ⟨⟨a1, a2⟩, ⟨b1, b2⟩, c1, ⟨d1, d2⟩, e1, ⟨f1, f2, f3⟩, ⟨g1, g2⟩, h1, i1, k1⟩ := id j7
  obtain ⟨⟨n1, n2⟩, n3, n4, n5, n6, n7, n8, n9, n10, n11, n12, n13⟩ := id j8
  obtain ⟨v, r1, r2⟩ := qj_logEntry (n := n) (z := z) (x := x) (y := y) l0 l8 lg zL mo g1 g2
  exact qJ_ro hJ0 ⟨v, r1 _, r2 _⟩
theorem qJ_written (hJ : qJ m h) (hm : m ≤ 512) : qJs d 152 232 [qa_i x] m h := by
  obtain ⟨K, I, R, n, z⟩ := h
  have hJ0 := hJ
  obtain ⟨j1, j2, j3, j4, j5, nk, pm, T, ni, fs, hd, s, b, g, el, er, nh, P, len, tx, wl, wt, lv, ec, en, sn, nk', pm', T', ni', fs', hd', sv, j6, j7, j8⟩ := hJ
  have j1 : qS K R := j1
  have j6 : qZc K I R n nk pm T ni fs hd s b g el er nh P len tx wl wt lv ec en sn nk' pm' T' ni' fs' hd' sv := j6
  have j7 : qZm I nk pm T ni fs hd s b g el er nh P len tx wl wt lv ec en sn nk' pm' T' ni' fs' hd' sv := j7
  obtain ⟨⟨l0, l1, l2, l3, l4, l5, l6, l7, l8, l9, l10, l11⟩, t2, t4, t6, ex, co, p1, p2, lg, hi, sc, sp, mo⟩ := id j1
  obtain ⟨q, q', nx, f, zA, zq, zn, zP, zL, zH, zT, zW, zX, zS, zV⟩ := id j6
  obtain ⟨⟨a1, a2⟩, ⟨b1, b2⟩, c1, ⟨d1, d2⟩, e1, ⟨f1, f2, f3⟩, ⟨g1, g2⟩, h1, i1, k1⟩ := id j7
  obtain ⟨⟨n1, n2⟩, n3, n4, n5, n6, n7, n8, n9, n10, n11, n12, n13⟩ := id j8
  obtain ⟨v, r1, r2⟩ := qj_written (n := n) (z := z) (x := x) l0 l2 t4 zW n10 mo k1
  exact qJ_ro hJ0 ⟨v, r1 _, r2 _⟩
theorem qJ_count (hJ : qJ m h) (hm : m ≤ 512) : qJs d 142 226 [qa_i x] m h := by
  obtain ⟨K, I, R, n, z⟩ := h
  have hJ0 := hJ
  obtain ⟨j1, j2, j3, j4, j5, nk, pm, T, ni, fs, hd, s, b, g, el, er, nh, P, len, tx, wl, wt, lv, ec, en, sn, nk', pm', T', ni', fs', hd', sv, j6, j7, j8⟩ := hJ
  have j1 : qS K R := j1
  have j6 : qZc K I R n nk pm T ni fs hd s b g el er nh P len tx wl wt lv ec en sn nk' pm' T' ni' fs' hd' sv := j6
  have j7 : qZm I nk pm T ni fs hd s b g el er nh P len tx wl wt lv ec en sn nk' pm' T' ni' fs' hd' sv := j7
  obtain ⟨⟨l0, l1, l2, l3, l4, l5, l6, l7, l8, l9, l10, l11⟩, t2, t4, t6, ex, co, p1, p2, lg, hi, sc, sp, mo⟩ := id j1
  obtain ⟨q, q', nx, f, zA, zq, zn, zP, zL, zH, zT, zW, zX, zS, zV⟩ := id j6
  obtain ⟨⟨a1, a2⟩, ⟨b1, b2⟩, c1, ⟨d1, d2⟩, e1, ⟨f1, f2, f3⟩, ⟨g1, g2⟩, h1, i1, k1⟩ := id j7
  obtain ⟨⟨n1, n2⟩, n3, n4, n5, n6, n7, n8, n9, n10, n11, n12, n13⟩ := id j8
  obtain ⟨q, hb⟩ := qZ_B j1 j6 j7 j8 (by omega)
  obtain ⟨v, r1, r2⟩ := qj_count (n := n) (z := z) (x := x) hb l1 l8 l9 t2.1 lg.1 hi.1 zL.2.2.1 g1 zH.2.2.1 d1 zT.1 h1.1 (fun i i1 i2 => by show I 190 _ = _ ∧ I 190 _ = _; rw [a1]; exact n2 i i1 i2)
  exact qJ_ro hJ0 ⟨v, r1 _, r2 _⟩
theorem qJ_path (hJ : qJ m h) (hm : m ≤ 512) : qJs d 115 213 [qa_i x] m h := by
  obtain ⟨K, I, R, n, z⟩ := h
  have hJ0 := hJ
  obtain ⟨j1, j2, j3, j4, j5, nk, pm, T, ni, fs, hd, s, b, g, el, er, nh, P, len, tx, wl, wt, lv, ec, en, sn, nk', pm', T', ni', fs', hd', sv, j6, j7, j8⟩ := hJ
  have j1 : qS K R := j1
  have j6 : qZc K I R n nk pm T ni fs hd s b g el er nh P len tx wl wt lv ec en sn nk' pm' T' ni' fs' hd' sv := j6
  have j7 : qZm I nk pm T ni fs hd s b g el er nh P len tx wl wt lv ec en sn nk' pm' T' ni' fs' hd' sv := j7
  obtain ⟨⟨l0, l1, l2, l3, l4, l5, l6, l7, l8, l9, l10, l11⟩, t2, t4, t6, ex, co, p1, p2, lg, hi, sc, sp, mo⟩ := id j1
  obtain ⟨q, q', nx, f, zA, zq, zn, zP, zL, zH, zT, zW, zX, zS, zV⟩ := id j6
  obtain ⟨⟨a1, a2⟩, ⟨b1, b2⟩, c1, ⟨d1, d2⟩, e1, ⟨f1, f2, f3⟩, ⟨g1, g2⟩, h1, i1, k1⟩ := id j7
  obtain ⟨⟨n1, n2⟩, n3, n4, n5, n6, n7, n8, n9, n10, n11, n12, n13⟩ := id j8
  have hB : 20000 + 100 * m < 900000 := by omega
  have c0 : K 10 = (4, 0) := co.1
  have p0 := p1.1
  have m0 := mo.1
  have hC := zA.1
  have k10 := hC.2.2.2.2.1
  have i12 := hC.2.2.2.2.2.2.2.1
  have cn := hC.2.2.2.2.2.2.1
  have mk := e1.1
  have mi := e1.2.2.2.1
  have hfi : ∀ i, i < ni → fs i < nk := fun i hi => (e1.2.2.2.2.2.2.2.2 i hi).2.2.1
  have hpt : 33 + 16 ≤ 17 ∨ 17 + 16 ≤ 33 := by omega
  have hsp : qz_sep 33 10 q := ⟨by omega, by omega⟩
  by_cases hx : ¬ x < nI 0 ∧ ¬ nI 11 < x
  · obtain ⟨j, q1, q2, rfl⟩ := qn_rg3 (by omega) (by omega) hx
    obtain ⟨I1, r1, hf⟩ := qs_LA_path (d := d + 9) (n := n) (z := z) (j := j) l0 l5 l6 l7 zA p1 p2 hpt (by omega) hsp zP (by omega)
    have k2 := qZm_cg (I' := I1) j7 (fun a h1 h2 => hf a (by omega))
    obtain ⟨⟨A1, A2⟩, ⟨B1, B2⟩, C1, -, E1, -, ⟨G1, G2⟩, -⟩ := k2
    have r2 := qs_MO_path (d := d + 7) (I := I1) (n := n) (z := z) (B := 20000 + 100 * m) (j := j) mo E1 (by show qv_S _ (I1 190); rw [A1]; exact n1) hB (by show qv_Z (I1 190); rw [A1]; exact A2) C1 (by omega)
    rw [← A1] at r1
    exact qJ_try hJ0 r1 hf r2
  · exact qJ_ro hJ0 ⟨-2, by simp (disch := first | assumption | omega | exact Or.inl rfl | exact Or.inr rfl | exact qb_01) only [qe_115, qr_115_0, qr_115_1, qr_115_2, qr_115_4, qr_115_7, qr_115_10, qr_115_12, qr_115_13, qr_115_14, qr_115_17, qr_115_18, qr_115_21, qr_115_24, qr_115_25, qr_115_27, qr_115_28, qr_115_31, qr_115_32, qr_115_35, qr_115_36, qr_115_39, qr_115_40, qr_115_43, qr_115_46, qr_115_47, qr_115_50, qr_115_53, qr_115_56, qr_115_57, qr_115_60, qr_115_61, qr_115_64, qr_115_67, true_and, and_true, false_and, and_false, Option.bind_some, Option.toList_some, Option.toList_none, List.nil_append, List.cons_append, if_true, if_false, ite_true, ite_false, not_true_eq_false, not_false_eq_true, qn_lt0, qn_ge0, qn_lt, qn_le, qn_eq, qn_e0, qn_gt0, qn_le0, qn_m1, nI_add, pk_mul, qb_e0, Classical.not_not, Nat.reduceEqDiff, Nat.reduceLT, Nat.reduceLeDiff, Nat.not_lt_zero, Nat.zero_le, qs_LA_isWithin, eq_false hx], by simp (disch := first | assumption | omega | exact Or.inl rfl | exact Or.inr rfl | exact qb_01) only [qe_213, qr_213_0, qr_213_1, qr_213_2, qr_213_4, qr_213_7, qr_213_10, qr_213_12, qr_213_13, qr_213_14, qr_213_17, qr_213_18, qr_213_21, qr_213_23, qr_213_26, qr_213_27, qr_213_28, qr_213_31, qr_213_32, qr_213_33, qr_213_35, qr_213_36, qr_213_39, qr_213_40, qr_213_43, qr_213_44, qr_213_45, qr_213_46, qr_213_49, qr_213_50, qr_213_51, qr_213_54, qr_213_55, qr_213_58, qr_213_61, qr_213_62, qr_213_65, qr_213_66, qr_213_69, qr_213_71, qr_213_74, qr_213_75, qr_213_78, qr_213_79, qr_213_82, qr_213_83, true_and, and_true, false_and, and_false, Option.bind_some, Option.toList_some, Option.toList_none, List.nil_append, List.cons_append, if_true, if_false, ite_true, ite_false, not_true_eq_false, not_false_eq_true, qn_lt0, qn_ge0, qn_lt, qn_le, qn_eq, qn_e0, qn_gt0, qn_le0, qn_m1, nI_add, pk_mul, qb_e0, Classical.not_not, Nat.reduceEqDiff, Nat.reduceLT, Nat.reduceLeDiff, Nat.not_lt_zero, Nat.zero_le, qs_MO_isIn, eq_false hx]⟩
theorem qJ_plan (hJ : qJ m h) (hm : m ≤ 512) : qJs d 117 215 [qa_i x, qa_i y, qa_i w] m h := by
  obtain ⟨K, I, R, n, z⟩ := h
  have hJ0 := hJ
  obtain ⟨j1, j2, j3, j4, j5, nk, pm, T, ni, fs, hd, s, b, g, el, er, nh, P, len, tx, wl, wt, lv, ec, en, sn, nk', pm', T', ni', fs', hd', sv, j6, j7, j8⟩ := hJ
  have j1 : qS K R := j1
  have j6 : qZc K I R n nk pm T ni fs hd s b g el er nh P len tx wl wt lv ec en sn nk' pm' T' ni' fs' hd' sv := j6
  have j7 : qZm I nk pm T ni fs hd s b g el er nh P len tx wl wt lv ec en sn nk' pm' T' ni' fs' hd' sv := j7
  obtain ⟨⟨l0, l1, l2, l3, l4, l5, l6, l7, l8, l9, l10, l11⟩, t2, t4, t6, ex, co, p1, p2, lg, hi, sc, sp, mo⟩ := id j1
  obtain ⟨q, q', nx, f, zA, zq, zn, zP, zL, zH, zT, zW, zX, zS, zV⟩ := id j6
  obtain ⟨⟨a1, a2⟩, ⟨b1, b2⟩, c1, ⟨d1, d2⟩, e1, ⟨f1, f2, f3⟩, ⟨g1, g2⟩, h1, i1, k1⟩ := id j7
  obtain ⟨⟨n1, n2⟩, n3, n4, n5, n6, n7, n8, n9, n10, n11, n12, n13⟩ := id j8
  have hB : 20000 + 100 * m < 900000 := by omega
  have c0 : K 10 = (4, 0) := co.1
  have p0 := p1.1
  have m0 := mo.1
  have hC := zA.1
  have k10 := hC.2.2.2.2.1
  have i12 := hC.2.2.2.2.2.2.2.1
  have cn := hC.2.2.2.2.2.2.1
  have mk := e1.1
  have mi := e1.2.2.2.1
  have hfi : ∀ i, i < ni → fs i < nk := fun i hi => (e1.2.2.2.2.2.2.2.2 i hi).2.2.1
  have hpt : 33 + 16 ≤ 17 ∨ 17 + 16 ≤ 33 := by omega
  have hsp : qz_sep 33 10 q := ⟨by omega, by omega⟩
  by_cases hx : ¬ x < nI 1 ∧ ¬ nI 30 < x
  · by_cases hy : ¬ y < nI 1 ∧ ¬ nI 12 < y
    · by_cases hw : ¬ w < nI 0 ∧ ¬ nI 2 < w
      · obtain ⟨j, q1, q2, rfl⟩ := qn_rg3 (by omega) (by omega) hx
        obtain ⟨na, q3, q4, rfl⟩ := qn_rg3 (by omega) (by omega) hy
        obtain ⟨w, q5, q6, rfl⟩ := qn_rg3 (by omega) (by omega) hw
        obtain ⟨I1, r1, hf⟩ := qs_LA_plan (d := d + 7) (n := n) (z := z) (j := j) (na := na) (w := w) l0 l5 l6 l7 zA p1 p2 hpt (by omega) hsp zP q1 q2 q3 q4 (by omega)
        have k2 := qZm_cg (I' := I1) j7 (fun a h1 h2 => hf a (by omega))
        obtain ⟨⟨A1, A2⟩, ⟨B1, B2⟩, C1, -, E1, -, ⟨G1, G2⟩, -⟩ := k2
        have r2 := qs_MO_plan (d := d + 7) (I := I1) (n := n) (z := z) (B := 20000 + 100 * m) (j := j) (na := na) (w := w) mo E1 (by show qv_S _ (I1 190); rw [A1]; exact n1) hB (by show qv_Z (I1 190); rw [A1]; exact A2) C1 q1 q2 q3 q4 (by omega)
        rw [← A1] at r1
        exact qJ_try hJ0 r1 hf r2
      · exact qJ_ro hJ0 ⟨-2, by simp (disch := first | assumption | omega | exact Or.inl rfl | exact Or.inr rfl | exact qb_01) only [qe_117, qr_117_0, qr_117_1, qr_117_2, qr_117_4, qr_117_7, qr_117_10, qr_117_11, qr_117_12, qr_117_14, qr_117_17, qr_117_20, qr_117_21, qr_117_22, qr_117_23, qr_117_26, qr_117_29, qr_117_31, qr_117_32, qr_117_33, qr_117_36, qr_117_37, qr_117_40, qr_117_43, qr_117_44, qr_117_46, qr_117_47, qr_117_51, qr_117_52, qr_117_55, qr_117_57, qr_117_60, qr_117_61, qr_117_64, qr_117_67, qr_117_69, qr_117_70, qr_117_71, qr_117_74, qr_117_75, qr_117_78, qr_117_79, qr_117_81, qr_117_84, qr_117_87, qr_117_88_0, qr_117_88_1, qr_117_88_d, qr_117_116, qr_117_118, qr_117_119, qr_117_120, qr_117_123, qr_117_126, qr_117_127, qr_117_128, qr_117_131, qr_117_134, qr_117_137, true_and, and_true, false_and, and_false, Option.bind_some, Option.toList_some, Option.toList_none, List.nil_append, List.cons_append, if_true, if_false, ite_true, ite_false, not_true_eq_false, not_false_eq_true, qn_lt0, qn_ge0, qn_lt, qn_le, qn_eq, qn_e0, qn_gt0, qn_le0, qn_m1, nI_add, pk_mul, qb_e0, Classical.not_not, Nat.reduceEqDiff, Nat.reduceLT, Nat.reduceLeDiff, Nat.not_lt_zero, Nat.zero_le, qs_LA_isWithin, hx, hy, eq_false hw], by simp (disch := first | assumption | omega | exact Or.inl rfl | exact Or.inr rfl | exact qb_01) only [qe_215, qr_215_0, qr_215_1, qr_215_2, qr_215_4, qr_215_7, qr_215_10, qr_215_11, qr_215_12, qr_215_14, qr_215_17, qr_215_20, qr_215_21, qr_215_22, qr_215_23, qr_215_26, qr_215_29, qr_215_31, qr_215_32, qr_215_33, qr_215_36, qr_215_37, qr_215_40, qr_215_42, qr_215_45, qr_215_46, qr_215_48, qr_215_49, qr_215_53, qr_215_54, qr_215_57, qr_215_59, qr_215_62, qr_215_63, qr_215_66, qr_215_67, qr_215_68, qr_215_71, qr_215_73, qr_215_74, qr_215_78, qr_215_79, qr_215_82, qr_215_84, qr_215_87, qr_215_88, qr_215_90, qr_215_91, qr_215_94, qr_215_97, qr_215_98, qr_215_99, qr_215_102, qr_215_104, qr_215_107, qr_215_110, qr_215_113, qr_215_116, qr_215_117, qr_215_120, qr_215_122, qr_215_125, qr_215_126, qr_215_127, qr_215_130, qr_215_131, qr_215_134, qr_215_137, qr_215_138, qr_215_141, qr_215_144, qr_215_146, qr_215_147, qr_215_150, qr_215_151, qr_215_154, qr_215_156, qr_215_159, qr_215_161, true_and, and_true, false_and, and_false, Option.bind_some, Option.toList_some, Option.toList_none, List.nil_append, List.cons_append, if_true, if_false, ite_true, ite_false, not_true_eq_false, not_false_eq_true, qn_lt0, qn_ge0, qn_lt, qn_le, qn_eq, qn_e0, qn_gt0, qn_le0, qn_m1, nI_add, pk_mul, qb_e0, Classical.not_not, Nat.reduceEqDiff, Nat.reduceLT, Nat.reduceLeDiff, Nat.not_lt_zero, Nat.zero_le, qs_MO_isIn, hx, hy, eq_false hw]⟩
    · exact qJ_ro hJ0 ⟨-2, by simp (disch := first | assumption | omega | exact Or.inl rfl | exact Or.inr rfl | exact qb_01) only [qe_117, qr_117_0, qr_117_1, qr_117_2, qr_117_4, qr_117_7, qr_117_10, qr_117_11, qr_117_12, qr_117_14, qr_117_17, qr_117_20, qr_117_21, qr_117_22, qr_117_23, qr_117_26, qr_117_29, qr_117_31, qr_117_32, qr_117_33, qr_117_36, qr_117_37, qr_117_40, qr_117_43, qr_117_44, qr_117_46, qr_117_47, qr_117_51, qr_117_52, qr_117_55, qr_117_57, qr_117_60, qr_117_61, qr_117_64, qr_117_67, qr_117_69, qr_117_70, qr_117_71, qr_117_74, qr_117_75, qr_117_78, qr_117_79, qr_117_81, qr_117_84, qr_117_87, qr_117_88_0, qr_117_88_1, qr_117_88_d, qr_117_116, qr_117_118, qr_117_119, qr_117_120, qr_117_123, qr_117_126, qr_117_127, qr_117_128, qr_117_131, qr_117_134, qr_117_137, true_and, and_true, false_and, and_false, Option.bind_some, Option.toList_some, Option.toList_none, List.nil_append, List.cons_append, if_true, if_false, ite_true, ite_false, not_true_eq_false, not_false_eq_true, qn_lt0, qn_ge0, qn_lt, qn_le, qn_eq, qn_e0, qn_gt0, qn_le0, qn_m1, nI_add, pk_mul, qb_e0, Classical.not_not, Nat.reduceEqDiff, Nat.reduceLT, Nat.reduceLeDiff, Nat.not_lt_zero, Nat.zero_le, qs_LA_isWithin, hx, eq_false hy], by simp (disch := first | assumption | omega | exact Or.inl rfl | exact Or.inr rfl | exact qb_01) only [qe_215, qr_215_0, qr_215_1, qr_215_2, qr_215_4, qr_215_7, qr_215_10, qr_215_11, qr_215_12, qr_215_14, qr_215_17, qr_215_20, qr_215_21, qr_215_22, qr_215_23, qr_215_26, qr_215_29, qr_215_31, qr_215_32, qr_215_33, qr_215_36, qr_215_37, qr_215_40, qr_215_42, qr_215_45, qr_215_46, qr_215_48, qr_215_49, qr_215_53, qr_215_54, qr_215_57, qr_215_59, qr_215_62, qr_215_63, qr_215_66, qr_215_67, qr_215_68, qr_215_71, qr_215_73, qr_215_74, qr_215_78, qr_215_79, qr_215_82, qr_215_84, qr_215_87, qr_215_88, qr_215_90, qr_215_91, qr_215_94, qr_215_97, qr_215_98, qr_215_99, qr_215_102, qr_215_104, qr_215_107, qr_215_110, qr_215_113, qr_215_116, qr_215_117, qr_215_120, qr_215_122, qr_215_125, qr_215_126, qr_215_127, qr_215_130, qr_215_131, qr_215_134, qr_215_137, qr_215_138, qr_215_141, qr_215_144, qr_215_146, qr_215_147, qr_215_150, qr_215_151, qr_215_154, qr_215_156, qr_215_159, qr_215_161, true_and, and_true, false_and, and_false, Option.bind_some, Option.toList_some, Option.toList_none, List.nil_append, List.cons_append, if_true, if_false, ite_true, ite_false, not_true_eq_false, not_false_eq_true, qn_lt0, qn_ge0, qn_lt, qn_le, qn_eq, qn_e0, qn_gt0, qn_le0, qn_m1, nI_add, pk_mul, qb_e0, Classical.not_not, Nat.reduceEqDiff, Nat.reduceLT, Nat.reduceLeDiff, Nat.not_lt_zero, Nat.zero_le, qs_MO_isIn, hx, eq_false hy]⟩
  · exact qJ_ro hJ0 ⟨-2, by simp (disch := first | assumption | omega | exact Or.inl rfl | exact Or.inr rfl | exact qb_01) only [qe_117, qr_117_0, qr_117_1, qr_117_2, qr_117_4, qr_117_7, qr_117_10, qr_117_11, qr_117_12, qr_117_14, qr_117_17, qr_117_20, qr_117_21, qr_117_22, qr_117_23, qr_117_26, qr_117_29, qr_117_31, qr_117_32, qr_117_33, qr_117_36, qr_117_37, qr_117_40, qr_117_43, qr_117_44, qr_117_46, qr_117_47, qr_117_51, qr_117_52, qr_117_55, qr_117_57, qr_117_60, qr_117_61, qr_117_64, qr_117_67, qr_117_69, qr_117_70, qr_117_71, qr_117_74, qr_117_75, qr_117_78, qr_117_79, qr_117_81, qr_117_84, qr_117_87, qr_117_88_0, qr_117_88_1, qr_117_88_d, qr_117_116, qr_117_118, qr_117_119, qr_117_120, qr_117_123, qr_117_126, qr_117_127, qr_117_128, qr_117_131, qr_117_134, qr_117_137, true_and, and_true, false_and, and_false, Option.bind_some, Option.toList_some, Option.toList_none, List.nil_append, List.cons_append, if_true, if_false, ite_true, ite_false, not_true_eq_false, not_false_eq_true, qn_lt0, qn_ge0, qn_lt, qn_le, qn_eq, qn_e0, qn_gt0, qn_le0, qn_m1, nI_add, pk_mul, qb_e0, Classical.not_not, Nat.reduceEqDiff, Nat.reduceLT, Nat.reduceLeDiff, Nat.not_lt_zero, Nat.zero_le, qs_LA_isWithin, eq_false hx], by simp (disch := first | assumption | omega | exact Or.inl rfl | exact Or.inr rfl | exact qb_01) only [qe_215, qr_215_0, qr_215_1, qr_215_2, qr_215_4, qr_215_7, qr_215_10, qr_215_11, qr_215_12, qr_215_14, qr_215_17, qr_215_20, qr_215_21, qr_215_22, qr_215_23, qr_215_26, qr_215_29, qr_215_31, qr_215_32, qr_215_33, qr_215_36, qr_215_37, qr_215_40, qr_215_42, qr_215_45, qr_215_46, qr_215_48, qr_215_49, qr_215_53, qr_215_54, qr_215_57, qr_215_59, qr_215_62, qr_215_63, qr_215_66, qr_215_67, qr_215_68, qr_215_71, qr_215_73, qr_215_74, qr_215_78, qr_215_79, qr_215_82, qr_215_84, qr_215_87, qr_215_88, qr_215_90, qr_215_91, qr_215_94, qr_215_97, qr_215_98, qr_215_99, qr_215_102, qr_215_104, qr_215_107, qr_215_110, qr_215_113, qr_215_116, qr_215_117, qr_215_120, qr_215_122, qr_215_125, qr_215_126, qr_215_127, qr_215_130, qr_215_131, qr_215_134, qr_215_137, qr_215_138, qr_215_141, qr_215_144, qr_215_146, qr_215_147, qr_215_150, qr_215_151, qr_215_154, qr_215_156, qr_215_159, qr_215_161, true_and, and_true, false_and, and_false, Option.bind_some, Option.toList_some, Option.toList_none, List.nil_append, List.cons_append, if_true, if_false, ite_true, ite_false, not_true_eq_false, not_false_eq_true, qn_lt0, qn_ge0, qn_lt, qn_le, qn_eq, qn_e0, qn_gt0, qn_le0, qn_m1, nI_add, pk_mul, qb_e0, Classical.not_not, Nat.reduceEqDiff, Nat.reduceLT, Nat.reduceLeDiff, Nat.not_lt_zero, Nat.zero_le, qs_MO_isIn, eq_false hx]⟩
theorem qJ_lasting (hJ : qJ m h) (hm : m ≤ 512) : qJs d 126 218 [qa_i x] m h := by
  obtain ⟨K, I, R, n, z⟩ := h
  have hJ0 := hJ
  obtain ⟨j1, j2, j3, j4, j5, nk, pm, T, ni, fs, hd, s, b, g, el, er, nh, P, len, tx, wl, wt, lv, ec, en, sn, nk', pm', T', ni', fs', hd', sv, j6, j7, j8⟩ := hJ
  have j1 : qS K R := j1
  have j6 : qZc K I R n nk pm T ni fs hd s b g el er nh P len tx wl wt lv ec en sn nk' pm' T' ni' fs' hd' sv := j6
  have j7 : qZm I nk pm T ni fs hd s b g el er nh P len tx wl wt lv ec en sn nk' pm' T' ni' fs' hd' sv := j7
  obtain ⟨⟨l0, l1, l2, l3, l4, l5, l6, l7, l8, l9, l10, l11⟩, t2, t4, t6, ex, co, p1, p2, lg, hi, sc, sp, mo⟩ := id j1
  obtain ⟨q, q', nx, f, zA, zq, zn, zP, zL, zH, zT, zW, zX, zS, zV⟩ := id j6
  obtain ⟨⟨a1, a2⟩, ⟨b1, b2⟩, c1, ⟨d1, d2⟩, e1, ⟨f1, f2, f3⟩, ⟨g1, g2⟩, h1, i1, k1⟩ := id j7
  obtain ⟨⟨n1, n2⟩, n3, n4, n5, n6, n7, n8, n9, n10, n11, n12, n13⟩ := id j8
  have hB : 20000 + 100 * m < 900000 := by omega
  have c0 : K 10 = (4, 0) := co.1
  have p0 := p1.1
  have m0 := mo.1
  have hC := zA.1
  have k10 := hC.2.2.2.2.1
  have i12 := hC.2.2.2.2.2.2.2.1
  have cn := hC.2.2.2.2.2.2.1
  have mk := e1.1
  have mi := e1.2.2.2.1
  have hfi : ∀ i, i < ni → fs i < nk := fun i hi => (e1.2.2.2.2.2.2.2.2 i hi).2.2.1
  have hpt : 33 + 16 ≤ 17 ∨ 17 + 16 ≤ 33 := by omega
  have hsp : qz_sep 33 10 q := ⟨by omega, by omega⟩
  by_cases hx : ¬ x < 0 ∧ ¬ nI nk ≤ x
  · obtain ⟨k, hk, rfl⟩ := qn_rg hx (by omega)
    have e2 : ¬ nk ≤ k := by omega
    by_cases hg : qs_g s (fun k => nI (pm k)) k = true
    · obtain ⟨I1, r1, hf⟩ := qs_LA_lasting (d := d + 23) (n := n) (z := z) (k := k) l0 l5 l6 l7 zA p1 p2 hpt (by omega) hsp zP hk hg
      have k2 := qZm_cg (I' := I1) j7 (fun a h1 h2 => hf a (by omega))
      obtain ⟨⟨A1, A2⟩, ⟨B1, B2⟩, C1, -, E1, -, ⟨G1, G2⟩, -⟩ := k2
      have r2 := qs_MO_lasting (d := d + 23) (I := I1) (R := R) (n := n) (z := z) (B := 20000 + 100 * m) (k := k) mo E1 (by show qv_S _ (I1 190); rw [A1]; exact n1) hB (by show qv_Z (I1 190); rw [A1]; exact A2) C1 hk (by show qs_g (I1 190) _ k = true; rw [A1]; exact hg)
      rw [← A1] at r1
      exact qJ_try hJ0 r1 hf r2
    · have w1 := qs_PR_isMastered2 (d := d + 3 + 20) (n := n) (z := z) p1 hC zP hk
      have w2 := qs_MO_isMastered2 (d := d + 3 + 21) (n := n) (z := z) mo e1 hk
      rw [show I (189 + 1) = s from a1] at w2
      exact qJ_ro hJ0 ⟨-1, by simp (disch := first | assumption | omega | exact Or.inl rfl | exact Or.inr rfl | exact qb_01) only [qe_126, qr_126_0, qr_126_1, qr_126_4, qr_126_5, qr_126_8, qr_126_11, qr_126_12, qr_126_15, qr_126_16, qr_126_19, qr_126_22, qr_126_23, qr_126_24, qr_126_25, qr_126_28, qr_126_29, qr_126_32, qr_126_35, qr_126_36, qr_126_39, qr_126_40, qr_126_43, qr_126_44, qr_126_45, qr_126_48, qr_126_51, qr_126_52, qr_126_55, qr_126_56, qr_126_57, qr_126_61, qr_126_64, qr_126_67, qr_126_68, qr_126_69, qr_126_72, qr_126_75, qr_126_77, qr_126_78, qr_126_79, qr_126_80, qr_126_83, qr_126_84, qr_126_85, qr_126_88, qr_126_91, qr_126_93, qr_126_94, qr_126_97, qr_126_100, qr_126_103, true_and, and_true, false_and, and_false, Option.bind_some, Option.toList_some, Option.toList_none, List.nil_append, List.cons_append, if_true, if_false, ite_true, ite_false, not_true_eq_false, not_false_eq_true, qn_lt0, qn_ge0, qn_lt, qn_le, qn_eq, qn_e0, qn_gt0, qn_le0, qn_m1, nI_add, pk_mul, qb_e0, Classical.not_not, Nat.reduceEqDiff, Nat.reduceLT, Nat.reduceLeDiff, Nat.not_lt_zero, Nat.zero_le, l5, l6, qs_CO_hasSkill hC, e2, qs_PR_isMastered2 p1 hC zP hk, eq_false hg], by simp (disch := first | assumption | omega | exact Or.inl rfl | exact Or.inr rfl | exact qb_01) only [qe_218, qr_218_0, qr_218_1, qr_218_2, qr_218_5, qr_218_8, qr_218_9, qr_218_10, qr_218_13, qr_218_16, qr_218_17, qr_218_18, qr_218_19, qr_218_22, qr_218_23, qr_218_26, qr_218_28, qr_218_31, qr_218_32, qr_218_34, qr_218_37, qr_218_40, qr_218_41, qr_218_42, qr_218_45, qr_218_48, qr_218_49, qr_218_52, qr_218_55, qr_218_58, qr_218_59, qr_218_62, qr_218_63, qr_218_66, qr_218_68, qr_218_71, qr_218_72, true_and, and_true, false_and, and_false, Option.bind_some, Option.toList_some, Option.toList_none, List.nil_append, List.cons_append, if_true, if_false, ite_true, ite_false, not_true_eq_false, not_false_eq_true, qn_lt0, qn_ge0, qn_lt, qn_le, qn_eq, qn_e0, qn_gt0, qn_le0, qn_m1, nI_add, pk_mul, qb_e0, Classical.not_not, Nat.reduceEqDiff, Nat.reduceLT, Nat.reduceLeDiff, Nat.not_lt_zero, Nat.zero_le, qs_MO_isSkill mo mk k10, e2, w2, eq_false hg]⟩
  · exact qJ_ro hJ0 ⟨-1, by simp (disch := first | assumption | omega | exact Or.inl rfl | exact Or.inr rfl | exact qb_01) only [qe_126, qr_126_0, qr_126_1, qr_126_4, qr_126_5, qr_126_8, qr_126_11, qr_126_12, qr_126_15, qr_126_16, qr_126_19, qr_126_22, qr_126_23, qr_126_24, qr_126_25, qr_126_28, qr_126_29, qr_126_32, qr_126_35, qr_126_36, qr_126_39, qr_126_40, qr_126_43, qr_126_44, qr_126_45, qr_126_48, qr_126_51, qr_126_52, qr_126_55, qr_126_56, qr_126_57, qr_126_61, qr_126_64, qr_126_67, qr_126_68, qr_126_69, qr_126_72, qr_126_75, qr_126_77, qr_126_78, qr_126_79, qr_126_80, qr_126_83, qr_126_84, qr_126_85, qr_126_88, qr_126_91, qr_126_93, qr_126_94, qr_126_97, qr_126_100, qr_126_103, true_and, and_true, false_and, and_false, Option.bind_some, Option.toList_some, Option.toList_none, List.nil_append, List.cons_append, if_true, if_false, ite_true, ite_false, not_true_eq_false, not_false_eq_true, qn_lt0, qn_ge0, qn_lt, qn_le, qn_eq, qn_e0, qn_gt0, qn_le0, qn_m1, nI_add, pk_mul, qb_e0, Classical.not_not, Nat.reduceEqDiff, Nat.reduceLT, Nat.reduceLeDiff, Nat.not_lt_zero, Nat.zero_le, l5, l6, qs_CO_hasSkill hC, eq_false hx], by simp (disch := first | assumption | omega | exact Or.inl rfl | exact Or.inr rfl | exact qb_01) only [qe_218, qr_218_0, qr_218_1, qr_218_2, qr_218_5, qr_218_8, qr_218_9, qr_218_10, qr_218_13, qr_218_16, qr_218_17, qr_218_18, qr_218_19, qr_218_22, qr_218_23, qr_218_26, qr_218_28, qr_218_31, qr_218_32, qr_218_34, qr_218_37, qr_218_40, qr_218_41, qr_218_42, qr_218_45, qr_218_48, qr_218_49, qr_218_52, qr_218_55, qr_218_58, qr_218_59, qr_218_62, qr_218_63, qr_218_66, qr_218_68, qr_218_71, qr_218_72, true_and, and_true, false_and, and_false, Option.bind_some, Option.toList_some, Option.toList_none, List.nil_append, List.cons_append, if_true, if_false, ite_true, ite_false, not_true_eq_false, not_false_eq_true, qn_lt0, qn_ge0, qn_lt, qn_le, qn_eq, qn_e0, qn_gt0, qn_le0, qn_m1, nI_add, pk_mul, qb_e0, Classical.not_not, Nat.reduceEqDiff, Nat.reduceLT, Nat.reduceLeDiff, Nat.not_lt_zero, Nat.zero_le, qs_MO_isSkill mo mk k10, eq_false hx]⟩
theorem qJ_replayed (hJ : qJ m h) (hm : m ≤ 512) : qJs d 138 224 [qa_i x, qa_i y] m h := by
  obtain ⟨K, I, R, n, z⟩ := h
  have hJ0 := hJ
  obtain ⟨j1, j2, j3, j4, j5, nk, pm, T, ni, fs, hd, s, b, g, el, er, nh, P, len, tx, wl, wt, lv, ec, en, sn, nk', pm', T', ni', fs', hd', sv, j6, j7, j8⟩ := hJ
  have j1 : qS K R := j1
  have j6 : qZc K I R n nk pm T ni fs hd s b g el er nh P len tx wl wt lv ec en sn nk' pm' T' ni' fs' hd' sv := j6
  have j7 : qZm I nk pm T ni fs hd s b g el er nh P len tx wl wt lv ec en sn nk' pm' T' ni' fs' hd' sv := j7
  obtain ⟨⟨l0, l1, l2, l3, l4, l5, l6, l7, l8, l9, l10, l11⟩, t2, t4, t6, ex, co, p1, p2, lg, hi, sc, sp, mo⟩ := id j1
  obtain ⟨q, q', nx, f, zA, zq, zn, zP, zL, zH, zT, zW, zX, zS, zV⟩ := id j6
  obtain ⟨⟨a1, a2⟩, ⟨b1, b2⟩, c1, ⟨d1, d2⟩, e1, ⟨f1, f2, f3⟩, ⟨g1, g2⟩, h1, i1, k1⟩ := id j7
  obtain ⟨⟨n1, n2⟩, n3, n4, n5, n6, n7, n8, n9, n10, n11, n12, n13⟩ := id j8
  have hB : 20000 + 100 * m < 900000 := by omega
  have c0 : K 10 = (4, 0) := co.1
  have p0 := p1.1
  have m0 := mo.1
  have hC := zA.1
  have k10 := hC.2.2.2.2.1
  have i12 := hC.2.2.2.2.2.2.2.1
  have cn := hC.2.2.2.2.2.2.1
  have mk := e1.1
  have mi := e1.2.2.2.1
  have hfi : ∀ i, i < ni → fs i < nk := fun i hi => (e1.2.2.2.2.2.2.2.2 i hi).2.2.1
  have hpt : 33 + 16 ≤ 17 ∨ 17 + 16 ≤ 33 := by omega
  have hsp : qz_sep 33 10 q := ⟨by omega, by omega⟩
  by_cases hx : ¬ x < 0 ∧ ¬ nI nk ≤ x
  · by_cases hy : ¬ y < nI 0 ∧ ¬ nI 1 < y
    · obtain ⟨k, hk, rfl⟩ := qn_rg hx (by omega)
      obtain ⟨w, q1, q2, rfl⟩ := qn_rg3 (by omega) (by omega) hy
      obtain ⟨I1, r1, hf⟩ := qs_LA_replayed (d := d + 20) (n := n) (z := z) (k := k) (w := w) l0 l5 l7 l8 zA p2 lg (by omega) hsp zL n7 hk (by omega)
      have k2 := qZm_cg (I' := I1) j7 (fun a h1 h2 => hf a (by omega))
      obtain ⟨⟨A1, A2⟩, ⟨B1, B2⟩, C1, -, E1, -, ⟨G1, G2⟩, -⟩ := k2
      have r2 := qs_MO_replayed (d := d + 10) (I := I1) (n := n) (z := z) (B := 20000 + 100 * m) (k := k) (w := w) mo E1 (by show qv_S _ (I1 191); rw [B1]; exact n3) hB (by show qv_Z (I1 190); rw [A1]; exact A2) (by show qv_Z (I1 191); rw [B1]; exact B2) C1 G1 n6 G2 n7 hk (by omega)
      rw [← B1] at r1
      exact qJ_try hJ0 r1 hf r2
    · exact qJ_ro hJ0 ⟨-2, by simp (disch := first | assumption | omega | exact Or.inl rfl | exact Or.inr rfl | exact qb_01) only [qe_138, qr_138_0, qr_138_1, qr_138_4, qr_138_5, qr_138_8, qr_138_11, qr_138_12, qr_138_13, qr_138_14, qr_138_15, qr_138_16, qr_138_19, qr_138_22, qr_138_24, qr_138_25, qr_138_26, qr_138_29, qr_138_30, qr_138_33, qr_138_36, qr_138_37, qr_138_40, qr_138_41, qr_138_44, qr_138_45, qr_138_46, qr_138_47, qr_138_50, qr_138_51, qr_138_54, qr_138_57, qr_138_58, qr_138_61, true_and, and_true, false_and, and_false, Option.bind_some, Option.toList_some, Option.toList_none, List.nil_append, List.cons_append, if_true, if_false, ite_true, ite_false, not_true_eq_false, not_false_eq_true, qn_lt0, qn_ge0, qn_lt, qn_le, qn_eq, qn_e0, qn_gt0, qn_le0, qn_m1, nI_add, pk_mul, qb_e0, Classical.not_not, Nat.reduceEqDiff, Nat.reduceLT, Nat.reduceLeDiff, Nat.not_lt_zero, Nat.zero_le, l5, qs_CO_hasSkill hC, hx, qs_LA_isWithin, eq_false hy], by simp (disch := first | assumption | omega | exact Or.inl rfl | exact Or.inr rfl | exact qb_01) only [qe_224, qr_224_0, qr_224_1, qr_224_2, qr_224_5, qr_224_8, qr_224_9, qr_224_10, qr_224_11, qr_224_12, qr_224_13, qr_224_16, qr_224_19, qr_224_21, qr_224_22, qr_224_23, qr_224_26, qr_224_27, qr_224_30, qr_224_32, qr_224_35, qr_224_36, qr_224_39, qr_224_40, qr_224_43, qr_224_45, qr_224_48, qr_224_49, qr_224_51, qr_224_52, qr_224_55, qr_224_58, qr_224_59, qr_224_60, qr_224_63, qr_224_64, qr_224_65, qr_224_66, qr_224_69, qr_224_70, qr_224_71, qr_224_74, qr_224_77, qr_224_80, qr_224_81, qr_224_84, qr_224_85, qr_224_86, qr_224_89, qr_224_90, qr_224_91, qr_224_92, qr_224_95, qr_224_96, qr_224_99, qr_224_101, qr_224_104, qr_224_105, true_and, and_true, false_and, and_false, Option.bind_some, Option.toList_some, Option.toList_none, List.nil_append, List.cons_append, if_true, if_false, ite_true, ite_false, not_true_eq_false, not_false_eq_true, qn_lt0, qn_ge0, qn_lt, qn_le, qn_eq, qn_e0, qn_gt0, qn_le0, qn_m1, nI_add, pk_mul, qb_e0, Classical.not_not, Nat.reduceEqDiff, Nat.reduceLT, Nat.reduceLeDiff, Nat.not_lt_zero, Nat.zero_le, qs_MO_isSkill mo mk k10, hx, qs_MO_isIn, eq_false hy]⟩
  · exact qJ_ro hJ0 ⟨-1, by simp (disch := first | assumption | omega | exact Or.inl rfl | exact Or.inr rfl | exact qb_01) only [qe_138, qr_138_0, qr_138_1, qr_138_4, qr_138_5, qr_138_8, qr_138_11, qr_138_12, qr_138_13, qr_138_14, qr_138_15, qr_138_16, qr_138_19, qr_138_22, qr_138_24, qr_138_25, qr_138_26, qr_138_29, qr_138_30, qr_138_33, qr_138_36, qr_138_37, qr_138_40, qr_138_41, qr_138_44, qr_138_45, qr_138_46, qr_138_47, qr_138_50, qr_138_51, qr_138_54, qr_138_57, qr_138_58, qr_138_61, true_and, and_true, false_and, and_false, Option.bind_some, Option.toList_some, Option.toList_none, List.nil_append, List.cons_append, if_true, if_false, ite_true, ite_false, not_true_eq_false, not_false_eq_true, qn_lt0, qn_ge0, qn_lt, qn_le, qn_eq, qn_e0, qn_gt0, qn_le0, qn_m1, nI_add, pk_mul, qb_e0, Classical.not_not, Nat.reduceEqDiff, Nat.reduceLT, Nat.reduceLeDiff, Nat.not_lt_zero, Nat.zero_le, l5, qs_CO_hasSkill hC, eq_false hx], by simp (disch := first | assumption | omega | exact Or.inl rfl | exact Or.inr rfl | exact qb_01) only [qe_224, qr_224_0, qr_224_1, qr_224_2, qr_224_5, qr_224_8, qr_224_9, qr_224_10, qr_224_11, qr_224_12, qr_224_13, qr_224_16, qr_224_19, qr_224_21, qr_224_22, qr_224_23, qr_224_26, qr_224_27, qr_224_30, qr_224_32, qr_224_35, qr_224_36, qr_224_39, qr_224_40, qr_224_43, qr_224_45, qr_224_48, qr_224_49, qr_224_51, qr_224_52, qr_224_55, qr_224_58, qr_224_59, qr_224_60, qr_224_63, qr_224_64, qr_224_65, qr_224_66, qr_224_69, qr_224_70, qr_224_71, qr_224_74, qr_224_77, qr_224_80, qr_224_81, qr_224_84, qr_224_85, qr_224_86, qr_224_89, qr_224_90, qr_224_91, qr_224_92, qr_224_95, qr_224_96, qr_224_99, qr_224_101, qr_224_104, qr_224_105, true_and, and_true, false_and, and_false, Option.bind_some, Option.toList_some, Option.toList_none, List.nil_append, List.cons_append, if_true, if_false, ite_true, ite_false, not_true_eq_false, not_false_eq_true, qn_lt0, qn_ge0, qn_lt, qn_le, qn_eq, qn_e0, qn_gt0, qn_le0, qn_m1, nI_add, pk_mul, qb_e0, Classical.not_not, Nat.reduceEqDiff, Nat.reduceLT, Nat.reduceLeDiff, Nat.not_lt_zero, Nat.zero_le, qs_MO_isSkill mo mk k10, eq_false hx]⟩
theorem qJ_whatIf (hJ : qJ m h) (hm : m ≤ 512) : qJs d 116 214 [qa_i x, qa_i y, qa_i w, qa_i v] m h := by
  obtain ⟨K, I, R, n, z⟩ := h
  have hJ0 := hJ
  obtain ⟨j1, j2, j3, j4, j5, nk, pm, T, ni, fs, hd, s, b, g, el, er, nh, P, len, tx, wl, wt, lv, ec, en, sn, nk', pm', T', ni', fs', hd', sv, j6, j7, j8⟩ := hJ
  have j1 : qS K R := j1
  have j6 : qZc K I R n nk pm T ni fs hd s b g el er nh P len tx wl wt lv ec en sn nk' pm' T' ni' fs' hd' sv := j6
  have j7 : qZm I nk pm T ni fs hd s b g el er nh P len tx wl wt lv ec en sn nk' pm' T' ni' fs' hd' sv := j7
  obtain ⟨⟨l0, l1, l2, l3, l4, l5, l6, l7, l8, l9, l10, l11⟩, t2, t4, t6, ex, co, p1, p2, lg, hi, sc, sp, mo⟩ := id j1
  obtain ⟨q, q', nx, f, zA, zq, zn, zP, zL, zH, zT, zW, zX, zS, zV⟩ := id j6
  obtain ⟨⟨a1, a2⟩, ⟨b1, b2⟩, c1, ⟨d1, d2⟩, e1, ⟨f1, f2, f3⟩, ⟨g1, g2⟩, h1, i1, k1⟩ := id j7
  obtain ⟨⟨n1, n2⟩, n3, n4, n5, n6, n7, n8, n9, n10, n11, n12, n13⟩ := id j8
  have hB : 20000 + 100 * m < 900000 := by omega
  have c0 : K 10 = (4, 0) := co.1
  have p0 := p1.1
  have m0 := mo.1
  have hC := zA.1
  have k10 := hC.2.2.2.2.1
  have i12 := hC.2.2.2.2.2.2.2.1
  have cn := hC.2.2.2.2.2.2.1
  have mk := e1.1
  have mi := e1.2.2.2.1
  have hfi : ∀ i, i < ni → fs i < nk := fun i hi => (e1.2.2.2.2.2.2.2.2 i hi).2.2.1
  have hpt : 33 + 16 ≤ 17 ∨ 17 + 16 ≤ 33 := by omega
  have hsp : qz_sep 33 10 q := ⟨by omega, by omega⟩
  by_cases hx : ¬ x < 0 ∧ ¬ nI ni ≤ x
  · by_cases hw : ¬ w < 0 ∧ ¬ nI nk ≤ w
    · by_cases hy : ¬ y < nI 0 ∧ ¬ nI 1 < y
      · by_cases hv : ¬ v < nI 0 ∧ ¬ nI 1 < v
        · obtain ⟨i, hi, rfl⟩ := qn_rg hx (by omega)
          obtain ⟨k, hk, rfl⟩ := qn_rg hw (by omega)
          obtain ⟨r, q1, q2, rfl⟩ := qn_rg3 (by omega) (by omega) hy
          obtain ⟨v, q3, q4, rfl⟩ := qn_rg3 (by omega) (by omega) hv
          have hi12 : i < 12 := by omega
          have g3 : ¬ ni ≤ i := by omega
          have g4 : ¬ nk ≤ k := by omega
          have g5 : ¬ 1 < r := by omega
          have g6 : ¬ 1 < v := by omega
          by_cases ho : qs_op s i = true
          · have hst := qv_S_step (e := i + 1) (r := r) (pm := pm) (T := T) n1 k10 (by omega) hfi
            obtain ⟨⟨v0, w1, w2⟩, ⟨v1, w3, w4⟩, -⟩ := hst.2 k (by omega)
            obtain ⟨I1, r1, hf⟩ := qs_LA_whatIf (d := d + 22) (n := n) (z := z) (i := i) (r := r) (k := k) (w := v) l0 l5 l6 l7 zA p1 p2 hpt hsp zP hi hk (by omega) (by omega) ho w2 w4 w1 w3
            have k2 := qZm_cg (I' := I1) j7 (fun a h1 h2 => hf a (by omega))
            obtain ⟨⟨A1, A2⟩, ⟨B1, B2⟩, C1, -, E1, -, ⟨G1, G2⟩, -⟩ := k2
            have r2 := qs_MO_whatIf (d := d + 11) (I := I1) (n := n) (z := z) (B := 20000 + 100 * m) (i := i) (r := r) (k := k) (w := v) mo E1 (by show qv_S _ (I1 190); rw [A1]; exact n1) hB (by show qv_Z (I1 190); rw [A1]; exact A2) C1 hi hk (by omega) (by omega) (by show qs_op (I1 190) i = true; rw [A1]; exact ho) (by show qF_step nk pm T fs (i + 1) r (I1 190) _ = _; rw [A1]; exact w2) (by show qF_step nk pm T fs (i + 1) r (I1 190) _ = _; rw [A1]; exact w4) w1 w3
            exact qJ_try hJ0 r1 hf r2
          · have w2 := fun d => qs_MO_isOpen2 (d := d) (I := I) (n := n) (z := z) mo hi12
            rw [show I (189 + 1) = s from a1] at w2
            exact qJ_ro hJ0 ⟨-4, by simp (disch := first | assumption | omega | exact Or.inl rfl | exact Or.inr rfl | exact qb_01) only [qe_116, qr_116_0, qr_116_1, qr_116_4, qr_116_5, qr_116_8, qr_116_11, qr_116_12, qr_116_15, qr_116_16, qr_116_19, qr_116_22, qr_116_23, qr_116_24, qr_116_25, qr_116_26, qr_116_27, qr_116_30, qr_116_33, qr_116_35, qr_116_36, qr_116_37, qr_116_40, qr_116_43, qr_116_45, qr_116_46, qr_116_47, qr_116_50, qr_116_51, qr_116_54, qr_116_57, qr_116_59, qr_116_60, qr_116_61, qr_116_64, qr_116_65, qr_116_68, qr_116_71, qr_116_72, qr_116_75, qr_116_76, qr_116_77, qr_116_78, qr_116_81, qr_116_82, qr_116_85, qr_116_86, qr_116_89, qr_116_90, qr_116_93, qr_116_94, qr_116_96, qr_116_99, true_and, and_true, false_and, and_false, Option.bind_some, Option.toList_some, Option.toList_none, List.nil_append, List.cons_append, if_true, if_false, ite_true, ite_false, not_true_eq_false, not_false_eq_true, qn_lt0, qn_ge0, qn_lt, qn_le, qn_eq, qn_e0, qn_gt0, qn_le0, qn_m1, nI_add, pk_mul, qb_e0, Classical.not_not, Nat.reduceEqDiff, Nat.reduceLT, Nat.reduceLeDiff, Nat.not_lt_zero, Nat.zero_le, l5, l6, qs_CO_hasItem c0 cn, qs_CO_hasSkill hC, g3, g4, g5, g6, qs_LA_isWithin, qs_PR_isOpen2 p1 zP hi12, eq_false ho], by simp (disch := first | assumption | omega | exact Or.inl rfl | exact Or.inr rfl | exact qb_01) only [qe_214, qr_214_0, qr_214_1, qr_214_2, qr_214_5, qr_214_8, qr_214_9, qr_214_10, qr_214_13, qr_214_16, qr_214_17, qr_214_18, qr_214_19, qr_214_20, qr_214_21, qr_214_24, qr_214_27, qr_214_29, qr_214_30, qr_214_31, qr_214_34, qr_214_37, qr_214_39, qr_214_40, qr_214_41, qr_214_42, qr_214_45, qr_214_48, qr_214_50, qr_214_51, qr_214_52, qr_214_55, qr_214_56, qr_214_59, qr_214_61, qr_214_64, qr_214_65, qr_214_66, qr_214_67, qr_214_70, qr_214_71, qr_214_72, qr_214_74, qr_214_77, qr_214_79, qr_214_80, qr_214_83, qr_214_84, qr_214_87, qr_214_89, qr_214_92, qr_214_94, true_and, and_true, false_and, and_false, Option.bind_some, Option.toList_some, Option.toList_none, List.nil_append, List.cons_append, if_true, if_false, ite_true, ite_false, not_true_eq_false, not_false_eq_true, qn_lt0, qn_ge0, qn_lt, qn_le, qn_eq, qn_e0, qn_gt0, qn_le0, qn_m1, nI_add, pk_mul, qb_e0, Classical.not_not, Nat.reduceEqDiff, Nat.reduceLT, Nat.reduceLeDiff, Nat.not_lt_zero, Nat.zero_le, qs_MO_isItem mo mi i12, qs_MO_isSkill mo mk k10, g3, g4, g5, g6, qs_MO_isIn, w2, eq_false ho]⟩
        · exact qJ_ro hJ0 ⟨-2, by simp (disch := first | assumption | omega | exact Or.inl rfl | exact Or.inr rfl | exact qb_01) only [qe_116, qr_116_0, qr_116_1, qr_116_4, qr_116_5, qr_116_8, qr_116_11, qr_116_12, qr_116_15, qr_116_16, qr_116_19, qr_116_22, qr_116_23, qr_116_24, qr_116_25, qr_116_26, qr_116_27, qr_116_30, qr_116_33, qr_116_35, qr_116_36, qr_116_37, qr_116_40, qr_116_43, qr_116_45, qr_116_46, qr_116_47, qr_116_50, qr_116_51, qr_116_54, qr_116_57, qr_116_59, qr_116_60, qr_116_61, qr_116_64, qr_116_65, qr_116_68, qr_116_71, qr_116_72, qr_116_75, qr_116_76, qr_116_77, qr_116_78, qr_116_81, qr_116_82, qr_116_85, qr_116_86, qr_116_89, qr_116_90, qr_116_93, qr_116_94, qr_116_96, qr_116_99, true_and, and_true, false_and, and_false, Option.bind_some, Option.toList_some, Option.toList_none, List.nil_append, List.cons_append, if_true, if_false, ite_true, ite_false, not_true_eq_false, not_false_eq_true, qn_lt0, qn_ge0, qn_lt, qn_le, qn_eq, qn_e0, qn_gt0, qn_le0, qn_m1, nI_add, pk_mul, qb_e0, Classical.not_not, Nat.reduceEqDiff, Nat.reduceLT, Nat.reduceLeDiff, Nat.not_lt_zero, Nat.zero_le, l5, qs_CO_hasItem c0 cn, qs_CO_hasSkill hC, hx, hw, hy, qs_LA_isWithin, eq_false hv], by simp (disch := first | assumption | omega | exact Or.inl rfl | exact Or.inr rfl | exact qb_01) only [qe_214, qr_214_0, qr_214_1, qr_214_2, qr_214_5, qr_214_8, qr_214_9, qr_214_10, qr_214_13, qr_214_16, qr_214_17, qr_214_18, qr_214_19, qr_214_20, qr_214_21, qr_214_24, qr_214_27, qr_214_29, qr_214_30, qr_214_31, qr_214_34, qr_214_37, qr_214_39, qr_214_40, qr_214_41, qr_214_42, qr_214_45, qr_214_48, qr_214_50, qr_214_51, qr_214_52, qr_214_55, qr_214_56, qr_214_59, qr_214_61, qr_214_64, qr_214_65, qr_214_66, qr_214_67, qr_214_70, qr_214_71, qr_214_72, qr_214_74, qr_214_77, qr_214_79, qr_214_80, qr_214_83, qr_214_84, qr_214_87, qr_214_89, qr_214_92, qr_214_94, true_and, and_true, false_and, and_false, Option.bind_some, Option.toList_some, Option.toList_none, List.nil_append, List.cons_append, if_true, if_false, ite_true, ite_false, not_true_eq_false, not_false_eq_true, qn_lt0, qn_ge0, qn_lt, qn_le, qn_eq, qn_e0, qn_gt0, qn_le0, qn_m1, nI_add, pk_mul, qb_e0, Classical.not_not, Nat.reduceEqDiff, Nat.reduceLT, Nat.reduceLeDiff, Nat.not_lt_zero, Nat.zero_le, qs_MO_isItem mo mi i12, qs_MO_isSkill mo mk k10, hx, hw, hy, qs_MO_isIn, eq_false hv]⟩
      · exact qJ_ro hJ0 ⟨-2, by simp (disch := first | assumption | omega | exact Or.inl rfl | exact Or.inr rfl | exact qb_01) only [qe_116, qr_116_0, qr_116_1, qr_116_4, qr_116_5, qr_116_8, qr_116_11, qr_116_12, qr_116_15, qr_116_16, qr_116_19, qr_116_22, qr_116_23, qr_116_24, qr_116_25, qr_116_26, qr_116_27, qr_116_30, qr_116_33, qr_116_35, qr_116_36, qr_116_37, qr_116_40, qr_116_43, qr_116_45, qr_116_46, qr_116_47, qr_116_50, qr_116_51, qr_116_54, qr_116_57, qr_116_59, qr_116_60, qr_116_61, qr_116_64, qr_116_65, qr_116_68, qr_116_71, qr_116_72, qr_116_75, qr_116_76, qr_116_77, qr_116_78, qr_116_81, qr_116_82, qr_116_85, qr_116_86, qr_116_89, qr_116_90, qr_116_93, qr_116_94, qr_116_96, qr_116_99, true_and, and_true, false_and, and_false, Option.bind_some, Option.toList_some, Option.toList_none, List.nil_append, List.cons_append, if_true, if_false, ite_true, ite_false, not_true_eq_false, not_false_eq_true, qn_lt0, qn_ge0, qn_lt, qn_le, qn_eq, qn_e0, qn_gt0, qn_le0, qn_m1, nI_add, pk_mul, qb_e0, Classical.not_not, Nat.reduceEqDiff, Nat.reduceLT, Nat.reduceLeDiff, Nat.not_lt_zero, Nat.zero_le, l5, qs_CO_hasItem c0 cn, qs_CO_hasSkill hC, hx, hw, qs_LA_isWithin, eq_false hy], by simp (disch := first | assumption | omega | exact Or.inl rfl | exact Or.inr rfl | exact qb_01) only [qe_214, qr_214_0, qr_214_1, qr_214_2, qr_214_5, qr_214_8, qr_214_9, qr_214_10, qr_214_13, qr_214_16, qr_214_17, qr_214_18, qr_214_19, qr_214_20, qr_214_21, qr_214_24, qr_214_27, qr_214_29, qr_214_30, qr_214_31, qr_214_34, qr_214_37, qr_214_39, qr_214_40, qr_214_41, qr_214_42, qr_214_45, qr_214_48, qr_214_50, qr_214_51, qr_214_52, qr_214_55, qr_214_56, qr_214_59, qr_214_61, qr_214_64, qr_214_65, qr_214_66, qr_214_67, qr_214_70, qr_214_71, qr_214_72, qr_214_74, qr_214_77, qr_214_79, qr_214_80, qr_214_83, qr_214_84, qr_214_87, qr_214_89, qr_214_92, qr_214_94, true_and, and_true, false_and, and_false, Option.bind_some, Option.toList_some, Option.toList_none, List.nil_append, List.cons_append, if_true, if_false, ite_true, ite_false, not_true_eq_false, not_false_eq_true, qn_lt0, qn_ge0, qn_lt, qn_le, qn_eq, qn_e0, qn_gt0, qn_le0, qn_m1, nI_add, pk_mul, qb_e0, Classical.not_not, Nat.reduceEqDiff, Nat.reduceLT, Nat.reduceLeDiff, Nat.not_lt_zero, Nat.zero_le, qs_MO_isItem mo mi i12, qs_MO_isSkill mo mk k10, hx, hw, qs_MO_isIn, eq_false hy]⟩
    · exact qJ_ro hJ0 ⟨-1, by simp (disch := first | assumption | omega | exact Or.inl rfl | exact Or.inr rfl | exact qb_01) only [qe_116, qr_116_0, qr_116_1, qr_116_4, qr_116_5, qr_116_8, qr_116_11, qr_116_12, qr_116_15, qr_116_16, qr_116_19, qr_116_22, qr_116_23, qr_116_24, qr_116_25, qr_116_26, qr_116_27, qr_116_30, qr_116_33, qr_116_35, qr_116_36, qr_116_37, qr_116_40, qr_116_43, qr_116_45, qr_116_46, qr_116_47, qr_116_50, qr_116_51, qr_116_54, qr_116_57, qr_116_59, qr_116_60, qr_116_61, qr_116_64, qr_116_65, qr_116_68, qr_116_71, qr_116_72, qr_116_75, qr_116_76, qr_116_77, qr_116_78, qr_116_81, qr_116_82, qr_116_85, qr_116_86, qr_116_89, qr_116_90, qr_116_93, qr_116_94, qr_116_96, qr_116_99, true_and, and_true, false_and, and_false, Option.bind_some, Option.toList_some, Option.toList_none, List.nil_append, List.cons_append, if_true, if_false, ite_true, ite_false, not_true_eq_false, not_false_eq_true, qn_lt0, qn_ge0, qn_lt, qn_le, qn_eq, qn_e0, qn_gt0, qn_le0, qn_m1, nI_add, pk_mul, qb_e0, Classical.not_not, Nat.reduceEqDiff, Nat.reduceLT, Nat.reduceLeDiff, Nat.not_lt_zero, Nat.zero_le, l5, qs_CO_hasItem c0 cn, qs_CO_hasSkill hC, hx, eq_false hw], by simp (disch := first | assumption | omega | exact Or.inl rfl | exact Or.inr rfl | exact qb_01) only [qe_214, qr_214_0, qr_214_1, qr_214_2, qr_214_5, qr_214_8, qr_214_9, qr_214_10, qr_214_13, qr_214_16, qr_214_17, qr_214_18, qr_214_19, qr_214_20, qr_214_21, qr_214_24, qr_214_27, qr_214_29, qr_214_30, qr_214_31, qr_214_34, qr_214_37, qr_214_39, qr_214_40, qr_214_41, qr_214_42, qr_214_45, qr_214_48, qr_214_50, qr_214_51, qr_214_52, qr_214_55, qr_214_56, qr_214_59, qr_214_61, qr_214_64, qr_214_65, qr_214_66, qr_214_67, qr_214_70, qr_214_71, qr_214_72, qr_214_74, qr_214_77, qr_214_79, qr_214_80, qr_214_83, qr_214_84, qr_214_87, qr_214_89, qr_214_92, qr_214_94, true_and, and_true, false_and, and_false, Option.bind_some, Option.toList_some, Option.toList_none, List.nil_append, List.cons_append, if_true, if_false, ite_true, ite_false, not_true_eq_false, not_false_eq_true, qn_lt0, qn_ge0, qn_lt, qn_le, qn_eq, qn_e0, qn_gt0, qn_le0, qn_m1, nI_add, pk_mul, qb_e0, Classical.not_not, Nat.reduceEqDiff, Nat.reduceLT, Nat.reduceLeDiff, Nat.not_lt_zero, Nat.zero_le, qs_MO_isItem mo mi i12, qs_MO_isSkill mo mk k10, hx, eq_false hw]⟩
  · exact qJ_ro hJ0 ⟨-1, by simp (disch := first | assumption | omega | exact Or.inl rfl | exact Or.inr rfl | exact qb_01) only [qe_116, qr_116_0, qr_116_1, qr_116_4, qr_116_5, qr_116_8, qr_116_11, qr_116_12, qr_116_15, qr_116_16, qr_116_19, qr_116_22, qr_116_23, qr_116_24, qr_116_25, qr_116_26, qr_116_27, qr_116_30, qr_116_33, qr_116_35, qr_116_36, qr_116_37, qr_116_40, qr_116_43, qr_116_45, qr_116_46, qr_116_47, qr_116_50, qr_116_51, qr_116_54, qr_116_57, qr_116_59, qr_116_60, qr_116_61, qr_116_64, qr_116_65, qr_116_68, qr_116_71, qr_116_72, qr_116_75, qr_116_76, qr_116_77, qr_116_78, qr_116_81, qr_116_82, qr_116_85, qr_116_86, qr_116_89, qr_116_90, qr_116_93, qr_116_94, qr_116_96, qr_116_99, true_and, and_true, false_and, and_false, Option.bind_some, Option.toList_some, Option.toList_none, List.nil_append, List.cons_append, if_true, if_false, ite_true, ite_false, not_true_eq_false, not_false_eq_true, qn_lt0, qn_ge0, qn_lt, qn_le, qn_eq, qn_e0, qn_gt0, qn_le0, qn_m1, nI_add, pk_mul, qb_e0, Classical.not_not, Nat.reduceEqDiff, Nat.reduceLT, Nat.reduceLeDiff, Nat.not_lt_zero, Nat.zero_le, l5, qs_CO_hasItem c0 cn, eq_false hx], by simp (disch := first | assumption | omega | exact Or.inl rfl | exact Or.inr rfl | exact qb_01) only [qe_214, qr_214_0, qr_214_1, qr_214_2, qr_214_5, qr_214_8, qr_214_9, qr_214_10, qr_214_13, qr_214_16, qr_214_17, qr_214_18, qr_214_19, qr_214_20, qr_214_21, qr_214_24, qr_214_27, qr_214_29, qr_214_30, qr_214_31, qr_214_34, qr_214_37, qr_214_39, qr_214_40, qr_214_41, qr_214_42, qr_214_45, qr_214_48, qr_214_50, qr_214_51, qr_214_52, qr_214_55, qr_214_56, qr_214_59, qr_214_61, qr_214_64, qr_214_65, qr_214_66, qr_214_67, qr_214_70, qr_214_71, qr_214_72, qr_214_74, qr_214_77, qr_214_79, qr_214_80, qr_214_83, qr_214_84, qr_214_87, qr_214_89, qr_214_92, qr_214_94, true_and, and_true, false_and, and_false, Option.bind_some, Option.toList_some, Option.toList_none, List.nil_append, List.cons_append, if_true, if_false, ite_true, ite_false, not_true_eq_false, not_false_eq_true, qn_lt0, qn_ge0, qn_lt, qn_le, qn_eq, qn_e0, qn_gt0, qn_le0, qn_m1, nI_add, pk_mul, qb_e0, Classical.not_not, Nat.reduceEqDiff, Nat.reduceLT, Nat.reduceLeDiff, Nat.not_lt_zero, Nat.zero_le, qs_MO_isItem mo mi i12, eq_false hx]⟩
end Q67
