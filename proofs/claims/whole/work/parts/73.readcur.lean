/-! A step of readCurriculum. -/
theorem qn_b3 {m z z' : Nat} (h : z ≤ 20000 + 354 * m) (h' : z' ≤ z + 354) : z' ≤ 20000 + 354 * (m + 1) := by
  rw [Nat.mul_succ, ← Nat.add_assoc]
  exact Nat.le_trans h' (Nat.add_le_add_right h 354)
theorem qn_b4 {m z z' : Nat} (h : z ≤ 204 + 84 * m) (h' : z' ≤ z + 84) : z' ≤ 204 + 84 * (m + 1) := by omega
theorem qn_sur (x : Int32) : ∃ e : Nat, x = nI e := by
  refine ⟨x.toBitVec.toNat, Int32.toBitVec_inj.mp (BitVec.eq_of_toNat_eq ?_)⟩
  exact (pk_tn (n := x.toBitVec.toNat) x.toBitVec.isLt).symm
theorem qv_S_zer {B : Nat} : qv_S B qF_zer := by
  refine ⟨⟨0, Nat.zero_le _, rfl⟩, fun k hk => ?_⟩
  rw [qF_zer_s hk (by omega), qF_zer_s hk (by omega), qF_zer_s hk (by omega), qF_zer_s hk (by omega), qF_zer_s hk (by omega)]
  exact ⟨⟨0, by omega, rfl⟩, ⟨0, by omega, rfl⟩, ⟨1, by omega, rfl⟩, Or.inl rfl, Or.inl rfl⟩
theorem qv_I_zer {ni : Nat} : qv_I ni qF_zer := fun i _ _ => by
  have z0 := qF_zer_i (i := i) (w := 0) (by omega)
  have z1 := qF_zer_i (i := i) (w := 1) (by omega)
  rw [show 91 + 3 * i + 0 = 91 + 3 * i by omega] at z0
  rw [show 91 + 3 * i + 1 = 92 + 3 * i by omega] at z1
  exact ⟨z0, z1⟩
section Q73
variable {d a b f : Nat} {K : Nat → Nat × Nat} {I : Nat → Nat → Int32} {R : Nat → Nat → Option Nat} {n z : Nat} {x y : Int32} {h : qa_H} {m c rd u : Nat} {o : Option Nat}
theorem qs_CO_begin (hk : K c = (4, 0)) : qa_ex (d + 1) 37 [qa_a (some c), qa_a o] (K, I, R, n, z) = some (none, (K, va_up I c (va_up (I c) 2 (nI 0)), va_up R c (va_up (R c) 3 o), n, z)) := by
  simp (disch := first | assumption | omega | exact Or.inl rfl | exact Or.inr rfl | exact qb_01) only [qe_37, qr_37_0, qr_37_1, qr_37_2, qr_37_5, qr_37_6, qr_37_7, qr_37_10, true_and, and_true, false_and, and_false, Option.bind_some, Option.toList_some, Option.toList_none, List.nil_append, List.cons_append, if_true, if_false, ite_true, ite_false, not_true_eq_false, not_false_eq_true, qa_up_s, qa_up_n, qa_uu]
theorem qs_CR_read0 (hk : K rd = (2, 0)) : qa_ex (d + 26) 20 [qa_a (some rd)] (K, va_up I rd (va_up (I rd) 1 (nI 0)), R, n, z) = qa_ex (d + 26) 20 [qa_a (some rd)] (K, I, R, n, z) := by
  simp (disch := first | assumption | omega | exact Or.inl rfl | exact Or.inr rfl | exact qb_01) only [qe_20, qr_20_0, qr_20_1, qr_20_2, qr_20_5, qr_20_8, qr_20_9, qr_20_12, qr_20_13, qr_20_14, qr_20_16, qr_20_18, qr_20_21, qr_20_22, qr_20_23, qr_20_26, qr_20_29, qr_20_30, qr_20_31, qr_20_32, qr_20_35, qr_20_36, qr_20_39, qr_20_42, qr_20_45, qr_20_46, qr_20_47, qr_20_48, qr_20_50, qr_20_53, qr_20_54, qr_20_57, qr_20_58, qr_20_59, qr_20_60, qr_20_63, qr_20_64, qr_20_66, qr_20_69, qr_20_72, qr_20_73, qr_20_74, qr_20_77, qr_20_80, qr_20_81, true_and, and_true, false_and, and_false, Option.bind_some, Option.toList_some, Option.toList_none, List.nil_append, List.cons_append, if_true, if_false, ite_true, ite_false, not_true_eq_false, not_false_eq_true, qa_up_s, qa_up_n, qa_uu]
theorem qJ_readCurriculum (hJ : qJ m h) (hm512 : m ≤ 512) : qJs d 19 166 [] m h := by
  obtain ⟨K, I, R, n, z⟩ := h
  have hJ0 := hJ
  obtain ⟨j1, j2, j3, j4, j5, nk, pm, T, ni, fs, hd, s, b, g, el, er, nh, P, len, tx, wl, wt, lv, ec, en, sn, nk', pm', T', ni', fs', hd', sv, hc, hm, hp⟩ := hJ
  have hS : qS K R := j1
  have j2 : ∀ a, n ≤ a → K a = (77, 0) := j2
  have j3 : 204 ≤ n := j3
  have j4 : n ≤ 204 + 84 * m := j4
  have j5 : z ≤ 20000 + 354 * m := j5
  have hc : qZc K I R n nk pm T ni fs hd s b g el er nh P len tx wl wt lv ec en sn nk' pm' T' ni' fs' hd' sv := hc
  have hm : qZm I nk pm T ni fs hd s b g el er nh P len tx wl wt lv ec en sn nk' pm' T' ni' fs' hd' sv := hm
  obtain ⟨⟨l0, l1, l2, l3, l4, l5, l6, l7, l8, l9, l10, l11⟩, t2, t4, t6, ex, co, p1, p2, lg, hi, sc, sp, mo⟩ := id hS
  obtain ⟨q, q', nx, f, zA, zq, zn, zP, zL, zH, zT, zW, zX, zS, zV⟩ := id hc
  obtain ⟨⟨a1, a2⟩, ⟨b1, b2⟩, c1, ⟨d1, d2⟩, e1, ⟨f1, f2, f3⟩, ⟨g1, g2⟩, h1, i1, k1⟩ := id hm
  obtain ⟨⟨n1, n2⟩, n3, n4, n5, n6, n7, n8, n9, n10, n11, n12, n13⟩ := id hp
  have hC := zA.1
  have co0 := co.1
  have mo0 := mo.1
  have p17 := p1.1
  have lg0 := lg.1
  have hi0 := hi.1
  have t20 := t2.1
  have t60 := t6.1
  obtain ⟨c, hcd⟩ : ∃ c : Nat → Nat, c = fun j => if j < len then tx j else 200 := ⟨_, rfl⟩
  have hc200 : ∀ j, len ≤ j → c j = 200 := fun j hj => by rw [hcd]; exact if_neg (by omega)
  have hcl : ∀ j, j < len → c j = tx j := fun j hj => by rw [hcd]; exact if_pos hj
  have hc128 : ∀ j, j < len → c j < 128 := fun j hj => by rw [hcl j hj]; exact n9 j hj
  have hal := qP_al_ok hc200 10 0 0 (fun _ => 0) (fun _ => .num 0) (by omega) (Nat.zero_le _) (fun i hi => absurd hi (by omega)) (Nat.le_refl 0)
  -- the class
  obtain ⟨I0, hI0⟩ : ∃ I0, I0 = va_up I 6 (va_up (I 6) 1 (nI 0)) := ⟨_, rfl⟩
  have hX : qR_x K I0 R 6 2 len c 0 := ⟨t6.1, t6.2, by rw [hI0, qa_up_s, qa_up_s], t2, ⟨by rw [hI0, qa_up_n _ _ (by omega)]; exact zT.1, fun j hj => by rw [hI0, qa_up_n _ _ (by omega), hcl j hj]; exact zT.2 j hj⟩, n8, Nat.zero_le _, hc200, hc128⟩
  obtain ⟨o, K1, I1, R1, n1', z1', b1c, b2c, b3c, b4c, b5c, b6c, b7c, b8c, b9c, b10c⟩ := qs_CR_read (d := d + 0) (z := z) hX (by omega) (by omega) j3
  rw [hI0, qs_CR_read0 t6.1] at b1c
  have b3c : ∀ a, a < n → a ≠ 6 → I1 a = I a := fun a ha h6 => by rw [b3c a ha h6, hI0, qa_up_n _ _ h6]
  have hS1 : qS K1 R1 := qS_cg hS (fun a ha => b2c a (by omega)) (fun a ha _ _ => b4c a (by omega)) (fun j hj => ⟨by rw [b4c 10 (by omega)], by rw [b4c 166 (by omega)]⟩)
  have k77 : ∀ a, n1' ≤ a → K1 a = (77, 0) := fun a ha => by rw [b2c a (by omega)]; exact j2 a (by omega)
  have h10 : ∀ a, 204 ≤ a → K a = (10, 0) → a < n := fun a _ hk => Decidable.byContradiction fun hq => by rw [j2 a (by omega)] at hk; exact absurd hk (by simp)
  obtain ⟨⟨y0, y1, y2, y3, y4, y5, y6, y7, y8, y9, y10, y11⟩, T2, T4, T6, EX, CO, P1, P2, LG, HI, SC, SP, MO⟩ := id hS1
  have T20 := T2.1
  have T60 := T6.1
  obtain ⟨I2, hI2⟩ : ∃ I2, I2 = va_up I1 2 (va_up (I1 2) 1 (nI 0)) := ⟨_, rfl⟩
  have hi2 : ∀ a, a ≠ 2 → I2 a = I1 a := fun a ha => by rw [hI2]; exact qa_up_n _ _ ha
  have hI : ∀ a, a < n → a ≠ 2 → a ≠ 6 → I2 a = I a := fun a h1 h2 h3 => by rw [hi2 a h2, b3c a h1 h3]
  have o6 : I2 6 1 = nI (qP_al c len 10 0 0 (fun _ => 0) (fun _ => .num 0)).2 := by rw [hi2 6 (by omega)]; exact b8c
  have t2L : I2 2 1 = nI 0 := by rw [hI2, qa_up_s, qa_up_s]
  -- the model
  have hmX : ∀ J : Nat → Nat → Int32, J 200 = I 200 → J 189 14 = nI len → ∃ e, qM_x (va_up J 189 (va_up (va_up (J 189) 15 (nI 0)) 16 (nI 0))) 189 len c 0 0 e := by
    intro J g1' g2'
    obtain ⟨e, he⟩ := qn_sur (J 189 17)
    refine ⟨e, by rw [qa_up_s, qa_up_n _ _ (by omega), qa_up_n _ _ (by omega)]; exact g2', by rw [qa_up_s, qa_up_n _ _ (by omega), qa_up_s], by rw [qa_up_s, qa_up_s], by rw [qa_up_s, qa_up_n _ _ (by omega), qa_up_n _ _ (by omega)]; exact he, Nat.zero_le _, n8, fun j hj => ?_, hc200, hc128⟩
    rw [qa_up_n _ _ (by omega), hcl j hj]
    show J 200 j = _
    rw [g1']
    exact h1.2 j hj
  have hn1 : 204 ≤ n1' := by omega
  have hn2 : n1' ≤ 204 + 84 * (m + 1) := qn_b4 j4 b6c
  have hn3 : z1' ≤ 20000 + 354 * (m + 1) := qn_b3 j5 b7c
  cases hr : (qP_al c len 10 0 0 (fun _ => 0) (fun _ => .num 0)).1 with
  | none =>
    have ho := b9c hr
    subst ho
    obtain ⟨v, hv⟩ : ∃ v : Int32, v = -100 - nI (qP_al c len 10 0 0 (fun _ => 0) (fun _ => .num 0)).2 := ⟨_, rfl⟩
    have r1 : qa_ex (d + 27) 19 [qa_a (some 1)] (K, I, R, n, z) = some (some (qa_i v), (K1, I2, R1, n1', z1')) := by
      have y0' := l0
      simp (disch := first | assumption | omega | exact Or.inl rfl | exact Or.inr rfl | exact qb_01) only [qe_19, qr_19_0, qr_19_1, qr_19_4, qr_19_7, qr_19_8, qr_19_9, qr_19_12, qr_19_15, qr_19_16_0, qr_19_16_1, qr_19_19, qr_19_21, qr_19_22, qr_19_25, qr_19_28, qr_19_29, qr_19_30, qr_19_31, qr_19_34, qr_19_35, qr_19_38, qr_19_39, qr_19_42, qr_19_45, qr_19_46, qr_19_49, qr_19_50, qr_19_53, true_and, and_true, false_and, and_false, Option.bind_some, Option.toList_some, Option.toList_none, List.nil_append, List.cons_append, if_true, if_false, ite_true, ite_false, not_true_eq_false, not_false_eq_true, qn_lt0, qn_ge0, qn_lt, qn_le, qn_eq, qn_e0, qn_gt0, qn_le0, qn_m1, nI_add, pk_mul, qb_e0, Classical.not_not, Nat.reduceEqDiff, Nat.reduceLT, Nat.reduceLeDiff, Nat.not_lt_zero, Nat.zero_le, l3, b1c, y1, qs_TR_clear, ← hI2, y3, qs_CR_offset, o6]
      rw [hv]
    have hc1 : qZc K1 I2 R1 n1' nk pm T ni fs hd s b g el er nh P 0 tx wl wt lv ec en sn nk' pm' T' ni' fs' hd' sv := ⟨q, q', nx, f, qj_A_g zA (fun a _ _ => ⟨b2c a (by omega), hI a (by omega) (by omega) (by omega), b4c a (by omega)⟩) (fun a _ _ => ⟨b2c a (by omega), hI a (by omega) (by omega) (by omega), b4c a (by omega)⟩) (fun a ha hk => ⟨b2c a (Or.inl (h10 a ha hk)), hI a (h10 a ha hk) (by omega) (by omega), b4c a (h10 a ha hk)⟩), zq, by omega, qp_PS_cg zP (fun a _ _ => hI a (by omega) (by omega) (by omega)), qp_LS_cg zL (fun a _ _ => hI a (by omega) (by omega) (by omega)), qp_HS_cg zH (fun a _ _ => hI a (by omega) (by omega) (by omega)), ⟨t2L, fun j hj => absurd hj (by omega)⟩, qp_L_cg zW (by rw [hI 4 (by omega) (by omega) (by omega)]) (hI _ (by omega) (by omega) (by omega)), qp_X_cg zX (by rw [hI 7 (by omega) (by omega) (by omega)]) (hI _ (by omega) (by omega) (by omega)) (hI _ (by omega) (by omega) (by omega)), by rw [hI 1 (by omega) (by omega) (by omega)]; exact zS, fun hs => by
      obtain ⟨v1, v2, v3, v4⟩ := zV hs
      exact ⟨qj_A_g v1 (fun a _ _ => ⟨b2c a (by omega), hI a (by omega) (by omega) (by omega), b4c a (by omega)⟩) (fun a _ _ => ⟨b2c a (by omega), hI a (by omega) (by omega) (by omega), b4c a (by omega)⟩) (fun a ha hk => ⟨b2c a (Or.inl (h10 a ha hk)), hI a (h10 a ha hk) (by omega) (by omega), b4c a (h10 a ha hk)⟩), v2, by omega, qp_PS_cg v4 (fun a _ _ => hI a (by omega) (by omega) (by omega))⟩⟩
    have hm1 := qZm_cg (I' := I2) hm (fun a h1 h2 => hI a (by omega) (by omega) (by omega))
    obtain ⟨⟨a1, a2⟩, ⟨b1, b2⟩, c1, ⟨d1, d2⟩, e1, ⟨f1, f2, f3⟩, ⟨g1, g2⟩, h1, i1, k1⟩ := hm1
    obtain ⟨e, hMX⟩ := hmX I2 (hI 200 (by omega) (by omega) (by omega)) h1.1
    obtain ⟨v2, J1, nd, x1, x2, x3, x4, x5⟩ := qs_MO_readsAll (d := d + 0) (K := K1) (I := I2) (R := R1) (n := n1') (z := z1') MO hMX
    have hv2 := x4 hr
    subst hv2
    obtain ⟨J2, hJ2⟩ : ∃ J2, J2 = va_up J1 189 (va_up (J1 189) 14 (nI 0)) := ⟨_, rfl⟩
    have MO0 := MO.1
    have a15 : J2 189 15 = nI (qP_al c len 10 0 0 (fun _ => 0) (fun _ => .num 0)).2 := by rw [hJ2, qa_up_s, qa_up_n _ _ (by omega)]; exact x3
    have r2 : qa_ex (d + 27) 166 [qa_a (some 189)] (K1, I2, R1, n1', z1') = some (some (qa_i v), (K1, J2, R1, n1', z1')) := by
      simp (disch := first | assumption | omega | exact Or.inl rfl | exact Or.inr rfl | exact qb_01) only [qe_166, qr_166_0, qr_166_1, qr_166_4, qr_166_5, qr_166_6, qr_166_7, qr_166_10, qr_166_11, qr_166_14, qr_166_16, qr_166_17, qr_166_20, qr_166_21, qr_166_22, qr_166_23, qr_166_26, qr_166_27, qr_166_30, qr_166_33, qr_166_36, qr_166_37, qr_166_40, qr_166_41, qr_166_42, qr_166_43, qr_166_44, qr_166_47, qr_166_48, true_and, and_true, false_and, and_false, Option.bind_some, Option.toList_some, Option.toList_none, List.nil_append, List.cons_append, if_true, if_false, ite_true, ite_false, not_true_eq_false, not_false_eq_true, qn_lt0, qn_ge0, qn_lt, qn_le, qn_eq, qn_e0, qn_gt0, qn_le0, qn_m1, nI_add, pk_mul, qb_e0, Classical.not_not, Nat.reduceEqDiff, Nat.reduceLT, Nat.reduceLeDiff, Nat.not_lt_zero, Nat.zero_le, x1, ← hJ2, qn_m1z, a15]
      rw [hv]
    have hn : ∀ a, a ≠ 189 → a ≠ 195 → J2 a = I2 a := fun a g1 g2 => by rw [hJ2, qa_up_n _ _ g1]; exact x2.1 a g1 g2
    have h0 : ∀ f, f ≠ 14 → f ≠ 15 → f ≠ 16 → f ≠ 17 → J2 189 f = I2 189 f := fun f g1 g2 g3 g4 => by rw [hJ2, qa_up_s, qa_up_n _ _ g1]; exact x2.2 f g2 g3 g4
    have hm2 : qZm J2 nk pm T ni fs hd s b g el er nh P 0 tx wl wt lv ec en sn nk' pm' T' ni' fs' hd' sv := ⟨⟨by rw [hn 190 (by omega) (by omega)]; exact a1, a2⟩, ⟨by rw [hn 191 (by omega) (by omega)]; exact b1, b2⟩, by rw [hn 192 (by omega) (by omega)]; exact c1, ⟨by rw [h0 4 (by omega) (by omega) (by omega) (by omega)]; exact d1, fun j hj i hi => by rw [hn 193 (by omega) (by omega)]; exact d2 j hj i hi⟩, by rw [hn 194 (by omega) (by omega)]; exact e1, ⟨by rw [h0 9 (by omega) (by omega) (by omega) (by omega)]; exact f1, by rw [hn 196 (by omega) (by omega)]; exact f2, fun hs => by rw [hn 196 (by omega) (by omega), hn 197 (by omega) (by omega)]; exact f3 hs⟩, ⟨by rw [h0 12 (by omega) (by omega) (by omega) (by omega)]; exact g1, fun j hj => by rw [hn 198 (by omega) (by omega), hn 199 (by omega) (by omega)]; exact g2 j hj⟩, ⟨by rw [hJ2, qa_up_s, qa_up_s], fun j hj => absurd hj (by omega)⟩, qp_X_cg i1 (h0 20 (by omega) (by omega) (by omega) (by omega)) (hn 201 (by omega) (by omega)) (hn 202 (by omega) (by omega)), qp_L_cg k1 (h0 22 (by omega) (by omega) (by omega) (by omega)) (hn 203 (by omega) (by omega))⟩
    exact ⟨v, (K1, I2, R1, n1', z1'), (K1, J2, R1, n1', z1'), r1, r2, ⟨b2c 0 (by omega), hI 0 (by omega) (by omega) (by omega), b2c 189 (by omega)⟩, b2c 0 (by omega), by show J2 0 = I 0; rw [hn 0 (by omega) (by omega), hI 0 (by omega) (by omega) (by omega)], hS1, k77, hn1, hn2, hn3, nk, pm, T, ni, fs, hd, s, b, g, el, er, nh, P, 0, tx, wl, wt, lv, ec, en, sn, nk', pm', T', ni', fs', hd', sv, qZc_cg hc1 (fun a ha => hn a (by omega) (by omega)), hm2, qZp_mono (B := 20000 + 100 * m) ⟨⟨n1, n2⟩, n3, n4, n5, n6, n7, by omega, fun j hj => absurd hj (by omega), n10, n11, n12, n13⟩ (by omega)⟩
  | some S =>
    obtain ⟨ho, hU⟩ := b10c S hr
    subst ho
    obtain ⟨A1, A2, A3, A4⟩ := hal.2.2 S hr
    obtain ⟨⟨u0, u1, u2, u3, u4, u5, u6, v0, v1, v2⟩, w1, w2, w3⟩ := id hU
    obtain ⟨I3, hI3⟩ : ∃ I3, I3 = va_up I2 10 (va_up (I2 10) 2 (nI 0)) := ⟨_, rfl⟩
    obtain ⟨R2, hR2⟩ : ∃ R2, R2 = va_up R1 10 (va_up (R1 10) 3 (some n)) := ⟨_, rfl⟩
    have hr2 : ∀ a, a ≠ 10 → R2 a = R1 a := fun a ha => by rw [hR2]; exact qa_up_n _ _ ha
    have r10 : R2 10 = va_up (R1 10) 3 (some n) := by rw [hR2, qa_up_s]
    have hS2 : qS K1 R2 := qS_cg hS1 (fun _ _ => rfl) (fun a _ h1 _ => hr2 a h1) (fun j hj => ⟨by rw [r10, qa_up_n _ _ hj], by rw [hr2 166 (by omega)]⟩)
    have hi3 : ∀ a, a ≠ 10 → I3 a = I2 a := fun a ha => by rw [hI3]; exact qa_up_n _ _ ha
    obtain ⟨⟨Y0, Y1, Y2, Y3, Y4, Y5, Y6, Y7, Y8, Y9, Y10, Y11⟩, -, -, -, -, CO2, P12, -, LG2, HI2, -, -, MO2⟩ := id hS2
    have CO0 := CO.1
    have P10 := P1.1
    obtain ⟨I4, c1c, c2c, c3c⟩ := qs_PR_clear (d := d + 24) (I := I3) (n := n1') (z := z1') P12
    obtain ⟨I5, d1c, d2c, d3c, d4c⟩ := qs_LA_startAgain (d := d + 22) (n := n1') (z := z1') Y0 Y6 Y8 Y9 HI2.1 LG2 P12 (by omega) c3c (by omega)
    have d3c := d3c (Or.inr (by omega))
    have hi5 : ∀ a, (a < 17 ∨ (33 ≤ a ∧ a < 49) ∨ 68 < a) → a ≠ 10 → I5 a = I2 a := fun a ha h1 => by rw [d2c a (by omega) (by omega), c2c a (by omega), hi3 a h1]
    have i510 : I5 10 2 = nI 0 := by rw [d2c 10 (by omega) (by omega), c2c 10 (by omega), hI3, qa_up_s, qa_up_s]
    have i568 : I5 68 = va_up (I 68) 2 (nI 0) := by rw [d3c, c2c 68 (by omega), hi3 68 (by omega), hI 68 (by omega) (by omega) (by omega)]
    have hsz : I5 n 3 = nI S.1 := by rw [hi5 n (by omega) (by omega), hi2 n (by omega)]; exact w2
    have r1 : qa_ex (d + 27) 19 [qa_a (some 1)] (K, I, R, n, z) = some (some (qa_i (nI S.1)), (K1, I5, R2, n1', z1')) := by
      simp (disch := first | assumption | omega | exact Or.inl rfl | exact Or.inr rfl | exact qb_01) only [qe_19, qr_19_0, qr_19_1, qr_19_4, qr_19_7, qr_19_8, qr_19_9, qr_19_12, qr_19_15, qr_19_16_0, qr_19_16_1, qr_19_19, qr_19_21, qr_19_22, qr_19_25, qr_19_28, qr_19_29, qr_19_30, qr_19_31, qr_19_34, qr_19_35, qr_19_38, qr_19_39, qr_19_42, qr_19_45, qr_19_46, qr_19_49, qr_19_50, qr_19_53, true_and, and_true, false_and, and_false, Option.bind_some, Option.toList_some, Option.toList_none, List.nil_append, List.cons_append, if_true, if_false, ite_true, ite_false, not_true_eq_false, not_false_eq_true, qn_lt0, qn_ge0, qn_lt, qn_le, qn_eq, qn_e0, qn_gt0, qn_le0, qn_m1, nI_add, pk_mul, qb_e0, Classical.not_not, Nat.reduceEqDiff, Nat.reduceLT, Nat.reduceLeDiff, Nat.not_lt_zero, Nat.zero_le, l3, b1c, y1, qs_TR_clear, ← hI2, y5, qs_CO_begin, ← hI3, ← hR2, Y6, c1c, d1c, qs_CU_size, hsz]
    have hi5I : ∀ a, a < n → (a < 17 ∨ (33 ≤ a ∧ a < 49) ∨ 68 < a) → a ≠ 2 → a ≠ 6 → a ≠ 10 → I5 a = I a := fun a h1 h2 h3 h4 h5 => by rw [hi5 a h2 h5, hI a h1 h3 h4]
    have zAn : qj_A K1 I5 R2 10 n S.1 S.2.1 S.2.2 0 fs hd := by
      refine ⟨⟨⟨CO2.1, CO2.2.1, CO2.2.2.1, CO2.2.2.2.1, CO2.2.2.2.2.1, CO2.2.2.2.2.2.1, CO2.2.2.2.2.2.2, by rw [r10, qa_up_s]⟩, ⟨u0, u1, u2, u3, u4, u5, u6, by rw [hr2 n (by omega)]; exact v0, by rw [hr2 n (by omega)]; exact v1, by rw [hr2 n (by omega)]; exact v2⟩, hsz, A1, A2, fun k hk => ?_, i510, by omega, fun i hi => absurd hi (by omega)⟩, fun k hk => ?_, fun k hk => (A3 k hk).2.1⟩
      · rw [hi5 _ (by omega) (by omega), hi2 _ (by omega), hi5 _ (by omega) (by omega), hi2 _ (by omega)]
        exact ⟨(w3 k hk).1, (w3 k hk).2.1⟩
      · rw [hr2 _ (by omega)]
        exact ⟨qt_C_cg (fun a ha _ => ⟨rfl, by rw [hi5 a (by omega) (by omega), hi2 a (by omega)], hr2 a (by omega)⟩) (qt_CB_C (w3 k hk).2.2), qt_wf_mono (by omega) (A3 k hk).2.1, (A3 k hk).2.2⟩
    have hm1 := qZm_cg (I' := I5) hm (fun a h1 h2 => hi5I a (by omega) (by omega) (by omega) (by omega) (by omega))
    obtain ⟨⟨a1, a2⟩, ⟨b1, b2⟩, c1, ⟨d1, d2⟩, e1, ⟨f1, f2, f3⟩, ⟨g1, g2⟩, h1, i1, k1⟩ := hm1
    obtain ⟨e, hMX⟩ := hmX I5 (hi5I 200 (by omega) (by omega) (by omega) (by omega) (by omega)) h1.1
    obtain ⟨vv, J1, nd, x1, x2, x3, x4, x5⟩ := qs_MO_readsAll (d := d + 0) (K := K1) (I := I5) (R := R2) (n := n1') (z := z1') MO2 hMX
    obtain ⟨hvv, hV⟩ := x5 S hr
    subst hvv
    obtain ⟨J2, hJ2⟩ : ∃ J2, J2 = va_up J1 189 (va_up (J1 189) 14 (nI 0)) := ⟨_, rfl⟩
    have j2n : ∀ a, a ≠ 189 → J2 a = J1 a := fun a ha => by rw [hJ2]; exact qa_up_n _ _ ha
    obtain ⟨M0, ⟨s1', s2', s3'⟩, -, -, -, ⟨q1', q2', q3'⟩, ⟨r1', r2', r3'⟩, -⟩ := id MO2
    have q3' : R2 189 5 = some 194 := q3'
    have r3' : R2 189 6 = some 195 := r3'
    have q1' : (K1 194).1 = 100 := q1'
    have q2' : (K1 194).2 = 556 := q2'
    have cp := qs_MO_copies (d := d + 25) (I := J2) (R := R2) (n := n1') (z := z1') (a := 195) (b := 194) (m := 556) (by omega) r1' q1' (by show 556 ≤ (K1 (189 + 6)).2; omega) (by omega) (by omega)
    obtain ⟨J3, hJ3⟩ : ∃ J3, J3 = va_up J2 194 (va_up (qf_cpy 556 (J2 195) (J2 194)) 0 (nI S.1)) := ⟨_, rfl⟩
    have j3n : ∀ a, a ≠ 194 → J3 a = J2 a := fun a ha => by rw [hJ3]; exact qa_up_n _ _ ha
    obtain ⟨t, tZ, tz, bg⟩ := qs_MO_begins (d := d + 23) (I := J3) (n := n1') (z := z1') MO2 (by show qv_Z (J3 190); rw [j3n 190 (by omega), j2n 190 (by omega), x2.1 190 (by omega) (by omega), a1]; exact a2) (by show qv_Z (J3 191); rw [j3n 191 (by omega), j2n 191 (by omega), x2.1 191 (by omega) (by omega), b1]; exact b2)
    obtain ⟨J4, hJ4⟩ : ∃ J4, J4 = va_up (va_up (va_up (va_up J3 (189 + 1) t) (189 + 5) (va_up (J3 (189 + 5)) 1 (nI 0))) (189 + 2) t) 189 (va_up (va_up (J3 189) 4 (nI 0)) 12 (nI 0)) := ⟨_, rfl⟩
    rw [← hJ4] at bg
    have hS31 : S.1 < 2147483648 := by omega
    have r2 : qa_ex (d + 27) 166 [qa_a (some 189)] (K1, I5, R2, n1', z1') = some (some (qa_i (nI S.1)), (K1, J4, R2, n1', z1')) := by
      simp (disch := first | assumption | omega | exact Or.inl rfl | exact Or.inr rfl | exact qb_01) only [qe_166, qr_166_0, qr_166_1, qr_166_4, qr_166_5, qr_166_6, qr_166_7, qr_166_10, qr_166_11, qr_166_14, qr_166_16, qr_166_17, qr_166_20, qr_166_21, qr_166_22, qr_166_23, qr_166_26, qr_166_27, qr_166_30, qr_166_33, qr_166_36, qr_166_37, qr_166_40, qr_166_41, qr_166_42, qr_166_43, qr_166_44, qr_166_47, qr_166_48, true_and, and_true, false_and, and_false, Option.bind_some, Option.toList_some, Option.toList_none, List.nil_append, List.cons_append, if_true, if_false, ite_true, ite_false, not_true_eq_false, not_false_eq_true, qn_lt0, qn_ge0, qn_lt, qn_le, qn_eq, qn_e0, qn_gt0, qn_le0, qn_m1, nI_add, pk_mul, qb_e0, Classical.not_not, qa_up_s, qa_up_n, qa_uu, Nat.reduceEqDiff, Nat.reduceLT, Nat.reduceLeDiff, Nat.not_lt_zero, Nat.zero_le, x1, ← hJ2, q3', r3', cp, ← hJ3, bg]
    have hn : ∀ a, (a < 189 ∨ (191 < a ∧ a < 194) ∨ 195 < a) → J4 a = I5 a := fun a ha => by rw [hJ4, qa_up_n _ _ (by omega), qa_up_n _ _ (by omega), qa_up_n _ _ (by omega), qa_up_n _ _ (by omega), j3n a (by omega), j2n a (by omega)]; exact x2.1 a (by omega) (by omega)
    have h0 : ∀ f, (f = 9 ∨ 17 < f) → J4 189 f = I5 189 f := fun f hf => by rw [hJ4, qa_up_s, qa_up_n _ _ (by omega), qa_up_n _ _ (by omega), j3n 189 (by omega), hJ2, qa_up_s, qa_up_n _ _ (by omega)]; exact x2.2 f (by omega) (by omega) (by omega)
    have s190 : J4 190 = t := by rw [hJ4, qa_up_n _ _ (by omega), qa_up_n _ _ (by omega), qa_up_n _ _ (by omega)]; exact qa_up_s _ _ _
    have s191 : J4 191 = t := by rw [hJ4, qa_up_n _ _ (by omega)]; exact qa_up_s _ _ _
    have s194 : J4 194 = va_up (va_up (qf_cpy 556 (J1 195) (J2 194)) 0 (nI S.1)) 1 (nI 0) := by
      rw [hJ4, qa_up_n _ _ (by omega), qa_up_n _ _ (by omega)]
      refine (qa_up_s _ _ _).trans ?_
      show va_up (J3 194) 1 (nI 0) = _
      rw [hJ3, qa_up_s, j2n 195 (by omega)]
    have hcc : ∀ i, 2 ≤ i → i < 556 → J4 194 i = J1 195 i := fun i h1 h2 => by
      rw [s194, qa_up_n _ _ (by omega), qa_up_n _ _ (by omega)]
      exact if_pos h2
    have mc : qp_MC (J4 194) S.1 S.2.1 S.2.2 0 fs hd := by
      refine ⟨by rw [s194, qa_up_n _ _ (by omega), qa_up_s], A1, A2, by rw [s194, qa_up_s], by omega, fun k hk => ?_, fun k hk => ?_, fun k hk => (A3 k hk).2.1, fun i hi => absurd hi (by omega)⟩
      · rw [hcc _ (by omega) (by omega)]
        exact ⟨(hV k hk).1, by have := (A3 k hk).1; omega⟩
      · rw [hcc _ (by omega) (by omega)]
        exact ⟨qt_M_up (fun i h1 h2 => hcc i (by omega) (by omega)) (qt_MB_M (hV k hk).2), qt_wf_mono (by omega) (A3 k hk).2.1, (A3 k hk).2.2⟩
    have tP : qp_PS I5 17 t := qp_PS_eq (qp_PS_cg c3c (fun a _ _ => d2c a (by omega) (by omega))) (fun i hi => (tz i hi).symm)
    have tL : qp_LS I5 49 0 0 el er t := by
      obtain ⟨z1, z2, z3, z4, z5, z6⟩ := d4c el er
      exact ⟨z1, z2, z3, z4, z5, qp_PS_eq z6 (fun i hi => (tz i hi).symm)⟩
    have hc1 : qZc K1 I5 R2 n1' S.1 S.2.1 S.2.2 0 fs hd t t 0 el er 0 P 0 tx wl wt lv ec en sn nk' pm' T' ni' fs' hd' sv := ⟨n, q', nx, 0, zAn, Or.inr j3, by omega, tP, tL, ⟨by rw [i568, qa_up_n _ _ (by omega)]; exact zH.1, zH.2.1, by rw [i568, qa_up_s], by omega, fun j hj => absurd hj (by omega)⟩, ⟨by rw [hi5 2 (by omega) (by omega)]; exact t2L, fun j hj => absurd hj (by omega)⟩, qp_L_cg zW (by rw [hi5I 4 (by omega) (by omega) (by omega) (by omega) (by omega)]) (hi5I _ (by omega) (by omega) (by omega) (by omega) (by omega)), qp_X_cg zX (by rw [hi5I 7 (by omega) (by omega) (by omega) (by omega) (by omega)]) (hi5I _ (by omega) (by omega) (by omega) (by omega) (by omega)) (hi5I _ (by omega) (by omega) (by omega) (by omega) (by omega)), by rw [hi5I 1 (by omega) (by omega) (by omega) (by omega) (by omega)]; exact zS, fun hs => by
      obtain ⟨v1, v2, v3, v4⟩ := zV hs
      have hh : ∀ a, a < n → (13 ≤ a ∧ a < 17 ∨ 166 ≤ a) → K1 a = K a ∧ I5 a = I a ∧ R2 a = R a := fun a h1 h2 => ⟨b2c a (Or.inl h1), hi5I a h1 (by omega) (by omega) (by omega) (by omega), by rw [hr2 a (by omega)]; exact b4c a h1⟩
      exact ⟨qj_A_g v1 (fun a _ _ => hh a (by omega) (by omega)) (fun a _ _ => hh a (by omega) (by omega)) (fun a ha hk => hh a (h10 a ha hk) (by omega)), v2, by omega, qp_PS_cg v4 (fun a _ _ => (hh a (by omega) (by omega)).2.1)⟩⟩
    have hm2 : qZm J4 S.1 S.2.1 S.2.2 0 fs hd t t 0 el er 0 P 0 tx wl wt lv ec en sn nk' pm' T' ni' fs' hd' sv := ⟨⟨s190, tZ⟩, ⟨s191, tZ⟩, by rw [hn 192 (by omega)]; exact c1, ⟨by rw [hJ4, qa_up_s, qa_up_n _ _ (by omega), qa_up_s], fun j hj => absurd hj (by omega)⟩, mc, ⟨by rw [h0 9 (by omega)]; exact f1, by rw [hn 196 (by omega)]; exact f2, fun hs => by rw [hn 196 (by omega), hn 197 (by omega)]; exact f3 hs⟩, ⟨by rw [hJ4, qa_up_s, qa_up_s], fun j hj => absurd hj (by omega)⟩, ⟨by rw [hJ4, qa_up_s, qa_up_n _ _ (by omega), qa_up_n _ _ (by omega), j3n 189 (by omega), hJ2, qa_up_s, qa_up_s], fun j hj => absurd hj (by omega)⟩, qp_X_cg i1 (h0 20 (by omega)) (hn 201 (by omega)) (hn 202 (by omega)), qp_L_cg k1 (h0 22 (by omega)) (hn 203 (by omega))⟩
    have nS : qv_S (20000 + 100 * m) t := qv_S_eq qv_S_zer (fun i hi => (tz i hi).symm)
    have nI' : qv_I 0 t := qv_I_eq qv_I_zer (fun i hi => (tz i hi).symm)
    exact ⟨nI S.1, (K1, I5, R2, n1', z1'), (K1, J4, R2, n1', z1'), r1, r2, ⟨b2c 0 (by omega), hi5I 0 (by omega) (by omega) (by omega) (by omega) (by omega), b2c 189 (by omega)⟩, b2c 0 (by omega), by show J4 0 = I 0; rw [hn 0 (by omega), hi5I 0 (by omega) (by omega) (by omega) (by omega) (by omega)], hS2, k77, hn1, hn2, hn3, S.1, S.2.1, S.2.2, 0, fs, hd, t, t, 0, el, er, 0, P, 0, tx, wl, wt, lv, ec, en, sn, nk', pm', T', ni', fs', hd', sv, qZc_cg hc1 (fun a ha => hn a (by omega)), hm2, qZp_mono (B := 20000 + 100 * m) ⟨⟨nS, nI'⟩, nS, fun j hj => absurd hj (by omega), by omega, by omega, fun j hj => absurd hj (by omega), by omega, fun j hj => absurd hj (by omega), n10, n11, by omega, n13⟩ (by omega)⟩
end Q73
