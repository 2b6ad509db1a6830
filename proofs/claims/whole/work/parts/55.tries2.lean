/-! What would be: the model tries it. -/
theorem qF_pn_stop {nk ni : Nat} {pm fs hd : Nat → Nat} {T : Nat → qt_T} {s : Nat → Int32} {k : Nat} (h : qA_l nk pm T ni fs hd (qF_pn nk pm T ni fs hd s k) = 0) : ∀ m, qF_pn nk pm T ni fs hd s (k + m) = qF_pn nk pm T ni fs hd s k
  | 0 => rfl
  | m + 1 => by
    show qF_tk1 nk pm T fs (qA_l nk pm T ni fs hd (qF_pn nk pm T ni fs hd s (k + m))) 1 (qF_pn nk pm T ni fs hd s (k + m)) = _
    rw [qF_pn_stop h m, h]
    rfl
theorem qA_ad_1 {s ps : Nat → Int32} {T : Nat → qt_T} {nk ni : Nat} {fs hd : Nat → Nat} : qA_ad s ps T nk ni fs hd 1 = qA_it s fs hd ni (qA_ln s ps T nk ni fs hd nk) := by
  unfold qA_ad
  rw [if_neg (by omega), if_pos rfl]
theorem qA_ad_3 {s ps : Nat → Int32} {T : Nat → qt_T} {nk ni : Nat} {fs hd : Nat → Nat} : qA_ad s ps T nk ni fs hd 3 = qA_mx s ps T nk ni fs hd := by
  unfold qA_ad
  rw [if_neg (by omega), if_neg (by omega), if_neg (by omega)]
theorem qv_S_mono {B B' : Nat} {s : Nat → Int32} (h : qv_S B s) (hB : B ≤ B') : qv_S B' s := by
  obtain ⟨⟨v, h1, h2⟩, h3⟩ := qv_SK.mp h
  exact qv_SK.mpr ⟨⟨v, by omega, h2⟩, fun k hk => qv_K_mono (h3 k hk) hB⟩
def qF_ps (nk : Nat) (s : Nat → Int32) : Nat → Nat → Int32
  | 0 => s
  | m + 1 => qF_pas (qF_ps nk s m) nk
theorem qF_pas_sk {s : Nat → Int32} {k j : Nat} (hj : j < 9) : ∀ {K : Nat}, qF_pas s K (1 + 9 * k + j) = if k < K then qf_pas (qs_sk s k) (s 0 + nI 1) j else s (1 + 9 * k + j) := by
  intro K
  induction K with
  | zero =>
    rw [if_neg (by omega)]
    exact qF_pas_ge (k := 0) (by omega)
  | succ K ih =>
    show qs_put (qF_pas s K) K (qf_pas (qs_sk (qF_pas s K) K) (qF_pas s K 0)) (1 + 9 * k + j) = _
    by_cases hk : k = K
    · subst hk
      rw [qs_put_at hj, if_pos (by omega), qF_pas_0]
      exact qf_pas_c (fun i hi => qF_pas_ge (by omega)) hj
    · rw [qs_put_ne (by omega), ih]
      by_cases h2 : k < K
      · rw [if_pos h2, if_pos (by omega)]
      · rw [if_neg h2, if_neg (by omega)]
theorem qF_ps_0 {nk : Nat} {s : Nat → Int32} : ∀ {m : Nat}, qF_ps nk s m 0 = s 0 + nI m := by
  intro m
  induction m with
  | zero => show s 0 = _; rw [nI_0, Int32.add_zero]
  | succ m ih =>
    show qF_pas (qF_ps nk s m) nk 0 = _
    rw [qF_pas_0, ih, Int32.add_assoc, nI_add]
theorem qF_ps_sk {nk : Nat} {s : Nat → Int32} {k : Nat} (hk : k < nk) : ∀ {m j : Nat}, j < 9 → qF_ps nk s m (1 + 9 * k + j) = qF_sd s k m j := by
  intro m
  induction m with
  | zero => intro j _; rfl
  | succ m ih =>
    intro j hj
    show qF_pas (qF_ps nk s m) nk (1 + 9 * k + j) = qf_pas (qF_sd s k m) (s 0 + nI (m + 1)) j
    rw [qF_pas_sk hj, if_pos hk, qF_ps_0, Int32.add_assoc, nI_add]
    exact qf_pas_c (fun i hi => ih hi) hj
section Q55
variable {d a b f : Nat} {K : Nat → Nat × Nat} {I : Nat → Nat → Int32} {R : Nat → Nat → Option Nat} {n z : Nat} {x y : Int32} {h : qa_H} {u nk ni k i j m B p q c e g w v r lv t na : Nat} {s bs : Nat → Int32} {fs hd pm el er : Nat → Nat} {T : Nat → qt_T}
theorem qm_aside (hM : qp_MO K R u) (hZ : qv_Z (I (u + 1))) (hZa : qv_Z (I (u + 3))) : qa_ex (d + 1) 163 [qa_a (some (u + 1)), qa_a (some (u + 3)), qa_i (nI 127)] (K, I, R, n, z) = some (none, (K, va_up I (u + 3) (I (u + 1)), R, n, z)) := by
  obtain ⟨m0, ⟨s1, s2, s3⟩, ⟨b1, b2, b3⟩, ⟨a1, a2, a3⟩, -⟩ := hM
  rw [qs_MO_copies (show u + 1 ≠ u + 3 by omega) s1 a1 (by omega) (by omega) (by omega), qf_cpy_Z hZ hZa]
theorem qm_back (hM : qp_MO K R u) (hZ : qv_Z (I (u + 1))) (hZs : qv_Z s) : qa_ex (d + 1) 163 [qa_a (some (u + 3)), qa_a (some (u + 1)), qa_i (nI 127)] (K, va_up (va_up I (u + 3) (I (u + 1))) (u + 1) s, R, n, z) = some (none, (K, va_up I (u + 3) (I (u + 1)), R, n, z)) := by
  obtain ⟨m0, ⟨s1, s2, s3⟩, ⟨b1, b2, b3⟩, ⟨a1, a2, a3⟩, -⟩ := hM
  rw [qs_MO_copies (show u + 3 ≠ u + 1 by omega) a1 s1 (by omega) (by omega) (by omega), qa_up_n _ _ (show u + 3 ≠ u + 1 by omega), qa_up_s, qa_up_s, qf_cpy_Z hZ hZs, qa_uu]
  have e := qa_uI (va_up I (u + 3) (I (u + 1))) (u + 1)
  rw [qa_up_n _ _ (show u + 1 ≠ u + 3 by omega)] at e
  rw [e]
theorem qm_start : va_up (va_up I (u + 3) (I (u + 1))) (u + 1) (I (u + 1)) = va_up I (u + 3) (I (u + 1)) := by
  have e := qa_uI (va_up I (u + 3) (I (u + 1))) (u + 1)
  rw [qa_up_n _ _ (show u + 1 ≠ u + 3 by omega)] at e
  exact e
theorem qs_MO_answers2 (hM : qp_MO K R u) (hC : qp_MC (I (u + 5)) nk pm T ni fs hd) (hv : qv_S B (I (u + 1))) (hi : i < ni) (hr : r = 0 ∨ r = 1) : qa_ex (d + 15) 185 [qa_a (some u), qa_i (nI i), qa_i (nI r)] (K, I, R, n, z) = some (none, (K, va_up I (u + 1) (qF_step nk pm T fs (i + 1) r (I (u + 1))), R, n, z)) := by
  obtain ⟨c1, c2, c3, c4, c5, c6, c7, c8, c9⟩ := hC
  obtain ⟨f1, f2, f3, f4⟩ := c9 i hi
  obtain ⟨v, v1, v2⟩ := (hv.2 (fs i) (by omega)).2.2.1
  rw [qs_MO_answers hM c1 c3 c7 hr (show i < 12 by omega) f1 f3 (qv_SE hv) v1 v2, qF_ans_c (nk := nk) (r := r) (k := fs i) (i := i) (ps := fun k => I (u + 5) (2 + k)) (ps' := fun k => nI (pm k)) (rq := fun k => qt_rq (T k)) (rq' := fun k => qt_rq (T k)) (s := I (u + 1)) (fun k hk => (c6 k hk).1) rfl]
  rfl
/-- the same while something is tried: s stands in the row -/
theorem qt_answers (hM : qp_MO K R u) (hC : qp_MC (I (u + 5)) nk pm T ni fs hd) (hv : qv_S B s) (hi : i < ni) (hr : r = 0 ∨ r = 1) : qa_ex (d + 15) 185 [qa_a (some u), qa_i (nI i), qa_i (nI r)] (K, va_up (va_up I (u + 3) (I (u + 1))) (u + 1) s, R, n, z) = some (none, (K, va_up (va_up I (u + 3) (I (u + 1))) (u + 1) (qF_step nk pm T fs (i + 1) r s), R, n, z)) := by
  have e1 := qs_MO_answers2 (d := d) (I := va_up (va_up I (u + 3) (I (u + 1))) (u + 1) s) (n := n) (z := z) (nk := nk) (pm := pm) (T := T) (ni := ni) (fs := fs) (hd := hd) (B := B) hM (by rw [qa_up_n _ _ (by omega), qa_up_n _ _ (by omega)]; exact hC) (by rw [qa_up_s]; exact hv) hi hr
  rw [qa_up_s, qa_uu] at e1
  exact e1
theorem qt_advised (hM : qp_MO K R u) (hC : qp_MC (I (u + 5)) nk pm T ni fs hd) (hv : qv_S B s) (hB : B < 1000000) (hw : w < 4) : qa_ex (d + 19) 203 [qa_a (some u), qa_i (nI w)] (K, va_up (va_up I (u + 3) (I (u + 1))) (u + 1) s, R, n, z) = some (some (qa_i (qe_v (qA_ad s (fun k => nI (pm k)) T nk ni fs hd w))), (K, va_up (va_up I (u + 3) (I (u + 1))) (u + 1) s, R, n, z)) := by
  have e1 := qs_MO_advised (d := d) (I := va_up (va_up I (u + 3) (I (u + 1))) (u + 1) s) (n := n) (z := z) (nk := nk) (pm := pm) (T := T) (ni := ni) (fs := fs) (hd := hd) (B := B) hM (by rw [qa_up_n _ _ (by omega), qa_up_n _ _ (by omega)]; exact hC) (by rw [qa_up_s]; exact hv) hB hw
  rw [qa_up_s] at e1
  exact e1
theorem qt_passes (hM : qp_MO K R u) (hC : qp_MC (I (u + 5)) nk pm T ni fs hd) (hv : qv_S B s) (hB : B < 1000000) : qa_ex (d + 3) 183 [qa_a (some u)] (K, va_up (va_up I (u + 3) (I (u + 1))) (u + 1) s, R, n, z) = some (none, (K, va_up (va_up I (u + 3) (I (u + 1))) (u + 1) (qF_pas s nk), R, n, z)) := by
  have e1 := qs_MO_passes (d := d) (I := va_up (va_up I (u + 3) (I (u + 1))) (u + 1) s) (R := R) (n := n) (z := z) (nk := nk) (B := B) hM (by rw [qa_up_n _ _ (by omega), qa_up_n _ _ (by omega)]; exact hC.1) hC.2.2.1 hB (by rw [qa_up_s]; exact hv)
  rw [qa_up_s, qa_uu] at e1
  exact e1
theorem qs_MO_path (hM : qp_MO K R u) (hC : qp_MC (I (u + 5)) nk pm T ni fs hd) (hv : qv_S B (I (u + 1))) (hB : B < 900000) (hZ : qv_Z (I (u + 1))) (hZa : qv_Z (I (u + 3))) (hj : j < 12) : qa_ex (d + 20) 213 [qa_a (some u), qa_i (nI j)] (K, I, R, n, z) = some (some (qa_i (qe_v (qA_l nk pm T ni fs hd (qF_pn nk pm T ni fs hd (I (u + 1)) j)))), (K, va_up I (u + 3) (I (u + 1)), R, n, z)) := by
  have hM' := hM
  have k10 := hC.2.2.1
  have i12 := hC.2.2.2.2.1
  have hfi : ∀ i, i < ni → fs i < nk := fun i hi => (hC.2.2.2.2.2.2.2.2 i hi).2.2.1
  obtain ⟨m0, ⟨s1, s2, s3⟩, ⟨b1, b2, b3⟩, ⟨a1, a2, a3⟩, -⟩ := hM
  have loop : ∀ m k, k + m = j → qv_S (B + k) (qF_pn nk pm T ni fs hd (I (u + 1)) k) → qv_Z (qF_pn nk pm T ni fs hd (I (u + 1)) k) → qa_run (d + 19) 213 34 [qa_a (some u), qa_i (nI j), qa_i (qe_v (qA_l nk pm T ni fs hd (qF_pn nk pm T ni fs hd (I (u + 1)) k))), qa_i (nI k)] [] [] (K, va_up (va_up I (u + 3) (I (u + 1))) (u + 1) (qF_pn nk pm T ni fs hd (I (u + 1)) k), R, n, z) = some (some (qa_i (qe_v (qA_l nk pm T ni fs hd (qF_pn nk pm T ni fs hd (I (u + 1)) j)))), (K, va_up I (u + 3) (I (u + 1)), R, n, z)) := by
    intro m
    induction m with
    | zero =>
      intro k hk h1 h2
      have hk : k = j := by omega
      subst hk
      have e1 := qm_back (d := d + 18) (R := R) (n := n) (z := z) hM' hZ h2
      have hle := qA_l_le (nk := nk) (pm := pm) (T := T) (ni := ni) (fs := fs) (hd := hd) (s := qF_pn nk pm T ni fs hd (I (u + 1)) k)
      generalize qA_l nk pm T ni fs hd (qF_pn nk pm T ni fs hd (I (u + 1)) k) = e at hle ⊢
      rw [qr_213_34]
      cases e with
      | zero => simp (disch := first | assumption | omega | exact Or.inl rfl | exact Or.inr rfl | exact qb_01) only [qr_213_0, qr_213_1, qr_213_2, qr_213_4, qr_213_7, qr_213_10, qr_213_12, qr_213_13, qr_213_14, qr_213_17, qr_213_18, qr_213_21, qr_213_23, qr_213_26, qr_213_27, qr_213_28, qr_213_31, qr_213_32, qr_213_33, qr_213_35, qr_213_36, qr_213_39, qr_213_40, qr_213_43, qr_213_44, qr_213_45, qr_213_46, qr_213_49, qr_213_50, qr_213_51, qr_213_54, qr_213_55, qr_213_58, qr_213_61, qr_213_62, qr_213_65, qr_213_66, qr_213_69, qr_213_71, qr_213_74, qr_213_75, qr_213_78, qr_213_79, qr_213_82, qr_213_83, true_and, and_true, false_and, and_false, Option.bind_some, Option.toList_some, Option.toList_none, List.nil_append, List.cons_append, if_true, if_false, ite_true, ite_false, not_true_eq_false, not_false_eq_true, qn_lt0, qn_ge0, qn_lt, qn_le, qn_eq, qn_e0, qn_gt0, qn_le0, qn_m1, nI_add, pk_mul, qb_e0, Classical.not_not, Nat.le_refl, a3, s3, e1, qe_v0, qn_m1z]
      | succ e => simp (disch := first | assumption | omega | exact Or.inl rfl | exact Or.inr rfl | exact qb_01) only [qr_213_0, qr_213_1, qr_213_2, qr_213_4, qr_213_7, qr_213_10, qr_213_12, qr_213_13, qr_213_14, qr_213_17, qr_213_18, qr_213_21, qr_213_23, qr_213_26, qr_213_27, qr_213_28, qr_213_31, qr_213_32, qr_213_33, qr_213_35, qr_213_36, qr_213_39, qr_213_40, qr_213_43, qr_213_44, qr_213_45, qr_213_46, qr_213_49, qr_213_50, qr_213_51, qr_213_54, qr_213_55, qr_213_58, qr_213_61, qr_213_62, qr_213_65, qr_213_66, qr_213_69, qr_213_71, qr_213_74, qr_213_75, qr_213_78, qr_213_79, qr_213_82, qr_213_83, true_and, and_true, false_and, and_false, Option.bind_some, Option.toList_some, Option.toList_none, List.nil_append, List.cons_append, if_true, if_false, ite_true, ite_false, not_true_eq_false, not_false_eq_true, qn_lt0, qn_ge0, qn_lt, qn_le, qn_eq, qn_e0, qn_gt0, qn_le0, qn_m1, nI_add, pk_mul, qb_e0, Classical.not_not, Nat.le_refl, a3, s3, e1, qe_vs]
    | succ m ih =>
      intro k hk h1 h2
      have e0 : ¬ j ≤ k := by omega
      have hle := qA_l_le (nk := nk) (pm := pm) (T := T) (ni := ni) (fs := fs) (hd := hd) (s := qF_pn nk pm T ni fs hd (I (u + 1)) k)
      by_cases hl : qA_l nk pm T ni fs hd (qF_pn nk pm T ni fs hd (I (u + 1)) k) = 0
      · have hst := qF_pn_stop hl (m + 1)
        rw [show k + (m + 1) = j by omega] at hst
        have e1 := qm_back (d := d + 18) (R := R) (n := n) (z := z) hM' hZ h2
        rw [hst, hl, qe_v0, qr_213_34]
        simp (disch := first | assumption | omega | exact Or.inl rfl | exact Or.inr rfl | exact qb_01) only [qr_213_0, qr_213_1, qr_213_2, qr_213_4, qr_213_7, qr_213_10, qr_213_12, qr_213_13, qr_213_14, qr_213_17, qr_213_18, qr_213_21, qr_213_23, qr_213_26, qr_213_27, qr_213_28, qr_213_31, qr_213_32, qr_213_33, qr_213_35, qr_213_36, qr_213_39, qr_213_40, qr_213_43, qr_213_44, qr_213_45, qr_213_46, qr_213_49, qr_213_50, qr_213_51, qr_213_54, qr_213_55, qr_213_58, qr_213_61, qr_213_62, qr_213_65, qr_213_66, qr_213_69, qr_213_71, qr_213_74, qr_213_75, qr_213_78, qr_213_79, qr_213_82, qr_213_83, true_and, and_true, false_and, and_false, Option.bind_some, Option.toList_some, Option.toList_none, List.nil_append, List.cons_append, if_true, if_false, ite_true, ite_false, not_true_eq_false, not_false_eq_true, qn_lt0, qn_ge0, qn_lt, qn_le, qn_eq, qn_e0, qn_gt0, qn_le0, qn_m1, nI_add, pk_mul, qb_e0, Classical.not_not, e0, a3, s3, e1, qn_m1z, qn_m1l]
      · have hstp : qF_pn nk pm T ni fs hd (I (u + 1)) (k + 1) = qF_step nk pm T fs (qA_l nk pm T ni fs hd (qF_pn nk pm T ni fs hd (I (u + 1)) k)) 1 (qF_pn nk pm T ni fs hd (I (u + 1)) k) := if_neg hl
        have h3 : qv_S (B + (k + 1)) (qF_pn nk pm T ni fs hd (I (u + 1)) (k + 1)) := by rw [hstp]; exact qv_S_step h1 k10 hle hfi
        have h4 : qv_Z (qF_pn nk pm T ni fs hd (I (u + 1)) (k + 1)) := by rw [hstp]; exact qv_Z_step h2 k10 i12 hle hfi
        have e2 := ih (k + 1) (by omega) h3 h4
        have e5 := qt_advised (d := d) (I := I) (n := n) (z := z) (w := 1) hM' hC h3 (by omega) (by omega)
        rw [qA_ad_1, show qA_it (qF_pn nk pm T ni fs hd (I (u + 1)) (k + 1)) fs hd ni (qA_ln (qF_pn nk pm T ni fs hd (I (u + 1)) (k + 1)) (fun k => nI (pm k)) T nk ni fs hd nk) = qA_l nk pm T ni fs hd (qF_pn nk pm T ni fs hd (I (u + 1)) (k + 1)) from rfl] at e5
        obtain ⟨e, he⟩ : ∃ e, qA_l nk pm T ni fs hd (qF_pn nk pm T ni fs hd (I (u + 1)) k) = e + 1 := ⟨_, (Nat.succ_pred_eq_of_ne_zero hl).symm⟩
        have e4 := qt_answers (d := d + 4) (I := I) (n := n) (z := z) (i := e) (r := 1) hM' hC h1 (by omega) (Or.inr rfl)
        rw [← he, ← hstp] at e4
        rw [he, qe_vs, qr_213_34]
        simp (disch := first | assumption | omega | exact Or.inl rfl | exact Or.inr rfl | exact qb_01) only [qr_213_0, qr_213_1, qr_213_2, qr_213_4, qr_213_7, qr_213_10, qr_213_12, qr_213_13, qr_213_14, qr_213_17, qr_213_18, qr_213_21, qr_213_23, qr_213_26, qr_213_27, qr_213_28, qr_213_31, qr_213_32, qr_213_33, qr_213_35, qr_213_36, qr_213_39, qr_213_40, qr_213_43, qr_213_44, qr_213_45, qr_213_46, qr_213_49, qr_213_50, qr_213_51, qr_213_54, qr_213_55, qr_213_58, qr_213_61, qr_213_62, qr_213_65, qr_213_66, qr_213_69, qr_213_71, qr_213_74, qr_213_75, qr_213_78, qr_213_79, qr_213_82, qr_213_83, true_and, and_true, false_and, and_false, Option.bind_some, Option.toList_some, Option.toList_none, List.nil_append, List.cons_append, if_true, if_false, ite_true, ite_false, not_true_eq_false, not_false_eq_true, qn_lt0, qn_ge0, qn_lt, qn_le, qn_eq, qn_e0, qn_gt0, qn_le0, qn_m1, nI_add, pk_mul, qb_e0, Classical.not_not, e0, e4, e5]
        exact e2
  have e1 := qm_aside (d := d + 18) (I := I) (n := n) (z := z) hM' hZ hZa
  have e3 := qt_advised (d := d) (I := I) (n := n) (z := z) (w := 1) hM' hC hv (by omega) (by omega)
  rw [qm_start, qA_ad_1] at e3
  have e2 := loop j 0 (by omega) hv hZ
  rw [show qF_pn nk pm T ni fs hd (I (u + 1)) 0 = I (u + 1) from rfl, qm_start] at e2
  have e4 : ¬ 11 < j := by omega
  simp (disch := first | assumption | omega | exact Or.inl rfl | exact Or.inr rfl | exact qb_01) only [qe_213, qr_213_0, qr_213_1, qr_213_2, qr_213_4, qr_213_7, qr_213_10, qr_213_12, qr_213_13, qr_213_14, qr_213_17, qr_213_18, qr_213_21, qr_213_23, qr_213_26, qr_213_27, qr_213_28, qr_213_31, qr_213_32, qr_213_33, qr_213_35, qr_213_36, qr_213_39, qr_213_40, qr_213_43, qr_213_44, qr_213_45, qr_213_46, qr_213_49, qr_213_50, qr_213_51, qr_213_54, qr_213_55, qr_213_58, qr_213_61, qr_213_62, qr_213_65, qr_213_66, qr_213_69, qr_213_71, qr_213_74, qr_213_75, qr_213_78, qr_213_79, qr_213_82, qr_213_83, true_and, and_true, false_and, and_false, Option.bind_some, Option.toList_some, Option.toList_none, List.nil_append, List.cons_append, if_true, if_false, ite_true, ite_false, not_true_eq_false, not_false_eq_true, qn_lt0, qn_ge0, qn_lt, qn_le, qn_eq, qn_e0, qn_gt0, qn_le0, qn_m1, nI_add, pk_mul, qb_e0, Classical.not_not, Nat.reduceEqDiff, Nat.reduceLT, Nat.reduceLeDiff, Nat.not_lt_zero, Nat.zero_le, qs_MO_isIn, e4, s3, a3, e1, e3]
  exact e2
theorem qs_MO_whatIf (hM : qp_MO K R u) (hC : qp_MC (I (u + 5)) nk pm T ni fs hd) (hv : qv_S B (I (u + 1))) (hB : B < 900000) (hZ : qv_Z (I (u + 1))) (hZa : qv_Z (I (u + 3))) (hi : i < ni) (hk : k < nk) (hr : r = 0 ∨ r = 1) (hw : w = 0 ∨ w = 1) (ho : qs_op (I (u + 1)) i = true) {v0 v1 : Nat} (h0 : qF_step nk pm T fs (i + 1) r (I (u + 1)) (1 + 9 * k + 0) = nI v0) (h1 : qF_step nk pm T fs (i + 1) r (I (u + 1)) (1 + 9 * k + 1) = nI v1) (hv0 : v0 ≤ 480) (hv1 : v1 ≤ 480) : qa_ex (d + 16) 214 [qa_a (some u), qa_i (nI i), qa_i (nI r), qa_i (nI k), qa_i (nI w)] (K, I, R, n, z) = some (some (qa_i (qF_pm v0 v1 w)), (K, va_up I (u + 3) (I (u + 1)), R, n, z)) := by
  have hM' := hM
  have k10 := hC.2.2.1
  have i12 := hC.2.2.2.2.1
  have hfi : ∀ i, i < ni → fs i < nk := fun i hi => (hC.2.2.2.2.2.2.2.2 i hi).2.2.1
  obtain ⟨m0, ⟨s1, s2, s3⟩, ⟨b1, b2, b3⟩, ⟨a1, a2, a3⟩, -⟩ := hM
  have e1 := qm_aside (d := d + 14) (I := I) (n := n) (z := z) hM' hZ hZa
  have e2 := qt_answers (d := d) (I := I) (n := n) (z := z) (i := i) (r := r) hM' hC hv hi hr
  rw [qm_start] at e2
  have e3 := qm_back (d := d + 14) (R := R) (n := n) (z := z) hM' hZ (qv_Z_step (e := i + 1) (r := r) (pm := pm) (T := T) hZ k10 i12 (by omega) hfi)
  have e4 := qs_MO_partOfMastery (d := d + 12) (I := va_up (va_up I (u + 3) (I (u + 1))) (u + 1) (qF_step nk pm T fs (i + 1) r (I (u + 1)))) (n := n) (z := z) (k := k) (w := w) hM' (by omega) (by rw [qa_up_s]; exact h0) (by rw [qa_up_s]; exact h1) hv0 hv1 hw
  have g1 : ¬ ni ≤ i := by omega
  have g2 : ¬ nk ≤ k := by omega
  have g3 : ¬ 1 < r := by omega
  have g4 : ¬ 1 < w := by omega
  have hi12 : i < 12 := by omega
  simp (disch := first | assumption | omega | exact Or.inl rfl | exact Or.inr rfl | exact qb_01) only [qe_214, qr_214_0, qr_214_1, qr_214_2, qr_214_5, qr_214_8, qr_214_9, qr_214_10, qr_214_13, qr_214_16, qr_214_17, qr_214_18, qr_214_19, qr_214_20, qr_214_21, qr_214_24, qr_214_27, qr_214_29, qr_214_30, qr_214_31, qr_214_34, qr_214_37, qr_214_39, qr_214_40, qr_214_41, qr_214_42, qr_214_45, qr_214_48, qr_214_50, qr_214_51, qr_214_52, qr_214_55, qr_214_56, qr_214_59, qr_214_61, qr_214_64, qr_214_65, qr_214_66, qr_214_67, qr_214_70, qr_214_71, qr_214_72, qr_214_74, qr_214_77, qr_214_79, qr_214_80, qr_214_83, qr_214_84, qr_214_87, qr_214_89, qr_214_92, qr_214_94, true_and, and_true, false_and, and_false, Option.bind_some, Option.toList_some, Option.toList_none, List.nil_append, List.cons_append, if_true, if_false, ite_true, ite_false, not_true_eq_false, not_false_eq_true, qn_lt0, qn_ge0, qn_lt, qn_le, qn_eq, qn_e0, qn_gt0, qn_le0, qn_m1, nI_add, pk_mul, qb_e0, Classical.not_not, Nat.reduceEqDiff, Nat.reduceLT, Nat.reduceLeDiff, Nat.not_lt_zero, Nat.zero_le, qs_MO_isIn, g1, g2, g3, g4, qs_MO_isItem hM' hC.2.2.2.1 i12, qs_MO_isSkill hM' hC.1 k10, qs_MO_isOpen2 hM' hi12, ho, s3, a3, e1, e2, e3, e4]
theorem qs_MO_bits2 {g : Nat → Bool} (h10 : nk ≤ 10) : qa_ex (d + 1) 217 [qa_i (qf_ms g nk)] h = some (some (qa_i (qf_bc (qf_ms g nk))), h) := by
  obtain ⟨v, hv, he⟩ := qf_ms_v (g := g) h10
  rw [he, qf_bc_v v hv]
  exact qs_MO_bits hv
theorem qv_S_m (h10 : nk ≤ 10) (hfi : ∀ i, i < ni → fs i < nk) : ∀ {j B : Nat} {s : Nat → Int32}, qv_S B s → qv_S (B + j) (qF_m nk pm T ni fs hd j s).1 := by
  intro j
  induction j with
  | zero => intro B s h; exact h
  | succ j ih =>
    intro B s h
    unfold qF_m
    split
    · exact qv_S_mono h (by omega)
    · have := ih (qv_S_step (e := qA_m nk pm T ni fs hd s) (r := 1) (pm := pm) (T := T) h h10 qA_m_le hfi)
      rw [show B + (j + 1) = B + 1 + j by omega]
      exact this
theorem qv_Z_m (h10 : nk ≤ 10) (h12 : ni ≤ 12) (hfi : ∀ i, i < ni → fs i < nk) : ∀ {j : Nat} {s : Nat → Int32}, qv_Z s → qv_Z (qF_m nk pm T ni fs hd j s).1 := by
  intro j
  induction j with
  | zero => intro s h; exact h
  | succ j ih =>
    intro s h
    unfold qF_m
    split
    · exact h
    · exact ih (qv_Z_step h h10 h12 qA_m_le hfi)
theorem qs_MO_replayed (hM : qp_MO K R u) (hC : qp_MC (I (u + 5)) nk pm T ni fs hd) (hv : qv_S B (I (u + 2))) (hB : B < 900000) (hZ : qv_Z (I (u + 1))) (hZb : qv_Z (I (u + 2))) (hZa : qv_Z (I (u + 3))) (hg : I u 12 = nI g) (hg60 : g ≤ 60) (hl : ∀ j, j < g → I (u + 9) j = qe_v (el j) ∧ I (u + 10) j = nI (er j)) (he : ∀ j, j < g → el j ≤ ni ∧ (er j = 0 ∨ er j = 1)) (hk : k < nk) (hw : w = 0 ∨ w = 1) : qa_ex (d + 17) 224 [qa_a (some u), qa_i (nI k), qa_i (nI w)] (K, I, R, n, z) = some (some (qa_i (qF_rep nk pm T fs el er (I (u + 2)) g (1 + 9 * k + w))), (K, va_up I (u + 3) (I (u + 1)), R, n, z)) := by
  have hM' := hM
  have k10 := hC.2.2.1
  have i12 := hC.2.2.2.2.1
  have hfi : ∀ i, i < ni → fs i < nk := fun i hi => (hC.2.2.2.2.2.2.2.2 i hi).2.2.1
  obtain ⟨m0, ⟨s1, s2, s3⟩, ⟨b1, b2, b3⟩, ⟨a1, a2, a3⟩, -, ⟨c1, c2, c3⟩, -, -, -, ⟨l1, l2, l3⟩, ⟨r1, r2, r3⟩, -⟩ := hM
  have loop : ∀ m j, j + m = g → qv_S (B + j) (qF_rep nk pm T fs el er (I (u + 2)) j) → qv_Z (qF_rep nk pm T fs el er (I (u + 2)) j) → qa_run (d + 16) 224 50 [qa_a (some u), qa_i (nI k), qa_i (nI w), qa_i (nI j)] [] [] (K, va_up (va_up I (u + 3) (I (u + 1))) (u + 1) (qF_rep nk pm T fs el er (I (u + 2)) j), R, n, z) = some (some (qa_i (qF_rep nk pm T fs el er (I (u + 2)) g (1 + 9 * k + w))), (K, va_up I (u + 3) (I (u + 1)), R, n, z)) := by
    intro m
    induction m with
    | zero =>
      intro j hj h1 h2
      have hj : j = g := by omega
      subst hj
      have e1 := qm_back (d := d + 15) (R := R) (n := n) (z := z) hM' hZ h2
      rw [qr_224_50]
      simp (disch := first | assumption | omega | exact Or.inl rfl | exact Or.inr rfl | exact qb_01) only [qr_224_0, qr_224_1, qr_224_2, qr_224_5, qr_224_8, qr_224_9, qr_224_10, qr_224_11, qr_224_12, qr_224_13, qr_224_16, qr_224_19, qr_224_21, qr_224_22, qr_224_23, qr_224_26, qr_224_27, qr_224_30, qr_224_32, qr_224_35, qr_224_36, qr_224_39, qr_224_40, qr_224_43, qr_224_45, qr_224_48, qr_224_49, qr_224_51, qr_224_52, qr_224_55, qr_224_58, qr_224_59, qr_224_60, qr_224_63, qr_224_64, qr_224_65, qr_224_66, qr_224_69, qr_224_70, qr_224_71, qr_224_74, qr_224_77, qr_224_80, qr_224_81, qr_224_84, qr_224_85, qr_224_86, qr_224_89, qr_224_90, qr_224_91, qr_224_92, qr_224_95, qr_224_96, qr_224_99, qr_224_101, qr_224_104, qr_224_105, true_and, and_true, false_and, and_false, Option.bind_some, Option.toList_some, Option.toList_none, List.nil_append, List.cons_append, if_true, if_false, ite_true, ite_false, not_true_eq_false, not_false_eq_true, qn_lt0, qn_ge0, qn_lt, qn_le, qn_eq, qn_e0, qn_gt0, qn_le0, qn_m1, nI_add, pk_mul, qb_e0, Classical.not_not, qa_up_s, qa_up_n, qa_uu, Nat.le_refl, hg, s3, a3, qs_MO_of, e1]
    | succ m ih =>
      intro j hj h1 h2
      have e0 : ¬ g ≤ j := by omega
      obtain ⟨q1, q2⟩ := he j (by omega)
      obtain ⟨q3, q4⟩ := hl j (by omega)
      have e2 := ih (j + 1) (by omega) (qv_S_step h1 k10 q1 hfi) (qv_Z_step h2 k10 i12 q1 hfi)
      have e3 := qs_MO_applies (d := d) (I := va_up (va_up I (u + 3) (I (u + 1))) (u + 1) (qF_rep nk pm T fs el er (I (u + 2)) j)) (n := n) (z := z) (nk := nk) (pm := pm) (T := T) (ni := ni) (fs := fs) (hd := hd) (B := B + j) (e := el j) (r := er j) hM' (by rw [qa_up_n _ _ (by omega), qa_up_n _ _ (by omega)]; exact hC) (by omega) (by rw [qa_up_s]; exact h1) q1 q2
      rw [qa_up_s, qa_uu] at e3
      rw [qr_224_50]
      simp (disch := first | assumption | omega | exact Or.inl rfl | exact Or.inr rfl | exact qb_01) only [qr_224_0, qr_224_1, qr_224_2, qr_224_5, qr_224_8, qr_224_9, qr_224_10, qr_224_11, qr_224_12, qr_224_13, qr_224_16, qr_224_19, qr_224_21, qr_224_22, qr_224_23, qr_224_26, qr_224_27, qr_224_30, qr_224_32, qr_224_35, qr_224_36, qr_224_39, qr_224_40, qr_224_43, qr_224_45, qr_224_48, qr_224_49, qr_224_51, qr_224_52, qr_224_55, qr_224_58, qr_224_59, qr_224_60, qr_224_63, qr_224_64, qr_224_65, qr_224_66, qr_224_69, qr_224_70, qr_224_71, qr_224_74, qr_224_77, qr_224_80, qr_224_81, qr_224_84, qr_224_85, qr_224_86, qr_224_89, qr_224_90, qr_224_91, qr_224_92, qr_224_95, qr_224_96, qr_224_99, qr_224_101, qr_224_104, qr_224_105, true_and, and_true, false_and, and_false, Option.bind_some, Option.toList_some, Option.toList_none, List.nil_append, List.cons_append, if_true, if_false, ite_true, ite_false, not_true_eq_false, not_false_eq_true, qn_lt0, qn_ge0, qn_lt, qn_le, qn_eq, qn_e0, qn_gt0, qn_le0, qn_m1, nI_add, pk_mul, qb_e0, Classical.not_not, qa_up_s, qa_up_n, qa_uu, e0, hg, l3, r3, q3, q4, e3]
      exact e2
  have e1 := qm_aside (d := d + 15) (I := I) (n := n) (z := z) hM' hZ hZa
  have e2 := qs_MO_copies (d := d + 15) (I := va_up I (u + 3) (I (u + 1))) (R := R) (n := n) (z := z) (m := 127) (show u + 2 ≠ u + 1 by omega) b1 s1 (by omega) (by omega) (by omega)
  rw [qa_up_n _ _ (show u + 2 ≠ u + 3 by omega), qa_up_n _ _ (show u + 1 ≠ u + 3 by omega), qf_cpy_Z hZb hZ] at e2
  have e3 := loop g 0 (by omega) hv hZb
  have g2 : ¬ nk ≤ k := by omega
  have g4 : ¬ 1 < w := by omega
  simp (disch := first | assumption | omega | exact Or.inl rfl | exact Or.inr rfl | exact qb_01) only [qe_224, qr_224_0, qr_224_1, qr_224_2, qr_224_5, qr_224_8, qr_224_9, qr_224_10, qr_224_11, qr_224_12, qr_224_13, qr_224_16, qr_224_19, qr_224_21, qr_224_22, qr_224_23, qr_224_26, qr_224_27, qr_224_30, qr_224_32, qr_224_35, qr_224_36, qr_224_39, qr_224_40, qr_224_43, qr_224_45, qr_224_48, qr_224_49, qr_224_51, qr_224_52, qr_224_55, qr_224_58, qr_224_59, qr_224_60, qr_224_63, qr_224_64, qr_224_65, qr_224_66, qr_224_69, qr_224_70, qr_224_71, qr_224_74, qr_224_77, qr_224_80, qr_224_81, qr_224_84, qr_224_85, qr_224_86, qr_224_89, qr_224_90, qr_224_91, qr_224_92, qr_224_95, qr_224_96, qr_224_99, qr_224_101, qr_224_104, qr_224_105, true_and, and_true, false_and, and_false, Option.bind_some, Option.toList_some, Option.toList_none, List.nil_append, List.cons_append, if_true, if_false, ite_true, ite_false, not_true_eq_false, not_false_eq_true, qn_lt0, qn_ge0, qn_lt, qn_le, qn_eq, qn_e0, qn_gt0, qn_le0, qn_m1, nI_add, pk_mul, qb_e0, Classical.not_not, Nat.reduceEqDiff, Nat.reduceLT, Nat.reduceLeDiff, Nat.not_lt_zero, Nat.zero_le, qs_MO_isIn, g2, g4, qs_MO_isSkill hM' hC.1 k10, s3, a3, b3, e1, e2]
  exact e3
theorem qs_MO_lasting (hM : qp_MO K R u) (hC : qp_MC (I (u + 5)) nk pm T ni fs hd) (hv : qv_S B (I (u + 1))) (hB : B < 900000) (hZ : qv_Z (I (u + 1))) (hZa : qv_Z (I (u + 3))) (hk : k < nk) (hg : qs_g (I (u + 1)) (fun k => nI (pm k)) k = true) : qa_ex (d + 4) 218 [qa_a (some u), qa_i (nI k)] (K, I, R, n, z) = some (some (qa_i (nI (qF_la (qF_lg (I (u + 1)) k (pm k)) 200 0))), (K, va_up I (u + 3) (I (u + 1)), R, n, z)) := by
  have hM' := hM
  have k10 := hC.2.2.1
  have i12 := hC.2.2.2.2.1
  obtain ⟨m0, ⟨s1, s2, s3⟩, ⟨b1, b2, b3⟩, ⟨a1, a2, a3⟩, -, ⟨c1, c2, c3⟩, -⟩ := hM
  have hps : ∀ m, qv_S (B + m) (qF_ps nk (I (u + 1)) m) ∧ qv_Z (qF_ps nk (I (u + 1)) m) := by
    intro m
    induction m with
    | zero => exact ⟨hv, hZ⟩
    | succ m ih => exact ⟨qv_S_pas ih.1 k10, qv_Z_pas ih.2 k10⟩
  have hms : ∀ dd m, qa_ex (dd + 2) 188 [qa_a (some u), qa_i (nI k)] (K, va_up (va_up I (u + 3) (I (u + 1))) (u + 1) (qF_ps nk (I (u + 1)) m), R, n, z) = some (some (qa_i (qa_bi (qF_lg (I (u + 1)) k (pm k) m = true))), (K, va_up (va_up I (u + 3) (I (u + 1))) (u + 1) (qF_ps nk (I (u + 1)) m), R, n, z)) := by
    intro dd m
    rw [qs_MO_isMastered hM' (by omega), qa_up_s, qa_up_n _ _ (show u + 5 ≠ u + 1 by omega), qa_up_n _ _ (show u + 5 ≠ u + 3 by omega), (hC.2.2.2.2.2.1 k hk).1, qF_ps_sk hk (by omega), qF_ps_sk hk (by omega)]
    rfl
  have loop : ∀ j m, m + j = 200 → qa_run (d + 3) 218 33 [qa_a (some u), qa_i (nI k), qa_i (nI m)] [] [] (K, va_up (va_up I (u + 3) (I (u + 1))) (u + 1) (qF_ps nk (I (u + 1)) (m + 1)), R, n, z) = some (some (qa_i (nI (qF_la (qF_lg (I (u + 1)) k (pm k)) j m))), (K, va_up I (u + 3) (I (u + 1)), R, n, z)) := by
    intro j
    induction j with
    | zero =>
      intro m hm
      have hm : m = 200 := by omega
      subst hm
      have e1 := qm_back (d := d + 2) (R := R) (n := n) (z := z) hM' hZ (hps 201).2
      rw [qr_218_33]
      simp (disch := first | assumption | omega | exact Or.inl rfl | exact Or.inr rfl | exact qb_01) only [qr_218_0, qr_218_1, qr_218_2, qr_218_5, qr_218_8, qr_218_9, qr_218_10, qr_218_13, qr_218_16, qr_218_17, qr_218_18, qr_218_19, qr_218_22, qr_218_23, qr_218_26, qr_218_28, qr_218_31, qr_218_32, qr_218_34, qr_218_37, qr_218_40, qr_218_41, qr_218_42, qr_218_45, qr_218_48, qr_218_49, qr_218_52, qr_218_55, qr_218_58, qr_218_59, qr_218_62, qr_218_63, qr_218_66, qr_218_68, qr_218_71, qr_218_72, true_and, and_true, false_and, and_false, Option.bind_some, Option.toList_some, Option.toList_none, List.nil_append, List.cons_append, if_true, if_false, ite_true, ite_false, not_true_eq_false, not_false_eq_true, qn_lt0, qn_ge0, qn_lt, qn_le, qn_eq, qn_e0, qn_gt0, qn_le0, qn_m1, nI_add, pk_mul, qb_e0, Classical.not_not, Nat.le_refl, s3, a3, e1]
      rfl
    | succ j ih =>
      intro m hm
      have e0 : ¬ 200 ≤ m := by omega
      unfold qF_la
      by_cases hq : qF_lg (I (u + 1)) k (pm k) (m + 1) = true
      · have e2 := ih (m + 1) (by omega)
        have e3 := qt_passes (d := d) (I := I) (n := n) (z := z) hM' hC (hps (m + 1)).1 (by omega)
        rw [if_pos hq, qr_218_33]
        simp (disch := first | assumption | omega | exact Or.inl rfl | exact Or.inr rfl | exact qb_01) only [qr_218_0, qr_218_1, qr_218_2, qr_218_5, qr_218_8, qr_218_9, qr_218_10, qr_218_13, qr_218_16, qr_218_17, qr_218_18, qr_218_19, qr_218_22, qr_218_23, qr_218_26, qr_218_28, qr_218_31, qr_218_32, qr_218_34, qr_218_37, qr_218_40, qr_218_41, qr_218_42, qr_218_45, qr_218_48, qr_218_49, qr_218_52, qr_218_55, qr_218_58, qr_218_59, qr_218_62, qr_218_63, qr_218_66, qr_218_68, qr_218_71, qr_218_72, true_and, and_true, false_and, and_false, Option.bind_some, Option.toList_some, Option.toList_none, List.nil_append, List.cons_append, if_true, if_false, ite_true, ite_false, not_true_eq_false, not_false_eq_true, qn_lt0, qn_ge0, qn_lt, qn_le, qn_eq, qn_e0, qn_gt0, qn_le0, qn_m1, nI_add, pk_mul, qb_e0, Classical.not_not, e0, hms, hq, e3]
        exact e2
      · have e1 := qm_back (d := d + 2) (R := R) (n := n) (z := z) hM' hZ (hps (m + 1)).2
        rw [if_neg hq, qr_218_33]
        simp (disch := first | assumption | omega | exact Or.inl rfl | exact Or.inr rfl | exact qb_01) only [qr_218_0, qr_218_1, qr_218_2, qr_218_5, qr_218_8, qr_218_9, qr_218_10, qr_218_13, qr_218_16, qr_218_17, qr_218_18, qr_218_19, qr_218_22, qr_218_23, qr_218_26, qr_218_28, qr_218_31, qr_218_32, qr_218_34, qr_218_37, qr_218_40, qr_218_41, qr_218_42, qr_218_45, qr_218_48, qr_218_49, qr_218_52, qr_218_55, qr_218_58, qr_218_59, qr_218_62, qr_218_63, qr_218_66, qr_218_68, qr_218_71, qr_218_72, true_and, and_true, false_and, and_false, Option.bind_some, Option.toList_some, Option.toList_none, List.nil_append, List.cons_append, if_true, if_false, ite_true, ite_false, not_true_eq_false, not_false_eq_true, qn_lt0, qn_ge0, qn_lt, qn_le, qn_eq, qn_e0, qn_gt0, qn_le0, qn_m1, nI_add, pk_mul, qb_e0, Classical.not_not, e0, hms, eq_false hq, s3, a3, e1]
  have e1 := qm_aside (d := d + 2) (I := I) (n := n) (z := z) hM' hZ hZa
  have e2 := loop 200 0 (by omega)
  have e3 := qt_passes (d := d) (I := I) (n := n) (z := z) hM' hC hv (by omega)
  have e4 := hms (d + 1) 0
  have hq0 : qF_lg (I (u + 1)) k (pm k) 0 = true := hg
  rw [show qF_ps nk (I (u + 1)) 0 = I (u + 1) from rfl, hq0] at e4
  rw [qm_start] at e3 e4
  have g2 : ¬ nk ≤ k := by omega
  have g5 : ¬ (nI 200 ≤ (-1 : Int32)) := by decide
  have g6 : (-1 : Int32) + nI 1 = nI 0 := by decide
  simp (disch := first | assumption | omega | exact Or.inl rfl | exact Or.inr rfl | exact qb_01) only [qe_218, qr_218_0, qr_218_1, qr_218_2, qr_218_5, qr_218_8, qr_218_9, qr_218_10, qr_218_13, qr_218_16, qr_218_17, qr_218_18, qr_218_19, qr_218_22, qr_218_23, qr_218_26, qr_218_28, qr_218_31, qr_218_32, qr_218_34, qr_218_37, qr_218_40, qr_218_41, qr_218_42, qr_218_45, qr_218_48, qr_218_49, qr_218_52, qr_218_55, qr_218_58, qr_218_59, qr_218_62, qr_218_63, qr_218_66, qr_218_68, qr_218_71, qr_218_72, true_and, and_true, false_and, and_false, Option.bind_some, Option.toList_some, Option.toList_none, List.nil_append, List.cons_append, if_true, if_false, ite_true, ite_false, not_true_eq_false, not_false_eq_true, qn_lt0, qn_ge0, qn_lt, qn_le, qn_eq, qn_e0, qn_gt0, qn_le0, qn_m1, nI_add, pk_mul, qb_e0, Classical.not_not, Nat.reduceEqDiff, Nat.reduceLT, Nat.reduceLeDiff, Nat.not_lt_zero, Nat.zero_le, g2, qs_MO_isSkill hM' hC.1 k10, qs_MO_isMastered2 hM' hC hk, hg, s3, a3, e1]
  rw [qr_218_33]
  simp (disch := first | assumption | omega | exact Or.inl rfl | exact Or.inr rfl | exact qb_01) only [qr_218_0, qr_218_1, qr_218_2, qr_218_5, qr_218_8, qr_218_9, qr_218_10, qr_218_13, qr_218_16, qr_218_17, qr_218_18, qr_218_19, qr_218_22, qr_218_23, qr_218_26, qr_218_28, qr_218_31, qr_218_32, qr_218_34, qr_218_37, qr_218_40, qr_218_41, qr_218_42, qr_218_45, qr_218_48, qr_218_49, qr_218_52, qr_218_55, qr_218_58, qr_218_59, qr_218_62, qr_218_63, qr_218_66, qr_218_68, qr_218_71, qr_218_72, true_and, and_true, false_and, and_false, Option.bind_some, Option.toList_some, Option.toList_none, List.nil_append, List.cons_append, if_true, if_false, ite_true, ite_false, not_true_eq_false, not_false_eq_true, qn_lt0, qn_ge0, qn_lt, qn_le, qn_eq, qn_e0, qn_gt0, qn_le0, qn_m1, nI_add, pk_mul, qb_e0, Classical.not_not, g5, e4, e3, g6]
  exact e2
end Q55
