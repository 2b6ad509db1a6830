/-! The class's log: a ring of sixty. -/
def qp_LG (K : Nat → Nat × Nat) (R : Nat → Nat → Option Nat) (w c : Nat) : Prop := K w = (8, 0) ∧ (K (w + 1)).1 = 100 ∧ (K (w + 1)).2 = 60 ∧ (K (w + 2)).1 = 100 ∧ (K (w + 2)).2 = 60 ∧ R w 0 = some (w + 1) ∧ R w 1 = some (w + 2) ∧ R w 2 = some (w + 3) ∧ qp_PR K R (w + 3) c
def qp_LS (I : Nat → Nat → Int32) (w f g : Nat) (el er : Nat → Nat) (b : Nat → Int32) : Prop := I w 3 = nI f ∧ f < 60 ∧ I w 4 = nI g ∧ g ≤ 60 ∧ (∀ j, j < g → I (w + 1) ((f + j) % 60) = qe_v (el j) ∧ I (w + 2) ((f + j) % 60) = nI (er j)) ∧ qp_PS I (w + 3) b
/-- entries, with one more; of sixty the first goes -/
def qL_e (g : Nat) (el : Nat → Nat) (e : Nat) : Nat → Nat := fun j => if g < 60 then (if j < g then el j else e) else (if j < 59 then el (j + 1) else e)
def qL_g (g : Nat) : Nat := if g < 60 then g + 1 else 60
def qL_b (nk : Nat) (pm : Nat → Nat) (T : Nat → qt_T) (fs : Nat → Nat) (g : Nat) (el er : Nat → Nat) (b : Nat → Int32) : Nat → Int32 := if g < 60 then b else qF_step nk pm T fs (el 0) (er 0) b
def qF_rep (nk : Nat) (pm : Nat → Nat) (T : Nat → qt_T) (fs : Nat → Nat) (el er : Nat → Nat) (b : Nat → Int32) : Nat → Nat → Int32
  | 0 => b
  | j + 1 => qF_step nk pm T fs (el j) (er j) (qF_rep nk pm T fs el er b j)
theorem qp_LS_cg {I I' : Nat → Nat → Int32} {w f g : Nat} {el er : Nat → Nat} {b : Nat → Int32} (h : qp_LS I w f g el er b) (he : ∀ a, w ≤ a → a < w + 19 → I' a = I a) : qp_LS I' w f g el er b := by
  obtain ⟨h1, h2, h3, h4, h5, h6⟩ := h
  refine ⟨?_, h2, ?_, h4, fun j hj => ?_, qp_PS_cg h6 (fun a h1 h2 => he a (by omega) (by omega))⟩
  · rw [he w (by omega) (by omega)]; exact h1
  · rw [he w (by omega) (by omega)]; exact h3
  · rw [he (w + 1) (by omega) (by omega), he (w + 2) (by omega) (by omega)]; exact h5 j hj
section Q45
variable {d a b f : Nat} {K : Nat → Nat × Nat} {I : Nat → Nat → Int32} {R : Nat → Nat → Option Nat} {n z : Nat} {x y : Int32} {h : qa_H} {u nk ni k i j m B p q c e g w v r : Nat} {s bs : Nat → Int32} {T : Nat → qt_T} {pm fs hd el er : Nat → Nat}
theorem qs_LG_itemAt (hL : qp_LG K R w v) (hS : qp_LS I w f g el er bs) (hj : j < g) : qa_ex (d + 1) 75 [qa_a (some w), qa_i (nI j)] (K, I, R, n, z) = some (some (qa_i (qe_v (el j))), (K, I, R, n, z)) := by
  obtain ⟨w0, w1, w2, w3, w4, r0, r1, r2, -⟩ := hL
  obtain ⟨f1, f2, g1, g2, hl, -⟩ := hS
  have n60 : ¬ nI 60 = 0 := by decide
  have hm := pk_rem (a := f + j) (d := 60) (by omega) (by omega) (by omega)
  have e1 : ¬ g ≤ j := by omega
  have hlt : (f + j) % 60 < 60 := Nat.mod_lt _ (by omega)
  simp (disch := first | assumption | omega | exact Or.inl rfl | exact Or.inr rfl | exact qb_01) only [qe_75, qr_75_0, qr_75_1, qr_75_4, qr_75_5, qr_75_6, qr_75_9, qr_75_12, qr_75_13, qr_75_16, qr_75_17, qr_75_20, qr_75_21, qr_75_22, qr_75_24, qr_75_25, qr_75_26, qr_75_29, qr_75_30, true_and, and_true, false_and, and_false, Option.bind_some, Option.toList_some, Option.toList_none, List.nil_append, List.cons_append, if_true, if_false, ite_true, ite_false, not_true_eq_false, not_false_eq_true, qn_lt0, qn_ge0, qn_lt, qn_le, qn_eq, qn_e0, qn_gt0, qn_le0, qn_m1, nI_add, pk_mul, qb_e0, Classical.not_not, f1, g1, r0, hm, e1, (hl j hj).1]
theorem qs_LG_rightAt (hL : qp_LG K R w v) (hS : qp_LS I w f g el er bs) (hj : j < g) : qa_ex (d + 1) 78 [qa_a (some w), qa_i (nI j)] (K, I, R, n, z) = some (some (qa_i (nI (er j))), (K, I, R, n, z)) := by
  obtain ⟨w0, w1, w2, w3, w4, r0, r1, r2, -⟩ := hL
  obtain ⟨f1, f2, g1, g2, hl, -⟩ := hS
  have n60 : ¬ nI 60 = 0 := by decide
  have hm := pk_rem (a := f + j) (d := 60) (by omega) (by omega) (by omega)
  have e1 : ¬ g ≤ j := by omega
  have hlt : (f + j) % 60 < 60 := Nat.mod_lt _ (by omega)
  simp (disch := first | assumption | omega | exact Or.inl rfl | exact Or.inr rfl | exact qb_01) only [qe_78, qr_78_0, qr_78_1, qr_78_4, qr_78_5, qr_78_6, qr_78_9, qr_78_12, qr_78_13, qr_78_16, qr_78_17, qr_78_20, qr_78_21, qr_78_22, qr_78_24, qr_78_25, qr_78_26, qr_78_29, qr_78_30, true_and, and_true, false_and, and_false, Option.bind_some, Option.toList_some, Option.toList_none, List.nil_append, List.cons_append, if_true, if_false, ite_true, ite_false, not_true_eq_false, not_false_eq_true, qn_lt0, qn_ge0, qn_lt, qn_le, qn_eq, qn_e0, qn_gt0, qn_le0, qn_m1, nI_add, pk_mul, qb_e0, Classical.not_not, f1, g1, r1, hm, e1, (hl j hj).2]
theorem qs_LG_apply (hL : qp_LG K R w v) (hS : qp_LS I w f g el er bs) (hj : j < g) (hC : qw_C K I R c q nk (fun k => nI (pm k)) (fun k => qt_rq (T k)) ni fs hd) (hP : qp_PR K R p c) (hs : qz_sep p c q) (hQ : qp_PS I p s) (he : el j ≤ ni) (hr : er j = 0 ∨ er j = 1) : ∃ I', qa_ex (d + 5) 74 [qa_a (some w), qa_i (nI j), qa_a (some p)] (K, I, R, n, z) = some (none, (K, I', R, n, z)) ∧ qz_fr p 16 I I' ∧ qp_PS I' p (qF_step nk pm T fs (el j) (er j) s) := by
  have w0 := hL.1
  have p0 := hP.1
  have h12 := hC.2.2.2.2.2.2.2.1
  have h1 := qs_LG_itemAt (d := d + 3) (n := n) (z := z) hL hS hj
  have h2 := qs_LG_rightAt (d := d + 3) (n := n) (z := z) hL hS hj
  unfold qF_step
  by_cases h0 : el j = 0
  · rw [if_pos h0]
    obtain ⟨I', a1, a2, a3⟩ := qs_PR_passDay (d := d + 1) (n := n) (z := z) hP hC hs hQ
    refine ⟨I', ?_, a2, a3⟩
    have h3 : qe_v (el j) = -1 := if_pos h0
    rw [h3] at h1
    simp (disch := first | assumption | omega | exact Or.inl rfl | exact Or.inr rfl | exact qb_01) only [qe_74, qr_74_0, qr_74_1, qr_74_2, qr_74_5, qr_74_6, qr_74_7, qr_74_8, qr_74_11, qr_74_12, qr_74_15, qr_74_18, qr_74_19, qr_74_20, qr_74_21, qr_74_22, qr_74_25, qr_74_26, qr_74_29, qr_74_30, qr_74_33, qr_74_34, qr_74_37, true_and, and_true, false_and, and_false, Option.bind_some, Option.toList_some, Option.toList_none, List.nil_append, List.cons_append, if_true, if_false, ite_true, ite_false, not_true_eq_false, not_false_eq_true, qn_lt0, qn_ge0, qn_lt, qn_le, qn_eq, qn_e0, qn_gt0, qn_le0, qn_m1, nI_add, pk_mul, qb_e0, Classical.not_not, h1, a1]
  · rw [if_neg h0]
    obtain ⟨I', a1, a2, a3⟩ := qs_PR_takeAnswer (d := d) (n := n) (z := z) (i := el j - 1) hP hC hs hQ (by omega) hr
    refine ⟨I', ?_, a2, a3⟩
    have h3 : qe_v (el j) = nI (el j - 1) := if_neg h0
    rw [h3] at h1
    rcases hr with hr | hr
    · rw [hr] at h2 a1
      simp (disch := first | assumption | omega | exact Or.inl rfl | exact Or.inr rfl | exact qb_01) only [qe_74, qr_74_0, qr_74_1, qr_74_2, qr_74_5, qr_74_6, qr_74_7, qr_74_8, qr_74_11, qr_74_12, qr_74_15, qr_74_18, qr_74_19, qr_74_20, qr_74_21, qr_74_22, qr_74_25, qr_74_26, qr_74_29, qr_74_30, qr_74_33, qr_74_34, qr_74_37, true_and, and_true, false_and, and_false, Option.bind_some, Option.toList_some, Option.toList_none, List.nil_append, List.cons_append, if_true, if_false, ite_true, ite_false, not_true_eq_false, not_false_eq_true, qn_lt0, qn_ge0, qn_lt, qn_le, qn_eq, qn_e0, qn_gt0, qn_le0, qn_m1, nI_add, pk_mul, qb_e0, Classical.not_not, h1, h2, a1, Nat.zero_ne_one]
    · rw [hr] at h2 a1
      simp (disch := first | assumption | omega | exact Or.inl rfl | exact Or.inr rfl | exact qb_01) only [qe_74, qr_74_0, qr_74_1, qr_74_2, qr_74_5, qr_74_6, qr_74_7, qr_74_8, qr_74_11, qr_74_12, qr_74_15, qr_74_18, qr_74_19, qr_74_20, qr_74_21, qr_74_22, qr_74_25, qr_74_26, qr_74_29, qr_74_30, qr_74_33, qr_74_34, qr_74_37, true_and, and_true, false_and, and_false, Option.bind_some, Option.toList_some, Option.toList_none, List.nil_append, List.cons_append, if_true, if_false, ite_true, ite_false, not_true_eq_false, not_false_eq_true, qn_lt0, qn_ge0, qn_lt, qn_le, qn_eq, qn_e0, qn_gt0, qn_le0, qn_m1, nI_add, pk_mul, qb_e0, Classical.not_not, h1, h2, a1]
theorem qs_LG_startAt (hL : qp_LG K R w v) (hP : qp_PR K R p c) (hp : p + 16 ≤ w ∨ w + 19 ≤ p) (hQ : qp_PS I p s) : ∃ I', qa_ex (d + 3) 40 [qa_a (some w), qa_a (some p)] (K, I, R, n, z) = some (none, (K, I', R, n, z)) ∧ qz_fr w 19 I I' ∧ ∀ el er, qp_LS I' w 0 0 el er s := by
  obtain ⟨w0, w1, w2, w3, w4, r0, r1, r2, w5⟩ := hL
  obtain ⟨I1, a1, a2, a3⟩ := qs_PR_copyFrom (d := d) (n := n) (z := z) w5 hP (by omega) hQ
  have p3 := w5.1
  refine ⟨va_up I1 w (va_up (va_up (I1 w) 3 (nI 0)) 4 (nI 0)), ?_, fun a ha => ?_, fun el er => ⟨?_, by omega, ?_, by omega, fun j hj => absurd hj (by omega), ?_⟩⟩
  · simp (disch := first | assumption | omega | exact Or.inl rfl | exact Or.inr rfl | exact qb_01) only [qe_40, qr_40_0, qr_40_1, qr_40_4, qr_40_5, qr_40_8, qr_40_9, qr_40_10, qr_40_13, qr_40_14, qr_40_15, qr_40_18, true_and, and_true, false_and, and_false, Option.bind_some, Option.toList_some, Option.toList_none, List.nil_append, List.cons_append, if_true, if_false, ite_true, ite_false, not_true_eq_false, not_false_eq_true, qn_lt0, qn_ge0, qn_lt, qn_le, qn_eq, qn_e0, qn_gt0, qn_le0, qn_m1, nI_add, pk_mul, qb_e0, Classical.not_not, qa_up_s, qa_up_n, qa_uu, r2, a1]
  · rw [qa_up_n _ _ (by omega)]; exact a2 a (by omega)
  · rw [qa_up_s, qa_up_n _ _ (by omega), qa_up_s]
  · rw [qa_up_s, qa_up_s]
  · exact qp_PS_cg a3 (fun a h1 h2 => by rw [qa_up_n _ _ (by omega)])
theorem qs_LG_add (hL : qp_LG K R w c) (hS : qp_LS I w f g el er bs) (hC : qw_C K I R c q nk (fun k => nI (pm k)) (fun k => qt_rq (T k)) ni fs hd) (hs : qz_sep (w + 3) c q) (he : g = 60 → el 0 ≤ ni) (hr : g = 60 → er 0 = 0 ∨ er 0 = 1) : ∃ I' f', qa_ex (d + 6) 73 [qa_a (some w), qa_i (qe_v e), qa_i (nI r)] (K, I, R, n, z) = some (none, (K, I', R, n, z)) ∧ qz_fr w 19 I I' ∧ qp_LS I' w f' (qL_g g) (qL_e g el e) (qL_e g er r) (qL_b nk pm T fs g el er bs) := by
  have hL' := hL
  have hS' := hS
  obtain ⟨w0, w1, w2, w3, w4, r0, r1, r2, w5⟩ := hL
  obtain ⟨f1, f2, g1, g2, hl, hb⟩ := hS
  have n60 : ¬ nI 60 = 0 := by decide
  generalize hx : qe_v e = x
  unfold qL_g qL_b
  by_cases h60 : g = 60
  · subst h60
    obtain ⟨I1, a1, a2, a3⟩ := qs_LG_apply (d := d) (n := n) (z := z) (j := 0) hL' hS' (by omega) hC w5 hs hb (he rfl) (hr rfl)
    have hm := pk_rem (a := f + 1) (d := 60) (by omega) (by omega) (by omega)
    have hlt : (f + 1) % 60 < 60 := Nat.mod_lt _ (by omega)
    have hm2 := pk_rem (a := (f + 1) % 60 + 59) (d := 60) (by omega) (by omega) (by omega)
    have hlt2 : ((f + 1) % 60 + 59) % 60 < 60 := Nat.mod_lt _ (by omega)
    have hs59 : nI 60 - nI 1 = nI 59 := by decide
    have i0 : I1 w = I w := a2 w (by omega)
    have i1 : I1 (w + 1) = I (w + 1) := a2 (w + 1) (by omega)
    have i2 : I1 (w + 2) = I (w + 2) := a2 (w + 2) (by omega)
    obtain ⟨I2, hI2⟩ : ∃ I2, I2 = va_up (va_up (va_up (va_up I1 w (va_up (va_up (I w) 3 (nI ((f + 1) % 60))) 4 (nI 59))) (w + 1) (va_up (I (w + 1)) (((f + 1) % 60 + 59) % 60) x)) (w + 2) (va_up (I (w + 2)) (((f + 1) % 60 + 59) % 60) (nI r))) w (va_up (va_up (I w) 3 (nI ((f + 1) % 60))) 4 (nI 60)) := ⟨_, rfl⟩
    have k0 : I2 w = va_up (va_up (I w) 3 (nI ((f + 1) % 60))) 4 (nI 60) := by rw [hI2, qa_up_s]
    have k1 : I2 (w + 1) = va_up (I (w + 1)) (((f + 1) % 60 + 59) % 60) x := by rw [hI2, qa_up_n _ _ (by omega), qa_up_n _ _ (by omega), qa_up_s]
    have k2 : I2 (w + 2) = va_up (I (w + 2)) (((f + 1) % 60 + 59) % 60) (nI r) := by rw [hI2, qa_up_n _ _ (by omega), qa_up_s]
    have k3 : ∀ a, a ≠ w → a ≠ w + 1 → a ≠ w + 2 → I2 a = I1 a := fun a h1 h2 h3 => by rw [hI2, qa_up_n _ _ h1, qa_up_n _ _ h3, qa_up_n _ _ h2, qa_up_n _ _ h1]
    have n1 : ¬ (60 : Nat) < 60 := by omega
    refine ⟨I2, (f + 1) % 60, ?_, fun a ha => ?_, ?_, by omega, ?_, ?_, fun j hj => ?_, ?_⟩
    · simp (disch := first | assumption | omega | exact Or.inl rfl | exact Or.inr rfl | exact qb_01) only [qe_73, qr_73_0, qr_73_1, qr_73_4, qr_73_6, qr_73_9, qr_73_10, qr_73_11, qr_73_12, qr_73_15, qr_73_18, qr_73_19, qr_73_20, qr_73_23, qr_73_24, qr_73_25, qr_73_27, qr_73_28, qr_73_31, qr_73_32, qr_73_33, qr_73_36, qr_73_37, qr_73_38, qr_73_41, qr_73_42, qr_73_45, qr_73_46, qr_73_49, qr_73_50, qr_73_52, qr_73_53, qr_73_54, qr_73_55, qr_73_58, qr_73_59, qr_73_60, qr_73_61, qr_73_62, qr_73_65, qr_73_66, qr_73_67, qr_73_68, qr_73_69, qr_73_70, qr_73_73, qr_73_74, qr_73_75, qr_73_78, true_and, and_true, false_and, and_false, Option.bind_some, Option.toList_some, Option.toList_none, List.nil_append, List.cons_append, if_true, if_false, ite_true, ite_false, not_true_eq_false, not_false_eq_true, qn_lt0, qn_ge0, qn_lt, qn_le, qn_eq, qn_e0, qn_gt0, qn_le0, qn_m1, nI_add, pk_mul, qb_e0, Classical.not_not, qa_up_s, qa_up_n, qa_uu, g1, f1, r0, r1, r2, a1, i0, i1, i2, hm, hs59, hm2, hI2]
    · rw [k3 a (by omega) (by omega) (by omega)]; exact a2 a (by omega)
    · rw [k0, qa_up_n _ _ (by omega), qa_up_s]
    · rw [k0, qa_up_s, if_neg n1]
    · rw [if_neg n1]; omega
    · unfold qL_e
      rw [if_neg n1] at hj
      rw [if_neg n1, if_neg n1, k1, k2]
      by_cases h59 : j < 59
      · have hjj := hl (j + 1) (by omega)
        have hE : ((f + 1) % 60 + j) % 60 = (f + (j + 1)) % 60 := by omega
        rw [if_pos h59, if_pos h59, qa_up_n _ _ (by omega), qa_up_n _ _ (by omega), hE]
        exact hjj
      · have hE : ((f + 1) % 60 + j) % 60 = ((f + 1) % 60 + 59) % 60 := by omega
        rw [if_neg h59, if_neg h59, hE, qa_up_s, qa_up_s]
        exact ⟨hx.symm, rfl⟩
    · rw [if_neg n1]
      exact qp_PS_cg a3 (fun a h1 h2 => k3 a (by omega) (by omega) (by omega))
  · have hg : g < 60 := by omega
    have hm := pk_rem (a := f + g) (d := 60) (by omega) (by omega) (by omega)
    have hlt : (f + g) % 60 < 60 := Nat.mod_lt _ (by omega)
    obtain ⟨I2, hI2⟩ : ∃ I2, I2 = va_up (va_up (va_up I (w + 1) (va_up (I (w + 1)) ((f + g) % 60) x)) (w + 2) (va_up (I (w + 2)) ((f + g) % 60) (nI r))) w (va_up (I w) 4 (nI (g + 1))) := ⟨_, rfl⟩
    have k0 : I2 w = va_up (I w) 4 (nI (g + 1)) := by rw [hI2, qa_up_s]
    have k1 : I2 (w + 1) = va_up (I (w + 1)) ((f + g) % 60) x := by rw [hI2, qa_up_n _ _ (by omega), qa_up_n _ _ (by omega), qa_up_s]
    have k2 : I2 (w + 2) = va_up (I (w + 2)) ((f + g) % 60) (nI r) := by rw [hI2, qa_up_n _ _ (by omega), qa_up_s]
    have k3 : ∀ a, a ≠ w → a ≠ w + 1 → a ≠ w + 2 → I2 a = I a := fun a h1 h2 h3 => by rw [hI2, qa_up_n _ _ h1, qa_up_n _ _ h3, qa_up_n _ _ h2]
    refine ⟨I2, f, ?_, fun a ha => ?_, ?_, f2, ?_, ?_, fun j hj => ?_, ?_⟩
    · simp (disch := first | assumption | omega | exact Or.inl rfl | exact Or.inr rfl | exact qb_01) only [qe_73, qr_73_0, qr_73_1, qr_73_4, qr_73_6, qr_73_9, qr_73_10, qr_73_11, qr_73_12, qr_73_15, qr_73_18, qr_73_19, qr_73_20, qr_73_23, qr_73_24, qr_73_25, qr_73_27, qr_73_28, qr_73_31, qr_73_32, qr_73_33, qr_73_36, qr_73_37, qr_73_38, qr_73_41, qr_73_42, qr_73_45, qr_73_46, qr_73_49, qr_73_50, qr_73_52, qr_73_53, qr_73_54, qr_73_55, qr_73_58, qr_73_59, qr_73_60, qr_73_61, qr_73_62, qr_73_65, qr_73_66, qr_73_67, qr_73_68, qr_73_69, qr_73_70, qr_73_73, qr_73_74, qr_73_75, qr_73_78, true_and, and_true, false_and, and_false, Option.bind_some, Option.toList_some, Option.toList_none, List.nil_append, List.cons_append, if_true, if_false, ite_true, ite_false, not_true_eq_false, not_false_eq_true, qn_lt0, qn_ge0, qn_lt, qn_le, qn_eq, qn_e0, qn_gt0, qn_le0, qn_m1, nI_add, pk_mul, qb_e0, Classical.not_not, qa_up_s, qa_up_n, qa_uu, g1, f1, r0, r1, r2, h60, hm, hI2]
    · exact k3 a (by omega) (by omega) (by omega)
    · rw [k0, qa_up_n _ _ (by omega)]; exact f1
    · rw [k0, qa_up_s, if_pos hg]
    · rw [if_pos hg]; omega
    · unfold qL_e
      rw [if_pos hg] at hj
      rw [if_pos hg, if_pos hg, k1, k2]
      by_cases h59 : j < g
      · rw [if_pos h59, if_pos h59, qa_up_n _ _ (by omega), qa_up_n _ _ (by omega)]
        exact hl j h59
      · have hE : j = g := by omega
        rw [if_neg h59, if_neg h59, hE, qa_up_s, qa_up_s]
        exact ⟨hx.symm, rfl⟩
    · rw [if_pos hg]
      exact qp_PS_cg hb (fun a h1 h2 => k3 a (by omega) (by omega) (by omega))
theorem qs_LG_replayInto (hL : qp_LG K R w v) (hS : qp_LS I w f g el er bs) (hC : qw_C K I R c q nk (fun k => nI (pm k)) (fun k => qt_rq (T k)) ni fs hd) (hP : qp_PR K R p c) (hp : p + 16 ≤ w ∨ w + 19 ≤ p) (hs : qz_sep p c q) (he : ∀ j, j < g → el j ≤ ni ∧ (er j = 0 ∨ er j = 1)) : ∃ I', qa_ex (d + 6) 139 [qa_a (some w), qa_a (some p)] (K, I, R, n, z) = some (none, (K, I', R, n, z)) ∧ qz_fr p 16 I I' ∧ qp_PS I' p (qF_rep nk pm T fs el er bs g) := by
  have hL' := hL
  obtain ⟨w0, w1, w2, w3, w4, r0, r1, r2, w5⟩ := hL
  obtain ⟨I1, a1, a2, a3⟩ := qs_PR_copyFrom (d := d + 3) (n := n) (z := z) hP w5 (by omega) hS.2.2.2.2.2
  have p0 := hP.1
  have g2 := hS.2.2.2.1
  have loop : ∀ m j, j + m = g → ∀ I0, qz_fr p 16 I I0 → qp_PS I0 p (qF_rep nk pm T fs el er bs j) → ∃ I', qa_run (d + 5) 139 10 [qa_a (some w), qa_a (some p), qa_i (nI j)] [] [] (K, I0, R, n, z) = some (none, (K, I', R, n, z)) ∧ qz_fr p 16 I I' ∧ qp_PS I' p (qF_rep nk pm T fs el er bs g) := by
    intro m
    induction m with
    | zero =>
      intro j hj I0 h0 h1
      have hj : j = g := by omega
      subst hj
      have hw : I0 w 4 = nI j := by rw [h0 w (by omega)]; exact hS.2.2.1
      refine ⟨I0, ?_, h0, h1⟩
      rw [qr_139_10]
      simp (disch := first | assumption | omega | exact Or.inl rfl | exact Or.inr rfl | exact qb_01) only [qr_139_0, qr_139_1, qr_139_2, qr_139_5, qr_139_8, qr_139_9, qr_139_11, qr_139_12, qr_139_15, qr_139_18, qr_139_19, qr_139_20, qr_139_21, qr_139_24, qr_139_27, qr_139_30, true_and, and_true, false_and, and_false, Option.bind_some, Option.toList_some, Option.toList_none, List.nil_append, List.cons_append, if_true, if_false, ite_true, ite_false, not_true_eq_false, not_false_eq_true, qn_lt0, qn_ge0, qn_lt, qn_le, qn_eq, qn_e0, qn_gt0, qn_le0, qn_m1, nI_add, pk_mul, qb_e0, Classical.not_not, hw, Nat.le_refl]
    | succ m ih =>
      intro j hj I0 h0 h1
      have hw : I0 w 4 = nI g := by rw [h0 w (by omega)]; exact hS.2.2.1
      have hS0 : qp_LS I0 w f g el er bs := qp_LS_cg hS (fun a ha hb => h0 a (by omega))
      obtain ⟨I2, b1, b2, b3⟩ := qs_LG_apply (d := d) (n := n) (z := z) (j := j) hL' hS0 (by omega) (qw_C_fr hC h0 hs) hP hs h1 (he j (by omega)).1 (he j (by omega)).2
      obtain ⟨I3, c1, c2, c3⟩ := ih (j + 1) (by omega) I2 (qz_fr_t h0 b2) b3
      have e1 : ¬ g ≤ j := by omega
      refine ⟨I3, ?_, c2, c3⟩
      rw [qr_139_10]
      simp (disch := first | assumption | omega | exact Or.inl rfl | exact Or.inr rfl | exact qb_01) only [qr_139_0, qr_139_1, qr_139_2, qr_139_5, qr_139_8, qr_139_9, qr_139_11, qr_139_12, qr_139_15, qr_139_18, qr_139_19, qr_139_20, qr_139_21, qr_139_24, qr_139_27, qr_139_30, true_and, and_true, false_and, and_false, Option.bind_some, Option.toList_some, Option.toList_none, List.nil_append, List.cons_append, if_true, if_false, ite_true, ite_false, not_true_eq_false, not_false_eq_true, qn_lt0, qn_ge0, qn_lt, qn_le, qn_eq, qn_e0, qn_gt0, qn_le0, qn_m1, nI_add, pk_mul, qb_e0, Classical.not_not, hw, e1, b1]
      exact c1
  obtain ⟨I3, c1, c2, c3⟩ := loop g 0 (by omega) I1 a2 a3
  refine ⟨I3, ?_, c2, c3⟩
  simp (disch := first | assumption | omega | exact Or.inl rfl | exact Or.inr rfl | exact qb_01) only [qe_139, qr_139_0, qr_139_1, qr_139_2, qr_139_5, qr_139_8, qr_139_9, qr_139_11, qr_139_12, qr_139_15, qr_139_18, qr_139_19, qr_139_20, qr_139_21, qr_139_24, qr_139_27, qr_139_30, true_and, and_true, false_and, and_false, Option.bind_some, Option.toList_some, Option.toList_none, List.nil_append, List.cons_append, if_true, if_false, ite_true, ite_false, not_true_eq_false, not_false_eq_true, qn_lt0, qn_ge0, qn_lt, qn_le, qn_eq, qn_e0, qn_gt0, qn_le0, qn_m1, nI_add, pk_mul, qb_e0, Classical.not_not, r2, a1]
  exact c1
end Q45
