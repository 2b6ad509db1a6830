/-! The class reads: characters, new expressions, trees within bounds. -/
/-- a reader rd of the text at tx, with the characters c, at i -/
def qR_x (K : Nat → Nat × Nat) (I : Nat → Nat → Int32) (R : Nat → Nat → Option Nat) (rd tx L : Nat) (c : Nat → Nat) (i : Nat) : Prop := K rd = (2, 0) ∧ R rd 0 = some tx ∧ I rd 1 = nI i ∧ qp_T K R tx ∧ qp_L I tx 1 1 L c ∧ L ≤ 80 ∧ i ≤ L ∧ (∀ j, L ≤ j → c j = 200) ∧ ∀ j, j < L → c j < 128
def qt_Kx (lo hi : Nat) (K : Nat → Nat × Nat) : Nat → Nat × Nat := fun b => if lo ≤ b ∧ b < hi then K b else (77, 0)
def qt_CB (lo hi : Nat) (K : Nat → Nat × Nat) (I : Nat → Nat → Int32) (R : Nat → Nat → Option Nat) (t : qt_T) (o : Option Nat) : Prop := qt_C (qt_Kx lo hi K) I R t o
theorem qt_CB_cg {lo hi lo' hi' : Nat} {K K' : Nat → Nat × Nat} {I I' : Nat → Nat → Int32} {R R' : Nat → Nat → Option Nat} {t : qt_T} {o : Option Nat} (h : ∀ b, lo ≤ b → b < hi → K' b = K b ∧ I' b = I b ∧ R' b = R b) (h1 : lo' ≤ lo) (h2 : hi ≤ hi') (hC : qt_CB lo hi K I R t o) : qt_CB lo' hi' K' I' R' t o := by
  refine qt_C_cg (fun a ha hk => ?_) hC
  unfold qt_Kx at hk ⊢
  by_cases hr : lo ≤ a ∧ a < hi
  · obtain ⟨g1, g2, g3⟩ := h a hr.1 hr.2
    rw [if_pos hr, if_pos (by omega)]
    exact ⟨g1, g2, g3⟩
  · rw [if_neg hr] at hk
    exact absurd hk (by simp)
theorem qt_CB_C {lo hi : Nat} {K : Nat → Nat × Nat} {I : Nat → Nat → Int32} {R : Nat → Nat → Option Nat} {t : qt_T} {o : Option Nat} (hC : qt_CB lo hi K I R t o) : qt_C K I R t o := by
  refine qt_C_cg (fun a ha hk => ?_) hC
  unfold qt_Kx at hk ⊢
  by_cases hr : lo ≤ a ∧ a < hi
  · rw [if_pos hr]
    exact ⟨rfl, rfl, rfl⟩
  · rw [if_neg hr] at hk
    exact absurd hk (by simp)
/-- a tree that stands at b, whatever is behind it; its parts from lo on, before b -/
def qt_RB (lo : Nat) (K : Nat → Nat × Nat) (I : Nat → Nat → Int32) (R : Nat → Nat → Option Nat) : qt_T → Nat → Prop
  | .mulL k _, b => K b = (10, 0) ∧ I b 0 = nI 0 ∧ I b 1 = nI k.toNat
  | .add f _, b => K b = (10, 0) ∧ I b 0 = nI 1 ∧ qt_CB lo b K I R f (R b 2)
  | .sub f _, b => K b = (10, 0) ∧ I b 0 = nI 2 ∧ qt_CB lo b K I R f (R b 2)
  | _, _ => False
theorem qt_RB_K {lo b : Nat} {K : Nat → Nat × Nat} {I : Nat → Nat → Int32} {R : Nat → Nat → Option Nat} {t : qt_T} (h : qt_RB lo K I R t b) : K b = (10, 0) := by
  cases t <;> first | exact h.1 | exact h.elim
theorem qt_RB_cg {lo lo' b : Nat} {K K' : Nat → Nat × Nat} {I I' : Nat → Nat → Int32} {R R' : Nat → Nat → Option Nat} {t : qt_T} (h : ∀ a, lo ≤ a → a < b → K' a = K a ∧ I' a = I a ∧ R' a = R a) (h1 : lo' ≤ lo) (hk : K' b = K b) (hi : I' b = I b) (hr : R' b 2 = R b 2) (hR : qt_RB lo K I R t b) : qt_RB lo' K' I' R' t b := by
  cases t with
  | mulL k nx => exact ⟨by rw [hk]; exact hR.1, by rw [hi]; exact hR.2.1, by rw [hi]; exact hR.2.2⟩
  | add f nx => exact ⟨by rw [hk]; exact hR.1, by rw [hi]; exact hR.2.1, by rw [hr]; exact qt_CB_cg h h1 (Nat.le_refl b) hR.2.2⟩
  | sub f nx => exact ⟨by rw [hk]; exact hR.1, by rw [hi]; exact hR.2.1, by rw [hr]; exact qt_CB_cg h h1 (Nat.le_refl b) hR.2.2⟩
  | _ => exact hR.elim
theorem qt_RB_C {lo hi b : Nat} {K : Nat → Nat × Nat} {I : Nat → Nat → Int32} {R : Nat → Nat → Option Nat} {t r : qt_T} (hR : qt_RB lo K I R t b) (h1 : lo ≤ b) (h2 : b < hi) (h3 : 204 ≤ lo) (hC : qt_CB lo hi K I R r (R b 3)) : qt_CB lo hi K I R (qP_tl t r) (some b) := by
  have hKx : qt_Kx lo hi K b = K b := if_pos ⟨h1, h2⟩
  cases t with
  | mulL k nx => exact ⟨b, rfl, by omega, by rw [hKx]; exact hR.1, hR.2.1, hR.2.2, hC⟩
  | add f nx => exact ⟨b, rfl, by omega, by rw [hKx]; exact hR.1, hR.2.1, qt_CB_cg (fun a _ _ => ⟨rfl, rfl, rfl⟩) (Nat.le_refl _) (Nat.le_of_lt h2) hR.2.2, hC⟩
  | sub f nx => exact ⟨b, rfl, by omega, by rw [hKx]; exact hR.1, hR.2.1, qt_CB_cg (fun a _ _ => ⟨rfl, rfl, rfl⟩) (Nat.le_refl _) (Nat.le_of_lt h2) hR.2.2, hC⟩
  | _ => exact hR.elim
def qR_v (c : Nat → Nat) (L i : Nat) : Int32 := if i < L then nI (c i) else -1
theorem qR_v_eq {c : Nat → Nat} {L i w : Nat} (hw : w < 128) (h1 : ∀ j, L ≤ j → c j = 200) (h2 : ∀ j, j < L → c j < 128) : (qR_v c L i = nI w) = (c i = w) := by
  unfold qR_v
  by_cases h : i < L
  · have := h2 i h
    rw [if_pos h, qn_eq (by omega) (by omega)]
  · have := h1 i (by omega)
    rw [if_neg h]
    exact propext ⟨fun q => by have q2 := qn_m1 (n := w) (by omega); rw [← q] at q2; exact absurd rfl (by rw [q2]; exact id), fun q => by omega⟩
section Q60
variable {d a b f : Nat} {K : Nat → Nat × Nat} {I : Nat → Nat → Int32} {R : Nat → Nat → Option Nat} {n z : Nat} {x y : Int32} {h : qa_H} {k i j m p q g w v r lv t na l rd tx L : Nat} {c : Nat → Nat} {o : Option Nat}
theorem qs_TR_here (hX : qR_x K I R rd tx L c i) : qa_ex (d + 1) 24 [qa_a (some tx), qa_i (nI i)] (K, I, R, n, z) = some (some (qa_i (qR_v c L i)), (K, I, R, n, z)) := by
  obtain ⟨x1, x2, x3, x4, x5, x6, x7, x8, x9⟩ := hX
  unfold qR_v
  by_cases h : i < L
  · rw [if_pos h]
    exact qs_TR_codeAt x4 x5 h x6
  · rw [if_neg h]
    exact qs_TR_codeAtN x4 x5 (Or.inr (by rw [qn_le (by omega) (by omega)]; omega))
theorem qs_CR_digitHere (hX : qR_x K I R rd tx L c i) : qa_ex (d + 2) 23 [qa_a (some rd)] (K, I, R, n, z) = some (some (qa_i (if 48 ≤ c i ∧ c i ≤ 57 then nI (c i - 48) else -1)), (K, I, R, n, z)) := by
  have e1 := qs_TR_here (d := d) (n := n) (z := z) hX
  obtain ⟨x1, x2, x3, x4, x5, x6, x7, x8, x9⟩ := hX
  have x40 := x4.1
  unfold qR_v at e1
  by_cases h : i < L
  · have h128 := x9 i h
    rw [if_pos h] at e1
    by_cases h1 : c i < 48
    · rw [if_neg (by omega)]
      simp (disch := first | assumption | omega | exact Or.inl rfl | exact Or.inr rfl | exact qb_01) only [qe_23, qr_23_0, qr_23_1, qr_23_4, qr_23_5, qr_23_8, qr_23_11, qr_23_12, qr_23_13, qr_23_15, qr_23_18, qr_23_19, qr_23_21, qr_23_24, qr_23_25, qr_23_27, qr_23_28, qr_23_31, qr_23_32, true_and, and_true, false_and, and_false, Option.bind_some, Option.toList_some, Option.toList_none, List.nil_append, List.cons_append, if_true, if_false, ite_true, ite_false, not_true_eq_false, not_false_eq_true, qn_lt0, qn_ge0, qn_lt, qn_le, qn_eq, qn_e0, qn_gt0, qn_le0, qn_m1, nI_add, pk_mul, qb_e0, Classical.not_not, x2, x3, e1, h1]
    · by_cases h2 : 57 < c i
      · rw [if_neg (by omega)]
        simp (disch := first | assumption | omega | exact Or.inl rfl | exact Or.inr rfl | exact qb_01) only [qe_23, qr_23_0, qr_23_1, qr_23_4, qr_23_5, qr_23_8, qr_23_11, qr_23_12, qr_23_13, qr_23_15, qr_23_18, qr_23_19, qr_23_21, qr_23_24, qr_23_25, qr_23_27, qr_23_28, qr_23_31, qr_23_32, true_and, and_true, false_and, and_false, Option.bind_some, Option.toList_some, Option.toList_none, List.nil_append, List.cons_append, if_true, if_false, ite_true, ite_false, not_true_eq_false, not_false_eq_true, qn_lt0, qn_ge0, qn_lt, qn_le, qn_eq, qn_e0, qn_gt0, qn_le0, qn_m1, nI_add, pk_mul, qb_e0, Classical.not_not, x2, x3, e1, h1, h2]
      · rw [if_pos (by omega)]
        have e2 : nI (c i) - nI 48 = nI (c i - 48) := qn_sub (by omega)
        simp (disch := first | assumption | omega | exact Or.inl rfl | exact Or.inr rfl | exact qb_01) only [qe_23, qr_23_0, qr_23_1, qr_23_4, qr_23_5, qr_23_8, qr_23_11, qr_23_12, qr_23_13, qr_23_15, qr_23_18, qr_23_19, qr_23_21, qr_23_24, qr_23_25, qr_23_27, qr_23_28, qr_23_31, qr_23_32, true_and, and_true, false_and, and_false, Option.bind_some, Option.toList_some, Option.toList_none, List.nil_append, List.cons_append, if_true, if_false, ite_true, ite_false, not_true_eq_false, not_false_eq_true, qn_lt0, qn_ge0, qn_lt, qn_le, qn_eq, qn_e0, qn_gt0, qn_le0, qn_m1, nI_add, pk_mul, qb_e0, Classical.not_not, x2, x3, e1, h1, h2, e2]
  · rw [if_neg h] at e1
    have h200 := x8 i (by omega)
    rw [if_neg (by omega)]
    have e2 : (-1 : Int32) < nI 48 := by decide
    simp (disch := first | assumption | omega | exact Or.inl rfl | exact Or.inr rfl | exact qb_01) only [qe_23, qr_23_0, qr_23_1, qr_23_4, qr_23_5, qr_23_8, qr_23_11, qr_23_12, qr_23_13, qr_23_15, qr_23_18, qr_23_19, qr_23_21, qr_23_24, qr_23_25, qr_23_27, qr_23_28, qr_23_31, qr_23_32, true_and, and_true, false_and, and_false, Option.bind_some, Option.toList_some, Option.toList_none, List.nil_append, List.cons_append, if_true, if_false, ite_true, ite_false, not_true_eq_false, not_false_eq_true, qn_lt0, qn_ge0, qn_lt, qn_le, qn_eq, qn_e0, qn_gt0, qn_le0, qn_m1, nI_add, pk_mul, qb_e0, Classical.not_not, x2, x3, e1, e2]
theorem qs_CR_accept (hX : qR_x K I R rd tx L c i) (hw : w < 128) : qa_ex (d + 2) 25 [qa_a (some rd), qa_i (nI w)] (K, I, R, n, z) = if c i = w then some (some (qa_i (nI 1)), (K, va_up I rd (va_up (I rd) 1 (nI (i + 1))), R, n, z)) else some (some (qa_i (nI 0)), (K, I, R, n, z)) := by
  have e1 := qs_TR_here (d := d) (n := n) (z := z) hX
  obtain ⟨x1, x2, x3, x4, x5, x6, x7, x8, x9⟩ := hX
  have x40 := x4.1
  have e2 := qR_v_eq (i := i) hw x8 x9
  by_cases h : c i = w
  · rw [if_pos h]
    simp (disch := first | assumption | omega | exact Or.inl rfl | exact Or.inr rfl | exact qb_01) only [qe_25, qr_25_0, qr_25_1, qr_25_4, qr_25_5, qr_25_8, qr_25_11, qr_25_12, qr_25_15, qr_25_16, qr_25_17, qr_25_18, qr_25_19, qr_25_22, qr_25_23, qr_25_24, qr_25_27, qr_25_28, true_and, and_true, false_and, and_false, Option.bind_some, Option.toList_some, Option.toList_none, List.nil_append, List.cons_append, if_true, if_false, ite_true, ite_false, not_true_eq_false, not_false_eq_true, qn_lt0, qn_ge0, qn_lt, qn_le, qn_eq, qn_e0, qn_gt0, qn_le0, qn_m1, nI_add, pk_mul, qb_e0, Classical.not_not, qa_up_s, qa_up_n, qa_uu, x2, x3, e1, e2, eq_true h]
  · rw [if_neg h]
    simp (disch := first | assumption | omega | exact Or.inl rfl | exact Or.inr rfl | exact qb_01) only [qe_25, qr_25_0, qr_25_1, qr_25_4, qr_25_5, qr_25_8, qr_25_11, qr_25_12, qr_25_15, qr_25_16, qr_25_17, qr_25_18, qr_25_19, qr_25_22, qr_25_23, qr_25_24, qr_25_27, qr_25_28, true_and, and_true, false_and, and_false, Option.bind_some, Option.toList_some, Option.toList_none, List.nil_append, List.cons_append, if_true, if_false, ite_true, ite_false, not_true_eq_false, not_false_eq_true, qn_lt0, qn_ge0, qn_lt, qn_le, qn_eq, qn_e0, qn_gt0, qn_le0, qn_m1, nI_add, pk_mul, qb_e0, Classical.not_not, qa_up_s, qa_up_n, qa_uu, x2, x3, e1, e2, eq_false h]
/-- a new expression -/
def qE_n (K : Nat → Nat × Nat) (I : Nat → Nat → Int32) (R : Nat → Nat → Option Nat) (n : Nat) (kd sk : Int32) (o : Option Nat) (K' : Nat → Nat × Nat) (I' : Nat → Nat → Int32) (R' : Nat → Nat → Option Nat) : Prop :=
  K' n = (10, 0) ∧ I' n 0 = kd ∧ I' n 1 = sk ∧ R' n 2 = o ∧ R' n 3 = none ∧ ∀ a, a ≠ n → K' a = K a ∧ I' a = I a ∧ R' a = R a
theorem qs_EP_init (hk : K a = (10, 0)) : qa_ex (d + 1) 31 [qa_a (some a), qa_i x, qa_i y, qa_a o] (K, I, R, n, z) = some (none, (K, va_up I a (va_up (va_up (I a) 0 x) 1 y), va_up R a (va_up (va_up (R a) 3 none) 2 o), n, z)) := by
  simp (disch := first | assumption | omega | exact Or.inl rfl | exact Or.inr rfl | exact qb_01) only [qe_31, qr_31_0, qr_31_1, qr_31_4, qr_31_5, qr_31_6, qr_31_9, qr_31_10, qr_31_11, qr_31_14, qr_31_15, qr_31_16, qr_31_19, qr_31_20, qr_31_21, qr_31_24, true_and, and_true, false_and, and_false, Option.bind_some, Option.toList_some, Option.toList_none, List.nil_append, List.cons_append, if_true, if_false, ite_true, ite_false, not_true_eq_false, not_false_eq_true, qa_up_s, qa_up_n, qa_uu]
theorem qs_EP_new {K' : Nat → Nat × Nat} {I' : Nat → Nat → Int32} {R' : Nat → Nat → Option Nat} (hK : K' = va_up K n (10, 0)) (hI : I' = va_up I n (va_up (va_up (fun _ => 0) 0 x) 1 y)) (hR : R' = va_up R n (va_up (va_up (fun _ => none) 3 none) 2 o)) : qE_n K I R n x y o K' I' R' := by
  subst hK hI hR
  refine ⟨qa_up_s _ _ _, by rw [qa_up_s, qa_up_n _ _ (by omega), qa_up_s], by rw [qa_up_s, qa_up_s], by rw [qa_up_s, qa_up_s], by rw [qa_up_s, qa_up_n _ _ (by omega), qa_up_s], fun a ha => ⟨qa_up_n _ _ ha, qa_up_n _ _ ha, qa_up_n _ _ ha⟩⟩
theorem qs_EP_ofSkill : ∃ K' I' R', qa_ex (d + 2) 30 [qa_i x] (K, I, R, n, z) = some (some (qa_a (some n)), (K', I', R', n + 1, z + 4)) ∧ qE_n K I R n (nI 0) x none K' I' R' := by
  refine ⟨_, _, _, ?_, qs_EP_new rfl rfl rfl⟩
  simp (disch := first | assumption | omega | exact qa_up_s _ _ _ | exact Or.inl rfl | exact Or.inr rfl | exact qb_01) only [qe_30, qr_30_0, qr_30_3, qr_30_4, qr_30_5, qr_30_6, qr_30_7, qr_30_10, true_and, and_true, false_and, and_false, Option.bind_some, Option.toList_some, Option.toList_none, List.nil_append, List.cons_append, if_true, if_false, ite_true, ite_false, not_true_eq_false, not_false_eq_true, qa_up_s, qa_up_n, qa_uu, qs_EP_init]
theorem qs_EP_and : ∃ K' I' R', qa_ex (d + 2) 33 [qa_a o] (K, I, R, n, z) = some (some (qa_a (some n)), (K', I', R', n + 1, z + 4)) ∧ qE_n K I R n (nI 1) (-1) o K' I' R' := by
  refine ⟨_, _, _, ?_, qs_EP_new rfl rfl rfl⟩
  simp (disch := first | assumption | omega | exact qa_up_s _ _ _ | exact Or.inl rfl | exact Or.inr rfl | exact qb_01) only [qe_33, qr_33_0, qr_33_3, qr_33_4, qr_33_5, qr_33_6, qr_33_7, qr_33_10, true_and, and_true, false_and, and_false, Option.bind_some, Option.toList_some, Option.toList_none, List.nil_append, List.cons_append, if_true, if_false, ite_true, ite_false, not_true_eq_false, not_false_eq_true, qa_up_s, qa_up_n, qa_uu, qs_EP_init]
theorem qs_EP_or : ∃ K' I' R', qa_ex (d + 2) 34 [qa_a o] (K, I, R, n, z) = some (some (qa_a (some n)), (K', I', R', n + 1, z + 4)) ∧ qE_n K I R n (nI 2) (-1) o K' I' R' := by
  refine ⟨_, _, _, ?_, qs_EP_new rfl rfl rfl⟩
  simp (disch := first | assumption | omega | exact qa_up_s _ _ _ | exact Or.inl rfl | exact Or.inr rfl | exact qb_01) only [qe_34, qr_34_0, qr_34_3, qr_34_4, qr_34_5, qr_34_6, qr_34_7, qr_34_10, true_and, and_true, false_and, and_false, Option.bind_some, Option.toList_some, Option.toList_none, List.nil_append, List.cons_append, if_true, if_false, ite_true, ite_false, not_true_eq_false, not_false_eq_true, qa_up_s, qa_up_n, qa_uu, qs_EP_init]
theorem qs_EP_continueWith (hk : K a = (10, 0)) : qa_ex (d + 1) 32 [qa_a (some a), qa_a o] (K, I, R, n, z) = some (none, (K, I, va_up R a (va_up (R a) 3 o), n, z)) := by
  simp (disch := first | assumption | omega | exact Or.inl rfl | exact Or.inr rfl | exact qb_01) only [qe_32, qr_32_0, qr_32_1, qr_32_2, qr_32_5, true_and, and_true, false_and, and_false, Option.bind_some, Option.toList_some, Option.toList_none, List.nil_append, List.cons_append, if_true, if_false, ite_true, ite_false, not_true_eq_false, not_false_eq_true, qa_up_s, qa_up_n, qa_uu]
end Q60
