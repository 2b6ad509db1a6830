/-! The class reads expressions. -/
/-- what a reading leaves as it was: cells before n but the reader's offset, and but b's references -/
def qR_F (rd b n z : Nat) (K : Nat → Nat × Nat) (I : Nat → Nat → Int32) (R : Nat → Nat → Option Nat) (n' z' : Nat) (K' : Nat → Nat × Nat) (I' : Nat → Nat → Int32) (R' : Nat → Nat → Option Nat) : Prop :=
  n ≤ n' ∧ z' + 4 * n = z + 4 * n' ∧ (∀ a, (a < n ∨ n' ≤ a) → K' a = K a) ∧ (∀ a, a < n → a ≠ rd → I' a = I a) ∧ ∀ a, a < n → a ≠ b → R' a = R a
theorem qR_F_r {rd b n z : Nat} {K : Nat → Nat × Nat} {I I' : Nat → Nat → Int32} {R : Nat → Nat → Option Nat} (h : ∀ a, a ≠ rd → I' a = I a) : qR_F rd b n z K I R n z K I' R :=
  ⟨Nat.le_refl n, rfl, fun _ _ => rfl, fun a _ h2 => h a h2, fun _ _ _ => rfl⟩
theorem qR_F_t {rd b b1 n n1 n2 z z1 z2 : Nat} {K K1 K2 : Nat → Nat × Nat} {I I1 I2 : Nat → Nat → Int32} {R R1 R2 : Nat → Nat → Option Nat} (h1 : qR_F rd b n z K I R n1 z1 K1 I1 R1) (h2 : qR_F rd b1 n1 z1 K1 I1 R1 n2 z2 K2 I2 R2) (hb : n ≤ b1 ∨ b1 = b) : qR_F rd b n z K I R n2 z2 K2 I2 R2 := by
  obtain ⟨p1, p2, p3, p4, p5⟩ := h1
  obtain ⟨q1, q2, q3, q4, q5⟩ := h2
  exact ⟨by omega, by omega, fun a ha => (q3 a (by omega)).trans (p3 a (by omega)), fun a ha hr => (q4 a (by omega) hr).trans (p4 a ha hr), fun a ha hr => (q5 a (by omega) (by omega)).trans (p5 a ha hr)⟩
theorem qR_x_F {rd tx L i j b n z n' z' : Nat} {c : Nat → Nat} {K K' : Nat → Nat × Nat} {I I' : Nat → Nat → Int32} {R R' : Nat → Nat → Option Nat} (hX : qR_x K I R rd tx L c i) (hF : qR_F rd b n z K I R n' z' K' I' R') (hr : rd < n) (ht : tx + 1 < n) (hb : n ≤ b ∨ K b = (10, 0)) (hi : I' rd 1 = nI j) (hj : j ≤ L) : qR_x K' I' R' rd tx L c j := by
  obtain ⟨x1, x2, x3, ⟨t1, t2, t3, t4⟩, ⟨x5, x5'⟩, x6, x7, x8, x9⟩ := hX
  obtain ⟨p1, p2, p3, p4, p5⟩ := hF
  have b1 : rd ≠ b := fun h => by
    rcases hb with hb | hb
    · omega
    · rw [← h, x1] at hb; exact absurd hb (by simp)
  have b2 : tx ≠ b := fun h => by
    rcases hb with hb | hb
    · omega
    · rw [← h, t1] at hb; exact absurd hb (by simp)
  have r1 : tx ≠ rd := fun h => by rw [h, x1] at t1; exact absurd t1 (by simp)
  have r2 : tx + 1 ≠ rd := fun h => by rw [h, x1] at t2; exact absurd t2 (by simp)
  exact ⟨by rw [p3 rd (by omega)]; exact x1, by rw [p5 rd hr b1]; exact x2, hi, ⟨by rw [p3 tx (by omega)]; exact t1, by rw [p3 (tx + 1) (by omega)]; exact t2, by rw [p3 (tx + 1) (by omega)]; exact t3, by rw [p5 tx (by omega) b2]; exact t4⟩, ⟨by rw [p4 tx (by omega) r1]; exact x5, fun k hk => by rw [p4 (tx + 1) (by omega) r2]; exact x5' k hk⟩, x6, hj, x8, x9⟩
theorem qR_x_o {rd tx L i : Nat} {c : Nat → Nat} {K : Nat → Nat × Nat} {I : Nat → Nat → Int32} {R : Nat → Nat → Option Nat} (hX : qR_x K I R rd tx L c i) (hi : i < L) (hr : rd < tx + 2 + rd) : qR_x K (va_up I rd (va_up (I rd) 1 (nI (i + 1)))) R rd tx L c (i + 1) :=
  qR_x_F (n := tx + 2 + rd) (z := 0) (b := tx + 2 + rd) hX (qR_F_r (fun a ha => qa_up_n _ _ ha)) hr (by omega) (Or.inl (Nat.le_refl _)) (by rw [qa_up_s, qa_up_s]) hi
theorem qR_E {rd b n z : Nat} {K K' : Nat → Nat × Nat} {I I' : Nat → Nat → Int32} {R R' : Nat → Nat → Option Nat} {x y : Int32} {o : Option Nat} (h : qE_n K I R n x y o K' I' R') : qR_F rd b n z K I R (n + 1) (z + 4) K' I' R' := by
  obtain ⟨-, -, -, -, -, h6⟩ := h
  exact ⟨by omega, by omega, fun a ha => (h6 a (by omega)).1, fun a ha _ => (h6 a (by omega)).2.1, fun a ha _ => (h6 a (by omega)).2.2⟩
theorem qP_lp_0 {kd j : Nat} {c : Nat → Nat} {p : Option qt_T × Nat} {lp : Nat → Option qt_T × Nat} (h : ¬ c j = qP_sg kd) : qP_lp kd c j p lp = (some (.num 0), j) := if_neg h
theorem qP_lp_n {kd j : Nat} {c : Nat → Nat} {p : Option qt_T × Nat} {lp : Nat → Option qt_T × Nat} (h : c j = qP_sg kd) (hp : p.1 = none) : qP_lp kd c j p lp = (none, p.2) := by
  unfold qP_lp
  rw [if_pos h, hp]
theorem qP_lp_nn {kd j : Nat} {c : Nat → Nat} {p : Option qt_T × Nat} {lp : Nat → Option qt_T × Nat} {t : qt_T} (h : c j = qP_sg kd) (hp : p.1 = some t) (hl : (lp p.2).1 = none) : qP_lp kd c j p lp = (none, (lp p.2).2) := by
  unfold qP_lp
  rw [if_pos h, hp]
  simp only [hl]
theorem qP_lp_s {kd j : Nat} {c : Nat → Nat} {p : Option qt_T × Nat} {lp : Nat → Option qt_T × Nat} {t f : qt_T} (h : c j = qP_sg kd) (hp : p.1 = some t) (hl : (lp p.2).1 = some f) : qP_lp kd c j p lp = (some (qP_tl t f), (lp p.2).2) := by
  unfold qP_lp
  rw [if_pos h, hp]
  simp only [hl]
theorem qP_par_n {kd : Nat} {c : Nat → Nat} {p : Option qt_T × Nat} {lp : Nat → Option qt_T × Nat} (hp : p.1 = none) : qP_par kd c p lp = (none, p.2) := by
  unfold qP_par
  rw [hp]
theorem qP_par_1 {kd : Nat} {c : Nat → Nat} {p : Option qt_T × Nat} {lp : Nat → Option qt_T × Nat} {t : qt_T} (hp : p.1 = some t) (h : ¬ c p.2 = qP_sg kd) : qP_par kd c p lp = (some t, p.2) := by
  unfold qP_par
  rw [hp]
  simp only [if_neg h]
theorem qP_par_nn {kd : Nat} {c : Nat → Nat} {p : Option qt_T × Nat} {lp : Nat → Option qt_T × Nat} {t : qt_T} (hp : p.1 = some t) (h : c p.2 = qP_sg kd) (hl : (lp p.2).1 = none) : qP_par kd c p lp = (none, (lp p.2).2) := by
  unfold qP_par
  rw [hp]
  simp only [if_pos h, hl]
theorem qP_par_s {kd : Nat} {c : Nat → Nat} {p : Option qt_T × Nat} {lp : Nat → Option qt_T × Nat} {t f : qt_T} (hp : p.1 = some t) (h : c p.2 = qP_sg kd) (hl : (lp p.2).1 = some f) : qP_par kd c p lp = (some (qP_nd kd (qP_tl t f)), (lp p.2).2) := by
  unfold qP_par
  rw [hp]
  simp only [if_pos h, hl]
def qR_S (c : Nat → Nat) (m L rd tx mth md F : Nat) : Prop := ∀ (e i D : Nat) (K : Nat → Nat × Nat) (I : Nat → Nat → Int32) (R : Nat → Nat → Option Nat) (n z : Nat), e ≤ 5 → 4 * (L - i) + md + 1 < F → 3 * (5 - e) + 4 + md ≤ D → qR_x K I R rd tx L c i → rd < n → tx + 1 < n → 204 ≤ n →
  ∃ o K' I' R' n' z', qa_ex D mth [qa_a (some rd), qa_i (nI m), qa_i (nI e)] (K, I, R, n, z) = some (some (qa_a o), (K', I', R', n', z')) ∧ qR_F rd n n z K I R n' z' K' I' R' ∧ I' rd 1 = nI (qP c m F md e i).2 ∧ n' ≤ n + ((qP c m F md e i).2 - i) ∧ ((qP c m F md e i).1 = none → o = none) ∧ ∀ t, (qP c m F md e i).1 = some t → ∃ b, o = some b ∧ n ≤ b ∧ b < n' ∧ qt_RB n K' I' R' t b ∧ R' b 3 = none
def qR_Q (c : Nat → Nat) (m L rd tx mth kd F : Nat) : Prop := ∀ (e j D : Nat) (K : Nat → Nat × Nat) (I : Nat → Nat → Int32) (R : Nat → Nat → Option Nat) (n z fi b cnt : Nat) (l6 : qa_V), e ≤ 5 → 4 * (L - j) + 3 < F → 3 * (5 - e) + 4 + kd ≤ D → qR_x K I R rd tx L c j → rd < n → tx + 1 < n → 204 ≤ n → b < n → K b = (10, 0) → R b 3 = none → cnt < j →
  ∃ o K' I' R' n' z', qa_run D mth 35 [qa_a (some rd), qa_i (nI m), qa_i (nI e), qa_a (some fi), qa_a (some b), qa_i (nI cnt), l6] [] [] (K, I, R, n, z) = some (some (qa_a o), (K', I', R', n', z')) ∧ qR_F rd b n z K I R n' z' K' I' R' ∧ I' rd 1 = nI (qP c m F (kd + 3) e j).2 ∧ n' ≤ n + ((qP c m F (kd + 3) e j).2 - j) + (if c j = qP_sg kd then 0 else 1) ∧ ((qP c m F (kd + 3) e j).1 = none → o = none) ∧ ∀ f, (qP c m F (kd + 3) e j).1 = some f → ∃ o3 n1, o = some n1 ∧ n ≤ n1 ∧ n1 < n' ∧ K' n1 = (10, 0) ∧ I' n1 0 = nI (kd + 1) ∧ R' n1 2 = some fi ∧ R' n1 3 = none ∧ R' b = va_up (R b) 3 o3 ∧ qt_CB n n1 K' I' R' f o3
section Q61
variable {m L rd tx F : Nat} {c : Nat → Nat}
theorem qR_atom (hm : m ≤ 10) (hc : ∀ j, L ≤ j → c j = 200) (hO : qR_S c m L rd tx 27 2 F) : qR_S c m L rd tx 29 0 (F + 1) := by
  intro e i D K I R n z he hF hD hX hr ht hn
  obtain ⟨d, rfl⟩ : ∃ d, D = d + 4 := ⟨D - 4, by omega⟩
  have hq : qP c m (F + 1) 0 e i = (if 48 ≤ c i ∧ c i ≤ 57 then (if c i - 48 < m then (some (.mulL ((c i - 48 : Nat) : Int) (.num 0)), i + 1) else (none, i)) else if e < 5 ∧ c i = 40 then qP_cl c (qP c m F 2 (e + 1) (i + 1)) else (none, i)) := by
    rw [qP, if_pos rfl]
  have hdg := qs_CR_digitHere (d := d + 1) (n := n) (z := z) hX
  have hac := qs_CR_accept (d := d + 1) (n := n) (z := z) (w := 40) hX (by omega)
  have x1 := hX.1
  have x3 := hX.2.2.1
  have hiL : ¬ c i = 200 → i < L := fun h => Decidable.byContradiction fun h2 => h (hc i (by omega))
  have hci : c i < 201 := by
    by_cases h : i < L
    · have := hX.2.2.2.2.2.2.2.2 i h; omega
    · have := hc i (by omega); omega
  rw [hq]
  by_cases h1 : 48 ≤ c i ∧ c i ≤ 57
  · rw [if_pos h1] at hdg ⊢
    have e0 : (nI (c i - 48) = -1) = False := qn_m1 (by omega)
    by_cases h2 : c i - 48 < m
    · rw [if_pos h2]
      obtain ⟨K', I', R', g1, g2⟩ := qs_EP_ofSkill (d := d + 1) (K := K) (I := va_up I rd (va_up (I rd) 1 (nI (i + 1)))) (R := R) (n := n) (z := z) (x := nI (c i - 48))
      have gF := qR_F_t (qR_F_r (b := n) (n := n) (z := z) (K := K) (R := R) (fun a ha => qa_up_n _ _ ha)) (qR_E (rd := rd) (b := n) (z := z) g2) (Or.inr rfl)
      obtain ⟨q1, q2, q3, q4, q5, q6⟩ := g2
      refine ⟨some n, K', I', R', n + 1, z + 4, ?_, gF, ?_, by show n + 1 ≤ n + (i + 1 - i); omega, fun h => absurd h (by simp), fun t ht => ?_⟩
      · simp (disch := first | assumption | omega | exact Or.inl rfl | exact Or.inr rfl | exact qb_01) only [qe_29, qr_29_0, qr_29_1, qr_29_4, qr_29_5, qr_29_6, qr_29_7, qr_29_10, qr_29_11, qr_29_12, qr_29_15, qr_29_16, qr_29_17, qr_29_18, qr_29_19, qr_29_22, qr_29_23, qr_29_24, qr_29_27, qr_29_28, qr_29_31, qr_29_32, qr_29_33, qr_29_34, qr_29_37, qr_29_38, qr_29_40, qr_29_43, qr_29_46, qr_29_47, qr_29_48, qr_29_49, qr_29_50, qr_29_51, qr_29_52, qr_29_53, qr_29_56, qr_29_58, qr_29_60_0, qr_29_60_1, qr_29_63, qr_29_64, qr_29_66, qr_29_69, qr_29_72, qr_29_74, qr_29_77, qr_29_78, true_and, and_true, false_and, and_false, Option.bind_some, Option.toList_some, Option.toList_none, List.nil_append, List.cons_append, if_true, if_false, ite_true, ite_false, not_true_eq_false, not_false_eq_true, qn_lt0, qn_ge0, qn_lt, qn_le, qn_eq, qn_e0, qn_gt0, qn_le0, qn_m1, nI_add, pk_mul, qb_e0, Classical.not_not, qa_up_s, qa_up_n, qa_uu, hdg, e0, eq_true h2, x3, g1]
      · rw [(q6 rd (by omega)).2.1, qa_up_s, qa_up_s]
      · cases ht
        exact ⟨n, rfl, Nat.le_refl n, by omega, ⟨q1, q2, by rw [Int.toNat_natCast]; exact q3⟩, q5⟩
    · rw [if_neg h2]
      refine ⟨none, K, I, R, n, z, ?_, qR_F_r (fun _ _ => rfl), x3, by show n ≤ n + (i - i); omega, fun _ => rfl, fun t ht => absurd ht (by simp)⟩
      simp (disch := first | assumption | omega | exact Or.inl rfl | exact Or.inr rfl | exact qb_01) only [qe_29, qr_29_0, qr_29_1, qr_29_4, qr_29_5, qr_29_6, qr_29_7, qr_29_10, qr_29_11, qr_29_12, qr_29_15, qr_29_16, qr_29_17, qr_29_18, qr_29_19, qr_29_22, qr_29_23, qr_29_24, qr_29_27, qr_29_28, qr_29_31, qr_29_32, qr_29_33, qr_29_34, qr_29_37, qr_29_38, qr_29_40, qr_29_43, qr_29_46, qr_29_47, qr_29_48, qr_29_49, qr_29_50, qr_29_51, qr_29_52, qr_29_53, qr_29_56, qr_29_58, qr_29_60_0, qr_29_60_1, qr_29_63, qr_29_64, qr_29_66, qr_29_69, qr_29_72, qr_29_74, qr_29_77, qr_29_78, true_and, and_true, false_and, and_false, Option.bind_some, Option.toList_some, Option.toList_none, List.nil_append, List.cons_append, if_true, if_false, ite_true, ite_false, not_true_eq_false, not_false_eq_true, qn_lt0, qn_ge0, qn_lt, qn_le, qn_eq, qn_e0, qn_gt0, qn_le0, qn_m1, nI_add, pk_mul, qb_e0, Classical.not_not, qa_up_s, qa_up_n, qa_uu, hdg, e0, eq_false h2]
  · rw [if_neg h1] at hdg ⊢
    by_cases h2 : e < 5 ∧ c i = 40
    · rw [if_pos h2]
      rw [if_pos h2.2] at hac
      have hi := hiL (by omega)
      have g5 : ¬ 5 ≤ e := by omega
      obtain ⟨I1, hI1⟩ : ∃ I1, I1 = va_up I rd (va_up (I rd) 1 (nI (i + 1))) := ⟨_, rfl⟩
      have hX1 := qR_x_o hX hi (by omega)
      rw [← hI1] at hX1 hac
      have hF1 : qR_F rd n n z K I R n z K I1 R := qR_F_r (fun a ha => by rw [hI1]; exact qa_up_n _ _ ha)
      obtain ⟨o, K', I', R', n', z', a1, a2, a3, a4, a5, a6⟩ := hO (e + 1) (i + 1) (d + 3) K I1 R n z (by omega) (by omega) (by omega) hX1 hr ht hn
      have hok := qP_ok (m := m) hc F 2 (e + 1) (i + 1) (by omega) (by omega) (by omega)
      generalize qP c m F 2 (e + 1) (i + 1) = p at a3 a4 a5 a6 hok ⊢
      obtain ⟨r, j⟩ := p
      obtain ⟨k1, k2, k3⟩ := hok
      have k1 : i + 1 ≤ j := k1
      have k2 : j ≤ L := k2
      have a4 : n' ≤ n + (j - (i + 1)) := a4
      cases r with
      | none =>
        have ho := a5 rfl
        subst ho
        refine ⟨none, K', I', R', n', z', ?_, qR_F_t hF1 a2 (Or.inr rfl), a3, by show n' ≤ n + (j - i); omega, fun _ => rfl, fun t ht => absurd ht (by show ¬ (none : Option qt_T) = some t; simp)⟩
        simp (disch := first | assumption | omega | exact Or.inl rfl | exact Or.inr rfl | exact qb_01) only [qe_29, qr_29_0, qr_29_1, qr_29_4, qr_29_5, qr_29_6, qr_29_7, qr_29_10, qr_29_11, qr_29_12, qr_29_15, qr_29_16, qr_29_17, qr_29_18, qr_29_19, qr_29_22, qr_29_23, qr_29_24, qr_29_27, qr_29_28, qr_29_31, qr_29_32, qr_29_33, qr_29_34, qr_29_37, qr_29_38, qr_29_40, qr_29_43, qr_29_46, qr_29_47, qr_29_48, qr_29_49, qr_29_50, qr_29_51, qr_29_52, qr_29_53, qr_29_56, qr_29_58, qr_29_60_0, qr_29_60_1, qr_29_63, qr_29_64, qr_29_66, qr_29_69, qr_29_72, qr_29_74, qr_29_77, qr_29_78, true_and, and_true, false_and, and_false, Option.bind_some, Option.toList_some, Option.toList_none, List.nil_append, List.cons_append, if_true, if_false, ite_true, ite_false, not_true_eq_false, not_false_eq_true, qn_lt0, qn_ge0, qn_lt, qn_le, qn_eq, qn_e0, qn_gt0, qn_le0, qn_m1, nI_add, pk_mul, qb_e0, Classical.not_not, qa_up_s, qa_up_n, qa_uu, hdg, g5, hac, a1, Nat.one_ne_zero]
      | some t =>
        obtain ⟨b, b1, b2, b3, b4, b5⟩ := a6 t rfl
        subst b1
        have hX2 := qR_x_F hX1 a2 hr ht (Or.inl (Nat.le_refl _)) a3 k2
        have hac2 := qs_CR_accept (d := d + 1) (n := n') (z := z') (w := 41) hX2 (by omega)
        have y1 := hX2.1
        have gF := qR_F_t hF1 a2 (Or.inr rfl)
        rw [show qP_cl c (some t, j) = (if c j = 41 then (some t, j + 1) else (none, j)) from rfl]
        by_cases h3 : c j = 41
        · simp only [if_pos h3] at hac2 ⊢
          refine ⟨some b, K', va_up I' rd (va_up (I' rd) 1 (nI (j + 1))), R', n', z', ?_, qR_F_t gF (qR_F_r (fun a ha => qa_up_n _ _ ha)) (Or.inr rfl), by rw [qa_up_s, qa_up_s], by omega, fun h => absurd h (by simp), fun t' ht => ?_⟩
          · simp (disch := first | assumption | omega | exact Or.inl rfl | exact Or.inr rfl | exact qb_01) only [qe_29, qr_29_0, qr_29_1, qr_29_4, qr_29_5, qr_29_6, qr_29_7, qr_29_10, qr_29_11, qr_29_12, qr_29_15, qr_29_16, qr_29_17, qr_29_18, qr_29_19, qr_29_22, qr_29_23, qr_29_24, qr_29_27, qr_29_28, qr_29_31, qr_29_32, qr_29_33, qr_29_34, qr_29_37, qr_29_38, qr_29_40, qr_29_43, qr_29_46, qr_29_47, qr_29_48, qr_29_49, qr_29_50, qr_29_51, qr_29_52, qr_29_53, qr_29_56, qr_29_58, qr_29_60_0, qr_29_60_1, qr_29_63, qr_29_64, qr_29_66, qr_29_69, qr_29_72, qr_29_74, qr_29_77, qr_29_78, true_and, and_true, false_and, and_false, Option.bind_some, Option.toList_some, Option.toList_none, List.nil_append, List.cons_append, if_true, if_false, ite_true, ite_false, not_true_eq_false, not_false_eq_true, qn_lt0, qn_ge0, qn_lt, qn_le, qn_eq, qn_e0, qn_gt0, qn_le0, qn_m1, nI_add, pk_mul, qb_e0, Classical.not_not, qa_up_s, qa_up_n, qa_uu, hdg, g5, hac, a1, hac2, Nat.one_ne_zero]
          · cases ht
            refine ⟨b, rfl, b2, b3, qt_RB_cg (fun a h1 h2 => ⟨rfl, qa_up_n _ _ (by omega), rfl⟩) (Nat.le_refl _) rfl (qa_up_n _ _ (by omega)) rfl b4, b5⟩
        · simp only [if_neg h3] at hac2 ⊢
          refine ⟨none, K', I', R', n', z', ?_, gF, a3, by omega, fun _ => rfl, fun t' ht => absurd ht (by simp)⟩
          simp (disch := first | assumption | omega | exact Or.inl rfl | exact Or.inr rfl | exact qb_01) only [qe_29, qr_29_0, qr_29_1, qr_29_4, qr_29_5, qr_29_6, qr_29_7, qr_29_10, qr_29_11, qr_29_12, qr_29_15, qr_29_16, qr_29_17, qr_29_18, qr_29_19, qr_29_22, qr_29_23, qr_29_24, qr_29_27, qr_29_28, qr_29_31, qr_29_32, qr_29_33, qr_29_34, qr_29_37, qr_29_38, qr_29_40, qr_29_43, qr_29_46, qr_29_47, qr_29_48, qr_29_49, qr_29_50, qr_29_51, qr_29_52, qr_29_53, qr_29_56, qr_29_58, qr_29_60_0, qr_29_60_1, qr_29_63, qr_29_64, qr_29_66, qr_29_69, qr_29_72, qr_29_74, qr_29_77, qr_29_78, true_and, and_true, false_and, and_false, Option.bind_some, Option.toList_some, Option.toList_none, List.nil_append, List.cons_append, if_true, if_false, ite_true, ite_false, not_true_eq_false, not_false_eq_true, qn_lt0, qn_ge0, qn_lt, qn_le, qn_eq, qn_e0, qn_gt0, qn_le0, qn_m1, nI_add, pk_mul, qb_e0, Classical.not_not, qa_up_s, qa_up_n, qa_uu, hdg, g5, hac, a1, hac2, Nat.one_ne_zero]
    · rw [if_neg h2]
      refine ⟨none, K, I, R, n, z, ?_, qR_F_r (fun _ _ => rfl), x3, by show n ≤ n + (i - i); omega, fun _ => rfl, fun t ht => absurd ht (by simp)⟩
      by_cases h3 : e < 5
      · have g5 : ¬ 5 ≤ e := by omega
        rw [if_neg (fun q => h2 ⟨h3, q⟩)] at hac
        simp (disch := first | assumption | omega | exact Or.inl rfl | exact Or.inr rfl | exact qb_01) only [qe_29, qr_29_0, qr_29_1, qr_29_4, qr_29_5, qr_29_6, qr_29_7, qr_29_10, qr_29_11, qr_29_12, qr_29_15, qr_29_16, qr_29_17, qr_29_18, qr_29_19, qr_29_22, qr_29_23, qr_29_24, qr_29_27, qr_29_28, qr_29_31, qr_29_32, qr_29_33, qr_29_34, qr_29_37, qr_29_38, qr_29_40, qr_29_43, qr_29_46, qr_29_47, qr_29_48, qr_29_49, qr_29_50, qr_29_51, qr_29_52, qr_29_53, qr_29_56, qr_29_58, qr_29_60_0, qr_29_60_1, qr_29_63, qr_29_64, qr_29_66, qr_29_69, qr_29_72, qr_29_74, qr_29_77, qr_29_78, true_and, and_true, false_and, and_false, Option.bind_some, Option.toList_some, Option.toList_none, List.nil_append, List.cons_append, if_true, if_false, ite_true, ite_false, not_true_eq_false, not_false_eq_true, qn_lt0, qn_ge0, qn_lt, qn_le, qn_eq, qn_e0, qn_gt0, qn_le0, qn_m1, nI_add, pk_mul, qb_e0, Classical.not_not, qa_up_s, qa_up_n, qa_uu, hdg, g5, hac]
      · have g5 : 5 ≤ e := by omega
        simp (disch := first | assumption | omega | exact Or.inl rfl | exact Or.inr rfl | exact qb_01) only [qe_29, qr_29_0, qr_29_1, qr_29_4, qr_29_5, qr_29_6, qr_29_7, qr_29_10, qr_29_11, qr_29_12, qr_29_15, qr_29_16, qr_29_17, qr_29_18, qr_29_19, qr_29_22, qr_29_23, qr_29_24, qr_29_27, qr_29_28, qr_29_31, qr_29_32, qr_29_33, qr_29_34, qr_29_37, qr_29_38, qr_29_40, qr_29_43, qr_29_46, qr_29_47, qr_29_48, qr_29_49, qr_29_50, qr_29_51, qr_29_52, qr_29_53, qr_29_56, qr_29_58, qr_29_60_0, qr_29_60_1, qr_29_63, qr_29_64, qr_29_66, qr_29_69, qr_29_72, qr_29_74, qr_29_77, qr_29_78, true_and, and_true, false_and, and_false, Option.bind_some, Option.toList_some, Option.toList_none, List.nil_append, List.cons_append, if_true, if_false, ite_true, ite_false, not_true_eq_false, not_false_eq_true, qn_lt0, qn_ge0, qn_lt, qn_le, qn_eq, qn_e0, qn_gt0, qn_le0, qn_m1, nI_add, pk_mul, qb_e0, Classical.not_not, qa_up_s, qa_up_n, qa_uu, hdg, g5]
theorem qR_loop0 (hm : m ≤ 10) (hc : ∀ j, L ≤ j → c j = 200) (hS : qR_S c m L rd tx 29 0 F) (hQ : qR_Q c m L rd tx 28 0 F) : qR_Q c m L rd tx 28 0 (F + 1) := by
  intro e j D K I R n z fi b cnt l6 he hF hD hX hr ht hn hb hKb hRb hcnt
  obtain ⟨d, rfl⟩ : ∃ d, D = d + 4 := ⟨D - 4, by omega⟩
  have hq : qP c m (F + 1) (0 + 3) e j = qP_lp 0 c j (qP c m F 0 e (j + 1)) (fun j => qP c m F (0 + 3) e j) := by
    rw [qP, if_neg (by omega), if_neg (by omega)]
  have hsg : qP_sg 0 = 38 := rfl
  have hac := qs_CR_accept (d := d + 2) (n := n) (z := z) (w := 38) hX (by omega)
  have x1 := hX.1
  have x3 := hX.2.2.1
  have hL80 := hX.2.2.2.2.2.1
  have hjL := hX.2.2.2.2.2.2.1
  have e80 : ¬ 80 ≤ cnt := by omega
  have hjlt : ¬ c j = 200 → j < L := fun h => Decidable.byContradiction fun h2 => h (hc j (by omega))
  have hbr : b ≠ rd := fun h => by rw [h, x1] at hKb; exact absurd hKb (by simp)
  rw [hq]
  by_cases h1 : c j = 38
  · rw [if_pos h1] at hac
    have h1s : c j = qP_sg 0 := h1
    have hi := hjlt (by omega)
    obtain ⟨I1, hI1⟩ : ∃ I1, I1 = va_up I rd (va_up (I rd) 1 (nI (j + 1))) := ⟨_, rfl⟩
    have hX1 := qR_x_o hX hi (by omega)
    rw [← hI1] at hX1 hac
    have hF1 : qR_F rd b n z K I R n z K I1 R := qR_F_r (fun a ha => by rw [hI1]; exact qa_up_n _ _ ha)
    obtain ⟨o, K', I', R', n', z', a1, a2, a3, a4, a5, a6⟩ := hS e (j + 1) (d + 4) K I1 R n z he (by omega) (by omega) hX1 hr ht hn
    have hok := qP_ok (m := m) hc F 0 e (j + 1) (by omega) he (by omega)
    generalize qP c m F 0 e (j + 1) = p at a3 a4 a5 a6 hok ⊢
    obtain ⟨k1, k2, k3⟩ := hok
    cases hp : p.1 with
    | none =>
      have ho := a5 hp
      subst ho
      rw [qP_lp_n h1s hp]
      refine ⟨none, K', I', R', n', z', ?_, qR_F_t hF1 a2 (Or.inl (Nat.le_refl _)), a3, by rw [if_pos h1s]; show n' ≤ n + (p.2 - j) + 0; omega, fun _ => rfl, fun t ht => absurd ht (by simp)⟩
      rw [qr_28_35]
      simp (disch := first | assumption | omega | exact Or.inl rfl | exact Or.inr rfl | exact qb_01) only [qr_28_0, qr_28_1, qr_28_2, qr_28_3, qr_28_6, qr_28_7, qr_28_8_0, qr_28_8_1, qr_28_11, qr_28_12, qr_28_15, qr_28_16, qr_28_19, qr_28_22, qr_28_24, qr_28_27, qr_28_28, qr_28_29, qr_28_30, qr_28_32, qr_28_33, qr_28_37, qr_28_39, qr_28_42, qr_28_43, qr_28_45, qr_28_48, qr_28_51, qr_28_52, qr_28_53, qr_28_54, qr_28_57, qr_28_59, qr_28_61_0, qr_28_61_1, qr_28_64, qr_28_65, qr_28_66, qr_28_68, qr_28_70, qr_28_73, qr_28_75, qr_28_77, qr_28_80, qr_28_83, qr_28_84, qr_28_87, true_and, and_true, false_and, and_false, Option.bind_some, Option.toList_some, Option.toList_none, List.nil_append, List.cons_append, if_true, if_false, ite_true, ite_false, not_true_eq_false, not_false_eq_true, qn_lt0, qn_ge0, qn_lt, qn_le, qn_eq, qn_e0, qn_gt0, qn_le0, qn_m1, nI_add, pk_mul, qb_e0, Classical.not_not, qa_up_s, qa_up_n, qa_uu, e80, hac, a1, Nat.one_ne_zero]
    | some t =>
      obtain ⟨b1, g1, g2, g3, g4, g5⟩ := a6 t hp
      subst g1
      obtain ⟨-, k4, -⟩ := k3 t hp
      have k5 : j + 1 < p.2 := (k4 (by omega)).1
      have hX2 := qR_x_F hX1 a2 hr ht (Or.inl (Nat.le_refl _)) a3 k2
      have hKb' : K' b = (10, 0) := by rw [a2.2.2.1 b (by omega)]; exact hKb
      have hRb' : R' b = R b := a2.2.2.2.2 b hb (by omega)
      have hcw := qs_EP_continueWith (d := d + 3) (I := I') (R := R') (n := n') (z := z') (o := some b1) hKb'
      obtain ⟨R2, hR2⟩ : ∃ R2, R2 = va_up R' b (va_up (R' b) 3 (some b1)) := ⟨_, rfl⟩
      rw [← hR2] at hcw
      have hF2 : qR_F rd b n' z' K' I' R' n' z' K' I' R2 := ⟨Nat.le_refl _, rfl, fun _ _ => rfl, fun _ _ _ => rfl, fun a _ ha => by rw [hR2]; exact qa_up_n _ _ ha⟩
      have hn' : n ≤ n' := a2.1
      have hX3 := qR_x_F hX2 hF2 (by omega) (by omega) (Or.inr hKb') a3 k2
      have hKb1 := qt_RB_K g4
      have hbb : b1 ≠ b := by omega
      obtain ⟨o2, K3, I3, R3, n3, z3, c1, c2, c3, c4, c5, c6⟩ := hQ e p.2 (d + 4) K' I' R2 n' z' fi b1 (cnt + 1) (qa_a (some b1)) he (by omega) (by omega) hX3 (by omega) (by omega) (by omega) g3 hKb1 (by rw [hR2, qa_up_n _ _ hbb]; exact g5) (by omega)
      have hok2 := qP_ok (m := m) hc F (0 + 3) e p.2 (by omega) he k2
      have gF := qR_F_t (qR_F_t (qR_F_t hF1 a2 (Or.inl (Nat.le_refl _))) hF2 (Or.inr rfl)) c2 (Or.inl g2)
      have hif : (if c p.2 = qP_sg 0 then 0 else 1) ≤ 1 := by split <;> omega
      have k6 := hok2.1
      have hbd : n3 ≤ n + ((qP c m F (0 + 3) e p.2).2 - j) + 0 := by omega
      have hrun : qa_run (d + 4) 28 35 [qa_a (some rd), qa_i (nI m), qa_i (nI e), qa_a (some fi), qa_a (some b), qa_i (nI cnt), l6] [] [] (K, I, R, n, z) = some (some (qa_a o2), (K3, I3, R3, n3, z3)) := by
        rw [qr_28_35]
        simp (disch := first | assumption | omega | exact Or.inl rfl | exact Or.inr rfl | exact qb_01) only [qr_28_0, qr_28_1, qr_28_2, qr_28_3, qr_28_6, qr_28_7, qr_28_8_0, qr_28_8_1, qr_28_11, qr_28_12, qr_28_15, qr_28_16, qr_28_19, qr_28_22, qr_28_24, qr_28_27, qr_28_28, qr_28_29, qr_28_30, qr_28_32, qr_28_33, qr_28_37, qr_28_39, qr_28_42, qr_28_43, qr_28_45, qr_28_48, qr_28_51, qr_28_52, qr_28_53, qr_28_54, qr_28_57, qr_28_59, qr_28_61_0, qr_28_61_1, qr_28_64, qr_28_65, qr_28_66, qr_28_68, qr_28_70, qr_28_73, qr_28_75, qr_28_77, qr_28_80, qr_28_83, qr_28_84, qr_28_87, true_and, and_true, false_and, and_false, Option.bind_some, Option.toList_some, Option.toList_none, List.nil_append, List.cons_append, if_true, if_false, ite_true, ite_false, not_true_eq_false, not_false_eq_true, qn_lt0, qn_ge0, qn_lt, qn_le, qn_eq, qn_e0, qn_gt0, qn_le0, qn_m1, nI_add, pk_mul, qb_e0, Classical.not_not, qa_up_s, qa_up_n, qa_uu, e80, hac, a1, hcw, Nat.one_ne_zero]
        exact c1
      cases hl : (qP c m F (0 + 3) e p.2).1 with
      | none =>
        have ho := c5 hl
        subst ho
        rw [qP_lp_nn h1s hp hl]
        exact ⟨none, K3, I3, R3, n3, z3, hrun, gF, c3, by rw [if_pos h1s]; exact hbd, fun _ => rfl, fun t ht => absurd ht (by simp)⟩
      | some f =>
        obtain ⟨o3, n1, d1, d2, d3, d4, d5, d6, d7, d8, d9⟩ := c6 f hl
        rw [qP_lp_s h1s hp hl]
        refine ⟨o2, K3, I3, R3, n3, z3, hrun, gF, c3, by rw [if_pos h1s]; exact hbd, fun h => absurd h (by simp), fun f' hf' => ?_⟩
        cases hf'
        obtain ⟨w1, w2, w3, w4, w5⟩ := id c2
        have hR3b : R3 b = va_up (R b) 3 (some b1) := by rw [w5 b (by omega) (by omega), hR2, qa_up_s, hRb']
        have hR3c : R3 b1 3 = o3 := by rw [d8, qa_up_s]
        refine ⟨some b1, n1, d1, by omega, d3, d4, d5, d6, d7, hR3b, ?_⟩
        refine qt_RB_C (qt_RB_cg (fun a q1 q2 => ⟨w3 a (by omega), w4 a (by omega) (by omega), by rw [w5 a (by omega) (by omega), hR2, qa_up_n _ _ (by omega)]⟩) (Nat.le_refl _) (w3 b1 (by omega)) (w4 b1 g3 (by omega)) (by rw [d8, qa_up_n _ _ (by omega), hR2, qa_up_n _ _ hbb]) g4) g2 (by omega) hn ?_
        rw [hR3c]
        exact qt_CB_cg (fun _ _ _ => ⟨rfl, rfl, rfl⟩) hn' (Nat.le_refl _) d9
  · rw [if_neg h1] at hac
    have h1s : ¬ c j = qP_sg 0 := h1
    rw [qP_lp_0 h1s]
    obtain ⟨K', I', R', g1, g2⟩ := qs_EP_and (d := d + 2) (K := K) (I := I) (R := R) (n := n) (z := z) (o := some fi)
    have gF := qR_E (rd := rd) (b := b) (z := z) g2
    obtain ⟨q1, q2, q3, q4, q5, q6⟩ := g2
    refine ⟨some n, K', I', R', n + 1, z + 4, ?_, gF, by rw [(q6 rd (by omega)).2.1]; exact x3, by rw [if_neg h1s]; show n + 1 ≤ n + (j - j) + 1; omega, fun h => absurd h (by simp), fun f hf => ?_⟩
    · rw [qr_28_35]
      simp (disch := first | assumption | omega | exact Or.inl rfl | exact Or.inr rfl | exact qb_01) only [qr_28_0, qr_28_1, qr_28_2, qr_28_3, qr_28_6, qr_28_7, qr_28_8_0, qr_28_8_1, qr_28_11, qr_28_12, qr_28_15, qr_28_16, qr_28_19, qr_28_22, qr_28_24, qr_28_27, qr_28_28, qr_28_29, qr_28_30, qr_28_32, qr_28_33, qr_28_37, qr_28_39, qr_28_42, qr_28_43, qr_28_45, qr_28_48, qr_28_51, qr_28_52, qr_28_53, qr_28_54, qr_28_57, qr_28_59, qr_28_61_0, qr_28_61_1, qr_28_64, qr_28_65, qr_28_66, qr_28_68, qr_28_70, qr_28_73, qr_28_75, qr_28_77, qr_28_80, qr_28_83, qr_28_84, qr_28_87, true_and, and_true, false_and, and_false, Option.bind_some, Option.toList_some, Option.toList_none, List.nil_append, List.cons_append, if_true, if_false, ite_true, ite_false, not_true_eq_false, not_false_eq_true, qn_lt0, qn_ge0, qn_lt, qn_le, qn_eq, qn_e0, qn_gt0, qn_le0, qn_m1, nI_add, pk_mul, qb_e0, Classical.not_not, qa_up_s, qa_up_n, qa_uu, e80, hac, g1]
    · cases hf
      refine ⟨none, n, rfl, Nat.le_refl n, by omega, q1, q2, q4, q5, ?_, rfl⟩
      rw [(q6 b (by omega)).2.2]
      have := va_up_i (R b) 3
      rw [hRb] at this
      exact this.symm
theorem qR_par0 (hm : m ≤ 10) (hc : ∀ j, L ≤ j → c j = 200) (hS : qR_S c m L rd tx 29 0 F) (hQ : qR_Q c m L rd tx 28 0 F) : qR_S c m L rd tx 28 1 (F + 1) := by
  intro e i D K I R n z he hF hD hX hr ht hn
  obtain ⟨d, rfl⟩ : ∃ d, D = d + 5 := ⟨D - 5, by omega⟩
  have hq : qP c m (F + 1) 1 e i = qP_par 0 c (qP c m F 0 e i) (fun j => qP c m F (0 + 3) e j) := by
    rw [qP, if_neg (by omega), if_pos (by omega)]
  have x1 := hX.1
  have x2 := hX.2.1
  have x3 := hX.2.2.1
  have x8 := hX.2.2.2.2.2.2.2.1
  have x9 := hX.2.2.2.2.2.2.2.2
  rw [hq]
  obtain ⟨o, K', I', R', n', z', a1, a2, a3, a4, a5, a6⟩ := hS e i (d + 4) K I R n z he (by omega) (by omega) hX hr ht hn
  have hok := qP_ok (m := m) hc F 0 e i (by omega) he hX.2.2.2.2.2.2.1
  generalize qP c m F 0 e i = p at a3 a4 a5 a6 hok ⊢
  obtain ⟨k1, k2, k3⟩ := hok
  cases hp : p.1 with
  | none =>
    have ho := a5 hp
    subst ho
    rw [qP_par_n hp]
    refine ⟨none, K', I', R', n', z', ?_, a2, a3, a4, fun _ => rfl, fun t ht => absurd ht (by simp)⟩
    simp (disch := first | assumption | omega | exact Or.inl rfl | exact Or.inr rfl | exact qb_01) only [qe_28, qr_28_0, qr_28_1, qr_28_2, qr_28_3, qr_28_6, qr_28_7, qr_28_8_0, qr_28_8_1, qr_28_11, qr_28_12, qr_28_15, qr_28_16, qr_28_19, qr_28_22, qr_28_24, qr_28_27, qr_28_28, qr_28_29, qr_28_30, qr_28_32, qr_28_33, qr_28_37, qr_28_39, qr_28_42, qr_28_43, qr_28_45, qr_28_48, qr_28_51, qr_28_52, qr_28_53, qr_28_54, qr_28_57, qr_28_59, qr_28_61_0, qr_28_61_1, qr_28_64, qr_28_65, qr_28_66, qr_28_68, qr_28_70, qr_28_73, qr_28_75, qr_28_77, qr_28_80, qr_28_83, qr_28_84, qr_28_87, true_and, and_true, false_and, and_false, Option.bind_some, Option.toList_some, Option.toList_none, List.nil_append, List.cons_append, if_true, if_false, ite_true, ite_false, not_true_eq_false, not_false_eq_true, qn_lt0, qn_ge0, qn_lt, qn_le, qn_eq, qn_e0, qn_gt0, qn_le0, qn_m1, nI_add, pk_mul, qb_e0, Classical.not_not, qa_up_s, qa_up_n, qa_uu, a1]
  | some t =>
    obtain ⟨b1, g1, g2, g3, g4, g5⟩ := a6 t hp
    subst g1
    obtain ⟨-, k4, -⟩ := k3 t hp
    have k5 : i < p.2 := (k4 (by omega)).1
    have hX2 := qR_x_F hX a2 hr ht (Or.inl (Nat.le_refl _)) a3 k2
    have y1 := hX2.1
    have y2 := hX2.2.1
    have y4 := hX2.2.2.2.1.1
    have hhe := qs_TR_here (d := d + 3) (n := n') (z := z') hX2
    have hve := qR_v_eq (c := c) (L := L) (i := p.2) (w := 38) (by omega) x8 x9
    have hn' : n ≤ n' := a2.1
    have hKb1 := qt_RB_K g4
    by_cases h1 : c p.2 = 38
    · have h1s : c p.2 = qP_sg 0 := h1
      obtain ⟨o2, K3, I3, R3, n3, z3, c1, c2, c3, c4, c5, c6⟩ := hQ e p.2 (d + 4) K' I' R' n' z' b1 b1 0 qa_u he (by omega) (by omega) hX2 (by omega) (by omega) (by omega) g3 hKb1 g5 (by omega)
      have hok2 := qP_ok (m := m) hc F (0 + 3) e p.2 (by omega) he k2
      have gF := qR_F_t a2 c2 (Or.inl g2)
      rw [if_pos h1s] at c4
      have k6 := hok2.1
      have hbd : n3 ≤ n + ((qP c m F (0 + 3) e p.2).2 - i) := by omega
      have hrun : qa_ex (d + 5) 28 [qa_a (some rd), qa_i (nI m), qa_i (nI e)] (K, I, R, n, z) = some (some (qa_a o2), (K3, I3, R3, n3, z3)) := by
        simp (disch := first | assumption | omega | exact Or.inl rfl | exact Or.inr rfl | exact qb_01) only [qe_28, qr_28_0, qr_28_1, qr_28_2, qr_28_3, qr_28_6, qr_28_7, qr_28_8_0, qr_28_8_1, qr_28_11, qr_28_12, qr_28_15, qr_28_16, qr_28_19, qr_28_22, qr_28_24, qr_28_27, qr_28_28, qr_28_29, qr_28_30, qr_28_32, qr_28_33, qr_28_37, qr_28_39, qr_28_42, qr_28_43, qr_28_45, qr_28_48, qr_28_51, qr_28_52, qr_28_53, qr_28_54, qr_28_57, qr_28_59, qr_28_61_0, qr_28_61_1, qr_28_64, qr_28_65, qr_28_66, qr_28_68, qr_28_70, qr_28_73, qr_28_75, qr_28_77, qr_28_80, qr_28_83, qr_28_84, qr_28_87, true_and, and_true, false_and, and_false, Option.bind_some, Option.toList_some, Option.toList_none, List.nil_append, List.cons_append, if_true, if_false, ite_true, ite_false, not_true_eq_false, not_false_eq_true, qn_lt0, qn_ge0, qn_lt, qn_le, qn_eq, qn_e0, qn_gt0, qn_le0, qn_m1, nI_add, pk_mul, qb_e0, Classical.not_not, qa_up_s, qa_up_n, qa_uu, a1, y2, a3, hhe, hve, eq_true h1]
        exact c1
      cases hl : (qP c m F (0 + 3) e p.2).1 with
      | none =>
        have ho := c5 hl
        subst ho
        rw [qP_par_nn hp h1s hl]
        exact ⟨none, K3, I3, R3, n3, z3, hrun, gF, c3, hbd, fun _ => rfl, fun t ht => absurd ht (by simp)⟩
      | some f =>
        obtain ⟨o3, n1, d1, d2, d3, d4, d5, d6, d7, d8, d9⟩ := c6 f hl
        rw [qP_par_s hp h1s hl]
        refine ⟨o2, K3, I3, R3, n3, z3, hrun, gF, c3, hbd, fun h => absurd h (by simp), fun f' hf' => ?_⟩
        cases hf'
        obtain ⟨w1, w2, w3, w4, w5⟩ := id c2
        have hR3c : R3 b1 3 = o3 := by rw [d8, qa_up_s]
        have hCB : qt_CB n n1 K3 I3 R3 (qP_tl t f) (some b1) := by
          refine qt_RB_C (qt_RB_cg (fun a q1 q2 => ⟨w3 a (by omega), w4 a (by omega) (by omega), w5 a (by omega) (by omega)⟩) (Nat.le_refl _) (w3 b1 (by omega)) (w4 b1 g3 (by omega)) (by rw [d8, qa_up_n _ _ (by omega)]) g4) g2 (by omega) hn ?_
          rw [hR3c]
          exact qt_CB_cg (fun _ _ _ => ⟨rfl, rfl, rfl⟩) hn' (Nat.le_refl _) d9
        rw [← d6] at hCB
        exact ⟨n1, d1, by omega, d3, ⟨d4, d5, hCB⟩, d7⟩
    · have h1s : ¬ c p.2 = qP_sg 0 := h1
      rw [qP_par_1 hp h1s]
      refine ⟨some b1, K', I', R', n', z', ?_, a2, a3, a4, fun h => absurd h (by simp), fun t' ht' => ?_⟩
      · simp (disch := first | assumption | omega | exact Or.inl rfl | exact Or.inr rfl | exact qb_01) only [qe_28, qr_28_0, qr_28_1, qr_28_2, qr_28_3, qr_28_6, qr_28_7, qr_28_8_0, qr_28_8_1, qr_28_11, qr_28_12, qr_28_15, qr_28_16, qr_28_19, qr_28_22, qr_28_24, qr_28_27, qr_28_28, qr_28_29, qr_28_30, qr_28_32, qr_28_33, qr_28_37, qr_28_39, qr_28_42, qr_28_43, qr_28_45, qr_28_48, qr_28_51, qr_28_52, qr_28_53, qr_28_54, qr_28_57, qr_28_59, qr_28_61_0, qr_28_61_1, qr_28_64, qr_28_65, qr_28_66, qr_28_68, qr_28_70, qr_28_73, qr_28_75, qr_28_77, qr_28_80, qr_28_83, qr_28_84, qr_28_87, true_and, and_true, false_and, and_false, Option.bind_some, Option.toList_some, Option.toList_none, List.nil_append, List.cons_append, if_true, if_false, ite_true, ite_false, not_true_eq_false, not_false_eq_true, qn_lt0, qn_ge0, qn_lt, qn_le, qn_eq, qn_e0, qn_gt0, qn_le0, qn_m1, nI_add, pk_mul, qb_e0, Classical.not_not, qa_up_s, qa_up_n, qa_uu, a1, y2, a3, hhe, hve, eq_false h1]
      · cases ht'
        exact ⟨b1, rfl, g2, g3, g4, g5⟩
theorem qR_loop1 (hm : m ≤ 10) (hc : ∀ j, L ≤ j → c j = 200) (hS : qR_S c m L rd tx 28 1 F) (hQ : qR_Q c m L rd tx 27 1 F) : qR_Q c m L rd tx 27 1 (F + 1) := by
  intro e j D K I R n z fi b cnt l6 he hF hD hX hr ht hn hb hKb hRb hcnt
  obtain ⟨d, rfl⟩ : ∃ d, D = d + 4 := ⟨D - 4, by omega⟩
  have hq : qP c m (F + 1) (1 + 3) e j = qP_lp 1 c j (qP c m F 1 e (j + 1)) (fun j => qP c m F (1 + 3) e j) := by
    rw [qP, if_neg (by omega), if_neg (by omega)]
  have hsg : qP_sg 1 = 124 := rfl
  have hac := qs_CR_accept (d := d + 2) (n := n) (z := z) (w := 124) hX (by omega)
  have x1 := hX.1
  have x3 := hX.2.2.1
  have hL80 := hX.2.2.2.2.2.1
  have hjL := hX.2.2.2.2.2.2.1
  have e80 : ¬ 80 ≤ cnt := by omega
  have hjlt : ¬ c j = 200 → j < L := fun h => Decidable.byContradiction fun h2 => h (hc j (by omega))
  have hbr : b ≠ rd := fun h => by rw [h, x1] at hKb; exact absurd hKb (by simp)
  rw [hq]
  by_cases h1 : c j = 124
  · rw [if_pos h1] at hac
    have h1s : c j = qP_sg 1 := h1
    have hi := hjlt (by omega)
    obtain ⟨I1, hI1⟩ : ∃ I1, I1 = va_up I rd (va_up (I rd) 1 (nI (j + 1))) := ⟨_, rfl⟩
    have hX1 := qR_x_o hX hi (by omega)
    rw [← hI1] at hX1 hac
    have hF1 : qR_F rd b n z K I R n z K I1 R := qR_F_r (fun a ha => by rw [hI1]; exact qa_up_n _ _ ha)
    obtain ⟨o, K', I', R', n', z', a1, a2, a3, a4, a5, a6⟩ := hS e (j + 1) (d + 4) K I1 R n z he (by omega) (by omega) hX1 hr ht hn
    have hok := qP_ok (m := m) hc F 1 e (j + 1) (by omega) he (by omega)
    generalize qP c m F 1 e (j + 1) = p at a3 a4 a5 a6 hok ⊢
    obtain ⟨k1, k2, k3⟩ := hok
    cases hp : p.1 with
    | none =>
      have ho := a5 hp
      subst ho
      rw [qP_lp_n h1s hp]
      refine ⟨none, K', I', R', n', z', ?_, qR_F_t hF1 a2 (Or.inl (Nat.le_refl _)), a3, by rw [if_pos h1s]; show n' ≤ n + (p.2 - j) + 0; omega, fun _ => rfl, fun t ht => absurd ht (by simp)⟩
      rw [qr_27_35]
      simp (disch := first | assumption | omega | exact Or.inl rfl | exact Or.inr rfl | exact qb_01) only [qr_27_0, qr_27_1, qr_27_2, qr_27_3, qr_27_6, qr_27_7, qr_27_8_0, qr_27_8_1, qr_27_11, qr_27_12, qr_27_15, qr_27_16, qr_27_19, qr_27_22, qr_27_24, qr_27_27, qr_27_28, qr_27_29, qr_27_30, qr_27_32, qr_27_33, qr_27_37, qr_27_39, qr_27_42, qr_27_43, qr_27_45, qr_27_48, qr_27_51, qr_27_52, qr_27_53, qr_27_54, qr_27_57, qr_27_59, qr_27_61_0, qr_27_61_1, qr_27_64, qr_27_65, qr_27_66, qr_27_68, qr_27_70, qr_27_73, qr_27_75, qr_27_77, qr_27_80, qr_27_83, qr_27_84, qr_27_87, true_and, and_true, false_and, and_false, Option.bind_some, Option.toList_some, Option.toList_none, List.nil_append, List.cons_append, if_true, if_false, ite_true, ite_false, not_true_eq_false, not_false_eq_true, qn_lt0, qn_ge0, qn_lt, qn_le, qn_eq, qn_e0, qn_gt0, qn_le0, qn_m1, nI_add, pk_mul, qb_e0, Classical.not_not, qa_up_s, qa_up_n, qa_uu, e80, hac, a1, Nat.one_ne_zero]
    | some t =>
      obtain ⟨b1, g1, g2, g3, g4, g5⟩ := a6 t hp
      subst g1
      obtain ⟨-, k4, -⟩ := k3 t hp
      have k5 : j + 1 < p.2 := (k4 (by omega)).1
      have hX2 := qR_x_F hX1 a2 hr ht (Or.inl (Nat.le_refl _)) a3 k2
      have hKb' : K' b = (10, 0) := by rw [a2.2.2.1 b (by omega)]; exact hKb
      have hRb' : R' b = R b := a2.2.2.2.2 b hb (by omega)
      have hcw := qs_EP_continueWith (d := d + 3) (I := I') (R := R') (n := n') (z := z') (o := some b1) hKb'
      obtain ⟨R2, hR2⟩ : ∃ R2, R2 = va_up R' b (va_up (R' b) 3 (some b1)) := ⟨_, rfl⟩
      rw [← hR2] at hcw
      have hF2 : qR_F rd b n' z' K' I' R' n' z' K' I' R2 := ⟨Nat.le_refl _, rfl, fun _ _ => rfl, fun _ _ _ => rfl, fun a _ ha => by rw [hR2]; exact qa_up_n _ _ ha⟩
      have hn' : n ≤ n' := a2.1
      have hX3 := qR_x_F hX2 hF2 (by omega) (by omega) (Or.inr hKb') a3 k2
      have hKb1 := qt_RB_K g4
      have hbb : b1 ≠ b := by omega
      obtain ⟨o2, K3, I3, R3, n3, z3, c1, c2, c3, c4, c5, c6⟩ := hQ e p.2 (d + 4) K' I' R2 n' z' fi b1 (cnt + 1) (qa_a (some b1)) he (by omega) (by omega) hX3 (by omega) (by omega) (by omega) g3 hKb1 (by rw [hR2, qa_up_n _ _ hbb]; exact g5) (by omega)
      have hok2 := qP_ok (m := m) hc F (1 + 3) e p.2 (by omega) he k2
      have gF := qR_F_t (qR_F_t (qR_F_t hF1 a2 (Or.inl (Nat.le_refl _))) hF2 (Or.inr rfl)) c2 (Or.inl g2)
      have hif : (if c p.2 = qP_sg 1 then 0 else 1) ≤ 1 := by split <;> omega
      have k6 := hok2.1
      have hbd : n3 ≤ n + ((qP c m F (1 + 3) e p.2).2 - j) + 0 := by omega
      have hrun : qa_run (d + 4) 27 35 [qa_a (some rd), qa_i (nI m), qa_i (nI e), qa_a (some fi), qa_a (some b), qa_i (nI cnt), l6] [] [] (K, I, R, n, z) = some (some (qa_a o2), (K3, I3, R3, n3, z3)) := by
        rw [qr_27_35]
        simp (disch := first | assumption | omega | exact Or.inl rfl | exact Or.inr rfl | exact qb_01) only [qr_27_0, qr_27_1, qr_27_2, qr_27_3, qr_27_6, qr_27_7, qr_27_8_0, qr_27_8_1, qr_27_11, qr_27_12, qr_27_15, qr_27_16, qr_27_19, qr_27_22, qr_27_24, qr_27_27, qr_27_28, qr_27_29, qr_27_30, qr_27_32, qr_27_33, qr_27_37, qr_27_39, qr_27_42, qr_27_43, qr_27_45, qr_27_48, qr_27_51, qr_27_52, qr_27_53, qr_27_54, qr_27_57, qr_27_59, qr_27_61_0, qr_27_61_1, qr_27_64, qr_27_65, qr_27_66, qr_27_68, qr_27_70, qr_27_73, qr_27_75, qr_27_77, qr_27_80, qr_27_83, qr_27_84, qr_27_87, true_and, and_true, false_and, and_false, Option.bind_some, Option.toList_some, Option.toList_none, List.nil_append, List.cons_append, if_true, if_false, ite_true, ite_false, not_true_eq_false, not_false_eq_true, qn_lt0, qn_ge0, qn_lt, qn_le, qn_eq, qn_e0, qn_gt0, qn_le0, qn_m1, nI_add, pk_mul, qb_e0, Classical.not_not, qa_up_s, qa_up_n, qa_uu, e80, hac, a1, hcw, Nat.one_ne_zero]
        exact c1
      cases hl : (qP c m F (1 + 3) e p.2).1 with
      | none =>
        have ho := c5 hl
        subst ho
        rw [qP_lp_nn h1s hp hl]
        exact ⟨none, K3, I3, R3, n3, z3, hrun, gF, c3, by rw [if_pos h1s]; exact hbd, fun _ => rfl, fun t ht => absurd ht (by simp)⟩
      | some f =>
        obtain ⟨o3, n1, d1, d2, d3, d4, d5, d6, d7, d8, d9⟩ := c6 f hl
        rw [qP_lp_s h1s hp hl]
        refine ⟨o2, K3, I3, R3, n3, z3, hrun, gF, c3, by rw [if_pos h1s]; exact hbd, fun h => absurd h (by simp), fun f' hf' => ?_⟩
        cases hf'
        obtain ⟨w1, w2, w3, w4, w5⟩ := id c2
        have hR3b : R3 b = va_up (R b) 3 (some b1) := by rw [w5 b (by omega) (by omega), hR2, qa_up_s, hRb']
        have hR3c : R3 b1 3 = o3 := by rw [d8, qa_up_s]
        refine ⟨some b1, n1, d1, by omega, d3, d4, d5, d6, d7, hR3b, ?_⟩
        refine qt_RB_C (qt_RB_cg (fun a q1 q2 => ⟨w3 a (by omega), w4 a (by omega) (by omega), by rw [w5 a (by omega) (by omega), hR2, qa_up_n _ _ (by omega)]⟩) (Nat.le_refl _) (w3 b1 (by omega)) (w4 b1 g3 (by omega)) (by rw [d8, qa_up_n _ _ (by omega), hR2, qa_up_n _ _ hbb]) g4) g2 (by omega) hn ?_
        rw [hR3c]
        exact qt_CB_cg (fun _ _ _ => ⟨rfl, rfl, rfl⟩) hn' (Nat.le_refl _) d9
  · rw [if_neg h1] at hac
    have h1s : ¬ c j = qP_sg 1 := h1
    rw [qP_lp_0 h1s]
    obtain ⟨K', I', R', g1, g2⟩ := qs_EP_or (d := d + 2) (K := K) (I := I) (R := R) (n := n) (z := z) (o := some fi)
    have gF := qR_E (rd := rd) (b := b) (z := z) g2
    obtain ⟨q1, q2, q3, q4, q5, q6⟩ := g2
    refine ⟨some n, K', I', R', n + 1, z + 4, ?_, gF, by rw [(q6 rd (by omega)).2.1]; exact x3, by rw [if_neg h1s]; show n + 1 ≤ n + (j - j) + 1; omega, fun h => absurd h (by simp), fun f hf => ?_⟩
    · rw [qr_27_35]
      simp (disch := first | assumption | omega | exact Or.inl rfl | exact Or.inr rfl | exact qb_01) only [qr_27_0, qr_27_1, qr_27_2, qr_27_3, qr_27_6, qr_27_7, qr_27_8_0, qr_27_8_1, qr_27_11, qr_27_12, qr_27_15, qr_27_16, qr_27_19, qr_27_22, qr_27_24, qr_27_27, qr_27_28, qr_27_29, qr_27_30, qr_27_32, qr_27_33, qr_27_37, qr_27_39, qr_27_42, qr_27_43, qr_27_45, qr_27_48, qr_27_51, qr_27_52, qr_27_53, qr_27_54, qr_27_57, qr_27_59, qr_27_61_0, qr_27_61_1, qr_27_64, qr_27_65, qr_27_66, qr_27_68, qr_27_70, qr_27_73, qr_27_75, qr_27_77, qr_27_80, qr_27_83, qr_27_84, qr_27_87, true_and, and_true, false_and, and_false, Option.bind_some, Option.toList_some, Option.toList_none, List.nil_append, List.cons_append, if_true, if_false, ite_true, ite_false, not_true_eq_false, not_false_eq_true, qn_lt0, qn_ge0, qn_lt, qn_le, qn_eq, qn_e0, qn_gt0, qn_le0, qn_m1, nI_add, pk_mul, qb_e0, Classical.not_not, qa_up_s, qa_up_n, qa_uu, e80, hac, g1]
    · cases hf
      refine ⟨none, n, rfl, Nat.le_refl n, by omega, q1, q2, q4, q5, ?_, rfl⟩
      rw [(q6 b (by omega)).2.2]
      have := va_up_i (R b) 3
      rw [hRb] at this
      exact this.symm
theorem qR_par1 (hm : m ≤ 10) (hc : ∀ j, L ≤ j → c j = 200) (hS : qR_S c m L rd tx 28 1 F) (hQ : qR_Q c m L rd tx 27 1 F) : qR_S c m L rd tx 27 2 (F + 1) := by
  intro e i D K I R n z he hF hD hX hr ht hn
  obtain ⟨d, rfl⟩ : ∃ d, D = d + 5 := ⟨D - 5, by omega⟩
  have hq : qP c m (F + 1) 2 e i = qP_par 1 c (qP c m F 1 e i) (fun j => qP c m F (1 + 3) e j) := by
    rw [qP, if_neg (by omega), if_pos (by omega)]
  have x1 := hX.1
  have x2 := hX.2.1
  have x3 := hX.2.2.1
  have x8 := hX.2.2.2.2.2.2.2.1
  have x9 := hX.2.2.2.2.2.2.2.2
  rw [hq]
  obtain ⟨o, K', I', R', n', z', a1, a2, a3, a4, a5, a6⟩ := hS e i (d + 4) K I R n z he (by omega) (by omega) hX hr ht hn
  have hok := qP_ok (m := m) hc F 1 e i (by omega) he hX.2.2.2.2.2.2.1
  generalize qP c m F 1 e i = p at a3 a4 a5 a6 hok ⊢
  obtain ⟨k1, k2, k3⟩ := hok
  cases hp : p.1 with
  | none =>
    have ho := a5 hp
    subst ho
    rw [qP_par_n hp]
    refine ⟨none, K', I', R', n', z', ?_, a2, a3, a4, fun _ => rfl, fun t ht => absurd ht (by simp)⟩
    simp (disch := first | assumption | omega | exact Or.inl rfl | exact Or.inr rfl | exact qb_01) only [qe_27, qr_27_0, qr_27_1, qr_27_2, qr_27_3, qr_27_6, qr_27_7, qr_27_8_0, qr_27_8_1, qr_27_11, qr_27_12, qr_27_15, qr_27_16, qr_27_19, qr_27_22, qr_27_24, qr_27_27, qr_27_28, qr_27_29, qr_27_30, qr_27_32, qr_27_33, qr_27_37, qr_27_39, qr_27_42, qr_27_43, qr_27_45, qr_27_48, qr_27_51, qr_27_52, qr_27_53, qr_27_54, qr_27_57, qr_27_59, qr_27_61_0, qr_27_61_1, qr_27_64, qr_27_65, qr_27_66, qr_27_68, qr_27_70, qr_27_73, qr_27_75, qr_27_77, qr_27_80, qr_27_83, qr_27_84, qr_27_87, true_and, and_true, false_and, and_false, Option.bind_some, Option.toList_some, Option.toList_none, List.nil_append, List.cons_append, if_true, if_false, ite_true, ite_false, not_true_eq_false, not_false_eq_true, qn_lt0, qn_ge0, qn_lt, qn_le, qn_eq, qn_e0, qn_gt0, qn_le0, qn_m1, nI_add, pk_mul, qb_e0, Classical.not_not, qa_up_s, qa_up_n, qa_uu, a1]
  | some t =>
    obtain ⟨b1, g1, g2, g3, g4, g5⟩ := a6 t hp
    subst g1
    obtain ⟨-, k4, -⟩ := k3 t hp
    have k5 : i < p.2 := (k4 (by omega)).1
    have hX2 := qR_x_F hX a2 hr ht (Or.inl (Nat.le_refl _)) a3 k2
    have y1 := hX2.1
    have y2 := hX2.2.1
    have y4 := hX2.2.2.2.1.1
    have hhe := qs_TR_here (d := d + 3) (n := n') (z := z') hX2
    have hve := qR_v_eq (c := c) (L := L) (i := p.2) (w := 124) (by omega) x8 x9
    have hn' : n ≤ n' := a2.1
    have hKb1 := qt_RB_K g4
    by_cases h1 : c p.2 = 124
    · have h1s : c p.2 = qP_sg 1 := h1
      obtain ⟨o2, K3, I3, R3, n3, z3, c1, c2, c3, c4, c5, c6⟩ := hQ e p.2 (d + 4) K' I' R' n' z' b1 b1 0 qa_u he (by omega) (by omega) hX2 (by omega) (by omega) (by omega) g3 hKb1 g5 (by omega)
      have hok2 := qP_ok (m := m) hc F (1 + 3) e p.2 (by omega) he k2
      have gF := qR_F_t a2 c2 (Or.inl g2)
      rw [if_pos h1s] at c4
      have k6 := hok2.1
      have hbd : n3 ≤ n + ((qP c m F (1 + 3) e p.2).2 - i) := by omega
      have hrun : qa_ex (d + 5) 27 [qa_a (some rd), qa_i (nI m), qa_i (nI e)] (K, I, R, n, z) = some (some (qa_a o2), (K3, I3, R3, n3, z3)) := by
        simp (disch := first | assumption | omega | exact Or.inl rfl | exact Or.inr rfl | exact qb_01) only [qe_27, qr_27_0, qr_27_1, qr_27_2, qr_27_3, qr_27_6, qr_27_7, qr_27_8_0, qr_27_8_1, qr_27_11, qr_27_12, qr_27_15, qr_27_16, qr_27_19, qr_27_22, qr_27_24, qr_27_27, qr_27_28, qr_27_29, qr_27_30, qr_27_32, qr_27_33, qr_27_37, qr_27_39, qr_27_42, qr_27_43, qr_27_45, qr_27_48, qr_27_51, qr_27_52, qr_27_53, qr_27_54, qr_27_57, qr_27_59, qr_27_61_0, qr_27_61_1, qr_27_64, qr_27_65, qr_27_66, qr_27_68, qr_27_70, qr_27_73, qr_27_75, qr_27_77, qr_27_80, qr_27_83, qr_27_84, qr_27_87, true_and, and_true, false_and, and_false, Option.bind_some, Option.toList_some, Option.toList_none, List.nil_append, List.cons_append, if_true, if_false, ite_true, ite_false, not_true_eq_false, not_false_eq_true, qn_lt0, qn_ge0, qn_lt, qn_le, qn_eq, qn_e0, qn_gt0, qn_le0, qn_m1, nI_add, pk_mul, qb_e0, Classical.not_not, qa_up_s, qa_up_n, qa_uu, a1, y2, a3, hhe, hve, eq_true h1]
        exact c1
      cases hl : (qP c m F (1 + 3) e p.2).1 with
      | none =>
        have ho := c5 hl
        subst ho
        rw [qP_par_nn hp h1s hl]
        exact ⟨none, K3, I3, R3, n3, z3, hrun, gF, c3, hbd, fun _ => rfl, fun t ht => absurd ht (by simp)⟩
      | some f =>
        obtain ⟨o3, n1, d1, d2, d3, d4, d5, d6, d7, d8, d9⟩ := c6 f hl
        rw [qP_par_s hp h1s hl]
        refine ⟨o2, K3, I3, R3, n3, z3, hrun, gF, c3, hbd, fun h => absurd h (by simp), fun f' hf' => ?_⟩
        cases hf'
        obtain ⟨w1, w2, w3, w4, w5⟩ := id c2
        have hR3c : R3 b1 3 = o3 := by rw [d8, qa_up_s]
        have hCB : qt_CB n n1 K3 I3 R3 (qP_tl t f) (some b1) := by
          refine qt_RB_C (qt_RB_cg (fun a q1 q2 => ⟨w3 a (by omega), w4 a (by omega) (by omega), w5 a (by omega) (by omega)⟩) (Nat.le_refl _) (w3 b1 (by omega)) (w4 b1 g3 (by omega)) (by rw [d8, qa_up_n _ _ (by omega)]) g4) g2 (by omega) hn ?_
          rw [hR3c]
          exact qt_CB_cg (fun _ _ _ => ⟨rfl, rfl, rfl⟩) hn' (Nat.le_refl _) d9
        rw [← d6] at hCB
        exact ⟨n1, d1, by omega, d3, ⟨d4, d5, hCB⟩, d7⟩
    · have h1s : ¬ c p.2 = qP_sg 1 := h1
      rw [qP_par_1 hp h1s]
      refine ⟨some b1, K', I', R', n', z', ?_, a2, a3, a4, fun h => absurd h (by simp), fun t' ht' => ?_⟩
      · simp (disch := first | assumption | omega | exact Or.inl rfl | exact Or.inr rfl | exact qb_01) only [qe_27, qr_27_0, qr_27_1, qr_27_2, qr_27_3, qr_27_6, qr_27_7, qr_27_8_0, qr_27_8_1, qr_27_11, qr_27_12, qr_27_15, qr_27_16, qr_27_19, qr_27_22, qr_27_24, qr_27_27, qr_27_28, qr_27_29, qr_27_30, qr_27_32, qr_27_33, qr_27_37, qr_27_39, qr_27_42, qr_27_43, qr_27_45, qr_27_48, qr_27_51, qr_27_52, qr_27_53, qr_27_54, qr_27_57, qr_27_59, qr_27_61_0, qr_27_61_1, qr_27_64, qr_27_65, qr_27_66, qr_27_68, qr_27_70, qr_27_73, qr_27_75, qr_27_77, qr_27_80, qr_27_83, qr_27_84, qr_27_87, true_and, and_true, false_and, and_false, Option.bind_some, Option.toList_some, Option.toList_none, List.nil_append, List.cons_append, if_true, if_false, ite_true, ite_false, not_true_eq_false, not_false_eq_true, qn_lt0, qn_ge0, qn_lt, qn_le, qn_eq, qn_e0, qn_gt0, qn_le0, qn_m1, nI_add, pk_mul, qb_e0, Classical.not_not, qa_up_s, qa_up_n, qa_uu, a1, y2, a3, hhe, hve, eq_false h1]
      · cases ht'
        exact ⟨b1, rfl, g2, g3, g4, g5⟩
/-- the class's reader, for all depths -/
theorem qR_all (hm : m ≤ 10) (hc : ∀ j, L ≤ j → c j = 200) : ∀ F, qR_S c m L rd tx 29 0 F ∧ qR_S c m L rd tx 28 1 F ∧ qR_S c m L rd tx 27 2 F ∧ qR_Q c m L rd tx 28 0 F ∧ qR_Q c m L rd tx 27 1 F := by
  intro F
  induction F with
  | zero => exact ⟨fun _ _ _ _ _ _ _ _ _ h => absurd h (by omega), fun _ _ _ _ _ _ _ _ _ h => absurd h (by omega), fun _ _ _ _ _ _ _ _ _ h => absurd h (by omega), fun _ _ _ _ _ _ _ _ _ _ _ _ _ h => absurd h (by omega), fun _ _ _ _ _ _ _ _ _ _ _ _ _ h => absurd h (by omega)⟩
  | succ F ih =>
    obtain ⟨i1, i2, i3, i4, i5⟩ := ih
    exact ⟨qR_atom hm hc i3, qR_par0 hm hc i1 i4, qR_par1 hm hc i2 i5, qR_loop0 hm hc i1 i4, qR_loop1 hm hc i2 i5⟩
end Q61
