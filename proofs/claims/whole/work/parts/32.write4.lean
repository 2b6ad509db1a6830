/-! Writing curricula, both sides. -/
theorem qn_div10 : ∀ p, p < 101 → nI p / nI 10 = nI (p / 10) := by decide +kernel
theorem qn_mod10 : ∀ p, p < 101 → nI p - nI (p / 10 * 10) = nI (p % 10) := by decide +kernel
theorem qw_z {I : Nat → Nat → Int32} {a f b : Nat} : va_up I a (va_up (I a) f (nI 0)) = qw_W I a f b 0 [] := by
  unfold qw_W
  show _ = va_up (va_up I b (I b)) a (va_up (I a) f (nI 0))
  rw [qa_uI]
def qk_wn (p : Nat) : List Nat := (if 10 ≤ p then [48 + p / 10] else []) ++ [48 + p % 10]
def qk_w1 (pm : Nat → Nat) (T : Nat → qt_T) (k : Nat) : List Nat := (if k = 0 then [] else [59]) ++ (qk_wn (pm k) ++ (if qt_ne (T k) = true then 61 :: (qt_wr (T k)).1 else []))
def qk_ws (pm : Nat → Nat) (T : Nat → qt_T) : Nat → List Nat
  | 0 => []
  | k + 1 => qk_ws pm T k ++ qk_w1 pm T k
theorem qk_ws_mono {pm : Nat → Nat} {T : Nat → qt_T} {k : Nat} : ∀ {j : Nat}, k ≤ j → (qk_ws pm T k).length ≤ (qk_ws pm T j).length := by
  intro j
  induction j with
  | zero => intro h; rw [show k = 0 by omega]; exact Nat.le_refl _
  | succ j ih =>
    intro h
    by_cases e : k = j + 1
    · subst e; exact Nat.le_refl _
    · have := ih (by omega)
      show _ ≤ (qk_ws pm T j ++ qk_w1 pm T j).length
      rw [List.length_append]
      omega
/-- the trees of a curriculum, in the class, in the model -/
def qt_CT (K : Nat → Nat × Nat) (I : Nat → Nat → Int32) (R : Nat → Nat → Option Nat) (q nk : Nat) (T : Nat → qt_T) : Prop := ∀ k, k < nk → qt_C K I R (T k) (R (q + 3) k) ∧ qt_wf 10 (T k) ∧ (qt_dp (T k)).1 ≤ 13
def qt_MT (c : Nat → Int32) (nk : Nat) (T : Nat → qt_T) : Prop := ∀ k, k < nk → qt_M c (T k) (c (12 + k)) ∧ qt_wf 10 (T k) ∧ (qt_dp (T k)).1 ≤ 13
theorem qt_C_o {K : Nat → Nat × Nat} {I : Nat → Nat → Int32} {R : Nat → Nat → Option Nat} {t : qt_T} {o : Option Nat} (h : qt_C K I R t o) : (qt_ne t = false ∧ o = none) ∨ (qt_ne t = true ∧ ∃ c, o = some c ∧ K c = (10, 0) ∧ 204 ≤ c) := by
  cases t with
  | num v => exact Or.inl ⟨rfl, h⟩
  | var i => exact h.elim
  | neg a => exact h.elim
  | mulR a k => exact h.elim
  | mulL k nx => obtain ⟨c, h1, h2, h3, -⟩ := h; exact Or.inr ⟨rfl, c, h1, h3, h2⟩
  | add f nx => obtain ⟨c, h1, h2, h3, -⟩ := h; exact Or.inr ⟨rfl, c, h1, h3, h2⟩
  | sub f nx => obtain ⟨c, h1, h2, h3, -⟩ := h; exact Or.inr ⟨rfl, c, h1, h3, h2⟩
theorem qt_M_o {c : Nat → Int32} {t : qt_T} {x : Int32} (h : qt_M c t x) : (qt_ne t = false ∧ x = (-1)) ∨ (qt_ne t = true ∧ ∃ j, x = nI j ∧ j < 170) := by
  cases t with
  | num v => exact Or.inl ⟨rfl, h⟩
  | var i => exact h.elim
  | neg a => exact h.elim
  | mulR a k => exact h.elim
  | mulL k nx => obtain ⟨j, h1, h2, -⟩ := h; exact Or.inr ⟨rfl, j, h1, h2⟩
  | add f nx => obtain ⟨j, h1, h2, -⟩ := h; exact Or.inr ⟨rfl, j, h1, h2⟩
  | sub f nx => obtain ⟨j, h1, h2, -⟩ := h; exact Or.inr ⟨rfl, j, h1, h2⟩
section Q32
variable {d a b f : Nat} {K : Nat → Nat × Nat} {I : Nat → Nat → Int32} {R : Nat → Nat → Option Nat} {n z : Nat} {x y : Nat} {h : qa_H} {u nk ni k i j m B p q : Nat} {l r : List Nat} {T : Nat → qt_T} {pm : Nat → Nat}
theorem qs_CU_writeNumber (hk : K a = (1, 0)) (hc : (K (a + 1)).1 = 100) (hc2 : (K (a + 1)).2 = 80) (hr : R a 0 = some (a + 1)) (hp : p < 101) (hm : m + l.length + (qk_wn p).length ≤ 80) : qa_ex (d + 2) 149 [qa_i (nI p), qa_a (some a)] (K, qw_W I a 1 (a + 1) m l, R, n, z) = some (none, (K, qw_W I a 1 (a + 1) m (l ++ qk_wn p), R, n, z)) := by
  have n10 : ¬ nI 10 = 0 := by decide
  have d1 := qn_div10 p hp
  have d2 := qn_mod10 p hp
  unfold qk_wn at hm ⊢
  by_cases hq : 10 ≤ p
  · have hq2 : ¬ p < 10 := by omega
    rw [if_pos hq] at hm ⊢
    simp only [List.length_append, List.length_cons, List.length_nil] at hm
    simp (disch := first | assumption | omega | (simp only [List.length_append, List.length_cons, List.length_nil]; omega) | exact qb_01) only [qe_149, qr_149_0, qr_149_1, qr_149_3, qr_149_6, qr_149_7, qr_149_9, qr_149_10, qr_149_12, qr_149_13, qr_149_14, qr_149_17, qr_149_18, qr_149_20, qr_149_21, qr_149_23, qr_149_24, qr_149_25, qr_149_28, true_and, and_true, false_and, and_false, Option.bind_some, Option.toList_some, Option.toList_none, List.nil_append, List.cons_append, if_true, if_false, ite_true, ite_false, not_true_eq_false, not_false_eq_true, qn_lt0, qn_ge0, qn_lt, qn_le, qn_eq, qn_e0, qn_gt0, qn_le0, qn_m1, nI_add, pk_mul, qb_e0, Classical.not_not, d1, d2, hq2, qs_TR_add, List.append_assoc]
  · have hq2 : p < 10 := by omega
    rw [if_neg hq] at hm ⊢
    simp only [List.length_append, List.length_cons, List.length_nil] at hm
    simp (disch := first | assumption | omega | (simp only [List.length_append, List.length_cons, List.length_nil]; omega) | exact qb_01) only [qe_149, qr_149_0, qr_149_1, qr_149_3, qr_149_6, qr_149_7, qr_149_9, qr_149_10, qr_149_12, qr_149_13, qr_149_14, qr_149_17, qr_149_18, qr_149_20, qr_149_21, qr_149_23, qr_149_24, qr_149_25, qr_149_28, true_and, and_true, false_and, and_false, Option.bind_some, Option.toList_some, Option.toList_none, List.nil_append, List.cons_append, if_true, if_false, ite_true, ite_false, not_true_eq_false, not_false_eq_true, qn_lt0, qn_ge0, qn_lt, qn_le, qn_eq, qn_e0, qn_gt0, qn_le0, qn_m1, nI_add, pk_mul, qb_e0, Classical.not_not, d1, d2, hq2, qs_TR_add, List.append_assoc]
theorem qs_EP_writeTo (hk : K a = (1, 0)) (hc : (K (a + 1)).1 = 100) (hc2 : (K (a + 1)).2 = 80) (hr : R a 0 = some (a + 1)) (ha : a + 1 < 204) {t : qt_T} {o : Option Nat} (h1 : qt_C K I R t o) (h2 : qt_wf 10 t) (h3 : (qt_dp t).1 ≤ 13) (hne : qt_ne t = true) (hm : m + l.length + (qt_wr t).1.length ≤ 80) : qa_ex (d + 16) 150 [qa_a o, qa_a (some a)] (K, qw_W I a 1 (a + 1) m l, R, n, z) = some (none, (K, qw_W I a 1 (a + 1) m (l ++ (qt_wr t).1), R, n, z)) := by
  have g := (qs_EP_writePart_all (n := n) (z := z) (m := m) hk hc hc2 hr ha t o h1 h2).1 hne (d + 15) 0 l (by omega) (by omega) hm
  rcases qt_C_o h1 with ⟨e, -⟩ | ⟨-, c, rfl, hk2, -⟩
  · rw [hne] at e; cases e
  · simp (disch := first | assumption | omega | (simp only [List.length_append, List.length_cons, List.length_nil]; omega) | exact qb_01) only [qe_150, qr_150_0, qr_150_1, qr_150_2, qr_150_3, qr_150_6, true_and, and_true, false_and, and_false, Option.bind_some, Option.toList_some, Option.toList_none, List.nil_append, List.cons_append, if_true, if_false, ite_true, ite_false, not_true_eq_false, not_false_eq_true, g]
theorem qs_CU_writeTo (hk : K a = (1, 0)) (hc : (K (a + 1)).1 = 100) (hc2 : (K (a + 1)).2 = 80) (hr : R a 0 = some (a + 1)) (ha : a + 1 < 204) (hU : qp_CU K R q) (haq : a + 1 < q) (hn : I q 3 = nI nk) (h10 : nk ≤ 10) (hpm : ∀ k, k < nk → I (q + 1) k = nI (pm k) ∧ pm k < 101) (hT : qt_CT K I R q nk T) (hl : (qk_ws pm T nk).length ≤ 80) : qa_ex (d + 17) 148 [qa_a (some q), qa_a (some a)] (K, qw_W I a 1 (a + 1) 0 [], R, n, z) = some (none, (K, qw_W I a 1 (a + 1) 0 (qk_ws pm T nk), R, n, z)) := by
  obtain ⟨u0, u1, u2, u3, u4, u5, u6, v0, v1, v2⟩ := hU
  have loop : ∀ (j k : Nat) (l3 : qa_V), k + j = nk → qa_run (d + 16) 148 2 [qa_a (some q), qa_a (some a), qa_i (nI k), l3] [] [] (K, qw_W I a 1 (a + 1) 0 (qk_ws pm T k), R, n, z) = some (none, (K, qw_W I a 1 (a + 1) 0 (qk_ws pm T nk), R, n, z)) := by
    intro j
    induction j with
    | zero =>
      intro k l3 hkn
      have hkn : k = nk := by omega
      subst hkn
      rw [qr_148_2]
      simp (disch := first | assumption | omega | (simp only [List.length_append, List.length_cons, List.length_nil]; omega) | exact qb_01) only [qr_148_0, qr_148_1, qr_148_3, qr_148_4, qr_148_7, qr_148_10, qr_148_11, qr_148_14, qr_148_15, qr_148_17, qr_148_20, qr_148_21, qr_148_24, qr_148_25, qr_148_26, qr_148_27, qr_148_30, qr_148_31, qr_148_34, qr_148_35, qr_148_36, qr_148_37, qr_148_38_0, qr_148_38_1, qr_148_41, qr_148_42, qr_148_44, qr_148_47, qr_148_48, qr_148_49, qr_148_52, qr_148_55, qr_148_58, true_and, and_true, false_and, and_false, Option.bind_some, Option.toList_some, Option.toList_none, List.nil_append, List.cons_append, if_true, if_false, ite_true, ite_false, not_true_eq_false, not_false_eq_true, qn_lt0, qn_ge0, qn_lt, qn_le, qn_eq, qn_e0, qn_gt0, qn_le0, qn_m1, nI_add, pk_mul, qb_e0, Classical.not_not, qw_n, hn, Nat.le_refl]
    | succ j ih =>
      intro k l3 hkn
      have e1 : ¬ nk ≤ k := by omega
      have e2 := fun l3 => ih (k + 1) l3 (by omega)
      obtain ⟨hp1, hp2⟩ := hpm k (by omega)
      obtain ⟨t1, t2, t3⟩ := hT k (by omega)
      have hl2 : (qk_ws pm T (k + 1)).length ≤ 80 := Nat.le_trans (qk_ws_mono (by omega)) hl
      have hst : qk_ws pm T (k + 1) = qk_ws pm T k ++ qk_w1 pm T k := rfl
      rw [hst] at e2 hl2
      unfold qk_w1 at e2 hl2
      rw [qr_148_2]
      have wt := fun (l : List Nat) => qs_EP_writeTo (d := d) (n := n) (z := z) (m := 0) (l := l) hk hc hc2 hr ha t1 t2 t3
      rcases qt_C_o t1 with ⟨g1, g2⟩ | ⟨g1, c, g2, g3, g4⟩
      · simp only [g1, Bool.false_eq_true, if_false, List.append_nil] at e2 hl2
        by_cases hk0 : k = 0
        · subst hk0
          simp only [if_true, List.nil_append, List.length_append] at e2 hl2
          simp (disch := first | assumption | omega | (simp only [List.length_append, List.length_cons, List.length_nil]; omega) | exact qb_01) only [qr_148_0, qr_148_1, qr_148_3, qr_148_4, qr_148_7, qr_148_10, qr_148_11, qr_148_14, qr_148_15, qr_148_17, qr_148_20, qr_148_21, qr_148_24, qr_148_25, qr_148_26, qr_148_27, qr_148_30, qr_148_31, qr_148_34, qr_148_35, qr_148_36, qr_148_37, qr_148_38_0, qr_148_38_1, qr_148_41, qr_148_42, qr_148_44, qr_148_47, qr_148_48, qr_148_49, qr_148_52, qr_148_55, qr_148_58, true_and, and_true, false_and, and_false, Option.bind_some, Option.toList_some, Option.toList_none, List.nil_append, List.cons_append, if_true, if_false, ite_true, ite_false, not_true_eq_false, not_false_eq_true, qn_lt0, qn_ge0, qn_lt, qn_le, qn_eq, qn_e0, qn_gt0, qn_le0, qn_m1, nI_add, pk_mul, qb_e0, Classical.not_not, qw_n, hn, e1, v0, v2, hp1, qs_CU_writeNumber, g2, Nat.le_refl, e2]
        · have hk1 : ¬ k ≤ 0 := by omega
          simp only [if_neg hk0, List.nil_append, List.cons_append, List.length_append, List.length_cons, List.length_nil] at e2 hl2
          simp (disch := first | assumption | omega | (simp only [List.length_append, List.length_cons, List.length_nil]; omega) | exact qb_01) only [qr_148_0, qr_148_1, qr_148_3, qr_148_4, qr_148_7, qr_148_10, qr_148_11, qr_148_14, qr_148_15, qr_148_17, qr_148_20, qr_148_21, qr_148_24, qr_148_25, qr_148_26, qr_148_27, qr_148_30, qr_148_31, qr_148_34, qr_148_35, qr_148_36, qr_148_37, qr_148_38_0, qr_148_38_1, qr_148_41, qr_148_42, qr_148_44, qr_148_47, qr_148_48, qr_148_49, qr_148_52, qr_148_55, qr_148_58, true_and, and_true, false_and, and_false, Option.bind_some, Option.toList_some, Option.toList_none, List.nil_append, List.cons_append, if_true, if_false, ite_true, ite_false, not_true_eq_false, not_false_eq_true, qn_lt0, qn_ge0, qn_lt, qn_le, qn_eq, qn_e0, qn_gt0, qn_le0, qn_m1, nI_add, pk_mul, qb_e0, Classical.not_not, qw_n, hn, e1, v0, v2, hp1, qs_CU_writeNumber, qs_TR_add, g2, hk1, hk0, List.append_assoc, e2]
      · simp only [g1, if_true] at e2 hl2 wt
        rw [g2] at wt
        simp only [List.length_append, List.length_cons, List.length_nil] at hl2
        by_cases hk0 : k = 0
        · subst hk0
          simp only [if_true, List.nil_append, List.cons_append, List.length_append, List.length_cons, List.length_nil] at e2 hl2
          simp (disch := first | assumption | omega | (simp only [List.length_append, List.length_cons, List.length_nil]; omega) | exact qb_01) only [qr_148_0, qr_148_1, qr_148_3, qr_148_4, qr_148_7, qr_148_10, qr_148_11, qr_148_14, qr_148_15, qr_148_17, qr_148_20, qr_148_21, qr_148_24, qr_148_25, qr_148_26, qr_148_27, qr_148_30, qr_148_31, qr_148_34, qr_148_35, qr_148_36, qr_148_37, qr_148_38_0, qr_148_38_1, qr_148_41, qr_148_42, qr_148_44, qr_148_47, qr_148_48, qr_148_49, qr_148_52, qr_148_55, qr_148_58, true_and, and_true, false_and, and_false, Option.bind_some, Option.toList_some, Option.toList_none, List.nil_append, List.cons_append, if_true, if_false, ite_true, ite_false, not_true_eq_false, not_false_eq_true, qn_lt0, qn_ge0, qn_lt, qn_le, qn_eq, qn_e0, qn_gt0, qn_le0, qn_m1, nI_add, pk_mul, qb_e0, Classical.not_not, qw_n, hn, e1, v0, v2, hp1, qs_CU_writeNumber, qs_TR_add, g2, Nat.le_refl, wt, List.append_assoc, e2]
        · have hk1 : ¬ k ≤ 0 := by omega
          simp only [if_neg hk0, List.nil_append, List.cons_append, List.length_append, List.length_cons, List.length_nil] at e2 hl2
          have wt2 := wt (qk_ws pm T k ++ 59 :: (qk_wn (pm k) ++ [61])) trivial (by simp only [List.length_append, List.length_cons, List.length_nil]; omega)
          simp (disch := first | assumption | omega | (simp only [List.length_append, List.length_cons, List.length_nil]; omega) | exact qb_01) only [qr_148_0, qr_148_1, qr_148_3, qr_148_4, qr_148_7, qr_148_10, qr_148_11, qr_148_14, qr_148_15, qr_148_17, qr_148_20, qr_148_21, qr_148_24, qr_148_25, qr_148_26, qr_148_27, qr_148_30, qr_148_31, qr_148_34, qr_148_35, qr_148_36, qr_148_37, qr_148_38_0, qr_148_38_1, qr_148_41, qr_148_42, qr_148_44, qr_148_47, qr_148_48, qr_148_49, qr_148_52, qr_148_55, qr_148_58, true_and, and_true, false_and, and_false, Option.bind_some, Option.toList_some, Option.toList_none, List.nil_append, List.cons_append, if_true, if_false, ite_true, ite_false, not_true_eq_false, not_false_eq_true, qn_lt0, qn_ge0, qn_lt, qn_le, qn_eq, qn_e0, qn_gt0, qn_le0, qn_m1, nI_add, pk_mul, qb_e0, Classical.not_not, qw_n, hn, e1, v0, v2, hp1, qs_CU_writeNumber, qs_TR_add, g2, hk1, hk0, wt2, List.append_assoc, e2]
  simp (disch := first | assumption | omega | (simp only [List.length_append, List.length_cons, List.length_nil]; omega) | exact qb_01) only [qe_148, qr_148_0, qr_148_1, qr_148_3, qr_148_4, qr_148_7, qr_148_10, qr_148_11, qr_148_14, qr_148_15, qr_148_17, qr_148_20, qr_148_21, qr_148_24, qr_148_25, qr_148_26, qr_148_27, qr_148_30, qr_148_31, qr_148_34, qr_148_35, qr_148_36, qr_148_37, qr_148_38_0, qr_148_38_1, qr_148_41, qr_148_42, qr_148_44, qr_148_47, qr_148_48, qr_148_49, qr_148_52, qr_148_55, qr_148_58]
  exact loop nk 0 qa_u (by omega)
theorem qs_MO_write (hM : qp_MO K R u) (hn : I (u + 5) 0 = nI nk) (h10 : nk ≤ 10) (hpm : ∀ k, k < nk → I (u + 5) (2 + k) = nI (pm k) ∧ pm k < 101) (hT : qt_MT (I (u + 5)) nk T) (hl : (qk_ws pm T nk).length ≤ 80) : qa_ex (d + 16) 229 [qa_a (some u)] (K, I, R, n, z) = some (some (qa_i (nI (qk_ws pm T nk).length)), (K, qw_W I u 22 (u + 14) 0 (qk_ws pm T nk), R, n, z)) := by
  have hM' := hM
  obtain ⟨m0, -, -, -, -, ⟨c1, c2, c3⟩, -⟩ := hM
  have n10 : ¬ nI 10 = 0 := by decide
  have loop : ∀ (j k : Nat), k + j = nk → qa_run (d + 15) 229 7 [qa_a (some u), qa_i (nI k)] [] [] (K, qw_W I u 22 (u + 14) 0 (qk_ws pm T k), R, n, z) = some (some (qa_i (nI (qk_ws pm T nk).length)), (K, qw_W I u 22 (u + 14) 0 (qk_ws pm T nk), R, n, z)) := by
    intro j
    induction j with
    | zero =>
      intro k hkn
      have hkn : k = nk := by omega
      subst hkn
      rw [qr_229_7]
      simp (disch := first | assumption | omega | (simp only [List.length_append, List.length_cons, List.length_nil]; omega) | exact qb_01) only [qr_229_0, qr_229_1, qr_229_2, qr_229_5, qr_229_6, qr_229_8, qr_229_9, qr_229_12, qr_229_13, qr_229_14, qr_229_17, qr_229_18, qr_229_21, qr_229_22, qr_229_24, qr_229_27, qr_229_28, qr_229_31, qr_229_32, qr_229_33, qr_229_34, qr_229_35, qr_229_37, qr_229_40, qr_229_41, qr_229_43, qr_229_44, qr_229_47, qr_229_48, qr_229_49, qr_229_50, qr_229_51, qr_229_53, qr_229_54, qr_229_55, qr_229_58, qr_229_59, qr_229_61, qr_229_62, qr_229_65, qr_229_66, qr_229_67, qr_229_68, qr_229_69, qr_229_71, qr_229_72, qr_229_73, qr_229_76, qr_229_77, qr_229_80, qr_229_82, qr_229_83, qr_229_84, qr_229_85, qr_229_88, qr_229_89, qr_229_91, qr_229_94, qr_229_95, qr_229_96, qr_229_99, qr_229_101, qr_229_102, qr_229_103, qr_229_104, qr_229_106, qr_229_109, qr_229_112, qr_229_115, qr_229_116, qr_229_119, true_and, and_true, false_and, and_false, Option.bind_some, Option.toList_some, Option.toList_none, List.nil_append, List.cons_append, if_true, if_false, ite_true, ite_false, not_true_eq_false, not_false_eq_true, qn_lt0, qn_ge0, qn_lt, qn_le, qn_eq, qn_e0, qn_gt0, qn_le0, qn_m1, nI_add, pk_mul, qb_e0, Classical.not_not, c3, qw_n, qw_f, hn, Nat.le_refl, Nat.zero_add]
    | succ j ih =>
      intro k hkn
      have e1 : ¬ nk ≤ k := by omega
      have e2 := ih (k + 1) (by omega)
      obtain ⟨hp1, hp2⟩ := hpm k (by omega)
      obtain ⟨t1, t2, t3⟩ := hT k (by omega)
      have d1 := qn_div10 (pm k) hp2
      have d2 := qn_mod10 (pm k) hp2
      have hl2 : (qk_ws pm T (k + 1)).length ≤ 80 := Nat.le_trans (qk_ws_mono (by omega)) hl
      have hst : qk_ws pm T (k + 1) = qk_ws pm T k ++ qk_w1 pm T k := rfl
      rw [hst] at e2 hl2
      unfold qk_w1 qk_wn at e2 hl2
      rw [qr_229_7]
      have wt := fun (l : List Nat) hne => ((qs_MO_writes_all (n := n) (z := z) (m := 0) hM' (T k) _ t1 t2).1 hne).1 (d + 15) l (by omega)
      rcases qt_M_o t1 with ⟨g1, g2⟩ | ⟨g1, c, g2, g4⟩
      · simp only [g1, Bool.false_eq_true, if_false, List.append_nil] at e2 hl2
        by_cases hk0 : k = 0
        · subst hk0
          by_cases hp9 : 10 ≤ pm 0
          · have hp8 : ¬ pm 0 ≤ 9 := by omega
            simp only [if_true, if_pos hp9, List.nil_append, List.cons_append, List.length_append, List.length_cons, List.length_nil] at e2 hl2
            simp (disch := first | assumption | omega | (simp only [List.length_append, List.length_cons, List.length_nil]; omega) | exact qb_01) only [qr_229_0, qr_229_1, qr_229_2, qr_229_5, qr_229_6, qr_229_8, qr_229_9, qr_229_12, qr_229_13, qr_229_14, qr_229_17, qr_229_18, qr_229_21, qr_229_22, qr_229_24, qr_229_27, qr_229_28, qr_229_31, qr_229_32, qr_229_33, qr_229_34, qr_229_35, qr_229_37, qr_229_40, qr_229_41, qr_229_43, qr_229_44, qr_229_47, qr_229_48, qr_229_49, qr_229_50, qr_229_51, qr_229_53, qr_229_54, qr_229_55, qr_229_58, qr_229_59, qr_229_61, qr_229_62, qr_229_65, qr_229_66, qr_229_67, qr_229_68, qr_229_69, qr_229_71, qr_229_72, qr_229_73, qr_229_76, qr_229_77, qr_229_80, qr_229_82, qr_229_83, qr_229_84, qr_229_85, qr_229_88, qr_229_89, qr_229_91, qr_229_94, qr_229_95, qr_229_96, qr_229_99, qr_229_101, qr_229_102, qr_229_103, qr_229_104, qr_229_106, qr_229_109, qr_229_112, qr_229_115, qr_229_116, qr_229_119, true_and, and_true, false_and, and_false, Option.bind_some, Option.toList_some, Option.toList_none, List.nil_append, List.cons_append, if_true, if_false, ite_true, ite_false, not_true_eq_false, not_false_eq_true, qn_lt0, qn_ge0, qn_lt, qn_le, qn_eq, qn_e0, qn_gt0, qn_le0, qn_m1, nI_add, pk_mul, qb_e0, Classical.not_not, c3, qw_n, hn, e1, hp1, d1, d2, hp8, qs_MO_puts hM', g2, qn_m1l, Nat.le_refl, List.append_assoc, e2]
          · have hp8 : pm 0 ≤ 9 := by omega
            simp only [if_true, if_neg hp9, List.nil_append, List.cons_append, List.length_append, List.length_cons, List.length_nil] at e2 hl2
            simp (disch := first | assumption | omega | (simp only [List.length_append, List.length_cons, List.length_nil]; omega) | exact qb_01) only [qr_229_0, qr_229_1, qr_229_2, qr_229_5, qr_229_6, qr_229_8, qr_229_9, qr_229_12, qr_229_13, qr_229_14, qr_229_17, qr_229_18, qr_229_21, qr_229_22, qr_229_24, qr_229_27, qr_229_28, qr_229_31, qr_229_32, qr_229_33, qr_229_34, qr_229_35, qr_229_37, qr_229_40, qr_229_41, qr_229_43, qr_229_44, qr_229_47, qr_229_48, qr_229_49, qr_229_50, qr_229_51, qr_229_53, qr_229_54, qr_229_55, qr_229_58, qr_229_59, qr_229_61, qr_229_62, qr_229_65, qr_229_66, qr_229_67, qr_229_68, qr_229_69, qr_229_71, qr_229_72, qr_229_73, qr_229_76, qr_229_77, qr_229_80, qr_229_82, qr_229_83, qr_229_84, qr_229_85, qr_229_88, qr_229_89, qr_229_91, qr_229_94, qr_229_95, qr_229_96, qr_229_99, qr_229_101, qr_229_102, qr_229_103, qr_229_104, qr_229_106, qr_229_109, qr_229_112, qr_229_115, qr_229_116, qr_229_119, true_and, and_true, false_and, and_false, Option.bind_some, Option.toList_some, Option.toList_none, List.nil_append, List.cons_append, if_true, if_false, ite_true, ite_false, not_true_eq_false, not_false_eq_true, qn_lt0, qn_ge0, qn_lt, qn_le, qn_eq, qn_e0, qn_gt0, qn_le0, qn_m1, nI_add, pk_mul, qb_e0, Classical.not_not, c3, qw_n, hn, e1, hp1, d1, d2, hp8, qs_MO_puts hM', g2, qn_m1l, Nat.le_refl, List.append_assoc, e2]
        · have hk1 : ¬ k ≤ 0 := by omega
          by_cases hp9 : 10 ≤ pm k
          · have hp8 : ¬ pm k ≤ 9 := by omega
            simp only [if_neg hk0, if_pos hp9, List.nil_append, List.cons_append, List.length_append, List.length_cons, List.length_nil] at e2 hl2
            simp (disch := first | assumption | omega | (simp only [List.length_append, List.length_cons, List.length_nil]; omega) | exact qb_01) only [qr_229_0, qr_229_1, qr_229_2, qr_229_5, qr_229_6, qr_229_8, qr_229_9, qr_229_12, qr_229_13, qr_229_14, qr_229_17, qr_229_18, qr_229_21, qr_229_22, qr_229_24, qr_229_27, qr_229_28, qr_229_31, qr_229_32, qr_229_33, qr_229_34, qr_229_35, qr_229_37, qr_229_40, qr_229_41, qr_229_43, qr_229_44, qr_229_47, qr_229_48, qr_229_49, qr_229_50, qr_229_51, qr_229_53, qr_229_54, qr_229_55, qr_229_58, qr_229_59, qr_229_61, qr_229_62, qr_229_65, qr_229_66, qr_229_67, qr_229_68, qr_229_69, qr_229_71, qr_229_72, qr_229_73, qr_229_76, qr_229_77, qr_229_80, qr_229_82, qr_229_83, qr_229_84, qr_229_85, qr_229_88, qr_229_89, qr_229_91, qr_229_94, qr_229_95, qr_229_96, qr_229_99, qr_229_101, qr_229_102, qr_229_103, qr_229_104, qr_229_106, qr_229_109, qr_229_112, qr_229_115, qr_229_116, qr_229_119, true_and, and_true, false_and, and_false, Option.bind_some, Option.toList_some, Option.toList_none, List.nil_append, List.cons_append, if_true, if_false, ite_true, ite_false, not_true_eq_false, not_false_eq_true, qn_lt0, qn_ge0, qn_lt, qn_le, qn_eq, qn_e0, qn_gt0, qn_le0, qn_m1, nI_add, pk_mul, qb_e0, Classical.not_not, c3, qw_n, hn, e1, hp1, d1, d2, hp8, qs_MO_puts hM', g2, qn_m1l, hk1, hk0, List.append_assoc, e2]
          · have hp8 : pm k ≤ 9 := by omega
            simp only [if_neg hk0, if_neg hp9, List.nil_append, List.cons_append, List.length_append, List.length_cons, List.length_nil] at e2 hl2
            simp (disch := first | assumption | omega | (simp only [List.length_append, List.length_cons, List.length_nil]; omega) | exact qb_01) only [qr_229_0, qr_229_1, qr_229_2, qr_229_5, qr_229_6, qr_229_8, qr_229_9, qr_229_12, qr_229_13, qr_229_14, qr_229_17, qr_229_18, qr_229_21, qr_229_22, qr_229_24, qr_229_27, qr_229_28, qr_229_31, qr_229_32, qr_229_33, qr_229_34, qr_229_35, qr_229_37, qr_229_40, qr_229_41, qr_229_43, qr_229_44, qr_229_47, qr_229_48, qr_229_49, qr_229_50, qr_229_51, qr_229_53, qr_229_54, qr_229_55, qr_229_58, qr_229_59, qr_229_61, qr_229_62, qr_229_65, qr_229_66, qr_229_67, qr_229_68, qr_229_69, qr_229_71, qr_229_72, qr_229_73, qr_229_76, qr_229_77, qr_229_80, qr_229_82, qr_229_83, qr_229_84, qr_229_85, qr_229_88, qr_229_89, qr_229_91, qr_229_94, qr_229_95, qr_229_96, qr_229_99, qr_229_101, qr_229_102, qr_229_103, qr_229_104, qr_229_106, qr_229_109, qr_229_112, qr_229_115, qr_229_116, qr_229_119, true_and, and_true, false_and, and_false, Option.bind_some, Option.toList_some, Option.toList_none, List.nil_append, List.cons_append, if_true, if_false, ite_true, ite_false, not_true_eq_false, not_false_eq_true, qn_lt0, qn_ge0, qn_lt, qn_le, qn_eq, qn_e0, qn_gt0, qn_le0, qn_m1, nI_add, pk_mul, qb_e0, Classical.not_not, c3, qw_n, hn, e1, hp1, d1, d2, hp8, qs_MO_puts hM', g2, qn_m1l, hk1, hk0, List.append_assoc, e2]
      · simp only [g1, if_true] at e2 hl2 wt
        rw [g2] at wt
        by_cases hk0 : k = 0
        · subst hk0
          by_cases hp9 : 10 ≤ pm 0
          · have hp8 : ¬ pm 0 ≤ 9 := by omega
            simp only [if_true, if_pos hp9, List.nil_append, List.cons_append, List.length_append, List.length_cons, List.length_nil] at e2 hl2
            simp (disch := first | assumption | omega | (simp only [List.length_append, List.length_cons, List.length_nil]; omega) | exact qb_01) only [qr_229_0, qr_229_1, qr_229_2, qr_229_5, qr_229_6, qr_229_8, qr_229_9, qr_229_12, qr_229_13, qr_229_14, qr_229_17, qr_229_18, qr_229_21, qr_229_22, qr_229_24, qr_229_27, qr_229_28, qr_229_31, qr_229_32, qr_229_33, qr_229_34, qr_229_35, qr_229_37, qr_229_40, qr_229_41, qr_229_43, qr_229_44, qr_229_47, qr_229_48, qr_229_49, qr_229_50, qr_229_51, qr_229_53, qr_229_54, qr_229_55, qr_229_58, qr_229_59, qr_229_61, qr_229_62, qr_229_65, qr_229_66, qr_229_67, qr_229_68, qr_229_69, qr_229_71, qr_229_72, qr_229_73, qr_229_76, qr_229_77, qr_229_80, qr_229_82, qr_229_83, qr_229_84, qr_229_85, qr_229_88, qr_229_89, qr_229_91, qr_229_94, qr_229_95, qr_229_96, qr_229_99, qr_229_101, qr_229_102, qr_229_103, qr_229_104, qr_229_106, qr_229_109, qr_229_112, qr_229_115, qr_229_116, qr_229_119, true_and, and_true, false_and, and_false, Option.bind_some, Option.toList_some, Option.toList_none, List.nil_append, List.cons_append, if_true, if_false, ite_true, ite_false, not_true_eq_false, not_false_eq_true, qn_lt0, qn_ge0, qn_lt, qn_le, qn_eq, qn_e0, qn_gt0, qn_le0, qn_m1, nI_add, pk_mul, qb_e0, Classical.not_not, c3, qw_n, hn, e1, hp1, d1, d2, hp8, qs_MO_puts hM', g2, Nat.le_refl, wt, List.append_assoc, e2]
          · have hp8 : pm 0 ≤ 9 := by omega
            simp only [if_true, if_neg hp9, List.nil_append, List.cons_append, List.length_append, List.length_cons, List.length_nil] at e2 hl2
            simp (disch := first | assumption | omega | (simp only [List.length_append, List.length_cons, List.length_nil]; omega) | exact qb_01) only [qr_229_0, qr_229_1, qr_229_2, qr_229_5, qr_229_6, qr_229_8, qr_229_9, qr_229_12, qr_229_13, qr_229_14, qr_229_17, qr_229_18, qr_229_21, qr_229_22, qr_229_24, qr_229_27, qr_229_28, qr_229_31, qr_229_32, qr_229_33, qr_229_34, qr_229_35, qr_229_37, qr_229_40, qr_229_41, qr_229_43, qr_229_44, qr_229_47, qr_229_48, qr_229_49, qr_229_50, qr_229_51, qr_229_53, qr_229_54, qr_229_55, qr_229_58, qr_229_59, qr_229_61, qr_229_62, qr_229_65, qr_229_66, qr_229_67, qr_229_68, qr_229_69, qr_229_71, qr_229_72, qr_229_73, qr_229_76, qr_229_77, qr_229_80, qr_229_82, qr_229_83, qr_229_84, qr_229_85, qr_229_88, qr_229_89, qr_229_91, qr_229_94, qr_229_95, qr_229_96, qr_229_99, qr_229_101, qr_229_102, qr_229_103, qr_229_104, qr_229_106, qr_229_109, qr_229_112, qr_229_115, qr_229_116, qr_229_119, true_and, and_true, false_and, and_false, Option.bind_some, Option.toList_some, Option.toList_none, List.nil_append, List.cons_append, if_true, if_false, ite_true, ite_false, not_true_eq_false, not_false_eq_true, qn_lt0, qn_ge0, qn_lt, qn_le, qn_eq, qn_e0, qn_gt0, qn_le0, qn_m1, nI_add, pk_mul, qb_e0, Classical.not_not, c3, qw_n, hn, e1, hp1, d1, d2, hp8, qs_MO_puts hM', g2, Nat.le_refl, wt, List.append_assoc, e2]
        · have hk1 : ¬ k ≤ 0 := by omega
          by_cases hp9 : 10 ≤ pm k
          · have hp8 : ¬ pm k ≤ 9 := by omega
            simp only [if_neg hk0, if_pos hp9, List.nil_append, List.cons_append, List.length_append, List.length_cons, List.length_nil] at e2 hl2
            have wt2 := wt (qk_ws pm T k ++ [59, 48 + pm k / 10, 48 + pm k % 10, 61]) trivial (by simp only [List.length_append, List.length_cons, List.length_nil]; omega)
            simp (disch := first | assumption | omega | (simp only [List.length_append, List.length_cons, List.length_nil]; omega) | exact qb_01) only [qr_229_0, qr_229_1, qr_229_2, qr_229_5, qr_229_6, qr_229_8, qr_229_9, qr_229_12, qr_229_13, qr_229_14, qr_229_17, qr_229_18, qr_229_21, qr_229_22, qr_229_24, qr_229_27, qr_229_28, qr_229_31, qr_229_32, qr_229_33, qr_229_34, qr_229_35, qr_229_37, qr_229_40, qr_229_41, qr_229_43, qr_229_44, qr_229_47, qr_229_48, qr_229_49, qr_229_50, qr_229_51, qr_229_53, qr_229_54, qr_229_55, qr_229_58, qr_229_59, qr_229_61, qr_229_62, qr_229_65, qr_229_66, qr_229_67, qr_229_68, qr_229_69, qr_229_71, qr_229_72, qr_229_73, qr_229_76, qr_229_77, qr_229_80, qr_229_82, qr_229_83, qr_229_84, qr_229_85, qr_229_88, qr_229_89, qr_229_91, qr_229_94, qr_229_95, qr_229_96, qr_229_99, qr_229_101, qr_229_102, qr_229_103, qr_229_104, qr_229_106, qr_229_109, qr_229_112, qr_229_115, qr_229_116, qr_229_119, true_and, and_true, false_and, and_false, Option.bind_some, Option.toList_some, Option.toList_none, List.nil_append, List.cons_append, if_true, if_false, ite_true, ite_false, not_true_eq_false, not_false_eq_true, qn_lt0, qn_ge0, qn_lt, qn_le, qn_eq, qn_e0, qn_gt0, qn_le0, qn_m1, nI_add, pk_mul, qb_e0, Classical.not_not, c3, qw_n, hn, e1, hp1, d1, d2, hp8, qs_MO_puts hM', g2, hk1, hk0, wt2, List.append_assoc, e2]
          · have hp8 : pm k ≤ 9 := by omega
            simp only [if_neg hk0, if_neg hp9, List.nil_append, List.cons_append, List.length_append, List.length_cons, List.length_nil] at e2 hl2
            simp (disch := first | assumption | omega | (simp only [List.length_append, List.length_cons, List.length_nil]; omega) | exact qb_01) only [qr_229_0, qr_229_1, qr_229_2, qr_229_5, qr_229_6, qr_229_8, qr_229_9, qr_229_12, qr_229_13, qr_229_14, qr_229_17, qr_229_18, qr_229_21, qr_229_22, qr_229_24, qr_229_27, qr_229_28, qr_229_31, qr_229_32, qr_229_33, qr_229_34, qr_229_35, qr_229_37, qr_229_40, qr_229_41, qr_229_43, qr_229_44, qr_229_47, qr_229_48, qr_229_49, qr_229_50, qr_229_51, qr_229_53, qr_229_54, qr_229_55, qr_229_58, qr_229_59, qr_229_61, qr_229_62, qr_229_65, qr_229_66, qr_229_67, qr_229_68, qr_229_69, qr_229_71, qr_229_72, qr_229_73, qr_229_76, qr_229_77, qr_229_80, qr_229_82, qr_229_83, qr_229_84, qr_229_85, qr_229_88, qr_229_89, qr_229_91, qr_229_94, qr_229_95, qr_229_96, qr_229_99, qr_229_101, qr_229_102, qr_229_103, qr_229_104, qr_229_106, qr_229_109, qr_229_112, qr_229_115, qr_229_116, qr_229_119, true_and, and_true, false_and, and_false, Option.bind_some, Option.toList_some, Option.toList_none, List.nil_append, List.cons_append, if_true, if_false, ite_true, ite_false, not_true_eq_false, not_false_eq_true, qn_lt0, qn_ge0, qn_lt, qn_le, qn_eq, qn_e0, qn_gt0, qn_le0, qn_m1, nI_add, pk_mul, qb_e0, Classical.not_not, c3, qw_n, hn, e1, hp1, d1, d2, hp8, qs_MO_puts hM', g2, hk1, hk0, wt, List.append_assoc, e2]
  have hz : va_up I u (va_up (I u) 22 (nI 0)) = qw_W I u 22 (u + 14) 0 [] := qw_z
  simp (disch := first | assumption | omega | (simp only [List.length_append, List.length_cons, List.length_nil]; omega) | exact qb_01) only [qe_229, qr_229_0, qr_229_1, qr_229_2, qr_229_5, qr_229_6, qr_229_8, qr_229_9, qr_229_12, qr_229_13, qr_229_14, qr_229_17, qr_229_18, qr_229_21, qr_229_22, qr_229_24, qr_229_27, qr_229_28, qr_229_31, qr_229_32, qr_229_33, qr_229_34, qr_229_35, qr_229_37, qr_229_40, qr_229_41, qr_229_43, qr_229_44, qr_229_47, qr_229_48, qr_229_49, qr_229_50, qr_229_51, qr_229_53, qr_229_54, qr_229_55, qr_229_58, qr_229_59, qr_229_61, qr_229_62, qr_229_65, qr_229_66, qr_229_67, qr_229_68, qr_229_69, qr_229_71, qr_229_72, qr_229_73, qr_229_76, qr_229_77, qr_229_80, qr_229_82, qr_229_83, qr_229_84, qr_229_85, qr_229_88, qr_229_89, qr_229_91, qr_229_94, qr_229_95, qr_229_96, qr_229_99, qr_229_101, qr_229_102, qr_229_103, qr_229_104, qr_229_106, qr_229_109, qr_229_112, qr_229_115, qr_229_116, qr_229_119, hz]
  exact loop nk 0 (by omega)
end Q32
