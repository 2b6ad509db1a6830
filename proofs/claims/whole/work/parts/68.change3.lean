/-! Methods that change: append, addItem, explain, write. -/
theorem qT_J_f {I : Nat → Nat → Int32} {a o f l i : Nat} {x : Int32} : qT_J I a o f l i x a f = nI (l + i) := by
  unfold qT_J
  rw [qa_up_s, qa_up_s]
theorem qf_wr_lt {l : List Nat} : ∀ {f : Nat → Int32} {m i : Nat}, i < m → qf_wr f m l i = f i := by
  induction l with
  | nil => intro f m i _; rfl
  | cons x l ih => intro f m i hi; show qf_wr (va_up f m (nI x)) (m + 1) l i = f i; rw [ih (by omega), qa_up_n _ _ (by omega)]
theorem qf_wr_at {l : List Nat} : ∀ {f : Nat → Int32} {m j : Nat}, j < l.length → qf_wr f m l (m + j) = nI (l.getD j 0) := by
  induction l with
  | nil => intro f m j hj; exact absurd hj (by simp)
  | cons x l ih =>
    intro f m j hj
    show qf_wr (va_up f m (nI x)) (m + 1) l (m + j) = _
    cases j with
    | zero =>
      show qf_wr (va_up f m (nI x)) (m + 1) l m = _
      rw [qf_wr_lt (by omega), qa_up_s]
      rfl
    | succ j =>
      rw [show m + (j + 1) = m + 1 + j by omega, ih (by simpa using hj)]
      rfl
theorem qw_W_L {I : Nat → Nat → Int32} {a o f : Nat} {l : List Nat} (ho : 0 < o) : qp_L (qw_W I a f (a + o) 0 l) a o f l.length (fun j => l.getD j 0) := by
  refine ⟨by rw [qw_f, Nat.zero_add], fun j hj => ?_⟩
  unfold qw_W
  rw [qa_up_n _ _ (by omega), qa_up_s]
  have := qf_wr_at (f := I (a + o)) (m := 0) hj
  rw [Nat.zero_add] at this
  exact this
theorem qw_W_a {I : Nat → Nat → Int32} {a o f j : Nat} {l : List Nat} (hj : j ≠ f) : qw_W I a f (a + o) 0 l a j = I a j := by
  unfold qw_W
  rw [qa_up_s, qa_up_n _ _ hj]
section Q68
variable {d a b f : Nat} {K : Nat → Nat × Nat} {I : Nat → Nat → Int32} {R : Nat → Nat → Option Nat} {n z : Nat} {x y : Int32} {h : qa_H} {u i j m p q c e w v r k cnt l t ni : Nat}
theorem qs_LA_append (ha : K a = (0, 0)) (r0 : R a 0 = some t) (hT : qp_T K R t) (hL : I t 1 = nI l) (hc : c < 128) (h1 : 1 ≤ cnt) (hl : l + cnt ≤ 80) : qa_ex (d + 2) 15 [qa_a (some a), qa_i (nI c), qa_i (nI cnt)] (K, I, R, n, z) = some (some (qa_i (nI (l + cnt))), (K, qT_J I t 1 1 l cnt (nI c), R, n, z)) := by
  have t0 := hT.1
  have loop : ∀ m i, i + m = cnt → qa_run (d + 1) 15 42 [qa_a (some a), qa_i (nI c), qa_i (nI cnt), qa_i (nI i)] [] [] (K, qT_J I t 1 1 l i (nI c), R, n, z) = some (some (qa_i (nI (l + cnt))), (K, qT_J I t 1 1 l cnt (nI c), R, n, z)) := by
    intro m
    induction m with
    | zero =>
      intro i hi
      have hi : i = cnt := by omega
      subst hi
      rw [qr_15_42]
      simp (disch := first | assumption | omega | exact Or.inl rfl | exact Or.inr rfl | exact qb_01) only [qr_15_0, qr_15_1, qr_15_2, qr_15_4, qr_15_7, qr_15_10, qr_15_11, qr_15_12, qr_15_14, qr_15_17, qr_15_20, qr_15_22, qr_15_23, qr_15_24, qr_15_27, qr_15_30, qr_15_31, qr_15_32, qr_15_34, qr_15_37, qr_15_39, qr_15_40, qr_15_41, qr_15_43, qr_15_44, qr_15_47, qr_15_48, qr_15_51, qr_15_52, qr_15_55, qr_15_58, qr_15_61, qr_15_62, qr_15_65, qr_15_68, true_and, and_true, false_and, and_false, Option.bind_some, Option.toList_some, Option.toList_none, List.nil_append, List.cons_append, if_true, if_false, ite_true, ite_false, not_true_eq_false, not_false_eq_true, qn_lt0, qn_ge0, qn_lt, qn_le, qn_eq, qn_e0, qn_gt0, qn_le0, qn_m1, nI_add, pk_mul, qb_e0, Classical.not_not, Nat.le_refl, r0, qs_TR_length, qT_J_f]
    | succ m ih =>
      intro i hi
      have e1 : ¬ cnt ≤ i := by omega
      have e2 := qs_TR_add2 (d := d) (I := qT_J I t 1 1 l i (nI c)) (n := n) (z := z) (x := nI c) hT qT_J_f (by omega)
      rw [qT_J_s (by omega)] at e2
      have e3 := ih (i + 1) (by omega)
      rw [qr_15_42]
      simp (disch := first | assumption | omega | exact Or.inl rfl | exact Or.inr rfl | exact qb_01) only [qr_15_0, qr_15_1, qr_15_2, qr_15_4, qr_15_7, qr_15_10, qr_15_11, qr_15_12, qr_15_14, qr_15_17, qr_15_20, qr_15_22, qr_15_23, qr_15_24, qr_15_27, qr_15_30, qr_15_31, qr_15_32, qr_15_34, qr_15_37, qr_15_39, qr_15_40, qr_15_41, qr_15_43, qr_15_44, qr_15_47, qr_15_48, qr_15_51, qr_15_52, qr_15_55, qr_15_58, qr_15_61, qr_15_62, qr_15_65, qr_15_68, true_and, and_true, false_and, and_false, Option.bind_some, Option.toList_some, Option.toList_none, List.nil_append, List.cons_append, if_true, if_false, ite_true, ite_false, not_true_eq_false, not_false_eq_true, qn_lt0, qn_ge0, qn_lt, qn_le, qn_eq, qn_e0, qn_gt0, qn_le0, qn_m1, nI_add, pk_mul, qb_e0, Classical.not_not, e1, r0, e2]
      exact e3
  have e3 := loop cnt 0 (by omega)
  rw [qT_J_0 hL] at e3
  have g1 : ¬ 127 < c := by omega
  have g2 : ¬ cnt < 1 := by omega
  have g3 : ¬ 80 < cnt := by omega
  have g4 : l + cnt ≤ 80 := hl
  simp (disch := first | assumption | omega | exact Or.inl rfl | exact Or.inr rfl | exact qb_01) only [qe_15, qr_15_0, qr_15_1, qr_15_2, qr_15_4, qr_15_7, qr_15_10, qr_15_11, qr_15_12, qr_15_14, qr_15_17, qr_15_20, qr_15_22, qr_15_23, qr_15_24, qr_15_27, qr_15_30, qr_15_31, qr_15_32, qr_15_34, qr_15_37, qr_15_39, qr_15_40, qr_15_41, qr_15_43, qr_15_44, qr_15_47, qr_15_48, qr_15_51, qr_15_52, qr_15_55, qr_15_58, qr_15_61, qr_15_62, qr_15_65, qr_15_68, true_and, and_true, false_and, and_false, Option.bind_some, Option.toList_some, Option.toList_none, List.nil_append, List.cons_append, if_true, if_false, ite_true, ite_false, not_true_eq_false, not_false_eq_true, qn_lt0, qn_ge0, qn_lt, qn_le, qn_eq, qn_e0, qn_gt0, qn_le0, qn_m1, nI_add, pk_mul, qb_e0, Classical.not_not, Nat.reduceEqDiff, Nat.reduceLT, Nat.reduceLeDiff, Nat.not_lt_zero, Nat.zero_le, qs_LA_isWithin, g1, g2, g3, r0, qs_TR_length, hL, eq_true g4]
  exact e3
theorem qs_MO_append (hM : qp_MO K R u) (hL : I u 14 = nI l) (hc : c < 128) (h1 : 1 ≤ cnt) (hl : l + cnt ≤ 80) : qa_ex (d + 2) 164 [qa_a (some u), qa_i (nI c), qa_i (nI cnt)] (K, I, R, n, z) = some (some (qa_i (nI (l + cnt))), (K, qT_J I u 11 14 l cnt (nI c), R, n, z)) := by
  obtain ⟨m0, -, -, -, -, -, -, -, -, -, -, ⟨t1, t2, t3⟩, -⟩ := hM
  have loop : ∀ m i, i + m = cnt → qa_run (d + 1) 164 39 [qa_a (some u), qa_i (nI c), qa_i (nI cnt), qa_i (nI i)] [] [] (K, qT_J I u 11 14 l i (nI c), R, n, z) = some (some (qa_i (nI (l + cnt))), (K, qT_J I u 11 14 l cnt (nI c), R, n, z)) := by
    intro m
    induction m with
    | zero =>
      intro i hi
      have hi : i = cnt := by omega
      subst hi
      rw [qr_164_39]
      simp (disch := first | assumption | omega | exact Or.inl rfl | exact Or.inr rfl | exact qb_01) only [qr_164_0, qr_164_1, qr_164_2, qr_164_4, qr_164_7, qr_164_10, qr_164_11, qr_164_12, qr_164_14, qr_164_17, qr_164_20, qr_164_22, qr_164_23, qr_164_24, qr_164_27, qr_164_28, qr_164_29, qr_164_31, qr_164_34, qr_164_36, qr_164_37, qr_164_38, qr_164_40, qr_164_41, qr_164_44, qr_164_45, qr_164_48, qr_164_49, qr_164_52, qr_164_53, qr_164_54, qr_164_55, qr_164_56, qr_164_59, qr_164_60, qr_164_61, qr_164_64, qr_164_67, qr_164_70, qr_164_71, qr_164_74, true_and, and_true, false_and, and_false, Option.bind_some, Option.toList_some, Option.toList_none, List.nil_append, List.cons_append, if_true, if_false, ite_true, ite_false, not_true_eq_false, not_false_eq_true, qn_lt0, qn_ge0, qn_lt, qn_le, qn_eq, qn_e0, qn_gt0, qn_le0, qn_m1, nI_add, pk_mul, qb_e0, Classical.not_not, Nat.le_refl, qT_J_f]
    | succ m ih =>
      intro i hi
      have e1 : ¬ cnt ≤ i := by omega
      have e3 := ih (i + 1) (by omega)
      rw [← qT_J_s (by omega)] at e3
      rw [qr_164_39]
      simp (disch := first | assumption | omega | exact Or.inl rfl | exact Or.inr rfl | exact qb_01) only [qr_164_0, qr_164_1, qr_164_2, qr_164_4, qr_164_7, qr_164_10, qr_164_11, qr_164_12, qr_164_14, qr_164_17, qr_164_20, qr_164_22, qr_164_23, qr_164_24, qr_164_27, qr_164_28, qr_164_29, qr_164_31, qr_164_34, qr_164_36, qr_164_37, qr_164_38, qr_164_40, qr_164_41, qr_164_44, qr_164_45, qr_164_48, qr_164_49, qr_164_52, qr_164_53, qr_164_54, qr_164_55, qr_164_56, qr_164_59, qr_164_60, qr_164_61, qr_164_64, qr_164_67, qr_164_70, qr_164_71, qr_164_74, true_and, and_true, false_and, and_false, Option.bind_some, Option.toList_some, Option.toList_none, List.nil_append, List.cons_append, if_true, if_false, ite_true, ite_false, not_true_eq_false, not_false_eq_true, qn_lt0, qn_ge0, qn_lt, qn_le, qn_eq, qn_e0, qn_gt0, qn_le0, qn_m1, nI_add, pk_mul, qb_e0, Classical.not_not, qa_up_s, qa_up_n, qa_uu, e1, t3, qT_J_f]
      exact e3
  have e3 := loop cnt 0 (by omega)
  rw [qT_J_0 hL] at e3
  have g1 : ¬ 127 < c := by omega
  have g2 : ¬ cnt < 1 := by omega
  have g3 : ¬ 80 < cnt := by omega
  have g4 : l + cnt ≤ 80 := hl
  simp (disch := first | assumption | omega | exact Or.inl rfl | exact Or.inr rfl | exact qb_01) only [qe_164, qr_164_0, qr_164_1, qr_164_2, qr_164_4, qr_164_7, qr_164_10, qr_164_11, qr_164_12, qr_164_14, qr_164_17, qr_164_20, qr_164_22, qr_164_23, qr_164_24, qr_164_27, qr_164_28, qr_164_29, qr_164_31, qr_164_34, qr_164_36, qr_164_37, qr_164_38, qr_164_40, qr_164_41, qr_164_44, qr_164_45, qr_164_48, qr_164_49, qr_164_52, qr_164_53, qr_164_54, qr_164_55, qr_164_56, qr_164_59, qr_164_60, qr_164_61, qr_164_64, qr_164_67, qr_164_70, qr_164_71, qr_164_74, true_and, and_true, false_and, and_false, Option.bind_some, Option.toList_some, Option.toList_none, List.nil_append, List.cons_append, if_true, if_false, ite_true, ite_false, not_true_eq_false, not_false_eq_true, qn_lt0, qn_ge0, qn_lt, qn_le, qn_eq, qn_e0, qn_gt0, qn_le0, qn_m1, nI_add, pk_mul, qb_e0, Classical.not_not, Nat.reduceEqDiff, Nat.reduceLT, Nat.reduceLeDiff, Nat.not_lt_zero, Nat.zero_le, qs_MO_isIn, g1, g2, g3, hL, eq_true g4]
  exact e3
def qI_c (I : Nat → Nat → Int32) (c ni : Nat) (x y : Int32) : Nat → Nat → Int32 := va_up (va_up (va_up I (c + 1) (va_up (I (c + 1)) ni x)) (c + 2) (va_up (I (c + 2)) ni y)) c (va_up (I c) 2 (nI (ni + 1)))
theorem qs_CO_put (hC : qC0 K R c) (hn : I c 2 = nI ni) (h12 : ni < 12) : qa_ex (d + 1) 46 [qa_a (some c), qa_i x, qa_i y] (K, I, R, n, z) = some (some (qa_i (nI ni)), (K, qI_c I c ni x y, R, n, z)) := by
  obtain ⟨c0, c1, c2, c3, c4, c5, c6⟩ := hC
  have e1 : ni < 12 := h12
  have e2 : nI (ni + 1) - nI 1 = nI ni := qn_sub (by omega)
  simp (disch := first | assumption | omega | exact Or.inl rfl | exact Or.inr rfl | exact qb_01) only [qe_46, qr_46_0, qr_46_1, qr_46_4, qr_46_6, qr_46_9, qr_46_11, qr_46_12, qr_46_13, qr_46_16, qr_46_17, qr_46_20, qr_46_21, qr_46_22, qr_46_23, qr_46_26, qr_46_27, qr_46_30, qr_46_31, qr_46_32, qr_46_33, qr_46_34, qr_46_37, qr_46_38, qr_46_39, qr_46_42, qr_46_43, qr_46_46, qr_46_47, qr_46_48, true_and, and_true, false_and, and_false, Option.bind_some, Option.toList_some, Option.toList_none, List.nil_append, List.cons_append, if_true, if_false, ite_true, ite_false, not_true_eq_false, not_false_eq_true, qn_lt0, qn_ge0, qn_lt, qn_le, qn_eq, qn_e0, qn_gt0, qn_le0, qn_m1, nI_add, pk_mul, qb_e0, Classical.not_not, qa_up_s, qa_up_n, qa_uu, hn, eq_true e1, c5, c6, e2]
  rfl
theorem qs_CO_put12 (hC : qC0 K R c) (hn : I c 2 = nI 12) : qa_ex (d + 1) 46 [qa_a (some c), qa_i x, qa_i y] (K, I, R, n, z) = some (some (qa_i (-3)), (K, I, R, n, z)) := by
  obtain ⟨c0, c1, c2, c3, c4, c5, c6⟩ := hC
  have e1 : ¬ 12 < 12 := by omega
  simp (disch := first | assumption | omega | exact Or.inl rfl | exact Or.inr rfl | exact qb_01) only [qe_46, qr_46_0, qr_46_1, qr_46_4, qr_46_6, qr_46_9, qr_46_11, qr_46_12, qr_46_13, qr_46_16, qr_46_17, qr_46_20, qr_46_21, qr_46_22, qr_46_23, qr_46_26, qr_46_27, qr_46_30, qr_46_31, qr_46_32, qr_46_33, qr_46_34, qr_46_37, qr_46_38, qr_46_39, qr_46_42, qr_46_43, qr_46_46, qr_46_47, qr_46_48, true_and, and_true, false_and, and_false, Option.bind_some, Option.toList_some, Option.toList_none, List.nil_append, List.cons_append, if_true, if_false, ite_true, ite_false, not_true_eq_false, not_false_eq_true, qn_lt0, qn_ge0, qn_lt, qn_le, qn_eq, qn_e0, qn_gt0, qn_le0, qn_m1, nI_add, pk_mul, qb_e0, Classical.not_not, qa_up_s, qa_up_n, qa_uu, hn, e1]
end Q68
theorem qt_M_up {c c' : Nat → Int32} (h : ∀ i, 22 ≤ i → i < 532 → c' i = c i) {t : qt_T} {x : Int32} (hM : qt_M c t x) : qt_M c' t x := qt_M_cg (fun j hj _ => ⟨h _ (by omega) (by omega), h _ (by omega) (by omega), h _ (by omega) (by omega)⟩) hM
theorem qp_MC_item {c : Nat → Int32} {nk ni k v : Nat} {pm fs hd : Nat → Nat} {T : Nat → qt_T} (h : qp_MC c nk pm T ni fs hd) (h12 : ni < 12) (hk : k < nk) (hv : v < 5) : qp_MC (va_up (va_up (va_up c (532 + ni) (nI k)) (544 + ni) (nI v)) 1 (nI (ni + 1))) nk pm T (ni + 1) (va_up fs ni k) (va_up hd ni v) := by
  obtain ⟨c1, c2, c3, c4, c5, c6, c7, c8, c9⟩ := h
  have hlo : ∀ i, i < 532 → i ≠ 1 → va_up (va_up (va_up c (532 + ni) (nI k)) (544 + ni) (nI v)) 1 (nI (ni + 1)) i = c i := fun i h1 h2 => by rw [qa_up_n _ _ h2, qa_up_n _ _ (by omega), qa_up_n _ _ (by omega)]
  refine ⟨by rw [hlo 0 (by omega) (by omega)]; exact c1, c2, c3, by rw [qa_up_s], by omega, fun k hk => by rw [hlo _ (by omega) (by omega)]; exact c6 k hk, fun k hk => ?_, c8, fun i hi => ?_⟩
  · rw [hlo _ (by omega) (by omega)]
    exact ⟨qt_M_up (fun i h1 h2 => hlo i h2 (by omega)) (c7 k hk).1, (c7 k hk).2⟩
  · by_cases he : i = ni
    · subst he
      simp (disch := omega) only [qa_up_n, qa_up_s]
      exact ⟨trivial, trivial, hk, hv⟩
    · obtain ⟨g1, g2, g3, g4⟩ := c9 i (by omega)
      simp (disch := omega) only [qa_up_n, qa_up_s]
      exact ⟨g1, g2, g3, g4⟩
theorem qj_A_item {K : Nat → Nat × Nat} {I : Nat → Nat → Int32} {R : Nat → Nat → Option Nat} {c q nk ni k v : Nat} {pm fs hd : Nat → Nat} {T : Nat → qt_T} (h : qj_A K I R c q nk pm T ni fs hd) (h12 : ni < 12) (hk : k < nk) (hv : v < 5) (hq : c + 3 ≤ q) (hc : c + 3 ≤ 204) : qj_A K (qI_c I c ni (nI k) (nI v)) R c q nk pm T (ni + 1) (va_up fs ni k) (va_up hd ni v) := by
  obtain ⟨⟨h1, h2, h3, h4, h5, h6, h7, h8, h9⟩, hT, hw⟩ := h
  have hn : ∀ a, c + 3 ≤ a → qI_c I c ni (nI k) (nI v) a = I a := fun a ha => by unfold qI_c; rw [qa_up_n _ _ (by omega), qa_up_n _ _ (by omega), qa_up_n _ _ (by omega)]
  refine ⟨⟨h1, h2, by rw [hn q (by omega)]; exact h3, h4, h5, fun k hk => by rw [hn _ (by omega), hn _ (by omega)]; exact h6 k hk, ?_, by omega, fun i hi => ?_⟩, fun k hk => ⟨qt_C_cg (fun a ha _ => ⟨rfl, hn a (by omega), rfl⟩) (hT k hk).1, (hT k hk).2⟩, hw⟩
  · unfold qI_c
    rw [qa_up_s, qa_up_s]
  · unfold qI_c
    have e2 : ∀ f g h : Nat → Int32, va_up (va_up (va_up I (c + 1) f) (c + 2) g) c h (c + 1) = f ∧ va_up (va_up (va_up I (c + 1) f) (c + 2) g) c h (c + 2) = g := fun f g h => ⟨by rw [qa_up_n _ _ (by omega), qa_up_n _ _ (by omega), qa_up_s], by rw [qa_up_n _ _ (by omega), qa_up_s]⟩
    rw [(e2 _ _ _).1, (e2 _ _ _).2]
    by_cases he : i = ni
    · subst he
      rw [qa_up_s, qa_up_s, qa_up_s, qa_up_s]
      exact ⟨rfl, rfl, hk, hv⟩
    · rw [qa_up_n _ _ he, qa_up_n _ _ he, qa_up_n _ _ he, qa_up_n _ _ he]
      exact h9 i (by omega)
theorem qv_I_mono {ni ni' : Nat} {s : Nat → Int32} (h : qv_I ni s) (hn : ni ≤ ni') : qv_I ni' s := fun i h1 h2 => h i (by omega) h2
section Q68b
variable {m d : Nat} {h : qa_H} {x y : Int32}
theorem qJ_append (hJ : qJ m h) (hm512 : m ≤ 512) : qJs d 15 164 [qa_i x, qa_i y] m h := by
  obtain ⟨K, I, R, n, z⟩ := h
  have hJ0 := hJ
  obtain ⟨j1, j2, j3, j4, j5, nk, pm, T, ni, fs, hd, s, b, g, el, er, nh, P, len, tx, wl, wt, lv, ec, en, sn, nk', pm', T', ni', fs', hd', sv, hc, hm, hp⟩ := hJ
  have hS : qS K R := j1
  have j2 : ∀ a, n ≤ a → K a = (77, 0) := j2
  have j3 : 204 ≤ n := j3
  have j4 : n ≤ 204 + 84 * m := j4
  have j5 : z ≤ 20000 + 354 * m := j5
  have hc : qZc K I R n nk pm T ni fs hd s b g el er nh P len tx wl wt lv ec en sn nk' pm' T' ni' fs' hd' sv := hc
  have hm : qZm I nk pm T ni fs hd s b g el er nh P len tx wl wt lv ec en sn nk' pm' T' ni' fs' hd' sv := hm
  obtain ⟨⟨l0, l1, l2, l3, l4, l5, l6, l7, l8, l9, l10, l11⟩, t2, t4, t6, ex, co, p1, p2, lg, hi, sc, sp, mo⟩ := id hS
  obtain ⟨q, q', nx, f, zA, zq, zn, zP, zL, zH, zT, zW, zX, zS, zV⟩ := id hc
  obtain ⟨⟨a1, a2⟩, ⟨b1, b2⟩, c1, ⟨d1, d2⟩, e1, ⟨f1, f2, f3⟩, ⟨g1, g2⟩, h1, i1, k1⟩ := id hm
  obtain ⟨⟨n1, n2⟩, n3, n4, n5, n6, n7, n8, n9, n10, n11, n12, n13⟩ := id hp
  have l14 : I 189 14 = nI len := h1.1
  have t20 := t2.1
  have zT0 := zT.1
  have mo0 := mo.1
  by_cases hx : ¬ x < nI 0 ∧ ¬ nI 127 < x
  · by_cases hy : ¬ y < nI 1 ∧ ¬ nI 80 < y
    · obtain ⟨c, q1, q2, rfl⟩ := qn_rg3 (by omega) (by omega) hx
      obtain ⟨cnt, q3, q4, rfl⟩ := qn_rg3 (by omega) (by omega) hy
      by_cases hl : len + cnt ≤ 80
      · have r1 := qs_LA_append (d := d + 25) (I := I) (n := n) (z := z) l0 l1 t2 zT.1 (show c < 128 by omega) q3 hl
        obtain ⟨I1, hI1⟩ : ∃ I1, I1 = qT_J I 2 1 1 len cnt (nI c) := ⟨_, rfl⟩
        rw [← hI1] at r1
        have hI : ∀ a, (a < 2 ∨ 4 ≤ a) → I1 a = I a := fun a ha => by rw [hI1]; exact qT_J_n (by omega) (by omega)
        have hc1 : qZc K I1 R n nk pm T ni fs hd s b g el er nh P (len + cnt) (fun j => if j < len then tx j else c) wl wt lv ec en sn nk' pm' T' ni' fs' hd' sv := ⟨q, q', nx, f, qj_A_cg zA (fun a _ _ => hI a (by omega)) (fun a _ _ => hI a (by omega)) (fun a _ => hI a (by omega)), zq, zn, qp_PS_cg zP (fun a _ _ => hI a (by omega)), qp_LS_cg zL (fun a _ _ => hI a (by omega)), qp_HS_cg zH (fun a _ _ => hI a (by omega)), by rw [hI1]; exact qT_J_L (by omega) zT, qp_L_cg zW (by rw [hI 4 (by omega)]) (hI _ (by omega)), qp_X_cg zX (by rw [hI 7 (by omega)]) (hI _ (by omega)) (hI _ (by omega)), by rw [hI 1 (by omega)]; exact zS, fun hs => by
      obtain ⟨v1, v2, v3, v4⟩ := zV hs
      exact ⟨qj_A_cg v1 (fun a _ _ => hI a (by omega)) (fun a _ _ => hI a (by omega)) (fun a _ => hI a (by omega)), v2, v3, qp_PS_cg v4 (fun a _ _ => hI a (by omega))⟩⟩
        have r2 := qs_MO_append (d := d + 25) (I := I1) (n := n) (z := z) (l := len) mo (by rw [hI 189 (by omega)]; exact l14) (show c < 128 by omega) q3 hl
        have hm1 := qZm_cg (I' := I1) hm (fun a h1 h2 => hI a (by omega))
        obtain ⟨⟨a1, a2⟩, ⟨b1, b2⟩, c1, ⟨d1, d2⟩, e1, ⟨f1, f2, f3⟩, ⟨g1, g2⟩, h1, i1, k1⟩ := hm1
        obtain ⟨I2, hI2⟩ : ∃ I2, I2 = qT_J I1 189 11 14 len cnt (nI c) := ⟨_, rfl⟩
        rw [← hI2] at r2
        have hn : ∀ a, (a < 189 ∨ (189 < a ∧ a < 200) ∨ 200 < a) → I2 a = I1 a := fun a ha => by rw [hI2]; exact qT_J_n (by omega) (by omega)
        have h0 : ∀ f, f ≠ 14 → I2 189 f = I1 189 f := fun f hf => by rw [hI2]; exact qT_J_a hf
        have hm2 : qZm I2 nk pm T ni fs hd s b g el er nh P (len + cnt) (fun j => if j < len then tx j else c) wl wt lv ec en sn nk' pm' T' ni' fs' hd' sv := ⟨⟨by rw [hn 190 (by omega)]; exact a1, a2⟩, ⟨by rw [hn 191 (by omega)]; exact b1, b2⟩, by rw [hn 192 (by omega)]; exact c1, ⟨by rw [h0 4 (by omega)]; exact d1, fun j hj i hi => by rw [hn 193 (by omega)]; exact d2 j hj i hi⟩, by rw [hn 194 (by omega)]; exact e1, ⟨by rw [h0 9 (by omega)]; exact f1, by rw [hn 196 (by omega)]; exact f2, fun hs => by rw [hn 196 (by omega), hn 197 (by omega)]; exact f3 hs⟩, ⟨by rw [h0 12 (by omega)]; exact g1, fun j hj => by rw [hn 198 (by omega), hn 199 (by omega)]; exact g2 j hj⟩, by rw [hI2]; exact qT_J_L (by omega) h1, qp_X_cg i1 (h0 20 (by omega)) (hn 201 (by omega)) (hn 202 (by omega)), qp_L_cg k1 (h0 22 (by omega)) (hn 203 (by omega))⟩
        refine ⟨_, _, _, r1, r2, ⟨rfl, hI 0 (by omega), rfl⟩, rfl, by show I2 0 = I 0; rw [hn 0 (by omega), hI 0 (by omega)], hS, j2, j3, by show n ≤ _; omega, by show z ≤ _; omega, nk, pm, T, ni, fs, hd, s, b, g, el, er, nh, P, len + cnt, (fun j => if j < len then tx j else c), wl, wt, lv, ec, en, sn, nk', pm', T', ni', fs', hd', sv, qZc_cg hc1 (fun a ha => hn a (by omega)), hm2, qZp_mono (B := 20000 + 100 * m) ⟨⟨n1, n2⟩, n3, n4, n5, n6, n7, hl, fun j hj => ?_, n10, n11, n12, n13⟩ (by omega)⟩
        show (if j < len then tx j else c) < 128
        split
        · rename_i hjl; exact n9 j hjl
        · omega
      · exact qJ_ro hJ0 ⟨-3, by simp (disch := first | assumption | omega | exact Or.inl rfl | exact Or.inr rfl | exact qb_01) only [qe_15, qr_15_0, qr_15_1, qr_15_2, qr_15_4, qr_15_7, qr_15_10, qr_15_11, qr_15_12, qr_15_14, qr_15_17, qr_15_20, qr_15_22, qr_15_23, qr_15_24, qr_15_27, qr_15_30, qr_15_31, qr_15_32, qr_15_34, qr_15_37, qr_15_39, qr_15_40, qr_15_41, qr_15_43, qr_15_44, qr_15_47, qr_15_48, qr_15_51, qr_15_52, qr_15_55, qr_15_58, qr_15_61, qr_15_62, qr_15_65, qr_15_68, true_and, and_true, false_and, and_false, Option.bind_some, Option.toList_some, Option.toList_none, List.nil_append, List.cons_append, if_true, if_false, ite_true, ite_false, not_true_eq_false, not_false_eq_true, qn_lt0, qn_ge0, qn_lt, qn_le, qn_eq, qn_e0, qn_gt0, qn_le0, qn_m1, nI_add, pk_mul, qb_e0, Classical.not_not, Nat.reduceEqDiff, Nat.reduceLT, Nat.reduceLeDiff, Nat.not_lt_zero, Nat.zero_le, l1, qs_LA_isWithin, hx, hy, qs_TR_length, zT0, eq_false hl], by simp (disch := first | assumption | omega | exact Or.inl rfl | exact Or.inr rfl | exact qb_01) only [qe_164, qr_164_0, qr_164_1, qr_164_2, qr_164_4, qr_164_7, qr_164_10, qr_164_11, qr_164_12, qr_164_14, qr_164_17, qr_164_20, qr_164_22, qr_164_23, qr_164_24, qr_164_27, qr_164_28, qr_164_29, qr_164_31, qr_164_34, qr_164_36, qr_164_37, qr_164_38, qr_164_40, qr_164_41, qr_164_44, qr_164_45, qr_164_48, qr_164_49, qr_164_52, qr_164_53, qr_164_54, qr_164_55, qr_164_56, qr_164_59, qr_164_60, qr_164_61, qr_164_64, qr_164_67, qr_164_70, qr_164_71, qr_164_74, true_and, and_true, false_and, and_false, Option.bind_some, Option.toList_some, Option.toList_none, List.nil_append, List.cons_append, if_true, if_false, ite_true, ite_false, not_true_eq_false, not_false_eq_true, qn_lt0, qn_ge0, qn_lt, qn_le, qn_eq, qn_e0, qn_gt0, qn_le0, qn_m1, nI_add, pk_mul, qb_e0, Classical.not_not, Nat.reduceEqDiff, Nat.reduceLT, Nat.reduceLeDiff, Nat.not_lt_zero, Nat.zero_le, qs_MO_isIn, hx, hy, l14, eq_false hl]⟩
    · exact qJ_ro hJ0 ⟨-2, by simp (disch := first | assumption | omega | exact Or.inl rfl | exact Or.inr rfl | exact qb_01) only [qe_15, qr_15_0, qr_15_1, qr_15_2, qr_15_4, qr_15_7, qr_15_10, qr_15_11, qr_15_12, qr_15_14, qr_15_17, qr_15_20, qr_15_22, qr_15_23, qr_15_24, qr_15_27, qr_15_30, qr_15_31, qr_15_32, qr_15_34, qr_15_37, qr_15_39, qr_15_40, qr_15_41, qr_15_43, qr_15_44, qr_15_47, qr_15_48, qr_15_51, qr_15_52, qr_15_55, qr_15_58, qr_15_61, qr_15_62, qr_15_65, qr_15_68, true_and, and_true, false_and, and_false, Option.bind_some, Option.toList_some, Option.toList_none, List.nil_append, List.cons_append, if_true, if_false, ite_true, ite_false, not_true_eq_false, not_false_eq_true, qn_lt0, qn_ge0, qn_lt, qn_le, qn_eq, qn_e0, qn_gt0, qn_le0, qn_m1, nI_add, pk_mul, qb_e0, Classical.not_not, Nat.reduceEqDiff, Nat.reduceLT, Nat.reduceLeDiff, Nat.not_lt_zero, Nat.zero_le, qs_LA_isWithin, hx, eq_false hy], by simp (disch := first | assumption | omega | exact Or.inl rfl | exact Or.inr rfl | exact qb_01) only [qe_164, qr_164_0, qr_164_1, qr_164_2, qr_164_4, qr_164_7, qr_164_10, qr_164_11, qr_164_12, qr_164_14, qr_164_17, qr_164_20, qr_164_22, qr_164_23, qr_164_24, qr_164_27, qr_164_28, qr_164_29, qr_164_31, qr_164_34, qr_164_36, qr_164_37, qr_164_38, qr_164_40, qr_164_41, qr_164_44, qr_164_45, qr_164_48, qr_164_49, qr_164_52, qr_164_53, qr_164_54, qr_164_55, qr_164_56, qr_164_59, qr_164_60, qr_164_61, qr_164_64, qr_164_67, qr_164_70, qr_164_71, qr_164_74, true_and, and_true, false_and, and_false, Option.bind_some, Option.toList_some, Option.toList_none, List.nil_append, List.cons_append, if_true, if_false, ite_true, ite_false, not_true_eq_false, not_false_eq_true, qn_lt0, qn_ge0, qn_lt, qn_le, qn_eq, qn_e0, qn_gt0, qn_le0, qn_m1, nI_add, pk_mul, qb_e0, Classical.not_not, Nat.reduceEqDiff, Nat.reduceLT, Nat.reduceLeDiff, Nat.not_lt_zero, Nat.zero_le, qs_MO_isIn, hx, eq_false hy]⟩
  · exact qJ_ro hJ0 ⟨-2, by simp (disch := first | assumption | omega | exact Or.inl rfl | exact Or.inr rfl | exact qb_01) only [qe_15, qr_15_0, qr_15_1, qr_15_2, qr_15_4, qr_15_7, qr_15_10, qr_15_11, qr_15_12, qr_15_14, qr_15_17, qr_15_20, qr_15_22, qr_15_23, qr_15_24, qr_15_27, qr_15_30, qr_15_31, qr_15_32, qr_15_34, qr_15_37, qr_15_39, qr_15_40, qr_15_41, qr_15_43, qr_15_44, qr_15_47, qr_15_48, qr_15_51, qr_15_52, qr_15_55, qr_15_58, qr_15_61, qr_15_62, qr_15_65, qr_15_68, true_and, and_true, false_and, and_false, Option.bind_some, Option.toList_some, Option.toList_none, List.nil_append, List.cons_append, if_true, if_false, ite_true, ite_false, not_true_eq_false, not_false_eq_true, qn_lt0, qn_ge0, qn_lt, qn_le, qn_eq, qn_e0, qn_gt0, qn_le0, qn_m1, nI_add, pk_mul, qb_e0, Classical.not_not, Nat.reduceEqDiff, Nat.reduceLT, Nat.reduceLeDiff, Nat.not_lt_zero, Nat.zero_le, qs_LA_isWithin, eq_false hx], by simp (disch := first | assumption | omega | exact Or.inl rfl | exact Or.inr rfl | exact qb_01) only [qe_164, qr_164_0, qr_164_1, qr_164_2, qr_164_4, qr_164_7, qr_164_10, qr_164_11, qr_164_12, qr_164_14, qr_164_17, qr_164_20, qr_164_22, qr_164_23, qr_164_24, qr_164_27, qr_164_28, qr_164_29, qr_164_31, qr_164_34, qr_164_36, qr_164_37, qr_164_38, qr_164_40, qr_164_41, qr_164_44, qr_164_45, qr_164_48, qr_164_49, qr_164_52, qr_164_53, qr_164_54, qr_164_55, qr_164_56, qr_164_59, qr_164_60, qr_164_61, qr_164_64, qr_164_67, qr_164_70, qr_164_71, qr_164_74, true_and, and_true, false_and, and_false, Option.bind_some, Option.toList_some, Option.toList_none, List.nil_append, List.cons_append, if_true, if_false, ite_true, ite_false, not_true_eq_false, not_false_eq_true, qn_lt0, qn_ge0, qn_lt, qn_le, qn_eq, qn_e0, qn_gt0, qn_le0, qn_m1, nI_add, pk_mul, qb_e0, Classical.not_not, Nat.reduceEqDiff, Nat.reduceLT, Nat.reduceLeDiff, Nat.not_lt_zero, Nat.zero_le, qs_MO_isIn, eq_false hx]⟩
theorem qJ_addItem (hJ : qJ m h) (hm512 : m ≤ 512) : qJs d 43 174 [qa_i x, qa_i y] m h := by
  obtain ⟨K, I, R, n, z⟩ := h
  have hJ0 := hJ
  obtain ⟨j1, j2, j3, j4, j5, nk, pm, T, ni, fs, hd, s, b, g, el, er, nh, P, len, tx, wl, wt, lv, ec, en, sn, nk', pm', T', ni', fs', hd', sv, hc, hm, hp⟩ := hJ
  have hS : qS K R := j1
  have j2 : ∀ a, n ≤ a → K a = (77, 0) := j2
  have j3 : 204 ≤ n := j3
  have j4 : n ≤ 204 + 84 * m := j4
  have j5 : z ≤ 20000 + 354 * m := j5
  have hc : qZc K I R n nk pm T ni fs hd s b g el er nh P len tx wl wt lv ec en sn nk' pm' T' ni' fs' hd' sv := hc
  have hm : qZm I nk pm T ni fs hd s b g el er nh P len tx wl wt lv ec en sn nk' pm' T' ni' fs' hd' sv := hm
  obtain ⟨⟨l0, l1, l2, l3, l4, l5, l6, l7, l8, l9, l10, l11⟩, t2, t4, t6, ex, co, p1, p2, lg, hi, sc, sp, mo⟩ := id hS
  obtain ⟨q, q', nx, f, zA, zq, zn, zP, zL, zH, zT, zW, zX, zS, zV⟩ := id hc
  obtain ⟨⟨a1, a2⟩, ⟨b1, b2⟩, c1, ⟨d1, d2⟩, e1, ⟨f1, f2, f3⟩, ⟨g1, g2⟩, h1, i1, k1⟩ := id hm
  obtain ⟨⟨n1, n2⟩, n3, n4, n5, n6, n7, n8, n9, n10, n11, n12, n13⟩ := id hp
  have hC := zA.1
  have k10 := hC.2.2.2.2.1
  have i12 := hC.2.2.2.2.2.2.2.1
  have cn := hC.2.2.2.2.2.2.1
  have mk := e1.1
  have mi := e1.2.2.2.1
  have co0 := co.1
  have mo0 := mo.1
  obtain ⟨w1, w2, w3⟩ : qp_ar K R 189 5 5 556 := mo.2.2.2.2.2.1
  have w3 : R 189 5 = some 194 := w3
  by_cases hx : ¬ x < 0 ∧ ¬ nI nk ≤ x
  · by_cases hy : ¬ y < nI 0 ∧ ¬ nI 4 < y
    · by_cases h12 : ni = 12
      · have ep := qs_CO_put12 (d := d + 25) (I := I) (n := n) (z := z) (x := x) (y := y) co (by rw [cn, h12])
        have mi12 : I 194 1 = nI 12 := by rw [mi, h12]
        have w1 : (K 194).1 = 100 := w1
        have w2 : (K 194).2 = 556 := w2
        exact qJ_ro hJ0 ⟨-3, by simp (disch := first | assumption | omega | exact Or.inl rfl | exact Or.inr rfl | exact qb_01) only [qe_43, qr_43_0, qr_43_1, qr_43_4, qr_43_5, qr_43_8, qr_43_11, qr_43_12, qr_43_13, qr_43_14, qr_43_15, qr_43_16, qr_43_19, qr_43_22, qr_43_24, qr_43_25, qr_43_26, qr_43_29, qr_43_30, qr_43_31, qr_43_34, true_and, and_true, false_and, and_false, Option.bind_some, Option.toList_some, Option.toList_none, List.nil_append, List.cons_append, if_true, if_false, ite_true, ite_false, not_true_eq_false, not_false_eq_true, qn_lt0, qn_ge0, qn_lt, qn_le, qn_eq, qn_e0, qn_gt0, qn_le0, qn_m1, nI_add, pk_mul, qb_e0, Classical.not_not, Nat.reduceEqDiff, Nat.reduceLT, Nat.reduceLeDiff, Nat.not_lt_zero, Nat.zero_le, l5, qs_CO_hasSkill hC, hx, qs_LA_isWithin, hy, ep], by simp (disch := first | assumption | omega | exact Or.inl rfl | exact Or.inr rfl | exact qb_01) only [qe_174, qr_174_0, qr_174_1, qr_174_2, qr_174_5, qr_174_8, qr_174_9, qr_174_10, qr_174_11, qr_174_12, qr_174_13, qr_174_16, qr_174_19, qr_174_21, qr_174_22, qr_174_23, qr_174_26, qr_174_27, qr_174_28, qr_174_30, qr_174_33, qr_174_35, qr_174_36, qr_174_37, qr_174_40, qr_174_41, qr_174_42, qr_174_43, qr_174_44, qr_174_47, qr_174_50, qr_174_51, qr_174_52, qr_174_53, qr_174_54, qr_174_55, qr_174_58, qr_174_61, qr_174_62, qr_174_63, qr_174_64, qr_174_65, qr_174_66, qr_174_69, qr_174_70, qr_174_71, qr_174_72, qr_174_73, qr_174_74, qr_174_75, qr_174_76, true_and, and_true, false_and, and_false, Option.bind_some, Option.toList_some, Option.toList_none, List.nil_append, List.cons_append, if_true, if_false, ite_true, ite_false, not_true_eq_false, not_false_eq_true, qn_lt0, qn_ge0, qn_lt, qn_le, qn_eq, qn_e0, qn_gt0, qn_le0, qn_m1, nI_add, pk_mul, qb_e0, Classical.not_not, Nat.reduceEqDiff, Nat.reduceLT, Nat.reduceLeDiff, Nat.not_lt_zero, Nat.zero_le, qs_MO_isSkill mo mk k10, hx, qs_MO_isIn, hy, w3, mi12]⟩
      · obtain ⟨k, hk, rfl⟩ := qn_rg hx (by omega)
        obtain ⟨v, q3, q4, rfl⟩ := qn_rg3 (by omega) (by omega) hy
        have hni : ni < 12 := by omega
        have ep := qs_CO_put (d := d + 25) (I := I) (n := n) (z := z) (x := nI k) (y := nI v) co cn hni
        obtain ⟨I1, hI1⟩ : ∃ I1, I1 = qI_c I 10 ni (nI k) (nI v) := ⟨_, rfl⟩
        rw [← hI1] at ep
        have ga : ¬ nk ≤ k := by omega
        have gb : ¬ 4 < v := by omega
        have r1 : qa_ex (d + 27) 43 [qa_a (some 1), qa_i (nI k), qa_i (nI v)] (K, I, R, n, z) = some (some (qa_i (nI ni)), (K, I1, R, n, z)) := by simp (disch := first | assumption | omega | exact Or.inl rfl | exact Or.inr rfl | exact qb_01) only [qe_43, qr_43_0, qr_43_1, qr_43_4, qr_43_5, qr_43_8, qr_43_11, qr_43_12, qr_43_13, qr_43_14, qr_43_15, qr_43_16, qr_43_19, qr_43_22, qr_43_24, qr_43_25, qr_43_26, qr_43_29, qr_43_30, qr_43_31, qr_43_34, true_and, and_true, false_and, and_false, Option.bind_some, Option.toList_some, Option.toList_none, List.nil_append, List.cons_append, if_true, if_false, ite_true, ite_false, not_true_eq_false, not_false_eq_true, qn_lt0, qn_ge0, qn_lt, qn_le, qn_eq, qn_e0, qn_gt0, qn_le0, qn_m1, nI_add, pk_mul, qb_e0, Classical.not_not, Nat.reduceEqDiff, Nat.reduceLT, Nat.reduceLeDiff, Nat.not_lt_zero, Nat.zero_le, l5, qs_CO_hasSkill hC, ga, gb, qs_LA_isWithin, ep]
        have hI : ∀ a, (a < 10 ∨ 13 ≤ a) → I1 a = I a := fun a ha => by rw [hI1]; unfold qI_c; rw [qa_up_n _ _ (by omega), qa_up_n _ _ (by omega), qa_up_n _ _ (by omega)]
        have hc1 : qZc K I1 R n nk pm T (ni + 1) (va_up fs ni k) (va_up hd ni v) s b g el er nh P len tx wl wt lv ec en sn nk' pm' T' ni' fs' hd' sv := ⟨q, q', nx, f, by rw [hI1]; exact qj_A_item zA hni hk (by omega) (by omega) (by omega), zq, zn, qp_PS_cg zP (fun a _ _ => hI a (by omega)), qp_LS_cg zL (fun a _ _ => hI a (by omega)), qp_HS_cg zH (fun a _ _ => hI a (by omega)), qp_L_cg zT (by rw [hI 2 (by omega)]) (hI _ (by omega)), qp_L_cg zW (by rw [hI 4 (by omega)]) (hI _ (by omega)), qp_X_cg zX (by rw [hI 7 (by omega)]) (hI _ (by omega)) (hI _ (by omega)), by rw [hI 1 (by omega)]; exact zS, fun hs => by
      obtain ⟨v1, v2, v3, v4⟩ := zV hs
      exact ⟨qj_A_cg v1 (fun a _ _ => hI a (by omega)) (fun a _ _ => hI a (by omega)) (fun a _ => hI a (by omega)), v2, v3, qp_PS_cg v4 (fun a _ _ => hI a (by omega))⟩⟩
        have hm1 := qZm_cg (I' := I1) hm (fun a h1 h2 => hI a (by omega))
        obtain ⟨⟨a1, a2⟩, ⟨b1, b2⟩, c1, ⟨d1, d2⟩, e1, ⟨f1, f2, f3⟩, ⟨g1, g2⟩, h1, i1, k1⟩ := hm1
        have mk1 : I1 194 0 = nI nk := e1.1
        have mi1 : I1 194 1 = nI ni := e1.2.2.2.1
        have sk1 := fun d x => qs_MO_isSkill (d := d) (I := I1) (n := n) (z := z) (x := x) mo mk1 k10
        obtain ⟨I2, hI2⟩ : ∃ I2, I2 = va_up I1 194 (va_up (va_up (va_up (I1 194) (532 + ni) (nI k)) (544 + ni) (nI v)) 1 (nI (ni + 1))) := ⟨_, rfl⟩
        have w1 : (K 194).1 = 100 := w1
        have w2 : (K 194).2 = 556 := w2
        have r2 : qa_ex (d + 27) 174 [qa_a (some 189), qa_i (nI k), qa_i (nI v)] (K, I1, R, n, z) = some (some (qa_i (nI ni)), (K, I2, R, n, z)) := by
          simp (disch := first | assumption | omega | exact Or.inl rfl | exact Or.inr rfl | exact qb_01) only [qe_174, qr_174_0, qr_174_1, qr_174_2, qr_174_5, qr_174_8, qr_174_9, qr_174_10, qr_174_11, qr_174_12, qr_174_13, qr_174_16, qr_174_19, qr_174_21, qr_174_22, qr_174_23, qr_174_26, qr_174_27, qr_174_28, qr_174_30, qr_174_33, qr_174_35, qr_174_36, qr_174_37, qr_174_40, qr_174_41, qr_174_42, qr_174_43, qr_174_44, qr_174_47, qr_174_50, qr_174_51, qr_174_52, qr_174_53, qr_174_54, qr_174_55, qr_174_58, qr_174_61, qr_174_62, qr_174_63, qr_174_64, qr_174_65, qr_174_66, qr_174_69, qr_174_70, qr_174_71, qr_174_72, qr_174_73, qr_174_74, qr_174_75, qr_174_76, true_and, and_true, false_and, and_false, Option.bind_some, Option.toList_some, Option.toList_none, List.nil_append, List.cons_append, if_true, if_false, ite_true, ite_false, not_true_eq_false, not_false_eq_true, qn_lt0, qn_ge0, qn_lt, qn_le, qn_eq, qn_e0, qn_gt0, qn_le0, qn_m1, nI_add, pk_mul, qb_e0, Classical.not_not, qa_up_s, qa_up_n, qa_uu, Nat.reduceEqDiff, Nat.reduceLT, Nat.reduceLeDiff, Nat.not_lt_zero, Nat.zero_le, sk1, ga, gb, qs_MO_isIn, w3, mi1, h12]
          rw [hI2]
        have hn : ∀ a, (a < 194 ∨ 194 < a) → I2 a = I1 a := fun a ha => by rw [hI2]; exact qa_up_n _ _ (by omega)
        have h0 : ∀ f, f ≠ 500 → I2 189 f = I1 189 f := fun f _ => by rw [hn 189 (by omega)]
        have hm2 : qZm I2 nk pm T (ni + 1) (va_up fs ni k) (va_up hd ni v) s b g el er nh P len tx wl wt lv ec en sn nk' pm' T' ni' fs' hd' sv := ⟨⟨by rw [hn 190 (by omega)]; exact a1, a2⟩, ⟨by rw [hn 191 (by omega)]; exact b1, b2⟩, by rw [hn 192 (by omega)]; exact c1, ⟨by rw [h0 4 (by omega)]; exact d1, fun j hj i hi => by rw [hn 193 (by omega)]; exact d2 j hj i hi⟩, by rw [hI2, qa_up_s]; exact qp_MC_item e1 hni hk (by omega), ⟨by rw [h0 9 (by omega)]; exact f1, by rw [hn 196 (by omega)]; exact f2, fun hs => by rw [hn 196 (by omega), hn 197 (by omega)]; exact f3 hs⟩, ⟨by rw [h0 12 (by omega)]; exact g1, fun j hj => by rw [hn 198 (by omega), hn 199 (by omega)]; exact g2 j hj⟩, qp_L_cg h1 (h0 14 (by omega)) (hn 200 (by omega)), qp_X_cg i1 (h0 20 (by omega)) (hn 201 (by omega)) (hn 202 (by omega)), qp_L_cg k1 (h0 22 (by omega)) (hn 203 (by omega))⟩
        exact ⟨_, _, _, r1, r2, ⟨rfl, hI 0 (by omega), rfl⟩, rfl, by show I2 0 = I 0; rw [hn 0 (by omega), hI 0 (by omega)], hS, j2, j3, by show n ≤ _; omega, by show z ≤ _; omega, nk, pm, T, ni + 1, va_up fs ni k, va_up hd ni v, s, b, g, el, er, nh, P, len, tx, wl, wt, lv, ec, en, sn, nk', pm', T', ni', fs', hd', sv, qZc_cg hc1 (fun a ha => hn a (by omega)), hm2, qZp_mono (B := 20000 + 100 * m) ⟨⟨n1, qv_I_mono n2 (by omega)⟩, n3, fun j hj => ⟨(n4 j hj).1, qv_I_mono (n4 j hj).2 (by omega)⟩, n5, n6, fun j hj => ⟨by have := (n7 j hj).1; omega, (n7 j hj).2⟩, n8, n9, n10, n11, n12, n13⟩ (by omega)⟩
    · exact qJ_ro hJ0 ⟨-2, by simp (disch := first | assumption | omega | exact Or.inl rfl | exact Or.inr rfl | exact qb_01) only [qe_43, qr_43_0, qr_43_1, qr_43_4, qr_43_5, qr_43_8, qr_43_11, qr_43_12, qr_43_13, qr_43_14, qr_43_15, qr_43_16, qr_43_19, qr_43_22, qr_43_24, qr_43_25, qr_43_26, qr_43_29, qr_43_30, qr_43_31, qr_43_34, true_and, and_true, false_and, and_false, Option.bind_some, Option.toList_some, Option.toList_none, List.nil_append, List.cons_append, if_true, if_false, ite_true, ite_false, not_true_eq_false, not_false_eq_true, qn_lt0, qn_ge0, qn_lt, qn_le, qn_eq, qn_e0, qn_gt0, qn_le0, qn_m1, nI_add, pk_mul, qb_e0, Classical.not_not, Nat.reduceEqDiff, Nat.reduceLT, Nat.reduceLeDiff, Nat.not_lt_zero, Nat.zero_le, l5, qs_CO_hasSkill hC, hx, qs_LA_isWithin, eq_false hy], by simp (disch := first | assumption | omega | exact Or.inl rfl | exact Or.inr rfl | exact qb_01) only [qe_174, qr_174_0, qr_174_1, qr_174_2, qr_174_5, qr_174_8, qr_174_9, qr_174_10, qr_174_11, qr_174_12, qr_174_13, qr_174_16, qr_174_19, qr_174_21, qr_174_22, qr_174_23, qr_174_26, qr_174_27, qr_174_28, qr_174_30, qr_174_33, qr_174_35, qr_174_36, qr_174_37, qr_174_40, qr_174_41, qr_174_42, qr_174_43, qr_174_44, qr_174_47, qr_174_50, qr_174_51, qr_174_52, qr_174_53, qr_174_54, qr_174_55, qr_174_58, qr_174_61, qr_174_62, qr_174_63, qr_174_64, qr_174_65, qr_174_66, qr_174_69, qr_174_70, qr_174_71, qr_174_72, qr_174_73, qr_174_74, qr_174_75, qr_174_76, true_and, and_true, false_and, and_false, Option.bind_some, Option.toList_some, Option.toList_none, List.nil_append, List.cons_append, if_true, if_false, ite_true, ite_false, not_true_eq_false, not_false_eq_true, qn_lt0, qn_ge0, qn_lt, qn_le, qn_eq, qn_e0, qn_gt0, qn_le0, qn_m1, nI_add, pk_mul, qb_e0, Classical.not_not, Nat.reduceEqDiff, Nat.reduceLT, Nat.reduceLeDiff, Nat.not_lt_zero, Nat.zero_le, qs_MO_isSkill mo mk k10, hx, qs_MO_isIn, eq_false hy]⟩
  · exact qJ_ro hJ0 ⟨-1, by simp (disch := first | assumption | omega | exact Or.inl rfl | exact Or.inr rfl | exact qb_01) only [qe_43, qr_43_0, qr_43_1, qr_43_4, qr_43_5, qr_43_8, qr_43_11, qr_43_12, qr_43_13, qr_43_14, qr_43_15, qr_43_16, qr_43_19, qr_43_22, qr_43_24, qr_43_25, qr_43_26, qr_43_29, qr_43_30, qr_43_31, qr_43_34, true_and, and_true, false_and, and_false, Option.bind_some, Option.toList_some, Option.toList_none, List.nil_append, List.cons_append, if_true, if_false, ite_true, ite_false, not_true_eq_false, not_false_eq_true, qn_lt0, qn_ge0, qn_lt, qn_le, qn_eq, qn_e0, qn_gt0, qn_le0, qn_m1, nI_add, pk_mul, qb_e0, Classical.not_not, Nat.reduceEqDiff, Nat.reduceLT, Nat.reduceLeDiff, Nat.not_lt_zero, Nat.zero_le, l5, qs_CO_hasSkill hC, eq_false hx], by simp (disch := first | assumption | omega | exact Or.inl rfl | exact Or.inr rfl | exact qb_01) only [qe_174, qr_174_0, qr_174_1, qr_174_2, qr_174_5, qr_174_8, qr_174_9, qr_174_10, qr_174_11, qr_174_12, qr_174_13, qr_174_16, qr_174_19, qr_174_21, qr_174_22, qr_174_23, qr_174_26, qr_174_27, qr_174_28, qr_174_30, qr_174_33, qr_174_35, qr_174_36, qr_174_37, qr_174_40, qr_174_41, qr_174_42, qr_174_43, qr_174_44, qr_174_47, qr_174_50, qr_174_51, qr_174_52, qr_174_53, qr_174_54, qr_174_55, qr_174_58, qr_174_61, qr_174_62, qr_174_63, qr_174_64, qr_174_65, qr_174_66, qr_174_69, qr_174_70, qr_174_71, qr_174_72, qr_174_73, qr_174_74, qr_174_75, qr_174_76, true_and, and_true, false_and, and_false, Option.bind_some, Option.toList_some, Option.toList_none, List.nil_append, List.cons_append, if_true, if_false, ite_true, ite_false, not_true_eq_false, not_false_eq_true, qn_lt0, qn_ge0, qn_lt, qn_le, qn_eq, qn_e0, qn_gt0, qn_le0, qn_m1, nI_add, pk_mul, qb_e0, Classical.not_not, Nat.reduceEqDiff, Nat.reduceLT, Nat.reduceLeDiff, Nat.not_lt_zero, Nat.zero_le, qs_MO_isSkill mo mk k10, eq_false hx]⟩
theorem qJ_explain (hJ : qJ m h) (hm512 : m ≤ 512) : qJs d 127 220 [qa_i x] m h := by
  obtain ⟨K, I, R, n, z⟩ := h
  have hJ0 := hJ
  obtain ⟨j1, j2, j3, j4, j5, nk, pm, T, ni, fs, hd, s, b, g, el, er, nh, P, len, tx, wl, wt, lv, ec, en, sn, nk', pm', T', ni', fs', hd', sv, hc, hm, hp⟩ := hJ
  have hS : qS K R := j1
  have j2 : ∀ a, n ≤ a → K a = (77, 0) := j2
  have j3 : 204 ≤ n := j3
  have j4 : n ≤ 204 + 84 * m := j4
  have j5 : z ≤ 20000 + 354 * m := j5
  have hc : qZc K I R n nk pm T ni fs hd s b g el er nh P len tx wl wt lv ec en sn nk' pm' T' ni' fs' hd' sv := hc
  have hm : qZm I nk pm T ni fs hd s b g el er nh P len tx wl wt lv ec en sn nk' pm' T' ni' fs' hd' sv := hm
  obtain ⟨⟨l0, l1, l2, l3, l4, l5, l6, l7, l8, l9, l10, l11⟩, t2, t4, t6, ex, co, p1, p2, lg, hi, sc, sp, mo⟩ := id hS
  obtain ⟨q, q', nx, f, zA, zq, zn, zP, zL, zH, zT, zW, zX, zS, zV⟩ := id hc
  obtain ⟨⟨a1, a2⟩, ⟨b1, b2⟩, c1, ⟨d1, d2⟩, e1, ⟨f1, f2, f3⟩, ⟨g1, g2⟩, h1, i1, k1⟩ := id hm
  obtain ⟨⟨n1, n2⟩, n3, n4, n5, n6, n7, n8, n9, n10, n11, n12, n13⟩ := id hp
  have hC := zA.1
  have i12 := hC.2.2.2.2.2.2.2.1
  have cn := hC.2.2.2.2.2.2.1
  have mi := e1.2.2.2.1
  have co0 := co.1
  have mo0 := mo.1
  by_cases hx : ¬ x < 0 ∧ ¬ nI ni ≤ x
  · obtain ⟨i, hi, rfl⟩ := qn_rg hx (by omega)
    obtain ⟨I1, r1, hf, hX⟩ := qs_LA_explain (d := d + 8) (n := n) (z := z) (i := i) l0 l4 l5 l6 ex zA p1 zP (by omega) (by omega) (by omega) (by omega) hi
    have hI : ∀ a, (a < 7 ∨ 10 ≤ a) → I1 a = I a := fun a ha => hf a (by omega)
    have hle := qE_x_le (nk := nk) (pm := pm) (T := T) (ni := ni) (fs := fs) (hd := hd) (i := i) (s := s)
    have hm1 := qZm_cg (I' := I1) hm (fun a h1 h2 => hI a (by omega))
    obtain ⟨⟨a1, a2⟩, ⟨b1, b2⟩, c1, ⟨d1, d2⟩, e1, ⟨f1, f2, f3⟩, ⟨g1, g2⟩, h1, i1, k1⟩ := hm1
    obtain ⟨I2, r2, hn2, h02, hY⟩ := qs_MO_explain (d := d + 8) (I := I1) (n := n) (z := z) (i := i) mo e1 hi
    rw [show I1 (189 + 1) = s from a1] at r2 hY
    generalize qE_x nk pm T ni fs hd i s = E at r1 hX r2 hY hle
    have hc1 : qZc K I1 R n nk pm T ni fs hd s b g el er nh P len tx wl wt E.1 E.2.1 E.2.2 sn nk' pm' T' ni' fs' hd' sv := ⟨q, q', nx, f, qj_A_cg zA (fun a _ _ => hI a (by omega)) (fun a _ _ => hI a (by omega)) (fun a _ => hI a (by omega)), zq, zn, qp_PS_cg zP (fun a _ _ => hI a (by omega)), qp_LS_cg zL (fun a _ _ => hI a (by omega)), qp_HS_cg zH (fun a _ _ => hI a (by omega)), qp_L_cg zT (by rw [hI 2 (by omega)]) (hI _ (by omega)), qp_L_cg zW (by rw [hI 4 (by omega)]) (hI _ (by omega)), hX, by rw [hI 1 (by omega)]; exact zS, fun hs => by
      obtain ⟨v1, v2, v3, v4⟩ := zV hs
      exact ⟨qj_A_cg v1 (fun a _ _ => hI a (by omega)) (fun a _ _ => hI a (by omega)) (fun a _ => hI a (by omega)), v2, v3, qp_PS_cg v4 (fun a _ _ => hI a (by omega))⟩⟩
    have hn : ∀ a, (a < 189 ∨ (189 < a ∧ a < 201) ∨ 202 < a) → I2 a = I1 a := fun a ha => hn2 a (by omega) (by omega) (by omega)
    have h0 : ∀ f, f ≠ 20 → I2 189 f = I1 189 f := h02
    have hm2 : qZm I2 nk pm T ni fs hd s b g el er nh P len tx wl wt E.1 E.2.1 E.2.2 sn nk' pm' T' ni' fs' hd' sv := ⟨⟨by rw [hn 190 (by omega)]; exact a1, a2⟩, ⟨by rw [hn 191 (by omega)]; exact b1, b2⟩, by rw [hn 192 (by omega)]; exact c1, ⟨by rw [h0 4 (by omega)]; exact d1, fun j hj i hi => by rw [hn 193 (by omega)]; exact d2 j hj i hi⟩, by rw [hn 194 (by omega)]; exact e1, ⟨by rw [h0 9 (by omega)]; exact f1, by rw [hn 196 (by omega)]; exact f2, fun hs => by rw [hn 196 (by omega), hn 197 (by omega)]; exact f3 hs⟩, ⟨by rw [h0 12 (by omega)]; exact g1, fun j hj => by rw [hn 198 (by omega), hn 199 (by omega)]; exact g2 j hj⟩, qp_L_cg h1 (h0 14 (by omega)) (hn 200 (by omega)), hY, qp_L_cg k1 (h0 22 (by omega)) (hn 203 (by omega))⟩
    exact ⟨_, _, _, r1, r2, ⟨rfl, hI 0 (by omega), rfl⟩, rfl, by show I2 0 = I 0; rw [hn 0 (by omega), hI 0 (by omega)], hS, j2, j3, by show n ≤ _; omega, by show z ≤ _; omega, nk, pm, T, ni, fs, hd, s, b, g, el, er, nh, P, len, tx, wl, wt, E.1, E.2.1, E.2.2, sn, nk', pm', T', ni', fs', hd', sv, qZc_cg hc1 (fun a ha => hn a (by omega)), hm2, qZp_mono (B := 20000 + 100 * m) ⟨⟨n1, n2⟩, n3, n4, n5, n6, n7, n8, n9, n10, hle, n12, n13⟩ (by omega)⟩
  · exact qJ_ro hJ0 ⟨-1, by simp (disch := first | assumption | omega | exact Or.inl rfl | exact Or.inr rfl | exact qb_01) only [qe_127, qr_127_0, qr_127_1, qr_127_4, qr_127_5, qr_127_8, qr_127_11, qr_127_12, qr_127_13, qr_127_14, qr_127_17, qr_127_18, qr_127_21, qr_127_22, qr_127_23, qr_127_26, qr_127_29, qr_127_30, qr_127_33, qr_127_34, qr_127_37, qr_127_40, qr_127_41, qr_127_44, qr_127_45, qr_127_46, qr_127_49, qr_127_52, qr_127_55, qr_127_58, qr_127_59, qr_127_62, qr_127_63, qr_127_66, qr_127_69, qr_127_70, qr_127_73, qr_127_74, qr_127_75, qr_127_78, qr_127_81, qr_127_82, qr_127_85, qr_127_86, qr_127_89, qr_127_92, qr_127_93, qr_127_96, qr_127_97, qr_127_98, qr_127_101, qr_127_102, qr_127_103, qr_127_106, qr_127_109, qr_127_110, qr_127_113, qr_127_114, qr_127_117, qr_127_120, qr_127_121, qr_127_122, qr_127_125, qr_127_126, qr_127_127, qr_127_130, qr_127_131, qr_127_134, qr_127_135, qr_127_136, qr_127_139, qr_127_140, qr_127_143, qr_127_146, true_and, and_true, false_and, and_false, Option.bind_some, Option.toList_some, Option.toList_none, List.nil_append, List.cons_append, if_true, if_false, ite_true, ite_false, not_true_eq_false, not_false_eq_true, qn_lt0, qn_ge0, qn_lt, qn_le, qn_eq, qn_e0, qn_gt0, qn_le0, qn_m1, nI_add, pk_mul, qb_e0, Classical.not_not, Nat.reduceEqDiff, Nat.reduceLT, Nat.reduceLeDiff, Nat.not_lt_zero, Nat.zero_le, l5, qs_CO_hasItem co0 cn, eq_false hx], by simp (disch := first | assumption | omega | exact Or.inl rfl | exact Or.inr rfl | exact qb_01) only [qe_220, qr_220_0, qr_220_1, qr_220_2, qr_220_5, qr_220_8, qr_220_9, qr_220_10, qr_220_11, qr_220_12, qr_220_15, qr_220_16, qr_220_19, qr_220_22, qr_220_23, qr_220_24, qr_220_25, qr_220_26, qr_220_27, qr_220_28, qr_220_31, qr_220_34, qr_220_35, qr_220_36, qr_220_37, qr_220_40, qr_220_41, qr_220_42, qr_220_45, qr_220_48, qr_220_49, qr_220_50, qr_220_53, qr_220_56, qr_220_57, qr_220_58, qr_220_59, qr_220_62, qr_220_65, qr_220_66, qr_220_67, qr_220_70, qr_220_73, qr_220_74, qr_220_75, qr_220_76, qr_220_80, qr_220_81, qr_220_84, qr_220_87, qr_220_88, qr_220_89, qr_220_92, qr_220_94, qr_220_95, qr_220_96, qr_220_97, qr_220_100, qr_220_101, qr_220_102, qr_220_104, qr_220_105, qr_220_108, qr_220_111, qr_220_112, qr_220_115, qr_220_116, qr_220_117, qr_220_118, qr_220_119, qr_220_122, qr_220_123, qr_220_126, qr_220_127, qr_220_128, qr_220_131, qr_220_132, qr_220_135, true_and, and_true, false_and, and_false, Option.bind_some, Option.toList_some, Option.toList_none, List.nil_append, List.cons_append, if_true, if_false, ite_true, ite_false, not_true_eq_false, not_false_eq_true, qn_lt0, qn_ge0, qn_lt, qn_le, qn_eq, qn_e0, qn_gt0, qn_le0, qn_m1, nI_add, pk_mul, qb_e0, Classical.not_not, Nat.reduceEqDiff, Nat.reduceLT, Nat.reduceLeDiff, Nat.not_lt_zero, Nat.zero_le, qs_MO_isItem mo mi i12, eq_false hx]⟩
theorem qJ_write (hJ : qJ m h) (hm512 : m ≤ 512) : qJs d 147 229 [] m h := by
  obtain ⟨K, I, R, n, z⟩ := h
  have hJ0 := hJ
  obtain ⟨j1, j2, j3, j4, j5, nk, pm, T, ni, fs, hd, s, b, g, el, er, nh, P, len, tx, wl, wt, lv, ec, en, sn, nk', pm', T', ni', fs', hd', sv, hc, hm, hp⟩ := hJ
  have hS : qS K R := j1
  have j2 : ∀ a, n ≤ a → K a = (77, 0) := j2
  have j3 : 204 ≤ n := j3
  have j4 : n ≤ 204 + 84 * m := j4
  have j5 : z ≤ 20000 + 354 * m := j5
  have hc : qZc K I R n nk pm T ni fs hd s b g el er nh P len tx wl wt lv ec en sn nk' pm' T' ni' fs' hd' sv := hc
  have hm : qZm I nk pm T ni fs hd s b g el er nh P len tx wl wt lv ec en sn nk' pm' T' ni' fs' hd' sv := hm
  obtain ⟨⟨l0, l1, l2, l3, l4, l5, l6, l7, l8, l9, l10, l11⟩, t2, t4, t6, ex, co, p1, p2, lg, hi, sc, sp, mo⟩ := id hS
  obtain ⟨q, q', nx, f, zA, zq, zn, zP, zL, zH, zT, zW, zX, zS, zV⟩ := id hc
  obtain ⟨⟨a1, a2⟩, ⟨b1, b2⟩, c1, ⟨d1, d2⟩, e1, ⟨f1, f2, f3⟩, ⟨g1, g2⟩, h1, i1, k1⟩ := id hm
  obtain ⟨⟨n1, n2⟩, n3, n4, n5, n6, n7, n8, n9, n10, n11, n12, n13⟩ := id hp
  have hC := zA.1
  have hU := hC.2.1
  have u0 := hU.1
  have un := hC.2.2.1
  have k10 := hC.2.2.2.2.1
  have c7 : R 10 3 = some q := hC.1.2.2.2.2.2.2.2
  have co0 := co.1
  have t40 := t4.1
  have hpm : ∀ k, k < nk → I (q + 1) k = nI (pm k) ∧ pm k < 101 := fun k hk => ⟨(hC.2.2.2.2.2.1 k hk).1, (e1.2.2.2.2.2.1 k hk).2⟩
  have ew := qs_CU_writeTo (d := d + 9) (I := I) (n := n) (z := z) (a := 4) (q := q) (nk := nk) (T := T) (pm := pm) t4.1 t4.2.1 t4.2.2.1 t4.2.2.2 (by omega) hU (by omega) un k10 hpm zA.2.1 n12
  have e0 : qw_W I 4 1 5 0 [] = va_up I 4 (va_up (I 4) 1 (nI 0)) := qw_z.symm
  obtain ⟨W, hW⟩ : ∃ W, W = qk_ws pm T nk := ⟨_, rfl⟩
  rw [← hW] at ew n12
  have ew : qa_ex (d + 9 + 17) 148 [qa_a (some q), qa_a (some 4)] (K, va_up I 4 (va_up (I 4) 1 (nI 0)), R, n, z) = some (none, (K, qw_W I 4 1 (4 + 1) 0 W, R, n, z)) := by rw [← e0]; exact ew
  have eL := qw_W_L (I := I) (a := 4) (o := 1) (f := 1) (l := W) (by omega)
  have eL1 := eL.1
  have hnw : ∀ a, (a < 4 ∨ 6 ≤ a) → qw_W I 4 1 (4 + 1) 0 W a = I a := fun a ha => qw_n (by omega) (by omega)
  obtain ⟨I1, hI1⟩ : ∃ I1, I1 = qw_W I 4 1 (4 + 1) 0 W := ⟨_, rfl⟩
  rw [← hI1] at ew eL eL1 hnw
  have r1 : qa_ex (d + 27) 147 [qa_a (some 1)] (K, I, R, n, z) = some (some (qa_i (nI W.length)), (K, I1, R, n, z)) := by simp (disch := first | assumption | omega | exact Or.inl rfl | exact Or.inr rfl | exact qb_01) only [qe_147, qr_147_0, qr_147_1, qr_147_4, qr_147_7, qr_147_8, qr_147_11, qr_147_14, qr_147_15, qr_147_18, qr_147_21, qr_147_22, qr_147_25, qr_147_28, true_and, and_true, false_and, and_false, Option.bind_some, Option.toList_some, Option.toList_none, List.nil_append, List.cons_append, if_true, if_false, ite_true, ite_false, not_true_eq_false, not_false_eq_true, qn_lt0, qn_ge0, qn_lt, qn_le, qn_eq, qn_e0, qn_gt0, qn_le0, qn_m1, nI_add, pk_mul, qb_e0, Classical.not_not, Nat.reduceEqDiff, Nat.reduceLT, Nat.reduceLeDiff, Nat.not_lt_zero, Nat.zero_le, l2, l5, qs_TR_clear, qs_CO_curriculum, c7, ew, qs_TR_length, eL1]
  have hI : ∀ a, (a < 4 ∨ 6 ≤ a) → I1 a = I a := hnw
  have hc1 : qZc K I1 R n nk pm T ni fs hd s b g el er nh P len tx W.length (fun j => W.getD j 0) lv ec en sn nk' pm' T' ni' fs' hd' sv := ⟨q, q', nx, f, qj_A_cg zA (fun a _ _ => hI a (by omega)) (fun a _ _ => hI a (by omega)) (fun a _ => hI a (by omega)), zq, zn, qp_PS_cg zP (fun a _ _ => hI a (by omega)), qp_LS_cg zL (fun a _ _ => hI a (by omega)), qp_HS_cg zH (fun a _ _ => hI a (by omega)), qp_L_cg zT (by rw [hI 2 (by omega)]) (hI _ (by omega)), eL, qp_X_cg zX (by rw [hI 7 (by omega)]) (hI _ (by omega)) (hI _ (by omega)), by rw [hI 1 (by omega)]; exact zS, fun hs => by
      obtain ⟨v1, v2, v3, v4⟩ := zV hs
      exact ⟨qj_A_cg v1 (fun a _ _ => hI a (by omega)) (fun a _ _ => hI a (by omega)) (fun a _ => hI a (by omega)), v2, v3, qp_PS_cg v4 (fun a _ _ => hI a (by omega))⟩⟩
  have hm1 := qZm_cg (I' := I1) hm (fun a h1 h2 => hI a (by omega))
  obtain ⟨⟨a1, a2⟩, ⟨b1, b2⟩, c1, ⟨d1, d2⟩, e1, ⟨f1, f2, f3⟩, ⟨g1, g2⟩, h1, i1, k1⟩ := hm1
  have r2 := qs_MO_write (d := d + 11) (I := I1) (n := n) (z := z) (nk := nk) (T := T) (pm := pm) mo e1.1 k10 e1.2.2.2.2.2.1 e1.2.2.2.2.2.2.1 (by rw [← hW]; exact n12)
  rw [← hW] at r2
  have eL2 := qw_W_L (I := I1) (a := 189) (o := 14) (f := 22) (l := W) (by omega)
  have hn2 : ∀ a, (a < 189 ∨ (189 < a ∧ a < 203) ∨ 203 < a) → qw_W I1 189 22 (189 + 14) 0 W a = I1 a := fun a ha => qw_n (by omega) (by omega)
  have h02 : ∀ f, f ≠ 22 → qw_W I1 189 22 (189 + 14) 0 W 189 f = I1 189 f := fun f hf => qw_W_a hf
  obtain ⟨I2, hI2⟩ : ∃ I2, I2 = qw_W I1 189 22 (189 + 14) 0 W := ⟨_, rfl⟩
  rw [← hI2] at r2 eL2 hn2 h02
  have hn := hn2
  have h0 := h02
  have hm2 : qZm I2 nk pm T ni fs hd s b g el er nh P len tx W.length (fun j => W.getD j 0) lv ec en sn nk' pm' T' ni' fs' hd' sv := ⟨⟨by rw [hn 190 (by omega)]; exact a1, a2⟩, ⟨by rw [hn 191 (by omega)]; exact b1, b2⟩, by rw [hn 192 (by omega)]; exact c1, ⟨by rw [h0 4 (by omega)]; exact d1, fun j hj i hi => by rw [hn 193 (by omega)]; exact d2 j hj i hi⟩, by rw [hn 194 (by omega)]; exact e1, ⟨by rw [h0 9 (by omega)]; exact f1, by rw [hn 196 (by omega)]; exact f2, fun hs => by rw [hn 196 (by omega), hn 197 (by omega)]; exact f3 hs⟩, ⟨by rw [h0 12 (by omega)]; exact g1, fun j hj => by rw [hn 198 (by omega), hn 199 (by omega)]; exact g2 j hj⟩, qp_L_cg h1 (h0 14 (by omega)) (hn 200 (by omega)), qp_X_cg i1 (h0 20 (by omega)) (hn 201 (by omega)) (hn 202 (by omega)), eL2⟩
  exact ⟨_, _, _, r1, r2, ⟨rfl, hI 0 (by omega), rfl⟩, rfl, by show I2 0 = I 0; rw [hn 0 (by omega), hI 0 (by omega)], hS, j2, j3, by show n ≤ _; omega, by show z ≤ _; omega, nk, pm, T, ni, fs, hd, s, b, g, el, er, nh, P, len, tx, W.length, fun j => W.getD j 0, lv, ec, en, sn, nk', pm', T', ni', fs', hd', sv, qZc_cg hc1 (fun a ha => hn a (by omega)), hm2, qZp_mono (B := 20000 + 100 * m) ⟨⟨n1, n2⟩, n3, n4, n5, n6, n7, n8, n9, n12, n11, by rw [← hW]; exact n12, n13⟩ (by omega)⟩
end Q68b
