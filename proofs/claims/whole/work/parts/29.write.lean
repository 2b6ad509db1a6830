/-! Writing trees, both sides. -/
def qf_wr (f : Nat → Int32) (m : Nat) : List Nat → Nat → Int32
  | [] => f
  | x :: l => qf_wr (va_up f m (nI x)) (m + 1) l
theorem qf_wr_app {l r : List Nat} : ∀ {f : Nat → Int32} {m : Nat}, qf_wr f m (l ++ r) = qf_wr (qf_wr f m l) (m + l.length) r := by
  induction l with
  | nil => intro f m; rfl
  | cons x l ih =>
    intro f m
    show qf_wr (va_up f m (nI x)) (m + 1) (l ++ r) = _
    rw [ih, List.length_cons, show m + 1 + l.length = m + (l.length + 1) by omega]
    rfl
def qw_W (I : Nat → Nat → Int32) (a f b m : Nat) (l : List Nat) : Nat → Nat → Int32 := va_up (va_up I b (qf_wr (I b) m l)) a (va_up (I a) f (nI (m + l.length)))
theorem qw_n {I : Nat → Nat → Int32} {a f b m c : Nat} {l : List Nat} (h1 : c ≠ a) (h2 : c ≠ b) : qw_W I a f b m l c = I c := by
  unfold qw_W
  rw [qa_up_n _ _ h1, qa_up_n _ _ h2]
theorem qw_f {I : Nat → Nat → Int32} {a f b m : Nat} {l : List Nat} : qw_W I a f b m l a f = nI (m + l.length) := by
  unfold qw_W
  rw [qa_up_s, qa_up_s]
theorem qw_0 {I : Nat → Nat → Int32} {a f b m : Nat} (h : I a f = nI m) : qw_W I a f b m [] = I := by
  unfold qw_W
  have h1 : va_up I b (qf_wr (I b) m []) = I := qa_uI I b
  have h2 : va_up (I a) f (nI (m + ([] : List Nat).length)) = I a := by
    rw [show nI (m + ([] : List Nat).length) = I a f from h.symm]
    funext i
    unfold va_up
    by_cases e : i = f
    · rw [if_pos e, e]
    · rw [if_neg e]
  rw [h1, h2, qa_uI]
theorem qw_1 {I : Nat → Nat → Int32} {a f b m x : Nat} {l : List Nat} (h : a ≠ b) : va_up (va_up (qw_W I a f b m l) b (va_up (qw_W I a f b m l b) (m + l.length) (nI x))) a (va_up (qw_W I a f b m l a) f (nI (m + l.length + 1))) = qw_W I a f b m (l ++ [x]) := by
  have e1 : qw_W I a f b m l b = qf_wr (I b) m l := by unfold qw_W; rw [qa_up_n _ _ (Ne.symm h), qa_up_s]
  have e2 : va_up (qw_W I a f b m l a) f (nI (m + l.length + 1)) = va_up (I a) f (nI (m + (l ++ [x]).length)) := by
    unfold qw_W
    rw [qa_up_s, qa_uu, List.length_append]
    rfl
  have e3 : va_up (qf_wr (I b) m l) (m + l.length) (nI x) = qf_wr (I b) m (l ++ [x]) := by rw [qf_wr_app]; rfl
  rw [e1, e2, e3]
  funext c
  unfold qw_W
  by_cases h1 : c = a
  · subst h1
    rw [qa_up_s, qa_up_s]
  · rw [qa_up_n _ _ h1, qa_up_n _ _ h1]
    by_cases h2 : c = b
    · subst h2
      rw [qa_up_s, qa_up_s]
    · rw [qa_up_n _ _ h2, qa_up_n _ _ h1, qa_up_n _ _ h2, qa_up_n _ _ h2]
/-- what is written of a forest: its first tree, its first tree within an and, all with an and before each, all with an or before each -/
def qt_wr : qt_T → List Nat × List Nat × List Nat × List Nat
  | .mulL k nx => ([48 + k.toNat], [48 + k.toNat], 38 :: ([48 + k.toNat] ++ (qt_wr nx).2.2.1), 124 :: ([48 + k.toNat] ++ (qt_wr nx).2.2.2))
  | .add f nx => ((qt_wr f).2.2.1.drop 1, (qt_wr f).2.2.1.drop 1, 38 :: ((qt_wr f).2.2.1.drop 1 ++ (qt_wr nx).2.2.1), 124 :: ((qt_wr f).2.2.1.drop 1 ++ (qt_wr nx).2.2.2))
  | .sub f nx => ((qt_wr f).2.2.2.drop 1, 40 :: ((qt_wr f).2.2.2.drop 1 ++ [41]), 38 :: ((40 :: ((qt_wr f).2.2.2.drop 1 ++ [41])) ++ (qt_wr nx).2.2.1), 124 :: ((qt_wr f).2.2.2.drop 1 ++ (qt_wr nx).2.2.2))
  | _ => ([], [], [], [])
section Q29
variable {d a b f : Nat} {K : Nat → Nat × Nat} {I : Nat → Nat → Int32} {R : Nat → Nat → Option Nat} {n z : Nat} {x y : Nat} {h : qa_H} {u nk ni k i j m B : Nat} {l r : List Nat}
theorem qs_TR_add (hk : K a = (1, 0)) (hc : (K (a + 1)).1 = 100) (hc2 : (K (a + 1)).2 = 80) (hr : R a 0 = some (a + 1)) (hm : m + l.length < 80) : qa_ex (d + 1) 18 [qa_a (some a), qa_i (nI x)] (K, qw_W I a 1 (a + 1) m l, R, n, z) = some (none, (K, qw_W I a 1 (a + 1) m (l ++ [x]), R, n, z)) := by
  have e1 : qw_W I a 1 (a + 1) m l a 1 = nI (m + l.length) := qw_f
  have e2 := qw_1 (I := I) (a := a) (f := 1) (b := a + 1) (m := m) (x := x) (l := l) (by omega)
  have e3 : ¬ 80 ≤ m + l.length := by omega
  rw [← e2]
  simp (disch := first | assumption | omega | exact Or.inl rfl | exact Or.inr rfl | exact qb_01) only [qe_18, qr_18_0, qr_18_1, qr_18_4, qr_18_6, qr_18_9, qr_18_10, qr_18_13, qr_18_14, qr_18_17, qr_18_18, qr_18_19, qr_18_20, qr_18_21, qr_18_24, qr_18_25, qr_18_26, qr_18_29, true_and, and_true, false_and, and_false, Option.bind_some, Option.toList_some, Option.toList_none, List.nil_append, List.cons_append, if_true, if_false, ite_true, ite_false, not_true_eq_false, not_false_eq_true, qn_lt0, qn_ge0, qn_lt, qn_le, qn_eq, qn_e0, qn_gt0, qn_le0, qn_m1, nI_add, pk_mul, qb_e0, Classical.not_not, e1, e3, hr, qa_up_s, qa_up_n, qa_uu]
theorem qs_MO_puts (hM : qp_MO K R u) (hm : m + l.length < 400) : qa_ex (d + 1) 230 [qa_a (some u), qa_i (nI x)] (K, qw_W I u 22 (u + 14) m l, R, n, z) = some (none, (K, qw_W I u 22 (u + 14) m (l ++ [x]), R, n, z)) := by
  obtain ⟨m0, -, -, -, -, -, -, -, -, -, -, -, -, -, ⟨c1, c2, c3⟩⟩ := hM
  have e1 : qw_W I u 22 (u + 14) m l u 22 = nI (m + l.length) := qw_f
  have e2 := qw_1 (I := I) (a := u) (f := 22) (b := u + 14) (m := m) (x := x) (l := l) (by omega)
  rw [← e2]
  simp (disch := first | assumption | omega | exact Or.inl rfl | exact Or.inr rfl | exact qb_01) only [qe_230, qr_230_0, qr_230_1, qr_230_4, qr_230_5, qr_230_8, qr_230_9, qr_230_10, qr_230_11, qr_230_12, qr_230_15, qr_230_16, qr_230_17, qr_230_20, true_and, and_true, false_and, and_false, Option.bind_some, Option.toList_some, Option.toList_none, List.nil_append, List.cons_append, if_true, if_false, ite_true, ite_false, not_true_eq_false, not_false_eq_true, qn_lt0, qn_ge0, qn_lt, qn_le, qn_eq, qn_e0, qn_gt0, qn_le0, qn_m1, nI_add, pk_mul, qb_e0, Classical.not_not, e1, c3, qa_up_s, qa_up_n, qa_uu]
end Q29
