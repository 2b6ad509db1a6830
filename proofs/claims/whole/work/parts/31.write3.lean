/-! Writing trees, the model. -/
theorem qt_M_len {c : Nat → Int32} : ∀ {t t' : qt_T} {o : Int32}, qt_M c t o → qt_M c t' o → qt_len t = qt_len t' := by
  have ne : ∀ j, j < 170 → nI j = (-1) → False := fun j hj q => by
    have := @qn_m1 j (by omega)
    rw [eq_iff_iff] at this
    exact this.mp q
  have inj : ∀ i j, i < 170 → j < 170 → nI i = nI j → i = j := fun i j hi hj q => by
    have := @qn_eq i j (by omega) (by omega)
    rw [eq_iff_iff] at this
    exact this.mp q
  have main : ∀ (t t' nx nx' : qt_T) (j j' : Nat), j < 170 → j' < 170 → nI j = nI j' → qt_M c nx' (c (362 + j')) → (∀ {t' : qt_T}, qt_M c t' (c (362 + j)) → qt_len nx = qt_len t') → qt_len nx + 1 = qt_len nx' + 1 := by
    intro t t' nx nx' j j' h1 h2 e h3 h4
    have := inj j j' h1 h2 e
    subst this
    rw [h4 h3]
  intro t
  induction t with
  | num v =>
    intro t' o h h'
    have h : o = (-1) := h
    subst h
    cases t' with
    | num v => rfl
    | var i => exact h'.elim
    | neg a => exact h'.elim
    | mulR a k => exact h'.elim
    | mulL k nx => obtain ⟨j, e, h1, -⟩ := h'; exact (ne j h1 e.symm).elim
    | add f nx => obtain ⟨j, e, h1, -⟩ := h'; exact (ne j h1 e.symm).elim
    | sub f nx => obtain ⟨j, e, h1, -⟩ := h'; exact (ne j h1 e.symm).elim
  | var i => intro t' o h; exact h.elim
  | neg a => intro t' o h; exact h.elim
  | mulR a k => intro t' o h; exact h.elim
  | mulL k nx ih =>
    intro t' o h h'
    obtain ⟨j, rfl, h1, -, -, h2⟩ := h
    cases t' with
    | num v => exact (ne j h1 h').elim
    | var i => exact h'.elim
    | neg a => exact h'.elim
    | mulR a k => exact h'.elim
    | mulL k' nx' => obtain ⟨j', e, h3, -, -, h4⟩ := h'; exact main (.mulL k nx) (.mulL k nx) _ _ j j' h1 h3 e h4 (ih h2)
    | add f nx' => obtain ⟨j', e, h3, -, -, h4⟩ := h'; exact main (.mulL k nx) (.mulL k nx) _ _ j j' h1 h3 e h4 (ih h2)
    | sub f nx' => obtain ⟨j', e, h3, -, -, h4⟩ := h'; exact main (.mulL k nx) (.mulL k nx) _ _ j j' h1 h3 e h4 (ih h2)
  | add f nx ihf ih =>
    intro t' o h h'
    obtain ⟨j, rfl, h1, -, -, h2⟩ := h
    cases t' with
    | num v => exact (ne j h1 h').elim
    | var i => exact h'.elim
    | neg a => exact h'.elim
    | mulR a k => exact h'.elim
    | mulL k' nx' => obtain ⟨j', e, h3, -, -, h4⟩ := h'; exact main nx nx _ _ j j' h1 h3 e h4 (ih h2)
    | add f nx' => obtain ⟨j', e, h3, -, -, h4⟩ := h'; exact main nx nx _ _ j j' h1 h3 e h4 (ih h2)
    | sub f nx' => obtain ⟨j', e, h3, -, -, h4⟩ := h'; exact main nx nx _ _ j j' h1 h3 e h4 (ih h2)
  | sub f nx ihf ih =>
    intro t' o h h'
    obtain ⟨j, rfl, h1, -, -, h2⟩ := h
    cases t' with
    | num v => exact (ne j h1 h').elim
    | var i => exact h'.elim
    | neg a => exact h'.elim
    | mulR a k => exact h'.elim
    | mulL k' nx' => obtain ⟨j', e, h3, -, -, h4⟩ := h'; exact main nx nx _ _ j j' h1 h3 e h4 (ih h2)
    | add f nx' => obtain ⟨j', e, h3, -, -, h4⟩ := h'; exact main nx nx _ _ j j' h1 h3 e h4 (ih h2)
    | sub f nx' => obtain ⟨j', e, h3, -, -, h4⟩ := h'; exact main nx nx _ _ j j' h1 h3 e h4 (ih h2)
def qw_O (pv : Nat) (tl : List Nat) : Prop := (pv = 0 ∧ tl = []) ∨ (pv = 1 ∧ tl = [41])
/-- the loop over what stands from x on in the node j of the kind kd writes v -/
def qw_L (K : Nat → Nat × Nat) (I : Nat → Nat → Int32) (R : Nat → Nat → Option Nat) (n z u m dp len kd : Nat) (v : List Nat) (x : Int32) : Prop :=
  ∀ D l j ou pv tl f0, j < 170 → I (u + 5) (22 + j) = nI kd → qt_M (I (u + 5)) f0 (I (u + 5) (192 + j)) → len < qt_len f0 → qw_O pv tl → dp + 1 ≤ D → m + l.length + v.length + tl.length ≤ 400 → qa_run D 231 67 [qa_a (some u), qa_i (nI j), ou, qa_i (nI kd), qa_i (nI pv), qa_i x] [] [] (K, qw_W I u 22 (u + 14) m l, R, n, z) = some (none, (K, qw_W I u 22 (u + 14) m (l ++ (v ++ tl)), R, n, z))
/-- the same from the first on -/
def qw_F (K : Nat → Nat × Nat) (I : Nat → Nat → Int32) (R : Nat → Nat → Option Nat) (n z u m dp kd : Nat) (v : List Nat) (x : Int32) : Prop :=
  ∀ D l j ou pv tl, j < 170 → I (u + 5) (22 + j) = nI kd → I (u + 5) (192 + j) = x → qw_O pv tl → dp + 1 ≤ D → m + l.length + v.length + tl.length ≤ 400 → qa_run D 231 67 [qa_a (some u), qa_i (nI j), ou, qa_i (nI kd), qa_i (nI pv), qa_i x] [] [] (K, qw_W I u 22 (u + 14) m l, R, n, z) = some (none, (K, qw_W I u 22 (u + 14) m (l ++ (v ++ tl)), R, n, z))
def qw_A (K : Nat → Nat × Nat) (I : Nat → Nat → Int32) (R : Nat → Nat → Option Nat) (n z u m dp ou : Nat) (v : List Nat) (x : Int32) : Prop :=
  ∀ D l, dp + 1 ≤ D → m + l.length + v.length ≤ 400 → qa_ex D 231 [qa_a (some u), qa_i x, qa_i (nI ou)] (K, qw_W I u 22 (u + 14) m l, R, n, z) = some (none, (K, qw_W I u 22 (u + 14) m (l ++ v), R, n, z))
def qw_Q (K : Nat → Nat × Nat) (I : Nat → Nat → Int32) (R : Nat → Nat → Option Nat) (n z u m : Nat) (t : qt_T) (x : Int32) : Prop :=
  (qt_ne t = true → qw_A K I R n z u m (qt_dp t).1 101 (qt_wr t).1 x ∧ qw_A K I R n z u m (qt_dp t).1 100 (qt_wr t).2.1 x) ∧
  qw_L K I R n z u m (qt_dp t).2 (qt_len t) 100 (qt_wr t).2.2.1 x ∧
  qw_L K I R n z u m (qt_dp t).2 (qt_len t) 101 (qt_wr t).2.2.2 x ∧
  (qt_ne t = true → qw_F K I R n z u m (qt_dp t).2 100 ((qt_wr t).2.2.1.drop 1) x) ∧
  (qt_ne t = true → qw_F K I R n z u m (qt_dp t).2 101 ((qt_wr t).2.2.2.drop 1) x)
section Q31
variable {d a b f : Nat} {K : Nat → Nat × Nat} {I : Nat → Nat → Int32} {R : Nat → Nat → Option Nat} {n z : Nat} {x y : Nat} {h : qa_H} {u nk ni k i j m B : Nat} {l r : List Nat}
theorem qw_LF (hM : qp_MO K R u) {dp dt dx len kd c : Nat} {w v : List Nat} (hkd : kd = 100 ∨ kd = 101) (hc : c < 170) (hdp : dp = max dt dx) (hA : qw_A K I R n z u m dt kd w (nI c)) (hB : qw_L K I R n z u m dx len kd v (I (u + 5) (362 + c))) :
    (∀ D l j ou pv tl f0, j < 170 → I (u + 5) (22 + j) = nI kd → qt_M (I (u + 5)) f0 (I (u + 5) (192 + j)) → len < qt_len f0 → qw_O pv tl → dp + 1 ≤ D → nI c = I (u + 5) (192 + j) → m + l.length + w.length + v.length + tl.length ≤ 400 → qa_run D 231 67 [qa_a (some u), qa_i (nI j), ou, qa_i (nI kd), qa_i (nI pv), qa_i (nI c)] [] [] (K, qw_W I u 22 (u + 14) m l, R, n, z) = some (none, (K, qw_W I u 22 (u + 14) m (l ++ (w ++ v ++ tl)), R, n, z))) ∧
    (∀ D l j ou pv tl f0, j < 170 → I (u + 5) (22 + j) = nI kd → qt_M (I (u + 5)) f0 (I (u + 5) (192 + j)) → len < qt_len f0 → qw_O pv tl → dp + 1 ≤ D → ¬ nI c = I (u + 5) (192 + j) → m + l.length + 1 + w.length + v.length + tl.length ≤ 400 → qa_run D 231 67 [qa_a (some u), qa_i (nI j), ou, qa_i (nI kd), qa_i (nI pv), qa_i (nI c)] [] [] (K, qw_W I u 22 (u + 14) m l, R, n, z) = some (none, (K, qw_W I u 22 (u + 14) m (l ++ ((if kd = 100 then 38 else 124) :: (w ++ v) ++ tl)), R, n, z))) := by
  have hM' := hM
  obtain ⟨m0, -, -, -, -, ⟨c1, c2, c3⟩, -⟩ := hM
  constructor
  · intro D l j ou pv tl f0 hj hkj hf0 hlt hO hD hs hl
    have gA := fun l' hl' => hA D l' (by omega) hl'
    have gB := fun l' hl' => hB D l' j ou pv tl f0 hj hkj hf0 hlt hO (by omega) hl'
    obtain ⟨d, rfl⟩ : ∃ d, D = d + 1 := ⟨D - 1, by omega⟩
    rw [qr_231_67]
    rcases hkd with rfl | rfl <;> simp (disch := first | assumption | omega | (simp only [List.length_append, List.length_cons, List.length_nil]; omega) | exact qb_01) only [qr_231_0, qr_231_1, qr_231_4, qr_231_6, qr_231_7, qr_231_8, qr_231_9, qr_231_10, qr_231_11, qr_231_13, qr_231_16, qr_231_17, qr_231_19, qr_231_20, qr_231_21, qr_231_24, qr_231_25, qr_231_26, qr_231_28, qr_231_31, qr_231_32, qr_231_34, qr_231_37, qr_231_38, qr_231_41, qr_231_42, qr_231_44, qr_231_46, qr_231_49, qr_231_50, qr_231_52, qr_231_55, qr_231_56, qr_231_59, qr_231_62, qr_231_63, qr_231_64, qr_231_65, qr_231_69, qr_231_72, qr_231_74, qr_231_75, qr_231_78, qr_231_81, qr_231_82, qr_231_83, qr_231_84, qr_231_87, qr_231_88, qr_231_89, qr_231_91, qr_231_94, qr_231_96, qr_231_99, qr_231_101, qr_231_104, qr_231_105, qr_231_107, qr_231_108, qr_231_111, qr_231_112, qr_231_115, qr_231_118, qr_231_120, qr_231_121, qr_231_122, qr_231_124, qr_231_127, qr_231_129, qr_231_132, qr_231_133, qr_231_135, qr_231_138, true_and, and_true, false_and, and_false, Option.bind_some, Option.toList_some, Option.toList_none, List.nil_append, List.cons_append, if_true, if_false, ite_true, ite_false, not_true_eq_false, not_false_eq_true, qn_lt0, qn_ge0, qn_lt, qn_le, qn_eq, qn_e0, qn_gt0, qn_le0, qn_m1, nI_add, pk_mul, qb_e0, Classical.not_not, c3, qw_n, ← hs, gA, gB, List.append_assoc]
  · intro D l j ou pv tl f0 hj hkj hf0 hlt hO hD hs hl
    have gA := fun l' hl' => hA D l' (by omega) hl'
    have gB := fun l' hl' => hB D l' j ou pv tl f0 hj hkj hf0 hlt hO (by omega) hl'
    obtain ⟨d, rfl⟩ : ∃ d, D = d + 1 := ⟨D - 1, by omega⟩
    rw [qr_231_67]
    rcases hkd with rfl | rfl <;> simp (disch := first | assumption | omega | (simp only [List.length_append, List.length_cons, List.length_nil]; omega) | exact qb_01) only [qr_231_0, qr_231_1, qr_231_4, qr_231_6, qr_231_7, qr_231_8, qr_231_9, qr_231_10, qr_231_11, qr_231_13, qr_231_16, qr_231_17, qr_231_19, qr_231_20, qr_231_21, qr_231_24, qr_231_25, qr_231_26, qr_231_28, qr_231_31, qr_231_32, qr_231_34, qr_231_37, qr_231_38, qr_231_41, qr_231_42, qr_231_44, qr_231_46, qr_231_49, qr_231_50, qr_231_52, qr_231_55, qr_231_56, qr_231_59, qr_231_62, qr_231_63, qr_231_64, qr_231_65, qr_231_69, qr_231_72, qr_231_74, qr_231_75, qr_231_78, qr_231_81, qr_231_82, qr_231_83, qr_231_84, qr_231_87, qr_231_88, qr_231_89, qr_231_91, qr_231_94, qr_231_96, qr_231_99, qr_231_101, qr_231_104, qr_231_105, qr_231_107, qr_231_108, qr_231_111, qr_231_112, qr_231_115, qr_231_118, qr_231_120, qr_231_121, qr_231_122, qr_231_124, qr_231_127, qr_231_129, qr_231_132, qr_231_133, qr_231_135, qr_231_138, true_and, and_true, false_and, and_false, Option.bind_some, Option.toList_some, Option.toList_none, List.nil_append, List.cons_append, if_true, if_false, ite_true, ite_false, not_true_eq_false, not_false_eq_true, qn_lt0, qn_ge0, qn_lt, qn_le, qn_eq, qn_e0, qn_gt0, qn_le0, qn_m1, nI_add, pk_mul, qb_e0, Classical.not_not, c3, qw_n, hs, gA, gB, qs_MO_puts hM', List.append_assoc, show ¬ 101 = 100 by decide, show ¬ 100 = 101 by decide, show ¬ 101 < 100 by decide, show 100 ≤ 101 by decide, show ¬ 0 = 1 by decide, Nat.le_refl, Nat.one_ne_zero]
theorem qw_all (hM : qp_MO K R u) : ∀ (t nx : qt_T) (c : Nat), qt_ne t = true → c < 170 → qt_M (I (u + 5)) t (nI c) → (qt_dp t).2 = max (qt_dp t).1 (qt_dp nx).2 → qt_len t = qt_len nx + 1 → (qt_wr t).2.2.1 = 38 :: ((qt_wr t).2.1 ++ (qt_wr nx).2.2.1) → (qt_wr t).2.2.2 = 124 :: ((qt_wr t).1 ++ (qt_wr nx).2.2.2) →
    qw_A K I R n z u m (qt_dp t).1 101 (qt_wr t).1 (nI c) → qw_A K I R n z u m (qt_dp t).1 100 (qt_wr t).2.1 (nI c) → qw_L K I R n z u m (qt_dp nx).2 (qt_len nx) 100 (qt_wr nx).2.2.1 (I (u + 5) (362 + c)) → qw_L K I R n z u m (qt_dp nx).2 (qt_len nx) 101 (qt_wr nx).2.2.2 (I (u + 5) (362 + c)) → qw_Q K I R n z u m t (nI c) := by
  intro t nx c hne hc hx hdp hlen w1 w2 hA1 hA2 hB1 hB2
  refine ⟨fun _ => ⟨hA1, hA2⟩, ?_, ?_, fun _ => ?_, fun _ => ?_⟩
  · intro D l j ou pv tl f0 q1 q2 q3 q4 q5 q6 q7
    have hs : ¬ nI c = I (u + 5) (192 + j) := fun q => absurd (qt_M_len hx (q ▸ q3)) (by omega)
    have := (qw_LF hM (Or.inl rfl) hc hdp hA2 hB1).2 D l j ou pv tl f0 q1 q2 q3 (by omega) q5 q6 hs
    simp only [if_true] at this
    rw [w1] at q7 ⊢
    exact this (by simp only [List.length_append, List.length_cons] at q7 ⊢; omega)
  · intro D l j ou pv tl f0 q1 q2 q3 q4 q5 q6 q7
    have hs : ¬ nI c = I (u + 5) (192 + j) := fun q => absurd (qt_M_len hx (q ▸ q3)) (by omega)
    have := (qw_LF hM (Or.inr rfl) hc hdp hA1 hB2).2 D l j ou pv tl f0 q1 q2 q3 (by omega) q5 q6 hs
    simp only [if_false, show ¬ 101 = 100 by decide] at this
    rw [w2] at q7 ⊢
    exact this (by simp only [List.length_append, List.length_cons] at q7 ⊢; omega)
  · intro D l j ou pv tl q1 q2 q3 q5 q6 q7
    have := (qw_LF hM (Or.inl rfl) hc hdp hA2 hB1).1 D l j ou pv tl t q1 q2 (q3 ▸ hx) (by omega) q5 q6 q3.symm
    rw [w1] at q7 ⊢
    exact this (by simp only [List.drop_succ_cons, List.drop_zero, List.length_append, List.length_cons] at q7 ⊢; omega)
  · intro D l j ou pv tl q1 q2 q3 q5 q6 q7
    have := (qw_LF hM (Or.inr rfl) hc hdp hA1 hB2).1 D l j ou pv tl t q1 q2 (q3 ▸ hx) (by omega) q5 q6 q3.symm
    rw [w2] at q7 ⊢
    exact this (by simp only [List.drop_succ_cons, List.drop_zero, List.length_append, List.length_cons] at q7 ⊢; omega)
theorem qs_MO_writes_all (hM : qp_MO K R u) : ∀ (t : qt_T) (x : Int32), qt_M (I (u + 5)) t x → qt_wf 10 t → qw_Q K I R n z u m t x := by
  have hM' := hM
  obtain ⟨m0, -, -, -, -, ⟨c1, c2, c3⟩, -⟩ := hM
  intro t
  induction t with
  | num v =>
    intro x h hw
    have h : x = (-1) := h
    subst h
    refine ⟨fun h => absurd h (by intro q; cases q), ?_, ?_, fun h => absurd h (by intro q; cases q), fun h => absurd h (by intro q; cases q)⟩
    · intro D l j ou pv tl f0 q1 q2 q3 q4 q5 q6 q7
      obtain ⟨d, rfl⟩ : ∃ d, D = d + 1 := ⟨D - 1, by omega⟩
      simp only [qt_wr, List.length_nil] at q7
      rw [qr_231_67]
      rcases q5 with ⟨rfl, rfl⟩ | ⟨rfl, rfl⟩
      · simp (disch := first | assumption | omega | (simp only [List.length_append, List.length_cons, List.length_nil]; omega) | exact qb_01) only [qr_231_0, qr_231_1, qr_231_4, qr_231_6, qr_231_7, qr_231_8, qr_231_9, qr_231_10, qr_231_11, qr_231_13, qr_231_16, qr_231_17, qr_231_19, qr_231_20, qr_231_21, qr_231_24, qr_231_25, qr_231_26, qr_231_28, qr_231_31, qr_231_32, qr_231_34, qr_231_37, qr_231_38, qr_231_41, qr_231_42, qr_231_44, qr_231_46, qr_231_49, qr_231_50, qr_231_52, qr_231_55, qr_231_56, qr_231_59, qr_231_62, qr_231_63, qr_231_64, qr_231_65, qr_231_69, qr_231_72, qr_231_74, qr_231_75, qr_231_78, qr_231_81, qr_231_82, qr_231_83, qr_231_84, qr_231_87, qr_231_88, qr_231_89, qr_231_91, qr_231_94, qr_231_96, qr_231_99, qr_231_101, qr_231_104, qr_231_105, qr_231_107, qr_231_108, qr_231_111, qr_231_112, qr_231_115, qr_231_118, qr_231_120, qr_231_121, qr_231_122, qr_231_124, qr_231_127, qr_231_129, qr_231_132, qr_231_133, qr_231_135, qr_231_138, true_and, and_true, false_and, and_false, Option.bind_some, Option.toList_some, Option.toList_none, List.nil_append, List.cons_append, if_true, if_false, ite_true, ite_false, not_true_eq_false, not_false_eq_true, qn_lt0, qn_ge0, qn_lt, qn_le, qn_eq, qn_e0, qn_gt0, qn_le0, qn_m1, nI_add, pk_mul, qb_e0, Classical.not_not, qn_m1l, qt_wr, List.append_nil]
      · simp only [List.length_cons, List.length_nil] at q7
        simp (disch := first | assumption | omega | (simp only [List.length_append, List.length_cons, List.length_nil]; omega) | exact qb_01) only [qr_231_0, qr_231_1, qr_231_4, qr_231_6, qr_231_7, qr_231_8, qr_231_9, qr_231_10, qr_231_11, qr_231_13, qr_231_16, qr_231_17, qr_231_19, qr_231_20, qr_231_21, qr_231_24, qr_231_25, qr_231_26, qr_231_28, qr_231_31, qr_231_32, qr_231_34, qr_231_37, qr_231_38, qr_231_41, qr_231_42, qr_231_44, qr_231_46, qr_231_49, qr_231_50, qr_231_52, qr_231_55, qr_231_56, qr_231_59, qr_231_62, qr_231_63, qr_231_64, qr_231_65, qr_231_69, qr_231_72, qr_231_74, qr_231_75, qr_231_78, qr_231_81, qr_231_82, qr_231_83, qr_231_84, qr_231_87, qr_231_88, qr_231_89, qr_231_91, qr_231_94, qr_231_96, qr_231_99, qr_231_101, qr_231_104, qr_231_105, qr_231_107, qr_231_108, qr_231_111, qr_231_112, qr_231_115, qr_231_118, qr_231_120, qr_231_121, qr_231_122, qr_231_124, qr_231_127, qr_231_129, qr_231_132, qr_231_133, qr_231_135, qr_231_138, true_and, and_true, false_and, and_false, Option.bind_some, Option.toList_some, Option.toList_none, List.nil_append, List.cons_append, if_true, if_false, ite_true, ite_false, not_true_eq_false, not_false_eq_true, qn_lt0, qn_ge0, qn_lt, qn_le, qn_eq, qn_e0, qn_gt0, qn_le0, qn_m1, nI_add, pk_mul, qb_e0, Classical.not_not, qn_m1l, qt_wr, qs_MO_puts hM', Nat.one_ne_zero]
    · intro D l j ou pv tl f0 q1 q2 q3 q4 q5 q6 q7
      obtain ⟨d, rfl⟩ : ∃ d, D = d + 1 := ⟨D - 1, by omega⟩
      simp only [qt_wr, List.length_nil] at q7
      rw [qr_231_67]
      rcases q5 with ⟨rfl, rfl⟩ | ⟨rfl, rfl⟩
      · simp (disch := first | assumption | omega | (simp only [List.length_append, List.length_cons, List.length_nil]; omega) | exact qb_01) only [qr_231_0, qr_231_1, qr_231_4, qr_231_6, qr_231_7, qr_231_8, qr_231_9, qr_231_10, qr_231_11, qr_231_13, qr_231_16, qr_231_17, qr_231_19, qr_231_20, qr_231_21, qr_231_24, qr_231_25, qr_231_26, qr_231_28, qr_231_31, qr_231_32, qr_231_34, qr_231_37, qr_231_38, qr_231_41, qr_231_42, qr_231_44, qr_231_46, qr_231_49, qr_231_50, qr_231_52, qr_231_55, qr_231_56, qr_231_59, qr_231_62, qr_231_63, qr_231_64, qr_231_65, qr_231_69, qr_231_72, qr_231_74, qr_231_75, qr_231_78, qr_231_81, qr_231_82, qr_231_83, qr_231_84, qr_231_87, qr_231_88, qr_231_89, qr_231_91, qr_231_94, qr_231_96, qr_231_99, qr_231_101, qr_231_104, qr_231_105, qr_231_107, qr_231_108, qr_231_111, qr_231_112, qr_231_115, qr_231_118, qr_231_120, qr_231_121, qr_231_122, qr_231_124, qr_231_127, qr_231_129, qr_231_132, qr_231_133, qr_231_135, qr_231_138, true_and, and_true, false_and, and_false, Option.bind_some, Option.toList_some, Option.toList_none, List.nil_append, List.cons_append, if_true, if_false, ite_true, ite_false, not_true_eq_false, not_false_eq_true, qn_lt0, qn_ge0, qn_lt, qn_le, qn_eq, qn_e0, qn_gt0, qn_le0, qn_m1, nI_add, pk_mul, qb_e0, Classical.not_not, qn_m1l, qt_wr, List.append_nil]
      · simp only [List.length_cons, List.length_nil] at q7
        simp (disch := first | assumption | omega | (simp only [List.length_append, List.length_cons, List.length_nil]; omega) | exact qb_01) only [qr_231_0, qr_231_1, qr_231_4, qr_231_6, qr_231_7, qr_231_8, qr_231_9, qr_231_10, qr_231_11, qr_231_13, qr_231_16, qr_231_17, qr_231_19, qr_231_20, qr_231_21, qr_231_24, qr_231_25, qr_231_26, qr_231_28, qr_231_31, qr_231_32, qr_231_34, qr_231_37, qr_231_38, qr_231_41, qr_231_42, qr_231_44, qr_231_46, qr_231_49, qr_231_50, qr_231_52, qr_231_55, qr_231_56, qr_231_59, qr_231_62, qr_231_63, qr_231_64, qr_231_65, qr_231_69, qr_231_72, qr_231_74, qr_231_75, qr_231_78, qr_231_81, qr_231_82, qr_231_83, qr_231_84, qr_231_87, qr_231_88, qr_231_89, qr_231_91, qr_231_94, qr_231_96, qr_231_99, qr_231_101, qr_231_104, qr_231_105, qr_231_107, qr_231_108, qr_231_111, qr_231_112, qr_231_115, qr_231_118, qr_231_120, qr_231_121, qr_231_122, qr_231_124, qr_231_127, qr_231_129, qr_231_132, qr_231_133, qr_231_135, qr_231_138, true_and, and_true, false_and, and_false, Option.bind_some, Option.toList_some, Option.toList_none, List.nil_append, List.cons_append, if_true, if_false, ite_true, ite_false, not_true_eq_false, not_false_eq_true, qn_lt0, qn_ge0, qn_lt, qn_le, qn_eq, qn_e0, qn_gt0, qn_le0, qn_m1, nI_add, pk_mul, qb_e0, Classical.not_not, qn_m1l, qt_wr, qs_MO_puts hM', Nat.one_ne_zero]
  | var i => intro o h; exact h.elim
  | neg a => intro o h; exact h.elim
  | mulR a k => intro o h; exact h.elim
  | mulL k nx ih =>
    intro x h hw
    have hC := h
    obtain ⟨c, rfl, h1, h2, h3, h4⟩ := h
    have hd : ∀ ou, qw_A K I R n z u m 1 ou [48 + k.toNat] (nI c) := by
      intro ou D l hD hl
      simp only [List.length_cons, List.length_nil] at hl
      obtain ⟨d, rfl⟩ : ∃ d, D = d + 1 + 1 := ⟨D - 2, by omega⟩
      have e1 : ¬ 100 ≤ k.toNat := by omega
      simp (disch := first | assumption | omega | (simp only [List.length_append, List.length_cons, List.length_nil]; omega) | exact qb_01) only [qe_231, qr_231_0, qr_231_1, qr_231_4, qr_231_6, qr_231_7, qr_231_8, qr_231_9, qr_231_10, qr_231_11, qr_231_13, qr_231_16, qr_231_17, qr_231_19, qr_231_20, qr_231_21, qr_231_24, qr_231_25, qr_231_26, qr_231_28, qr_231_31, qr_231_32, qr_231_34, qr_231_37, qr_231_38, qr_231_41, qr_231_42, qr_231_44, qr_231_46, qr_231_49, qr_231_50, qr_231_52, qr_231_55, qr_231_56, qr_231_59, qr_231_62, qr_231_63, qr_231_64, qr_231_65, qr_231_69, qr_231_72, qr_231_74, qr_231_75, qr_231_78, qr_231_81, qr_231_82, qr_231_83, qr_231_84, qr_231_87, qr_231_88, qr_231_89, qr_231_91, qr_231_94, qr_231_96, qr_231_99, qr_231_101, qr_231_104, qr_231_105, qr_231_107, qr_231_108, qr_231_111, qr_231_112, qr_231_115, qr_231_118, qr_231_120, qr_231_121, qr_231_122, qr_231_124, qr_231_127, qr_231_129, qr_231_132, qr_231_133, qr_231_135, qr_231_138, true_and, and_true, false_and, and_false, Option.bind_some, Option.toList_some, Option.toList_none, List.nil_append, List.cons_append, if_true, if_false, ite_true, ite_false, not_true_eq_false, not_false_eq_true, qn_lt0, qn_ge0, qn_lt, qn_le, qn_eq, qn_e0, qn_gt0, qn_le0, qn_m1, nI_add, pk_mul, qb_e0, Classical.not_not, c3, qw_n, h3, e1, qs_MO_puts hM']
    exact qw_all hM' (.mulL k nx) nx c rfl h1 hC rfl rfl rfl rfl (hd 101) (hd 100) (ih _ h4 hw.2).2.1 (ih _ h4 hw.2).2.2.1
  | add f nx ihf ih =>
    intro x h hw
    have hC := h
    obtain ⟨c, rfl, h1, h2, h3, h4⟩ := h
    have hd : ∀ ou, qw_A K I R n z u m (qt_dp (.add f nx)).1 ou ((qt_wr f).2.2.1.drop 1) (nI c) := by
      intro ou D l hD hl
      simp only [qt_dp] at hD
      obtain ⟨d, rfl⟩ : ∃ d, D = d + 1 := ⟨D - 1, by omega⟩
      have g := (ihf _ h3 hw.2.1).2.2.2.1 hw.1 d l c (qa_i (nI ou)) 0 [] h1 h2 rfl (Or.inl ⟨rfl, rfl⟩) (by omega) (by simpa using hl)
      rw [List.append_nil] at g
      simp (disch := first | assumption | omega | (simp only [List.length_append, List.length_cons, List.length_nil]; omega) | exact qb_01) only [qe_231, qr_231_0, qr_231_1, qr_231_4, qr_231_6, qr_231_7, qr_231_8, qr_231_9, qr_231_10, qr_231_11, qr_231_13, qr_231_16, qr_231_17, qr_231_19, qr_231_20, qr_231_21, qr_231_24, qr_231_25, qr_231_26, qr_231_28, qr_231_31, qr_231_32, qr_231_34, qr_231_37, qr_231_38, qr_231_41, qr_231_42, qr_231_44, qr_231_46, qr_231_49, qr_231_50, qr_231_52, qr_231_55, qr_231_56, qr_231_59, qr_231_62, qr_231_63, qr_231_64, qr_231_65, qr_231_69, qr_231_72, qr_231_74, qr_231_75, qr_231_78, qr_231_81, qr_231_82, qr_231_83, qr_231_84, qr_231_87, qr_231_88, qr_231_89, qr_231_91, qr_231_94, qr_231_96, qr_231_99, qr_231_101, qr_231_104, qr_231_105, qr_231_107, qr_231_108, qr_231_111, qr_231_112, qr_231_115, qr_231_118, qr_231_120, qr_231_121, qr_231_122, qr_231_124, qr_231_127, qr_231_129, qr_231_132, qr_231_133, qr_231_135, qr_231_138, true_and, and_true, false_and, and_false, Option.bind_some, Option.toList_some, Option.toList_none, List.nil_append, List.cons_append, if_true, if_false, ite_true, ite_false, not_true_eq_false, not_false_eq_true, qn_lt0, qn_ge0, qn_lt, qn_le, qn_eq, qn_e0, qn_gt0, qn_le0, qn_m1, nI_add, pk_mul, qb_e0, Classical.not_not, c3, qw_n, h2, g, show ¬ 101 = 100 by decide, show ¬ 100 = 101 by decide, show ¬ 101 < 100 by decide, show 100 ≤ 101 by decide, show ¬ 0 = 1 by decide, Nat.le_refl, Nat.one_ne_zero]
    exact qw_all hM' (.add f nx) nx c rfl h1 hC rfl rfl rfl rfl (hd 101) (hd 100) (ih _ h4 hw.2.2).2.1 (ih _ h4 hw.2.2).2.2.1
  | sub f nx ihf ih =>
    intro x h hw
    have hC := h
    obtain ⟨c, rfl, h1, h2, h3, h4⟩ := h
    have hd1 : qw_A K I R n z u m (qt_dp (.sub f nx)).1 101 ((qt_wr f).2.2.2.drop 1) (nI c) := by
      intro D l hD hl
      simp only [qt_dp] at hD
      obtain ⟨d, rfl⟩ : ∃ d, D = d + 1 := ⟨D - 1, by omega⟩
      have g := (ihf _ h3 hw.2.1).2.2.2.2 hw.1 d l c (qa_i (nI 101)) 0 [] h1 h2 rfl (Or.inl ⟨rfl, rfl⟩) (by omega) (by simpa using hl)
      rw [List.append_nil] at g
      simp (disch := first | assumption | omega | (simp only [List.length_append, List.length_cons, List.length_nil]; omega) | exact qb_01) only [qe_231, qr_231_0, qr_231_1, qr_231_4, qr_231_6, qr_231_7, qr_231_8, qr_231_9, qr_231_10, qr_231_11, qr_231_13, qr_231_16, qr_231_17, qr_231_19, qr_231_20, qr_231_21, qr_231_24, qr_231_25, qr_231_26, qr_231_28, qr_231_31, qr_231_32, qr_231_34, qr_231_37, qr_231_38, qr_231_41, qr_231_42, qr_231_44, qr_231_46, qr_231_49, qr_231_50, qr_231_52, qr_231_55, qr_231_56, qr_231_59, qr_231_62, qr_231_63, qr_231_64, qr_231_65, qr_231_69, qr_231_72, qr_231_74, qr_231_75, qr_231_78, qr_231_81, qr_231_82, qr_231_83, qr_231_84, qr_231_87, qr_231_88, qr_231_89, qr_231_91, qr_231_94, qr_231_96, qr_231_99, qr_231_101, qr_231_104, qr_231_105, qr_231_107, qr_231_108, qr_231_111, qr_231_112, qr_231_115, qr_231_118, qr_231_120, qr_231_121, qr_231_122, qr_231_124, qr_231_127, qr_231_129, qr_231_132, qr_231_133, qr_231_135, qr_231_138, true_and, and_true, false_and, and_false, Option.bind_some, Option.toList_some, Option.toList_none, List.nil_append, List.cons_append, if_true, if_false, ite_true, ite_false, not_true_eq_false, not_false_eq_true, qn_lt0, qn_ge0, qn_lt, qn_le, qn_eq, qn_e0, qn_gt0, qn_le0, qn_m1, nI_add, pk_mul, qb_e0, Classical.not_not, c3, qw_n, h2, g, show ¬ 101 = 100 by decide, show ¬ 100 = 101 by decide, show ¬ 101 < 100 by decide, show 100 ≤ 101 by decide, show ¬ 0 = 1 by decide, Nat.le_refl, Nat.one_ne_zero]
    have hd2 : qw_A K I R n z u m (qt_dp (.sub f nx)).1 100 (40 :: ((qt_wr f).2.2.2.drop 1 ++ [41])) (nI c) := by
      intro D l hD hl
      simp only [qt_dp] at hD
      simp only [List.length_append, List.length_cons, List.length_nil] at hl
      obtain ⟨d, rfl⟩ : ∃ d, D = d + 1 + 1 := ⟨D - 2, by omega⟩
      have g := (ihf _ h3 hw.2.1).2.2.2.2 hw.1 (d + 1) (l ++ [40]) c (qa_i (nI 100)) 1 [41] h1 h2 rfl (Or.inr ⟨rfl, rfl⟩) (by omega) (by simp only [List.length_append, List.length_cons, List.length_nil]; omega)
      simp only [List.append_assoc, List.cons_append, List.nil_append] at g
      simp (disch := first | assumption | omega | (simp only [List.length_append, List.length_cons, List.length_nil]; omega) | exact qb_01) only [qe_231, qr_231_0, qr_231_1, qr_231_4, qr_231_6, qr_231_7, qr_231_8, qr_231_9, qr_231_10, qr_231_11, qr_231_13, qr_231_16, qr_231_17, qr_231_19, qr_231_20, qr_231_21, qr_231_24, qr_231_25, qr_231_26, qr_231_28, qr_231_31, qr_231_32, qr_231_34, qr_231_37, qr_231_38, qr_231_41, qr_231_42, qr_231_44, qr_231_46, qr_231_49, qr_231_50, qr_231_52, qr_231_55, qr_231_56, qr_231_59, qr_231_62, qr_231_63, qr_231_64, qr_231_65, qr_231_69, qr_231_72, qr_231_74, qr_231_75, qr_231_78, qr_231_81, qr_231_82, qr_231_83, qr_231_84, qr_231_87, qr_231_88, qr_231_89, qr_231_91, qr_231_94, qr_231_96, qr_231_99, qr_231_101, qr_231_104, qr_231_105, qr_231_107, qr_231_108, qr_231_111, qr_231_112, qr_231_115, qr_231_118, qr_231_120, qr_231_121, qr_231_122, qr_231_124, qr_231_127, qr_231_129, qr_231_132, qr_231_133, qr_231_135, qr_231_138, true_and, and_true, false_and, and_false, Option.bind_some, Option.toList_some, Option.toList_none, List.nil_append, List.cons_append, if_true, if_false, ite_true, ite_false, not_true_eq_false, not_false_eq_true, qn_lt0, qn_ge0, qn_lt, qn_le, qn_eq, qn_e0, qn_gt0, qn_le0, qn_m1, nI_add, pk_mul, qb_e0, Classical.not_not, c3, qw_n, h2, qs_MO_puts hM', g, show ¬ 101 = 100 by decide, show ¬ 100 = 101 by decide, show ¬ 101 < 100 by decide, show 100 ≤ 101 by decide, show ¬ 0 = 1 by decide, Nat.le_refl, Nat.one_ne_zero]
    exact qw_all hM' (.sub f nx) nx c rfl h1 hC rfl rfl rfl rfl hd1 hd2 (ih _ h4 hw.2.2).2.1 (ih _ h4 hw.2.2).2.2.1
end Q31
