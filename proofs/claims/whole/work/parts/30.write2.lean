/-! Writing trees, the class. -/
def qw_P (K : Nat → Nat × Nat) (I : Nat → Nat → Int32) (R : Nat → Nat → Option Nat) (n z a m : Nat) (t : qt_T) (o : Option Nat) : Prop :=
    (qt_ne t = true → ∀ D e l, (qt_dp t).1 + 1 ≤ D → e + (qt_dp t).1 ≤ 13 → m + l.length + (qt_wr t).1.length ≤ 80 → qa_ex D 151 [qa_a o, qa_a (some a), qa_i (nI e)] (K, qw_W I a 1 (a + 1) m l, R, n, z) = some (none, (K, qw_W I a 1 (a + 1) m (l ++ (qt_wr t).1), R, n, z))) ∧
    (∀ D e l p l4 f0, K p = (10, 0) → I p 0 = nI 1 → 204 ≤ p → qt_C K I R f0 (R p 2) → qt_len t < qt_len f0 → (qt_dp t).2 + 1 ≤ D → e + 1 + (qt_dp t).2 ≤ 13 → m + l.length + (qt_wr t).2.2.1.length ≤ 80 → qa_run D 151 35 [qa_a (some p), qa_a (some a), qa_i (nI e), qa_a o, l4] [] [] (K, qw_W I a 1 (a + 1) m l, R, n, z) = some (none, (K, qw_W I a 1 (a + 1) m (l ++ (qt_wr t).2.2.1), R, n, z))) ∧
    (∀ D e l p l4 f0, K p = (10, 0) → I p 0 = nI 2 → 204 ≤ p → qt_C K I R f0 (R p 2) → qt_len t < qt_len f0 → (qt_dp t).2 + 1 ≤ D → e + 1 + (qt_dp t).2 ≤ 13 → m + l.length + (qt_wr t).2.2.2.length ≤ 80 → qa_run D 151 35 [qa_a (some p), qa_a (some a), qa_i (nI e), qa_a o, l4] [] [] (K, qw_W I a 1 (a + 1) m l, R, n, z) = some (none, (K, qw_W I a 1 (a + 1) m (l ++ (qt_wr t).2.2.2), R, n, z))) ∧
    (qt_ne t = true → ∀ D e l p l4, K p = (10, 0) → I p 0 = nI 1 → 204 ≤ p → R p 2 = o → (qt_dp t).2 + 1 ≤ D → e + 1 + (qt_dp t).2 ≤ 13 → m + l.length + ((qt_wr t).2.2.1.drop 1).length ≤ 80 → qa_run D 151 35 [qa_a (some p), qa_a (some a), qa_i (nI e), qa_a o, l4] [] [] (K, qw_W I a 1 (a + 1) m l, R, n, z) = some (none, (K, qw_W I a 1 (a + 1) m (l ++ (qt_wr t).2.2.1.drop 1), R, n, z))) ∧
    (qt_ne t = true → ∀ D e l p l4, K p = (10, 0) → I p 0 = nI 2 → 204 ≤ p → R p 2 = o → (qt_dp t).2 + 1 ≤ D → e + 1 + (qt_dp t).2 ≤ 13 → m + l.length + ((qt_wr t).2.2.2.drop 1).length ≤ 80 → qa_run D 151 35 [qa_a (some p), qa_a (some a), qa_i (nI e), qa_a o, l4] [] [] (K, qw_W I a 1 (a + 1) m l, R, n, z) = some (none, (K, qw_W I a 1 (a + 1) m (l ++ (qt_wr t).2.2.2.drop 1), R, n, z)))
section Q30
variable {d a b f : Nat} {K : Nat → Nat × Nat} {I : Nat → Nat → Int32} {R : Nat → Nat → Option Nat} {n z : Nat} {x y : Nat} {h : qa_H} {u nk ni k i j m B : Nat} {l r : List Nat}
theorem qs_EP_writePart_all (hk : K a = (1, 0)) (hc : (K (a + 1)).1 = 100) (hc2 : (K (a + 1)).2 = 80) (hr : R a 0 = some (a + 1)) (ha : a + 1 < 204) : ∀ (t : qt_T) (o : Option Nat), qt_C K I R t o → qt_wf 10 t → qw_P K I R n z a m t o := by
  have step : ∀ (t nx : qt_T) (c tk kd : Nat) (w v : List Nat), qt_C K I R t (some c) → K c = (10, 0) → 204 ≤ c → I c 0 = nI tk → (tk = 0 ∨ tk = 1 ∨ tk = 2) → (kd = 1 ∨ kd = 2) → (qt_dp t).2 = max (qt_dp t).1 (qt_dp nx).2 → qt_len nx < qt_len t →
      (∀ D e l, (qt_dp t).1 + 1 ≤ D → e + (qt_dp t).1 ≤ 13 → m + l.length + w.length ≤ 80 → qa_ex D 151 [qa_a (some c), qa_a (some a), qa_i (nI e)] (K, qw_W I a 1 (a + 1) m l, R, n, z) = some (none, (K, qw_W I a 1 (a + 1) m (l ++ w), R, n, z))) →
      (∀ D e l p l4 f0, K p = (10, 0) → I p 0 = nI kd → 204 ≤ p → qt_C K I R f0 (R p 2) → qt_len nx < qt_len f0 → (qt_dp nx).2 + 1 ≤ D → e + 1 + (qt_dp nx).2 ≤ 13 → m + l.length + v.length ≤ 80 → qa_run D 151 35 [qa_a (some p), qa_a (some a), qa_i (nI e), qa_a (R c 3), l4] [] [] (K, qw_W I a 1 (a + 1) m l, R, n, z) = some (none, (K, qw_W I a 1 (a + 1) m (l ++ v), R, n, z))) →
      ∀ D e l p l4 f0, K p = (10, 0) → I p 0 = nI kd → 204 ≤ p → qt_C K I R f0 (R p 2) → qt_len nx < qt_len f0 → (qt_dp t).2 + 1 ≤ D → e + 1 + (qt_dp t).2 ≤ 13 →
        (R p 2 = some c → m + l.length + (if kd = 1 ∧ tk = 2 then 40 :: (w ++ [41]) else w).length + v.length ≤ 80 → qa_run D 151 35 [qa_a (some p), qa_a (some a), qa_i (nI e), qa_a (some c), l4] [] [] (K, qw_W I a 1 (a + 1) m l, R, n, z) = some (none, (K, qw_W I a 1 (a + 1) m (l ++ ((if kd = 1 ∧ tk = 2 then 40 :: (w ++ [41]) else w) ++ v)), R, n, z))) ∧
        (¬ some c = R p 2 → m + l.length + 1 + (if kd = 1 ∧ tk = 2 then 40 :: (w ++ [41]) else w).length + v.length ≤ 80 → qa_run D 151 35 [qa_a (some p), qa_a (some a), qa_i (nI e), qa_a (some c), l4] [] [] (K, qw_W I a 1 (a + 1) m l, R, n, z) = some (none, (K, qw_W I a 1 (a + 1) m (l ++ ((if kd = 1 then 38 else 124) :: ((if kd = 1 ∧ tk = 2 then 40 :: (w ++ [41]) else w) ++ v))), R, n, z))) := by
    intro t nx c tk kd w v hC hKc h204 hIc htk hkd hdp hlen hA hB D e l p l4 f0 hKp hIp hp hf0 hlt hD he
    have gA := fun l' hl' => hA D (e + 1) l' (by omega) (by omega) hl'
    have gB := fun l' l4' hl' => hB D e l' p l4' f0 hKp hIp hp hf0 hlt (by omega) (by omega) hl'
    obtain ⟨d, rfl⟩ : ∃ d, D = d + 1 := ⟨D - 1, by omega⟩
    constructor
    · intro hs hl
      rw [qr_151_35]
      rcases hkd with rfl | rfl <;> rcases htk with rfl | rfl | rfl <;> simp only [true_and, and_true, false_and, and_false, if_true, if_false, show ¬ 1 = 2 by decide, show ¬ 2 = 1 by decide, show ¬ 0 = 2 by decide, Nat.one_ne_zero, List.length_append, List.length_cons, List.length_nil] at hl ⊢ <;> simp (disch := first | assumption | omega | (simp only [List.length_append, List.length_cons, List.length_nil]; omega) | exact qb_01) only [qr_151_0, qr_151_1_0, qr_151_1_1, qr_151_4, qr_151_5, qr_151_7, qr_151_10, qr_151_11, qr_151_12, qr_151_15, qr_151_18, qr_151_19, qr_151_21, qr_151_22, qr_151_25, qr_151_26, qr_151_29, qr_151_30, qr_151_31, qr_151_34, qr_151_36_0, qr_151_36_1, qr_151_39, qr_151_40, qr_151_41, qr_151_44, qr_151_47, qr_151_48, qr_151_49, qr_151_52, qr_151_53, qr_151_56, qr_151_58, qr_151_61, qr_151_63, qr_151_66, qr_151_67, qr_151_70, qr_151_71, qr_151_74, qr_151_75, qr_151_78, qr_151_79, qr_151_82, qr_151_83, qr_151_86, qr_151_87, qr_151_89, qr_151_91, qr_151_94, qr_151_95, qr_151_97, qr_151_100, qr_151_101, qr_151_102, qr_151_103, qr_151_104, qr_151_105, qr_151_108, qr_151_110, qr_151_113, qr_151_114, qr_151_116, qr_151_119, qr_151_120, qr_151_123, qr_151_124, qr_151_127, true_and, and_true, false_and, and_false, Option.bind_some, Option.toList_some, Option.toList_none, List.nil_append, List.cons_append, if_true, if_false, ite_true, ite_false, not_true_eq_false, not_false_eq_true, qn_lt0, qn_ge0, qn_lt, qn_le, qn_eq, qn_e0, qn_gt0, qn_le0, qn_m1, nI_add, pk_mul, qb_e0, Classical.not_not, qw_n, hIc, hIp, hs, gA, gB, qs_TR_add, List.append_assoc, show ¬ 1 = 2 by decide, show ¬ 2 = 1 by decide, show ¬ 0 = 2 by decide, show ¬ 2 = 0 by decide, Nat.one_ne_zero]
    · intro hs hl
      rw [qr_151_35]
      rcases hkd with rfl | rfl <;> rcases htk with rfl | rfl | rfl <;> simp only [true_and, and_true, false_and, and_false, if_true, if_false, show ¬ 1 = 2 by decide, show ¬ 2 = 1 by decide, show ¬ 0 = 2 by decide, Nat.one_ne_zero, List.length_append, List.length_cons, List.length_nil] at hl ⊢ <;> simp (disch := first | assumption | omega | (simp only [List.length_append, List.length_cons, List.length_nil]; omega) | exact qb_01) only [qr_151_0, qr_151_1_0, qr_151_1_1, qr_151_4, qr_151_5, qr_151_7, qr_151_10, qr_151_11, qr_151_12, qr_151_15, qr_151_18, qr_151_19, qr_151_21, qr_151_22, qr_151_25, qr_151_26, qr_151_29, qr_151_30, qr_151_31, qr_151_34, qr_151_36_0, qr_151_36_1, qr_151_39, qr_151_40, qr_151_41, qr_151_44, qr_151_47, qr_151_48, qr_151_49, qr_151_52, qr_151_53, qr_151_56, qr_151_58, qr_151_61, qr_151_63, qr_151_66, qr_151_67, qr_151_70, qr_151_71, qr_151_74, qr_151_75, qr_151_78, qr_151_79, qr_151_82, qr_151_83, qr_151_86, qr_151_87, qr_151_89, qr_151_91, qr_151_94, qr_151_95, qr_151_97, qr_151_100, qr_151_101, qr_151_102, qr_151_103, qr_151_104, qr_151_105, qr_151_108, qr_151_110, qr_151_113, qr_151_114, qr_151_116, qr_151_119, qr_151_120, qr_151_123, qr_151_124, qr_151_127, true_and, and_true, false_and, and_false, Option.bind_some, Option.toList_some, Option.toList_none, List.nil_append, List.cons_append, if_true, if_false, ite_true, ite_false, not_true_eq_false, not_false_eq_true, qn_lt0, qn_ge0, qn_lt, qn_le, qn_eq, qn_e0, qn_gt0, qn_le0, qn_m1, nI_add, pk_mul, qb_e0, Classical.not_not, qw_n, hIc, hIp, hs, gA, gB, qs_TR_add, List.append_assoc, show ¬ 1 = 2 by decide, show ¬ 2 = 1 by decide, show ¬ 0 = 2 by decide, show ¬ 2 = 0 by decide, Nat.one_ne_zero]
  have all : ∀ (t nx : qt_T) (c tk : Nat), qt_ne t = true → qt_C K I R t (some c) → K c = (10, 0) → 204 ≤ c → I c 0 = nI tk → (tk = 0 ∨ tk = 1 ∨ tk = 2) → (qt_dp t).2 = max (qt_dp t).1 (qt_dp nx).2 → qt_len t = qt_len nx + 1 → (qt_wr t).2.2.1 = 38 :: ((if tk = 2 then 40 :: ((qt_wr t).1 ++ [41]) else (qt_wr t).1) ++ (qt_wr nx).2.2.1) → (qt_wr t).2.2.2 = 124 :: ((qt_wr t).1 ++ (qt_wr nx).2.2.2) →
      (∀ D e l, (qt_dp t).1 + 1 ≤ D → e + (qt_dp t).1 ≤ 13 → m + l.length + (qt_wr t).1.length ≤ 80 → qa_ex D 151 [qa_a (some c), qa_a (some a), qa_i (nI e)] (K, qw_W I a 1 (a + 1) m l, R, n, z) = some (none, (K, qw_W I a 1 (a + 1) m (l ++ (qt_wr t).1), R, n, z))) →
      (∀ D e l p l4 f0, K p = (10, 0) → I p 0 = nI 1 → 204 ≤ p → qt_C K I R f0 (R p 2) → qt_len nx < qt_len f0 → (qt_dp nx).2 + 1 ≤ D → e + 1 + (qt_dp nx).2 ≤ 13 → m + l.length + (qt_wr nx).2.2.1.length ≤ 80 → qa_run D 151 35 [qa_a (some p), qa_a (some a), qa_i (nI e), qa_a (R c 3), l4] [] [] (K, qw_W I a 1 (a + 1) m l, R, n, z) = some (none, (K, qw_W I a 1 (a + 1) m (l ++ (qt_wr nx).2.2.1), R, n, z))) →
      (∀ D e l p l4 f0, K p = (10, 0) → I p 0 = nI 2 → 204 ≤ p → qt_C K I R f0 (R p 2) → qt_len nx < qt_len f0 → (qt_dp nx).2 + 1 ≤ D → e + 1 + (qt_dp nx).2 ≤ 13 → m + l.length + (qt_wr nx).2.2.2.length ≤ 80 → qa_run D 151 35 [qa_a (some p), qa_a (some a), qa_i (nI e), qa_a (R c 3), l4] [] [] (K, qw_W I a 1 (a + 1) m l, R, n, z) = some (none, (K, qw_W I a 1 (a + 1) m (l ++ (qt_wr nx).2.2.2), R, n, z))) → qw_P K I R n z a m t (some c) := fun t nx c tk hne hC hKc h204 hIc htk hdp hlen w1 w2 hA hB1 hB2 =>
    ⟨fun (_ : qt_ne t = true) => hA,
     fun D e l p l4 f0 (q1 : K p = (10, 0)) (q2 : I p 0 = nI 1) (q3 : 204 ≤ p) (q4 : qt_C K I R f0 (R p 2)) (q5 : qt_len t < qt_len f0) (q6 : (qt_dp t).2 + 1 ≤ D) (q7 : e + 1 + (qt_dp t).2 ≤ 13) (q8 : m + l.length + (qt_wr t).2.2.1.length ≤ 80) => by
       have hs : ¬ some c = R p 2 := fun q => absurd (qt_C_len hC (q ▸ q4)) (by omega)
       have := (step t nx c tk 1 _ _ hC hKc h204 hIc htk (Or.inl rfl) hdp (by omega) hA hB1 D e l p l4 f0 q1 q2 q3 q4 (by omega) q6 q7).2 hs
       simp only [true_and, if_true] at this
       rw [w1] at q8 ⊢
       exact this (by simp only [List.length_append, List.length_cons] at q8 ⊢; omega),
     fun D e l p l4 f0 (q1 : K p = (10, 0)) (q2 : I p 0 = nI 2) (q3 : 204 ≤ p) (q4 : qt_C K I R f0 (R p 2)) (q5 : qt_len t < qt_len f0) (q6 : (qt_dp t).2 + 1 ≤ D) (q7 : e + 1 + (qt_dp t).2 ≤ 13) (q8 : m + l.length + (qt_wr t).2.2.2.length ≤ 80) => by
       have hs : ¬ some c = R p 2 := fun q => absurd (qt_C_len hC (q ▸ q4)) (by omega)
       have := (step t nx c tk 2 _ _ hC hKc h204 hIc htk (Or.inr rfl) hdp (by omega) hA hB2 D e l p l4 f0 q1 q2 q3 q4 (by omega) q6 q7).2 hs
       simp only [false_and, if_false, show ¬ 2 = 1 by decide] at this
       rw [w2] at q8 ⊢
       exact this (by simp only [List.length_append, List.length_cons] at q8 ⊢; omega),
     fun (_ : qt_ne t = true) D e l p l4 (q1 : K p = (10, 0)) (q2 : I p 0 = nI 1) (q3 : 204 ≤ p) (hs : R p 2 = some c) (q6 : (qt_dp t).2 + 1 ≤ D) (q7 : e + 1 + (qt_dp t).2 ≤ 13) (q8 : m + l.length + ((qt_wr t).2.2.1.drop 1).length ≤ 80) => by
       have := (step t nx c tk 1 _ _ hC hKc h204 hIc htk (Or.inl rfl) hdp (by omega) hA hB1 D e l p l4 t q1 q2 q3 (hs ▸ hC) (by omega) q6 q7).1 hs
       simp only [true_and] at this
       rw [w1] at q8 ⊢
       exact this (by simp only [List.drop_succ_cons, List.drop_zero, List.length_append, List.length_cons] at q8 ⊢; omega),
     fun (_ : qt_ne t = true) D e l p l4 (q1 : K p = (10, 0)) (q2 : I p 0 = nI 2) (q3 : 204 ≤ p) (hs : R p 2 = some c) (q6 : (qt_dp t).2 + 1 ≤ D) (q7 : e + 1 + (qt_dp t).2 ≤ 13) (q8 : m + l.length + ((qt_wr t).2.2.2.drop 1).length ≤ 80) => by
       have := (step t nx c tk 2 _ _ hC hKc h204 hIc htk (Or.inr rfl) hdp (by omega) hA hB2 D e l p l4 t q1 q2 q3 (hs ▸ hC) (by omega) q6 q7).1 hs
       simp only [false_and, if_false, show ¬ 2 = 1 by decide] at this
       rw [w2] at q8 ⊢
       exact this (by simp only [List.drop_succ_cons, List.drop_zero, List.length_append, List.length_cons] at q8 ⊢; omega)⟩
  intro t
  induction t with
  | num v =>
    intro o h hw
    have h : o = none := h
    subst h
    refine ⟨fun h => absurd h (by intro q; cases q), fun D e l p l4 f0 q1 q2 q3 q4 q5 q6 q7 q8 => ?_, fun D e l p l4 f0 q1 q2 q3 q4 q5 q6 q7 q8 => ?_, fun h => absurd h (by intro q; cases q), fun h => absurd h (by intro q; cases q)⟩
    · rw [qr_151_35]
      simp (disch := first | assumption | omega | (simp only [List.length_append, List.length_cons, List.length_nil]; omega) | exact qb_01) only [qr_151_0, qr_151_1_0, qr_151_1_1, qr_151_4, qr_151_5, qr_151_7, qr_151_10, qr_151_11, qr_151_12, qr_151_15, qr_151_18, qr_151_19, qr_151_21, qr_151_22, qr_151_25, qr_151_26, qr_151_29, qr_151_30, qr_151_31, qr_151_34, qr_151_36_0, qr_151_36_1, qr_151_39, qr_151_40, qr_151_41, qr_151_44, qr_151_47, qr_151_48, qr_151_49, qr_151_52, qr_151_53, qr_151_56, qr_151_58, qr_151_61, qr_151_63, qr_151_66, qr_151_67, qr_151_70, qr_151_71, qr_151_74, qr_151_75, qr_151_78, qr_151_79, qr_151_82, qr_151_83, qr_151_86, qr_151_87, qr_151_89, qr_151_91, qr_151_94, qr_151_95, qr_151_97, qr_151_100, qr_151_101, qr_151_102, qr_151_103, qr_151_104, qr_151_105, qr_151_108, qr_151_110, qr_151_113, qr_151_114, qr_151_116, qr_151_119, qr_151_120, qr_151_123, qr_151_124, qr_151_127, qt_wr, List.append_nil]
    · rw [qr_151_35]
      simp (disch := first | assumption | omega | (simp only [List.length_append, List.length_cons, List.length_nil]; omega) | exact qb_01) only [qr_151_0, qr_151_1_0, qr_151_1_1, qr_151_4, qr_151_5, qr_151_7, qr_151_10, qr_151_11, qr_151_12, qr_151_15, qr_151_18, qr_151_19, qr_151_21, qr_151_22, qr_151_25, qr_151_26, qr_151_29, qr_151_30, qr_151_31, qr_151_34, qr_151_36_0, qr_151_36_1, qr_151_39, qr_151_40, qr_151_41, qr_151_44, qr_151_47, qr_151_48, qr_151_49, qr_151_52, qr_151_53, qr_151_56, qr_151_58, qr_151_61, qr_151_63, qr_151_66, qr_151_67, qr_151_70, qr_151_71, qr_151_74, qr_151_75, qr_151_78, qr_151_79, qr_151_82, qr_151_83, qr_151_86, qr_151_87, qr_151_89, qr_151_91, qr_151_94, qr_151_95, qr_151_97, qr_151_100, qr_151_101, qr_151_102, qr_151_103, qr_151_104, qr_151_105, qr_151_108, qr_151_110, qr_151_113, qr_151_114, qr_151_116, qr_151_119, qr_151_120, qr_151_123, qr_151_124, qr_151_127, qt_wr, List.append_nil]
  | var i => intro o h; exact h.elim
  | neg a => intro o h; exact h.elim
  | mulR a k => intro o h; exact h.elim
  | mulL k nx ih =>
    intro o h hw
    have hC := h
    obtain ⟨c, rfl, h0, h1, h2, h3, h4⟩ := h
    refine all (.mulL k nx) nx c 0 rfl hC h1 h0 h2 (Or.inl rfl) rfl rfl rfl rfl ?_ (ih _ h4 hw.2).2.1 (ih _ h4 hw.2).2.2.1
    intro D e l hD he hl
    simp only [qt_dp] at hD he
    simp only [qt_wr, List.length_cons, List.length_nil] at hl
    obtain ⟨d, rfl⟩ : ∃ d, D = d + 1 + 1 := ⟨D - 2, by omega⟩
    have e1 : e ≤ 12 := by omega
    have hk10 : k.toNat < 10 := hw.1
    simp (disch := first | assumption | omega | (simp only [List.length_append, List.length_cons, List.length_nil]; omega) | exact qb_01) only [qe_151, qr_151_0, qr_151_1_0, qr_151_1_1, qr_151_4, qr_151_5, qr_151_7, qr_151_10, qr_151_11, qr_151_12, qr_151_15, qr_151_18, qr_151_19, qr_151_21, qr_151_22, qr_151_25, qr_151_26, qr_151_29, qr_151_30, qr_151_31, qr_151_34, qr_151_36_0, qr_151_36_1, qr_151_39, qr_151_40, qr_151_41, qr_151_44, qr_151_47, qr_151_48, qr_151_49, qr_151_52, qr_151_53, qr_151_56, qr_151_58, qr_151_61, qr_151_63, qr_151_66, qr_151_67, qr_151_70, qr_151_71, qr_151_74, qr_151_75, qr_151_78, qr_151_79, qr_151_82, qr_151_83, qr_151_86, qr_151_87, qr_151_89, qr_151_91, qr_151_94, qr_151_95, qr_151_97, qr_151_100, qr_151_101, qr_151_102, qr_151_103, qr_151_104, qr_151_105, qr_151_108, qr_151_110, qr_151_113, qr_151_114, qr_151_116, qr_151_119, qr_151_120, qr_151_123, qr_151_124, qr_151_127, true_and, and_true, false_and, and_false, Option.bind_some, Option.toList_some, Option.toList_none, List.nil_append, List.cons_append, if_true, if_false, ite_true, ite_false, not_true_eq_false, not_false_eq_true, qn_lt0, qn_ge0, qn_lt, qn_le, qn_eq, qn_e0, qn_gt0, qn_le0, qn_m1, nI_add, pk_mul, qb_e0, Classical.not_not, qw_n, h2, h3, e1, qt_wr, qs_TR_add]
  | add f nx ihf ih =>
    intro o h hw
    have hC := h
    obtain ⟨c, rfl, h0, h1, h2, h3, h4⟩ := h
    refine all (.add f nx) nx c 1 rfl hC h1 h0 h2 (Or.inr (Or.inl rfl)) rfl rfl rfl rfl ?_ (ih _ h4 hw.2.2).2.1 (ih _ h4 hw.2.2).2.2.1
    intro D e l hD he hl
    simp only [qt_dp] at hD he
    simp only [qt_wr] at hl
    obtain ⟨d, rfl⟩ : ∃ d, D = d + 1 := ⟨D - 1, by omega⟩
    have e1 : e ≤ 12 := by omega
    have g := (ihf _ h3 hw.2.1).2.2.2.1 hw.1 d e l c qa_u h1 h2 h0 rfl (by omega) (by omega) hl
    simp (disch := first | assumption | omega | (simp only [List.length_append, List.length_cons, List.length_nil]; omega) | exact qb_01) only [qe_151, qr_151_0, qr_151_1_0, qr_151_1_1, qr_151_4, qr_151_5, qr_151_7, qr_151_10, qr_151_11, qr_151_12, qr_151_15, qr_151_18, qr_151_19, qr_151_21, qr_151_22, qr_151_25, qr_151_26, qr_151_29, qr_151_30, qr_151_31, qr_151_34, qr_151_36_0, qr_151_36_1, qr_151_39, qr_151_40, qr_151_41, qr_151_44, qr_151_47, qr_151_48, qr_151_49, qr_151_52, qr_151_53, qr_151_56, qr_151_58, qr_151_61, qr_151_63, qr_151_66, qr_151_67, qr_151_70, qr_151_71, qr_151_74, qr_151_75, qr_151_78, qr_151_79, qr_151_82, qr_151_83, qr_151_86, qr_151_87, qr_151_89, qr_151_91, qr_151_94, qr_151_95, qr_151_97, qr_151_100, qr_151_101, qr_151_102, qr_151_103, qr_151_104, qr_151_105, qr_151_108, qr_151_110, qr_151_113, qr_151_114, qr_151_116, qr_151_119, qr_151_120, qr_151_123, qr_151_124, qr_151_127, true_and, and_true, false_and, and_false, Option.bind_some, Option.toList_some, Option.toList_none, List.nil_append, List.cons_append, if_true, if_false, ite_true, ite_false, not_true_eq_false, not_false_eq_true, qn_lt0, qn_ge0, qn_lt, qn_le, qn_eq, qn_e0, qn_gt0, qn_le0, qn_m1, nI_add, pk_mul, qb_e0, Classical.not_not, qw_n, h2, e1, qt_wr, g, Nat.one_ne_zero]
  | sub f nx ihf ih =>
    intro o h hw
    have hC := h
    obtain ⟨c, rfl, h0, h1, h2, h3, h4⟩ := h
    refine all (.sub f nx) nx c 2 rfl hC h1 h0 h2 (Or.inr (Or.inr rfl)) rfl rfl rfl rfl ?_ (ih _ h4 hw.2.2).2.1 (ih _ h4 hw.2.2).2.2.1
    intro D e l hD he hl
    simp only [qt_dp] at hD he
    simp only [qt_wr] at hl
    obtain ⟨d, rfl⟩ : ∃ d, D = d + 1 := ⟨D - 1, by omega⟩
    have e1 : e ≤ 12 := by omega
    have g := (ihf _ h3 hw.2.1).2.2.2.2 hw.1 d e l c qa_u h1 h2 h0 rfl (by omega) (by omega) hl
    simp (disch := first | assumption | omega | (simp only [List.length_append, List.length_cons, List.length_nil]; omega) | exact qb_01) only [qe_151, qr_151_0, qr_151_1_0, qr_151_1_1, qr_151_4, qr_151_5, qr_151_7, qr_151_10, qr_151_11, qr_151_12, qr_151_15, qr_151_18, qr_151_19, qr_151_21, qr_151_22, qr_151_25, qr_151_26, qr_151_29, qr_151_30, qr_151_31, qr_151_34, qr_151_36_0, qr_151_36_1, qr_151_39, qr_151_40, qr_151_41, qr_151_44, qr_151_47, qr_151_48, qr_151_49, qr_151_52, qr_151_53, qr_151_56, qr_151_58, qr_151_61, qr_151_63, qr_151_66, qr_151_67, qr_151_70, qr_151_71, qr_151_74, qr_151_75, qr_151_78, qr_151_79, qr_151_82, qr_151_83, qr_151_86, qr_151_87, qr_151_89, qr_151_91, qr_151_94, qr_151_95, qr_151_97, qr_151_100, qr_151_101, qr_151_102, qr_151_103, qr_151_104, qr_151_105, qr_151_108, qr_151_110, qr_151_113, qr_151_114, qr_151_116, qr_151_119, qr_151_120, qr_151_123, qr_151_124, qr_151_127, true_and, and_true, false_and, and_false, Option.bind_some, Option.toList_some, Option.toList_none, List.nil_append, List.cons_append, if_true, if_false, ite_true, ite_false, not_true_eq_false, not_false_eq_true, qn_lt0, qn_ge0, qn_lt, qn_le, qn_eq, qn_e0, qn_gt0, qn_le0, qn_m1, nI_add, pk_mul, qb_e0, Classical.not_not, qw_n, h2, e1, qt_wr, g, show ¬ 2 = 0 by decide]
end Q30
