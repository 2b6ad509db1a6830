/-! What would be: the class tries it. -/
theorem qt_C_cg {K K' : Nat → Nat × Nat} {I I' : Nat → Nat → Int32} {R R' : Nat → Nat → Option Nat} (h : ∀ a, 204 ≤ a → K a = (10, 0) → K' a = K a ∧ I' a = I a ∧ R' a = R a) : ∀ {t : qt_T} {o : Option Nat}, qt_C K I R t o → qt_C K' I' R' t o := by
  intro t
  induction t with
  | mulL k nx ih =>
    intro o ⟨a, h1, h2, h3, h4, h5, h6⟩
    obtain ⟨g1, g2, g3⟩ := h a h2 h3
    exact ⟨a, h1, h2, by rw [g1]; exact h3, by rw [g2]; exact h4, by rw [g2]; exact h5, by rw [g3]; exact ih h6⟩
  | add f nx ih1 ih2 =>
    intro o ⟨a, h1, h2, h3, h4, h5, h6⟩
    obtain ⟨g1, g2, g3⟩ := h a h2 h3
    exact ⟨a, h1, h2, by rw [g1]; exact h3, by rw [g2]; exact h4, by rw [g3]; exact ih1 h5, by rw [g3]; exact ih2 h6⟩
  | sub f nx ih1 ih2 =>
    intro o ⟨a, h1, h2, h3, h4, h5, h6⟩
    obtain ⟨g1, g2, g3⟩ := h a h2 h3
    exact ⟨a, h1, h2, by rw [g1]; exact h3, by rw [g2]; exact h4, by rw [g3]; exact ih1 h5, by rw [g3]; exact ih2 h6⟩
  | num _ => intro o h1; exact h1
  | _ => intro o h1; exact h1.elim
/-- what is taught, in the class -/
def qj_A (K : Nat → Nat × Nat) (I : Nat → Nat → Int32) (R : Nat → Nat → Option Nat) (c q nk : Nat) (pm : Nat → Nat) (T : Nat → qt_T) (ni : Nat) (fs hd : Nat → Nat) : Prop :=
  qw_C K I R c q nk (fun k => nI (pm k)) (fun k => qt_rq (T k)) ni fs hd ∧ qt_CT K I R q nk T ∧ ∀ k, k < nk → qt_wf k (T k)
theorem qj_A_fr {K : Nat → Nat × Nat} {I I' : Nat → Nat → Int32} {R : Nat → Nat → Option Nat} {t c q nk ni : Nat} {pm fs hd : Nat → Nat} {T : Nat → qt_T} (h : qj_A K I R c q nk pm T ni fs hd) (hf : qz_fr t 16 I I') (ht : t + 16 ≤ 204) (hs : qz_sep t c q) : qj_A K I' R c q nk pm T ni fs hd :=
  ⟨qw_C_fr h.1 hf hs, fun k hk => ⟨qt_C_cg (fun a ha _ => ⟨rfl, hf a (by omega), rfl⟩) (h.2.1 k hk).1, (h.2.1 k hk).2⟩, h.2.2⟩
def qF_tk1 (nk : Nat) (pm : Nat → Nat) (T : Nat → qt_T) (fs : Nat → Nat) (e r : Nat) (s : Nat → Int32) : Nat → Int32 := if e = 0 then s else qF_step nk pm T fs e r s
def qA_l (nk : Nat) (pm : Nat → Nat) (T : Nat → qt_T) (ni : Nat) (fs hd : Nat → Nat) (s : Nat → Int32) : Nat := qA_it s fs hd ni (qA_ln s (fun k => nI (pm k)) T nk ni fs hd nk)
def qA_m (nk : Nat) (pm : Nat → Nat) (T : Nat → qt_T) (ni : Nat) (fs hd : Nat → Nat) (s : Nat → Int32) : Nat := qA_mx s (fun k => nI (pm k)) T nk ni fs hd
theorem qA_l_le {nk ni : Nat} {pm fs hd : Nat → Nat} {T : Nat → qt_T} {s : Nat → Int32} : qA_l nk pm T ni fs hd s ≤ ni := qA_it_le
theorem qA_m_le {nk ni : Nat} {pm fs hd : Nat → Nat} {T : Nat → qt_T} {s : Nat → Int32} : qA_m nk pm T ni fs hd s ≤ ni := by
  have := qA_ad_le (s := s) (ps := fun k => nI (pm k)) (T := T) (nk := nk) (ni := ni) (fs := fs) (hd := hd) (w := 3)
  unfold qA_ad at this
  rw [if_neg (by omega), if_neg (by omega), if_neg (by omega)] at this
  exact this
/-- step by step -/
def qF_pn (nk : Nat) (pm : Nat → Nat) (T : Nat → qt_T) (ni : Nat) (fs hd : Nat → Nat) (s : Nat → Int32) : Nat → Nat → Int32
  | 0 => s
  | i + 1 => qF_tk1 nk pm T fs (qA_l nk pm T ni fs hd (qF_pn nk pm T ni fs hd s i)) 1 (qF_pn nk pm T ni fs hd s i)
/-- a day of a plan: at most j answers -/
def qF_m (nk : Nat) (pm : Nat → Nat) (T : Nat → qt_T) (ni : Nat) (fs hd : Nat → Nat) : Nat → (Nat → Int32) → (Nat → Int32) × Nat
  | 0, s => (s, 0)
  | j + 1, s => if qA_m nk pm T ni fs hd s = 0 then (s, 0) else ((qF_m nk pm T ni fs hd j (qF_step nk pm T fs (qA_m nk pm T ni fs hd s) 1 s)).1, (qF_m nk pm T ni fs hd j (qF_step nk pm T fs (qA_m nk pm T ni fs hd s) 1 s)).2 + 1)
def qF_d (nk : Nat) (i : Nat) (s : Nat → Int32) : Nat → Int32 := if i = 0 then s else qF_pas s nk
/-- a plan of i days -/
def qF_pd (nk : Nat) (pm : Nat → Nat) (T : Nat → qt_T) (ni : Nat) (fs hd : Nat → Nat) (na : Nat) (s : Nat → Int32) : Nat → (Nat → Int32) × Nat
  | 0 => (s, 0)
  | i + 1 => ((qF_m nk pm T ni fs hd na (qF_d nk i (qF_pd nk pm T ni fs hd na s i).1)).1, (qF_pd nk pm T ni fs hd na s i).2 + (qF_m nk pm T ni fs hd na (qF_d nk i (qF_pd nk pm T ni fs hd na s i).1)).2)
/-- a skill alone, day after day -/
def qF_sd (s : Nat → Int32) (k : Nat) : Nat → Nat → Int32
  | 0 => qs_sk s k
  | m + 1 => qf_pas (qF_sd s k m) (s 0 + nI (m + 1))
def qF_la (G : Nat → Bool) : Nat → Nat → Nat
  | 0, m => m
  | j + 1, m => if G (m + 1) = true then qF_la G j (m + 1) else m
def qF_lg (s : Nat → Int32) (k pmk : Nat) (m : Nat) : Bool := qf_mst (qF_sd s k m 0) (qF_sd s k m 1) (nI pmk)
section Q54
variable {d a b f : Nat} {K : Nat → Nat × Nat} {I : Nat → Nat → Int32} {R : Nat → Nat → Option Nat} {n z : Nat} {x y : Int32} {h : qa_H} {u nk ni k i j m B p q c e g w v r lv t na : Nat} {s bs : Nat → Int32} {fs hd pm el er : Nat → Nat} {T : Nat → qt_T}
theorem qs_PR_take (hA : qj_A K I R c q nk pm T ni fs hd) (hP : qp_PR K R t c) (hs : qz_sep t c q) (hS : qp_PS I t s) (he : e ≤ ni) (hr : r = 0 ∨ r = 1) : ∃ I', qa_ex (d + 4) 58 [qa_a (some t), qa_i (qe_v e), qa_i (nI r)] (K, I, R, n, z) = some (none, (K, I', R, n, z)) ∧ qz_fr t 16 I I' ∧ qp_PS I' t (qF_tk1 nk pm T fs e r s) := by
  unfold qF_tk1
  cases e with
  | zero =>
    rw [if_pos rfl, qe_v0]
    exact ⟨I, qs_PR_takeNone hP hA.1, qz_fr_r, hS⟩
  | succ e =>
    rw [if_neg (by omega), qe_vs]
    obtain ⟨I', a1, a2, a3⟩ := qs_PR_takeAnswer (d := d) (n := n) (z := z) (i := e) hP hA.1 hs hS (by omega) hr
    exact ⟨I', a1, a2, a3⟩
theorem qs_LA_path (ha : K a = (0, 0)) (r4 : R a 4 = some c) (r5 : R a 5 = some p) (r6 : R a 6 = some t) (hA : qj_A K I R c q nk pm T ni fs hd) (hP : qp_PR K R p c) (hQ : qp_PR K R t c) (hpt : t + 16 ≤ p ∨ p + 16 ≤ t) (ht : t + 16 ≤ 204) (hs : qz_sep t c q) (hS : qp_PS I p s) (hj : j < 12) : ∃ I', qa_ex (d + 18) 115 [qa_a (some a), qa_i (nI j)] (K, I, R, n, z) = some (some (qa_i (qe_v (qA_l nk pm T ni fs hd (qF_pn nk pm T ni fs hd s j)))), (K, I', R, n, z)) ∧ qz_fr t 16 I I' := by
  have p0 := hP.1
  have t0 := hQ.1
  have loop : ∀ m i, i + m = j → ∀ I0, qz_fr t 16 I I0 → qp_PS I0 t (qF_pn nk pm T ni fs hd s i) → ∃ I', qa_run (d + 17) 115 26 [qa_a (some a), qa_i (nI j), qa_i (nI i)] [] [] (K, I0, R, n, z) = some (some (qa_i (qe_v (qA_l nk pm T ni fs hd (qF_pn nk pm T ni fs hd s j)))), (K, I', R, n, z)) ∧ qz_fr t 16 I I' := by
    intro m
    induction m with
    | zero =>
      intro i hi I0 h0 h1
      have hi : i = j := by omega
      subst hi
      have hA0 := qj_A_fr hA h0 ht hs
      have e1 := qs_AD_forLearning (d := d) (n := n) (z := z) hQ hA0.1 h1 hA0.2.1 hA0.2.2
      refine ⟨I0, ?_, h0⟩
      rw [qr_115_26]
      simp (disch := first | assumption | omega | exact Or.inl rfl | exact Or.inr rfl | exact qb_01) only [qr_115_0, qr_115_1, qr_115_2, qr_115_4, qr_115_7, qr_115_10, qr_115_12, qr_115_13, qr_115_14, qr_115_17, qr_115_18, qr_115_21, qr_115_24, qr_115_25, qr_115_27, qr_115_28, qr_115_31, qr_115_32, qr_115_35, qr_115_36, qr_115_39, qr_115_40, qr_115_43, qr_115_46, qr_115_47, qr_115_50, qr_115_53, qr_115_56, qr_115_57, qr_115_60, qr_115_61, qr_115_64, qr_115_67, true_and, and_true, false_and, and_false, Option.bind_some, Option.toList_some, Option.toList_none, List.nil_append, List.cons_append, if_true, if_false, ite_true, ite_false, not_true_eq_false, not_false_eq_true, qn_lt0, qn_ge0, qn_lt, qn_le, qn_eq, qn_e0, qn_gt0, qn_le0, qn_m1, nI_add, pk_mul, qb_e0, Classical.not_not, Nat.le_refl, r4, r6, e1]
      rfl
    | succ m ih =>
      intro i hi I0 h0 h1
      have hA0 := qj_A_fr hA h0 ht hs
      have e1 := qs_AD_forLearning (d := d) (n := n) (z := z) hQ hA0.1 h1 hA0.2.1 hA0.2.2
      obtain ⟨I1, b1, b2, b3⟩ := qs_PR_take (d := d + 13) (n := n) (z := z) (e := qA_l nk pm T ni fs hd (qF_pn nk pm T ni fs hd s i)) (r := 1) hA0 hQ hs h1 qA_l_le (Or.inr rfl)
      unfold qA_l at b1
      obtain ⟨I2, c1, c2⟩ := ih (i + 1) (by omega) I1 (qz_fr_t h0 b2) b3
      have e2 : ¬ j ≤ i := by omega
      refine ⟨I2, ?_, c2⟩
      rw [qr_115_26]
      simp (disch := first | assumption | omega | exact Or.inl rfl | exact Or.inr rfl | exact qb_01) only [qr_115_0, qr_115_1, qr_115_2, qr_115_4, qr_115_7, qr_115_10, qr_115_12, qr_115_13, qr_115_14, qr_115_17, qr_115_18, qr_115_21, qr_115_24, qr_115_25, qr_115_27, qr_115_28, qr_115_31, qr_115_32, qr_115_35, qr_115_36, qr_115_39, qr_115_40, qr_115_43, qr_115_46, qr_115_47, qr_115_50, qr_115_53, qr_115_56, qr_115_57, qr_115_60, qr_115_61, qr_115_64, qr_115_67, true_and, and_true, false_and, and_false, Option.bind_some, Option.toList_some, Option.toList_none, List.nil_append, List.cons_append, if_true, if_false, ite_true, ite_false, not_true_eq_false, not_false_eq_true, qn_lt0, qn_ge0, qn_lt, qn_le, qn_eq, qn_e0, qn_gt0, qn_le0, qn_m1, nI_add, pk_mul, qb_e0, Classical.not_not, e2, r4, r6, e1, b1]
      exact c1
  obtain ⟨I1, b1, b2, b3⟩ := qs_PR_copyFrom (d := d + 15) (n := n) (z := z) hQ hP (by omega) hS
  obtain ⟨I2, c1, c2⟩ := loop j 0 (by omega) I1 b2 b3
  have e3 : ¬ 11 < j := by omega
  refine ⟨I2, ?_, c2⟩
  simp (disch := first | assumption | omega | exact Or.inl rfl | exact Or.inr rfl | exact qb_01) only [qe_115, qr_115_0, qr_115_1, qr_115_2, qr_115_4, qr_115_7, qr_115_10, qr_115_12, qr_115_13, qr_115_14, qr_115_17, qr_115_18, qr_115_21, qr_115_24, qr_115_25, qr_115_27, qr_115_28, qr_115_31, qr_115_32, qr_115_35, qr_115_36, qr_115_39, qr_115_40, qr_115_43, qr_115_46, qr_115_47, qr_115_50, qr_115_53, qr_115_56, qr_115_57, qr_115_60, qr_115_61, qr_115_64, qr_115_67, true_and, and_true, false_and, and_false, Option.bind_some, Option.toList_some, Option.toList_none, List.nil_append, List.cons_append, if_true, if_false, ite_true, ite_false, not_true_eq_false, not_false_eq_true, qn_lt0, qn_ge0, qn_lt, qn_le, qn_eq, qn_e0, qn_gt0, qn_le0, qn_m1, nI_add, pk_mul, qb_e0, Classical.not_not, Nat.reduceEqDiff, Nat.reduceLT, Nat.reduceLeDiff, Nat.not_lt_zero, Nat.zero_le, qs_LA_isWithin, e3, r5, r6, b1]
  exact c1
theorem qs_LA_whatIf (ha : K a = (0, 0)) (r4 : R a 4 = some c) (r5 : R a 5 = some p) (r6 : R a 6 = some t) (hA : qj_A K I R c q nk pm T ni fs hd) (hP : qp_PR K R p c) (hQ : qp_PR K R t c) (hpt : t + 16 ≤ p ∨ p + 16 ≤ t) (hs : qz_sep t c q) (hS : qp_PS I p s) (hi : i < ni) (hk : k < nk) (hr : r = 0 ∨ r = 1) (hw : w = 0 ∨ w = 1) (ho : qs_op s i = true) {v0 v1 : Nat} (h0 : qF_step nk pm T fs (i + 1) r s (1 + 9 * k + 0) = nI v0) (h1 : qF_step nk pm T fs (i + 1) r s (1 + 9 * k + 1) = nI v1) (hv0 : v0 ≤ 480) (hv1 : v1 ≤ 480) : ∃ I', qa_ex (d + 5) 116 [qa_a (some a), qa_i (nI i), qa_i (nI r), qa_i (nI k), qa_i (nI w)] (K, I, R, n, z) = some (some (qa_i (qF_pm v0 v1 w)), (K, I', R, n, z)) ∧ qz_fr t 16 I I' := by
  have p0 := hP.1
  have t0 := hQ.1
  have hC := hA.1
  have cn := hC.2.2.2.2.2.2.1
  have i12 := hC.2.2.2.2.2.2.2.1
  have k10 := hC.2.2.2.2.1
  have c0 := hC.1.1
  have hi12 : i < 12 := by omega
  have hk10 : k < 10 := by omega
  have e1 : ¬ ni ≤ i := by omega
  have e2 : ¬ nk ≤ k := by omega
  have e3 : ¬ 1 < r := by omega
  have e4 : ¬ 1 < w := by omega
  obtain ⟨I1, b1, b2, b3⟩ := qs_PR_copyFrom (d := d + 2) (n := n) (z := z) hQ hP (by omega) hS
  obtain ⟨I2, a1, a2, a3⟩ := qs_PR_takeAnswer (d := d) (n := n) (z := z) (i := i) hQ (qw_C_fr hC b2 hs) hs b3 hi hr
  have m1 := qs_LA_masteryIn (d := d + 1) (R := R) (n := n) (z := z) hQ a3 hk10 h0 h1 hv0 hv1 hw
  refine ⟨I2, ?_, qz_fr_t b2 a2⟩
  rcases hr with hr | hr
  · subst hr
    simp (disch := first | assumption | omega | exact Or.inl rfl | exact Or.inr rfl | exact qb_01) only [qe_116, qr_116_0, qr_116_1, qr_116_4, qr_116_5, qr_116_8, qr_116_11, qr_116_12, qr_116_15, qr_116_16, qr_116_19, qr_116_22, qr_116_23, qr_116_24, qr_116_25, qr_116_26, qr_116_27, qr_116_30, qr_116_33, qr_116_35, qr_116_36, qr_116_37, qr_116_40, qr_116_43, qr_116_45, qr_116_46, qr_116_47, qr_116_50, qr_116_51, qr_116_54, qr_116_57, qr_116_59, qr_116_60, qr_116_61, qr_116_64, qr_116_65, qr_116_68, qr_116_71, qr_116_72, qr_116_75, qr_116_76, qr_116_77, qr_116_78, qr_116_81, qr_116_82, qr_116_85, qr_116_86, qr_116_89, qr_116_90, qr_116_93, qr_116_94, qr_116_96, qr_116_99, true_and, and_true, false_and, and_false, Option.bind_some, Option.toList_some, Option.toList_none, List.nil_append, List.cons_append, if_true, if_false, ite_true, ite_false, not_true_eq_false, not_false_eq_true, qn_lt0, qn_ge0, qn_lt, qn_le, qn_eq, qn_e0, qn_gt0, qn_le0, qn_m1, nI_add, pk_mul, qb_e0, Classical.not_not, Nat.reduceEqDiff, Nat.reduceLT, Nat.reduceLeDiff, Nat.not_lt_zero, Nat.zero_le, qs_LA_isWithin, e1, e2, e3, e4, r4, r5, r6, qs_CO_hasItem c0 cn, qs_CO_hasSkill hC, qs_PR_isOpen2 hP hS hi12, ho, b1, a1, m1]
  · subst hr
    simp (disch := first | assumption | omega | exact Or.inl rfl | exact Or.inr rfl | exact qb_01) only [qe_116, qr_116_0, qr_116_1, qr_116_4, qr_116_5, qr_116_8, qr_116_11, qr_116_12, qr_116_15, qr_116_16, qr_116_19, qr_116_22, qr_116_23, qr_116_24, qr_116_25, qr_116_26, qr_116_27, qr_116_30, qr_116_33, qr_116_35, qr_116_36, qr_116_37, qr_116_40, qr_116_43, qr_116_45, qr_116_46, qr_116_47, qr_116_50, qr_116_51, qr_116_54, qr_116_57, qr_116_59, qr_116_60, qr_116_61, qr_116_64, qr_116_65, qr_116_68, qr_116_71, qr_116_72, qr_116_75, qr_116_76, qr_116_77, qr_116_78, qr_116_81, qr_116_82, qr_116_85, qr_116_86, qr_116_89, qr_116_90, qr_116_93, qr_116_94, qr_116_96, qr_116_99, true_and, and_true, false_and, and_false, Option.bind_some, Option.toList_some, Option.toList_none, List.nil_append, List.cons_append, if_true, if_false, ite_true, ite_false, not_true_eq_false, not_false_eq_true, qn_lt0, qn_ge0, qn_lt, qn_le, qn_eq, qn_e0, qn_gt0, qn_le0, qn_m1, nI_add, pk_mul, qb_e0, Classical.not_not, Nat.reduceEqDiff, Nat.reduceLT, Nat.reduceLeDiff, Nat.not_lt_zero, Nat.zero_le, qs_LA_isWithin, e1, e2, e3, e4, r4, r5, r6, qs_CO_hasItem c0 cn, qs_CO_hasSkill hC, qs_PR_isOpen2 hP hS hi12, ho, b1, a1, m1]
theorem qs_LA_answerMixed (ha : K a = (0, 0)) (r4 : R a 4 = some c) (hA : qj_A K I R c q nk pm T ni fs hd) (hQ : qp_PR K R t c) (ht : t + 16 ≤ 204) (hs : qz_sep t c q) (hS : qp_PS I t s) (hj : j < 1000) : ∃ I', qa_ex (d + 19) 118 [qa_a (some a), qa_a (some t), qa_i (nI j)] (K, I, R, n, z) = some (some (qa_i (nI (qF_m nk pm T ni fs hd j s).2)), (K, I', R, n, z)) ∧ qz_fr t 16 I I' ∧ qp_PS I' t (qF_m nk pm T ni fs hd j s).1 := by
  have t0 := hQ.1
  have i12 := hA.1.2.2.2.2.2.2.2.1
  have loop : ∀ m i l4, i + m = j → ∀ I0 s0, qz_fr t 16 I I0 → qp_PS I0 t s0 → ∃ I', qa_run (d + 18) 118 2 [qa_a (some a), qa_a (some t), qa_i (nI j), qa_i (nI i), l4] [] [] (K, I0, R, n, z) = some (some (qa_i (nI (i + (qF_m nk pm T ni fs hd m s0).2))), (K, I', R, n, z)) ∧ qz_fr t 16 I I' ∧ qp_PS I' t (qF_m nk pm T ni fs hd m s0).1 := by
    intro m
    induction m with
    | zero =>
      intro i l4 hi I0 s0 h0 h1
      have hi : i = j := by omega
      subst hi
      refine ⟨I0, ?_, h0, h1⟩
      rw [qr_118_2]
      simp (disch := first | assumption | omega | exact Or.inl rfl | exact Or.inr rfl | exact qb_01) only [qr_118_0, qr_118_1, qr_118_3, qr_118_4, qr_118_7, qr_118_8, qr_118_11, qr_118_12, qr_118_15, qr_118_17, qr_118_19, qr_118_20, qr_118_23, qr_118_24, qr_118_25, qr_118_26, qr_118_28, qr_118_29, qr_118_32, qr_118_35, qr_118_38, qr_118_39, true_and, and_true, false_and, and_false, Option.bind_some, Option.toList_some, Option.toList_none, List.nil_append, List.cons_append, if_true, if_false, ite_true, ite_false, not_true_eq_false, not_false_eq_true, qn_lt0, qn_ge0, qn_lt, qn_le, qn_eq, qn_e0, qn_gt0, qn_le0, qn_m1, nI_add, pk_mul, qb_e0, Classical.not_not, Nat.le_refl]
      rfl
    | succ m ih =>
      intro i l4 hi I0 s0 h0 h1
      have hA0 := qj_A_fr hA h0 ht hs
      have e1 := qs_AD_mixed (d := d) (n := n) (z := z) hQ hA0.1 h1 hA0.2.1 hA0.2.2
      have hle := qA_m_le (nk := nk) (pm := pm) (T := T) (ni := ni) (fs := fs) (hd := hd) (s := s0)
      have e2 : ¬ j ≤ i := by omega
      rw [show qA_mx s0 (fun k => nI (pm k)) T nk ni fs hd = qA_m nk pm T ni fs hd s0 from rfl] at e1
      unfold qF_m
      generalize qA_m nk pm T ni fs hd s0 = e at e1 hle ⊢
      cases e with
      | zero =>
        rw [qe_v0] at e1
        rw [if_pos rfl]
        refine ⟨I0, ?_, h0, h1⟩
        rw [qr_118_2]
        simp (disch := first | assumption | omega | exact Or.inl rfl | exact Or.inr rfl | exact qb_01) only [qr_118_0, qr_118_1, qr_118_3, qr_118_4, qr_118_7, qr_118_8, qr_118_11, qr_118_12, qr_118_15, qr_118_17, qr_118_19, qr_118_20, qr_118_23, qr_118_24, qr_118_25, qr_118_26, qr_118_28, qr_118_29, qr_118_32, qr_118_35, qr_118_38, qr_118_39, true_and, and_true, false_and, and_false, Option.bind_some, Option.toList_some, Option.toList_none, List.nil_append, List.cons_append, if_true, if_false, ite_true, ite_false, not_true_eq_false, not_false_eq_true, qn_lt0, qn_ge0, qn_lt, qn_le, qn_eq, qn_e0, qn_gt0, qn_le0, qn_m1, nI_add, pk_mul, qb_e0, Classical.not_not, e2, r4, e1, Nat.add_zero]
      | succ e =>
        rw [qe_vs] at e1
        obtain ⟨I1, b1, b2, b3⟩ := qs_PR_take (d := d + 14) (n := n) (z := z) (e := e + 1) (r := 1) hA0 hQ hs h1 hle (Or.inr rfl)
        rw [qe_vs] at b1
        unfold qF_tk1 at b3
        rw [if_neg (by omega)] at b3 ⊢
        obtain ⟨I2, c1, c2, c3⟩ := ih (i + 1) (qa_i (nI e)) (by omega) I1 _ (qz_fr_t h0 b2) b3
        refine ⟨I2, ?_, c2, c3⟩
        rw [show i + 1 + (qF_m nk pm T ni fs hd m (qF_step nk pm T fs (e + 1) 1 s0)).2 = i + ((qF_m nk pm T ni fs hd m (qF_step nk pm T fs (e + 1) 1 s0)).2 + 1) by omega] at c1
        rw [qr_118_2]
        simp (disch := first | assumption | omega | exact Or.inl rfl | exact Or.inr rfl | exact qb_01) only [qr_118_0, qr_118_1, qr_118_3, qr_118_4, qr_118_7, qr_118_8, qr_118_11, qr_118_12, qr_118_15, qr_118_17, qr_118_19, qr_118_20, qr_118_23, qr_118_24, qr_118_25, qr_118_26, qr_118_28, qr_118_29, qr_118_32, qr_118_35, qr_118_38, qr_118_39, true_and, and_true, false_and, and_false, Option.bind_some, Option.toList_some, Option.toList_none, List.nil_append, List.cons_append, if_true, if_false, ite_true, ite_false, not_true_eq_false, not_false_eq_true, qn_lt0, qn_ge0, qn_lt, qn_le, qn_eq, qn_e0, qn_gt0, qn_le0, qn_m1, nI_add, pk_mul, qb_e0, Classical.not_not, e2, r4, e1, b1]
        exact c1
  obtain ⟨I2, c1, c2, c3⟩ := loop j 0 qa_u (by omega) I s qz_fr_r hS
  refine ⟨I2, ?_, c2, c3⟩
  rw [Nat.zero_add] at c1
  simp (disch := first | assumption | omega | exact Or.inl rfl | exact Or.inr rfl | exact qb_01) only [qe_118, qr_118_0, qr_118_1, qr_118_3, qr_118_4, qr_118_7, qr_118_8, qr_118_11, qr_118_12, qr_118_15, qr_118_17, qr_118_19, qr_118_20, qr_118_23, qr_118_24, qr_118_25, qr_118_26, qr_118_28, qr_118_29, qr_118_32, qr_118_35, qr_118_38, qr_118_39, true_and, and_true, false_and, and_false, Option.bind_some, Option.toList_some, Option.toList_none, List.nil_append, List.cons_append, if_true, if_false, ite_true, ite_false, not_true_eq_false, not_false_eq_true, qn_lt0, qn_ge0, qn_lt, qn_le, qn_eq, qn_e0, qn_gt0, qn_le0, qn_m1, nI_add, pk_mul, qb_e0, Classical.not_not]
  exact c1
theorem qs_LA_plan (ha : K a = (0, 0)) (r4 : R a 4 = some c) (r5 : R a 5 = some p) (r6 : R a 6 = some t) (hA : qj_A K I R c q nk pm T ni fs hd) (hP : qp_PR K R p c) (hQ : qp_PR K R t c) (hpt : t + 16 ≤ p ∨ p + 16 ≤ t) (ht : t + 16 ≤ 204) (hs : qz_sep t c q) (hS : qp_PS I p s) (hj : 1 ≤ j) (hj2 : j ≤ 30) (hna : 1 ≤ na) (hna2 : na ≤ 12) (hw : w < 3) : ∃ I', qa_ex (d + 20) 117 [qa_a (some a), qa_i (nI j), qa_i (nI na), qa_i (nI w)] (K, I, R, n, z) = some (some (qa_i (if w = 0 then nI (qF_pd nk pm T ni fs hd na s j).2 else if w = 1 then qf_si (qs_ev (qF_pd nk pm T ni fs hd na s j).1) nk else qf_bc (qf_ms (qs_g (qF_pd nk pm T ni fs hd na s j).1 (fun k => nI (pm k))) nk))), (K, I', R, n, z)) ∧ qz_fr t 16 I I' := by
  have p0 := hP.1
  have t0 := hQ.1
  have loop : ∀ m i, i + m = j → ∀ I0, qz_fr t 16 I I0 → qp_PS I0 t (qF_pd nk pm T ni fs hd na s i).1 → ∃ I', qa_run (d + 19) 117 49 [qa_a (some a), qa_i (nI j), qa_i (nI na), qa_i (nI w), qa_i (nI (qF_pd nk pm T ni fs hd na s i).2), qa_i (nI i)] [] [] (K, I0, R, n, z) = some (some (qa_i (if w = 0 then nI (qF_pd nk pm T ni fs hd na s j).2 else if w = 1 then qf_si (qs_ev (qF_pd nk pm T ni fs hd na s j).1) nk else qf_bc (qf_ms (qs_g (qF_pd nk pm T ni fs hd na s j).1 (fun k => nI (pm k))) nk))), (K, I', R, n, z)) ∧ qz_fr t 16 I I' := by
    intro m
    induction m with
    | zero =>
      intro i hi I0 h0 h1
      have hi : i = j := by omega
      subst hi
      have hA0 := qj_A_fr hA h0 ht hs
      have e1 := qs_PR_sumOfEvidence (d := d + 16) (n := n) (z := z) hQ hA0.1 h1
      have e2 := qs_PR_mastered2 (d := d + 16) (n := n) (z := z) hQ hA0.1 h1
      refine ⟨I0, ?_, h0⟩
      rw [qr_117_49]
      have o1 : ¬ nI 2 = nI 0 := by decide
      have o2 : ¬ nI 2 = nI 1 := by decide
      rcases (show w = 0 ∨ w = 1 ∨ w = 2 by omega) with rfl | rfl | rfl
      · simp (disch := first | assumption | omega | exact Or.inl rfl | exact Or.inr rfl | exact qb_01) only [qr_117_0, qr_117_1, qr_117_2, qr_117_4, qr_117_7, qr_117_10, qr_117_11, qr_117_12, qr_117_14, qr_117_17, qr_117_20, qr_117_21, qr_117_22, qr_117_23, qr_117_26, qr_117_29, qr_117_31, qr_117_32, qr_117_33, qr_117_36, qr_117_37, qr_117_40, qr_117_43, qr_117_44, qr_117_46, qr_117_47, qr_117_51, qr_117_52, qr_117_55, qr_117_57, qr_117_60, qr_117_61, qr_117_64, qr_117_67, qr_117_69, qr_117_70, qr_117_71, qr_117_74, qr_117_75, qr_117_78, qr_117_79, qr_117_81, qr_117_84, qr_117_87, qr_117_88_0, qr_117_88_1, qr_117_88_d, qr_117_116, qr_117_118, qr_117_119, qr_117_120, qr_117_123, qr_117_126, qr_117_127, qr_117_128, qr_117_131, qr_117_134, qr_117_137, true_and, and_true, false_and, and_false, Option.bind_some, Option.toList_some, Option.toList_none, List.nil_append, List.cons_append, if_true, if_false, ite_true, ite_false, not_true_eq_false, not_false_eq_true, qn_lt0, qn_ge0, qn_lt, qn_le, qn_eq, qn_e0, qn_gt0, qn_le0, qn_m1, nI_add, pk_mul, qb_e0, Classical.not_not, Nat.le_refl, r6, e1, e2]
      · simp (disch := first | assumption | omega | exact Or.inl rfl | exact Or.inr rfl | exact qb_01) only [qr_117_0, qr_117_1, qr_117_2, qr_117_4, qr_117_7, qr_117_10, qr_117_11, qr_117_12, qr_117_14, qr_117_17, qr_117_20, qr_117_21, qr_117_22, qr_117_23, qr_117_26, qr_117_29, qr_117_31, qr_117_32, qr_117_33, qr_117_36, qr_117_37, qr_117_40, qr_117_43, qr_117_44, qr_117_46, qr_117_47, qr_117_51, qr_117_52, qr_117_55, qr_117_57, qr_117_60, qr_117_61, qr_117_64, qr_117_67, qr_117_69, qr_117_70, qr_117_71, qr_117_74, qr_117_75, qr_117_78, qr_117_79, qr_117_81, qr_117_84, qr_117_87, qr_117_88_0, qr_117_88_1, qr_117_88_d, qr_117_116, qr_117_118, qr_117_119, qr_117_120, qr_117_123, qr_117_126, qr_117_127, qr_117_128, qr_117_131, qr_117_134, qr_117_137, true_and, and_true, false_and, and_false, Option.bind_some, Option.toList_some, Option.toList_none, List.nil_append, List.cons_append, if_true, if_false, ite_true, ite_false, not_true_eq_false, not_false_eq_true, qn_lt0, qn_ge0, qn_lt, qn_le, qn_eq, qn_e0, qn_gt0, qn_le0, qn_m1, nI_add, pk_mul, qb_e0, Classical.not_not, Nat.le_refl, r6, e1, e2, Nat.one_ne_zero]
      · simp (disch := first | assumption | omega | exact Or.inl rfl | exact Or.inr rfl | exact qb_01) only [qr_117_0, qr_117_1, qr_117_2, qr_117_4, qr_117_7, qr_117_10, qr_117_11, qr_117_12, qr_117_14, qr_117_17, qr_117_20, qr_117_21, qr_117_22, qr_117_23, qr_117_26, qr_117_29, qr_117_31, qr_117_32, qr_117_33, qr_117_36, qr_117_37, qr_117_40, qr_117_43, qr_117_44, qr_117_46, qr_117_47, qr_117_51, qr_117_52, qr_117_55, qr_117_57, qr_117_60, qr_117_61, qr_117_64, qr_117_67, qr_117_69, qr_117_70, qr_117_71, qr_117_74, qr_117_75, qr_117_78, qr_117_79, qr_117_81, qr_117_84, qr_117_87, qr_117_88_0, qr_117_88_1, qr_117_88_d, qr_117_116, qr_117_118, qr_117_119, qr_117_120, qr_117_123, qr_117_126, qr_117_127, qr_117_128, qr_117_131, qr_117_134, qr_117_137, true_and, and_true, false_and, and_false, Option.bind_some, Option.toList_some, Option.toList_none, List.nil_append, List.cons_append, if_true, if_false, ite_true, ite_false, not_true_eq_false, not_false_eq_true, qn_lt0, qn_ge0, qn_lt, qn_le, qn_eq, qn_e0, qn_gt0, qn_le0, qn_m1, nI_add, pk_mul, qb_e0, Classical.not_not, Nat.reduceEqDiff, Nat.reduceLT, Nat.reduceLeDiff, Nat.not_lt_zero, Nat.zero_le, Nat.le_refl, r6, e1, e2, qs_IN_bitCount]
    | succ m ih =>
      intro i hi I0 h0 h1
      have e2 : ¬ j ≤ i := by omega
      by_cases hi0 : i = 0
      · subst hi0
        have hA0 := qj_A_fr hA h0 ht hs
        obtain ⟨I1, b1, b2, b3⟩ := qs_LA_answerMixed (d := d) (n := n) (z := z) (j := na) ha r4 hA0 hQ ht hs h1 (by omega)
        have hd0 : qF_d nk 0 (qF_pd nk pm T ni fs hd na s 0).1 = (qF_pd nk pm T ni fs hd na s 0).1 := if_pos rfl
        obtain ⟨I2, c1, c2⟩ := ih (0 + 1) (by omega) I1 (qz_fr_t h0 b2) (by unfold qF_pd; rw [hd0]; exact b3)
        rw [show (qF_pd nk pm T ni fs hd na s (0 + 1)).2 = (qF_pd nk pm T ni fs hd na s 0).2 + (qF_m nk pm T ni fs hd na (qF_d nk 0 (qF_pd nk pm T ni fs hd na s 0).1)).2 from rfl, hd0] at c1
        refine ⟨I2, ?_, c2⟩
        rw [qr_117_49]
        simp (disch := first | assumption | omega | exact Or.inl rfl | exact Or.inr rfl | exact qb_01) only [qr_117_0, qr_117_1, qr_117_2, qr_117_4, qr_117_7, qr_117_10, qr_117_11, qr_117_12, qr_117_14, qr_117_17, qr_117_20, qr_117_21, qr_117_22, qr_117_23, qr_117_26, qr_117_29, qr_117_31, qr_117_32, qr_117_33, qr_117_36, qr_117_37, qr_117_40, qr_117_43, qr_117_44, qr_117_46, qr_117_47, qr_117_51, qr_117_52, qr_117_55, qr_117_57, qr_117_60, qr_117_61, qr_117_64, qr_117_67, qr_117_69, qr_117_70, qr_117_71, qr_117_74, qr_117_75, qr_117_78, qr_117_79, qr_117_81, qr_117_84, qr_117_87, qr_117_88_0, qr_117_88_1, qr_117_88_d, qr_117_116, qr_117_118, qr_117_119, qr_117_120, qr_117_123, qr_117_126, qr_117_127, qr_117_128, qr_117_131, qr_117_134, qr_117_137, true_and, and_true, false_and, and_false, Option.bind_some, Option.toList_some, Option.toList_none, List.nil_append, List.cons_append, if_true, if_false, ite_true, ite_false, not_true_eq_false, not_false_eq_true, qn_lt0, qn_ge0, qn_lt, qn_le, qn_eq, qn_e0, qn_gt0, qn_le0, qn_m1, nI_add, pk_mul, qb_e0, Classical.not_not, e2, r6, b1, Nat.le_refl]
        exact c1
      · have hA0 := qj_A_fr hA h0 ht hs
        obtain ⟨I1, a1, a2, a3⟩ := qs_PR_passDay (d := d + 16) (n := n) (z := z) hQ hA0.1 hs h1
        have hA1 := qj_A_fr hA (qz_fr_t h0 a2) ht hs
        obtain ⟨I1', b1, b2, b3⟩ := qs_LA_answerMixed (d := d) (n := n) (z := z) (j := na) ha r4 hA1 hQ ht hs a3 (by omega)
        have hd0 : qF_d nk i (qF_pd nk pm T ni fs hd na s i).1 = qF_pas (qF_pd nk pm T ni fs hd na s i).1 nk := if_neg hi0
        obtain ⟨I2, c1, c2⟩ := ih (i + 1) (by omega) I1' (qz_fr_t (qz_fr_t h0 a2) b2) (by unfold qF_pd; rw [hd0]; exact b3)
        rw [show (qF_pd nk pm T ni fs hd na s (i + 1)).2 = (qF_pd nk pm T ni fs hd na s i).2 + (qF_m nk pm T ni fs hd na (qF_d nk i (qF_pd nk pm T ni fs hd na s i).1)).2 from rfl, hd0] at c1
        refine ⟨I2, ?_, c2⟩
        rw [qr_117_49]
        simp (disch := first | assumption | omega | exact Or.inl rfl | exact Or.inr rfl | exact qb_01) only [qr_117_0, qr_117_1, qr_117_2, qr_117_4, qr_117_7, qr_117_10, qr_117_11, qr_117_12, qr_117_14, qr_117_17, qr_117_20, qr_117_21, qr_117_22, qr_117_23, qr_117_26, qr_117_29, qr_117_31, qr_117_32, qr_117_33, qr_117_36, qr_117_37, qr_117_40, qr_117_43, qr_117_44, qr_117_46, qr_117_47, qr_117_51, qr_117_52, qr_117_55, qr_117_57, qr_117_60, qr_117_61, qr_117_64, qr_117_67, qr_117_69, qr_117_70, qr_117_71, qr_117_74, qr_117_75, qr_117_78, qr_117_79, qr_117_81, qr_117_84, qr_117_87, qr_117_88_0, qr_117_88_1, qr_117_88_d, qr_117_116, qr_117_118, qr_117_119, qr_117_120, qr_117_123, qr_117_126, qr_117_127, qr_117_128, qr_117_131, qr_117_134, qr_117_137, true_and, and_true, false_and, and_false, Option.bind_some, Option.toList_some, Option.toList_none, List.nil_append, List.cons_append, if_true, if_false, ite_true, ite_false, not_true_eq_false, not_false_eq_true, qn_lt0, qn_ge0, qn_lt, qn_le, qn_eq, qn_e0, qn_gt0, qn_le0, qn_m1, nI_add, pk_mul, qb_e0, Classical.not_not, e2, hi0, r6, a1, b1]
        exact c1
  obtain ⟨I1, b1, b2, b3⟩ := qs_PR_copyFrom (d := d + 17) (n := n) (z := z) hQ hP (by omega) hS
  obtain ⟨I2, c1, c2⟩ := loop j 0 (by omega) I1 b2 b3
  have g1 : ¬ j < 1 := by omega
  have g2 : ¬ 30 < j := by omega
  have g3 : ¬ na < 1 := by omega
  have g4 : ¬ 12 < na := by omega
  have g5 : ¬ 2 < w := by omega
  refine ⟨I2, ?_, c2⟩
  simp (disch := first | assumption | omega | exact Or.inl rfl | exact Or.inr rfl | exact qb_01) only [qe_117, qr_117_0, qr_117_1, qr_117_2, qr_117_4, qr_117_7, qr_117_10, qr_117_11, qr_117_12, qr_117_14, qr_117_17, qr_117_20, qr_117_21, qr_117_22, qr_117_23, qr_117_26, qr_117_29, qr_117_31, qr_117_32, qr_117_33, qr_117_36, qr_117_37, qr_117_40, qr_117_43, qr_117_44, qr_117_46, qr_117_47, qr_117_51, qr_117_52, qr_117_55, qr_117_57, qr_117_60, qr_117_61, qr_117_64, qr_117_67, qr_117_69, qr_117_70, qr_117_71, qr_117_74, qr_117_75, qr_117_78, qr_117_79, qr_117_81, qr_117_84, qr_117_87, qr_117_88_0, qr_117_88_1, qr_117_88_d, qr_117_116, qr_117_118, qr_117_119, qr_117_120, qr_117_123, qr_117_126, qr_117_127, qr_117_128, qr_117_131, qr_117_134, qr_117_137, true_and, and_true, false_and, and_false, Option.bind_some, Option.toList_some, Option.toList_none, List.nil_append, List.cons_append, if_true, if_false, ite_true, ite_false, not_true_eq_false, not_false_eq_true, qn_lt0, qn_ge0, qn_lt, qn_le, qn_eq, qn_e0, qn_gt0, qn_le0, qn_m1, nI_add, pk_mul, qb_e0, Classical.not_not, Nat.reduceEqDiff, Nat.reduceLT, Nat.reduceLeDiff, Nat.not_lt_zero, Nat.zero_le, qs_LA_isWithin, g1, g2, g3, g4, g5, r5, r6, b1]
  exact c1
theorem qs_LA_lasting (ha : K a = (0, 0)) (r4 : R a 4 = some c) (r5 : R a 5 = some p) (r6 : R a 6 = some t) (hA : qj_A K I R c q nk pm T ni fs hd) (hP : qp_PR K R p c) (hQ : qp_PR K R t c) (hpt : t + 16 ≤ p ∨ p + 16 ≤ t) (ht : t + 16 ≤ 204) (hs : qz_sep t c q) (hS : qp_PS I p s) (hk : k < nk) (hg : qs_g s (fun k => nI (pm k)) k = true) : ∃ I', qa_ex (d + 4) 126 [qa_a (some a), qa_i (nI k)] (K, I, R, n, z) = some (some (qa_i (nI (qF_la (qF_lg s k (pm k)) 200 0))), (K, I', R, n, z)) ∧ qz_fr t 16 I I' := by
  have p0 := hP.1
  have t0 := hQ.1
  have hC := hA.1
  have c0 := hC.1.1
  have c7 := hC.1.2.2.2.2.2.2.2
  have u0 := hC.2.1.1
  have k10 := hC.2.2.2.2.1
  have hk10 : k < 10 := by omega
  have hs1 := (hQ.2.2.2.2.2.2.2.2.2.2.2.2.2.2.2.2 k hk10).1
  have hfc : ∀ {f g : Nat → Int32} {x : Int32}, (∀ j, j < 9 → f j = g j) → ∀ j, j < 9 → qf_pas f x j = qf_pas g x j := fun h j hj => qf_pas_c h hj
  have loop : ∀ j m, m + j = 200 → ∀ I0, qz_fr t 16 I I0 → (∀ i, i < 9 → I0 (t + 6 + k) i = qF_sd s k m i) → ∃ I', qa_run (d + 3) 126 59 [qa_a (some a), qa_i (nI k), qa_a (some (t + 6 + k)), qa_i (nI (pm k)), qa_i (nI m)] [] [] (K, I0, R, n, z) = some (some (qa_i (nI (qF_la (qF_lg s k (pm k)) j m))), (K, I', R, n, z)) ∧ qz_fr t 16 I I' := by
    intro j
    induction j with
    | zero =>
      intro m hm I0 h0 h1
      have hm : m = 200 := by omega
      subst hm
      refine ⟨I0, ?_, h0⟩
      rw [qr_126_59]
      simp (disch := first | assumption | omega | exact Or.inl rfl | exact Or.inr rfl | exact qb_01) only [qr_126_0, qr_126_1, qr_126_4, qr_126_5, qr_126_8, qr_126_11, qr_126_12, qr_126_15, qr_126_16, qr_126_19, qr_126_22, qr_126_23, qr_126_24, qr_126_25, qr_126_28, qr_126_29, qr_126_32, qr_126_35, qr_126_36, qr_126_39, qr_126_40, qr_126_43, qr_126_44, qr_126_45, qr_126_48, qr_126_51, qr_126_52, qr_126_55, qr_126_56, qr_126_57, qr_126_61, qr_126_64, qr_126_67, qr_126_68, qr_126_69, qr_126_72, qr_126_75, qr_126_77, qr_126_78, qr_126_79, qr_126_80, qr_126_83, qr_126_84, qr_126_85, qr_126_88, qr_126_91, qr_126_93, qr_126_94, qr_126_97, qr_126_100, qr_126_103, true_and, and_true, false_and, and_false, Option.bind_some, Option.toList_some, Option.toList_none, List.nil_append, List.cons_append, if_true, if_false, ite_true, ite_false, not_true_eq_false, not_false_eq_true, qn_lt0, qn_ge0, qn_lt, qn_le, qn_eq, qn_e0, qn_gt0, qn_le0, qn_m1, nI_add, pk_mul, qb_e0, Classical.not_not, Nat.le_refl]
      rfl
    | succ j ih =>
      intro m hm I0 h0 h1
      have e1 : ¬ 200 ≤ m := by omega
      have hp6 : I0 p 6 = s 0 := by rw [h0 p (by omega)]; exact hS.1
      obtain ⟨I1, hI1⟩ : ∃ I1, I1 = va_up I0 (t + 6 + k) (qf_pas (I0 (t + 6 + k)) (s 0 + nI (m + 1))) := ⟨_, rfl⟩
      have h2 : ∀ i, i < 9 → I1 (t + 6 + k) i = qF_sd s k (m + 1) i := fun i hi => by
        rw [hI1, qa_up_s]
        exact hfc h1 i hi
      have f1 : qz_fr t 16 I I1 := by rw [hI1]; exact qz_fr_t h0 (qz_fr_u (by omega) (by omega))
      have ea : s 0 + nI m + nI 1 = s 0 + nI (m + 1) := by rw [Int32.add_assoc, nI_add]
      have hrc := qs_SS_reaches (d := d + 1) (I := I1) (R := R) (n := n) (z := z) (x := nI (pm k)) hs1
      rw [h2 0 (by omega), h2 1 (by omega)] at hrc
      unfold qF_la
      rw [show qF_lg s k (pm k) (m + 1) = qf_mst (qF_sd s k (m + 1) 0) (qF_sd s k (m + 1) 1) (nI (pm k)) from rfl]
      by_cases hm1 : qf_mst (qF_sd s k (m + 1) 0) (qF_sd s k (m + 1) 1) (nI (pm k)) = true
      · obtain ⟨I2, c1, c2⟩ := ih (m + 1) (by omega) I1 f1 h2
        refine ⟨I2, ?_, c2⟩
        rw [if_pos hm1, qr_126_59]
        simp (disch := first | assumption | omega | exact Or.inl rfl | exact Or.inr rfl | exact qb_01) only [qr_126_0, qr_126_1, qr_126_4, qr_126_5, qr_126_8, qr_126_11, qr_126_12, qr_126_15, qr_126_16, qr_126_19, qr_126_22, qr_126_23, qr_126_24, qr_126_25, qr_126_28, qr_126_29, qr_126_32, qr_126_35, qr_126_36, qr_126_39, qr_126_40, qr_126_43, qr_126_44, qr_126_45, qr_126_48, qr_126_51, qr_126_52, qr_126_55, qr_126_56, qr_126_57, qr_126_61, qr_126_64, qr_126_67, qr_126_68, qr_126_69, qr_126_72, qr_126_75, qr_126_77, qr_126_78, qr_126_79, qr_126_80, qr_126_83, qr_126_84, qr_126_85, qr_126_88, qr_126_91, qr_126_93, qr_126_94, qr_126_97, qr_126_100, qr_126_103, true_and, and_true, false_and, and_false, Option.bind_some, Option.toList_some, Option.toList_none, List.nil_append, List.cons_append, if_true, if_false, ite_true, ite_false, not_true_eq_false, not_false_eq_true, qn_lt0, qn_ge0, qn_lt, qn_le, qn_eq, qn_e0, qn_gt0, qn_le0, qn_m1, nI_add, pk_mul, qb_e0, Classical.not_not, e1, r5, qs_PR_day, hp6, ea, qs_SS_passTo, ← hI1, hrc, hm1]
        exact c1
      · refine ⟨I1, ?_, f1⟩
        rw [if_neg hm1, qr_126_59]
        simp (disch := first | assumption | omega | exact Or.inl rfl | exact Or.inr rfl | exact qb_01) only [qr_126_0, qr_126_1, qr_126_4, qr_126_5, qr_126_8, qr_126_11, qr_126_12, qr_126_15, qr_126_16, qr_126_19, qr_126_22, qr_126_23, qr_126_24, qr_126_25, qr_126_28, qr_126_29, qr_126_32, qr_126_35, qr_126_36, qr_126_39, qr_126_40, qr_126_43, qr_126_44, qr_126_45, qr_126_48, qr_126_51, qr_126_52, qr_126_55, qr_126_56, qr_126_57, qr_126_61, qr_126_64, qr_126_67, qr_126_68, qr_126_69, qr_126_72, qr_126_75, qr_126_77, qr_126_78, qr_126_79, qr_126_80, qr_126_83, qr_126_84, qr_126_85, qr_126_88, qr_126_91, qr_126_93, qr_126_94, qr_126_97, qr_126_100, qr_126_103, true_and, and_true, false_and, and_false, Option.bind_some, Option.toList_some, Option.toList_none, List.nil_append, List.cons_append, if_true, if_false, ite_true, ite_false, not_true_eq_false, not_false_eq_true, qn_lt0, qn_ge0, qn_lt, qn_le, qn_eq, qn_e0, qn_gt0, qn_le0, qn_m1, nI_add, pk_mul, qb_e0, Classical.not_not, e1, r5, qs_PR_day, hp6, ea, qs_SS_passTo, ← hI1, hrc, eq_false hm1]
  obtain ⟨I1, b1, b2, b3⟩ := qs_PR_copyFrom (d := d + 1) (n := n) (z := z) hQ hP (by omega) hS
  obtain ⟨I2, c1, c2⟩ := loop 200 0 (by omega) I1 b2 (fun i hi => b3.2.1 k i hk10 hi)
  have hC1 := qw_C_fr hC b2 hs
  have e2 : ¬ nk ≤ k := by omega
  refine ⟨I2, ?_, c2⟩
  simp (disch := first | assumption | omega | exact Or.inl rfl | exact Or.inr rfl | exact qb_01) only [qe_126, qr_126_0, qr_126_1, qr_126_4, qr_126_5, qr_126_8, qr_126_11, qr_126_12, qr_126_15, qr_126_16, qr_126_19, qr_126_22, qr_126_23, qr_126_24, qr_126_25, qr_126_28, qr_126_29, qr_126_32, qr_126_35, qr_126_36, qr_126_39, qr_126_40, qr_126_43, qr_126_44, qr_126_45, qr_126_48, qr_126_51, qr_126_52, qr_126_55, qr_126_56, qr_126_57, qr_126_61, qr_126_64, qr_126_67, qr_126_68, qr_126_69, qr_126_72, qr_126_75, qr_126_77, qr_126_78, qr_126_79, qr_126_80, qr_126_83, qr_126_84, qr_126_85, qr_126_88, qr_126_91, qr_126_93, qr_126_94, qr_126_97, qr_126_100, qr_126_103, true_and, and_true, false_and, and_false, Option.bind_some, Option.toList_some, Option.toList_none, List.nil_append, List.cons_append, if_true, if_false, ite_true, ite_false, not_true_eq_false, not_false_eq_true, qn_lt0, qn_ge0, qn_lt, qn_le, qn_eq, qn_e0, qn_gt0, qn_le0, qn_m1, nI_add, pk_mul, qb_e0, Classical.not_not, Nat.reduceEqDiff, Nat.reduceLT, Nat.reduceLeDiff, Nat.not_lt_zero, Nat.zero_le, r4, r5, r6, qs_CO_hasSkill hC, e2, qs_PR_isMastered2 hP hC hS hk, hg, b1, qs_PR_stateOf hQ hk10, qs_CO_curriculum, c7, qs_CU_passMark hC1.2.1 hC1.2.2.1 k10 hk, (hC1.2.2.2.2.2.1 k hk).1]
  exact c1
theorem qs_LA_replayed (ha : K a = (0, 0)) (r4 : R a 4 = some c) (r6 : R a 6 = some t) (r7 : R a 7 = some b) (hA : qj_A K I R c q nk pm T ni fs hd) (hQ : qp_PR K R t c) (hL : qp_LG K R b v) (hpt : t + 16 ≤ b ∨ b + 19 ≤ t) (hs : qz_sep t c q) (hS : qp_LS I b f g el er bs) (he : ∀ j, j < g → el j ≤ ni ∧ (er j = 0 ∨ er j = 1)) (hk : k < nk) (hw : w = 0 ∨ w = 1) : ∃ I', qa_ex (d + 7) 138 [qa_a (some a), qa_i (nI k), qa_i (nI w)] (K, I, R, n, z) = some (some (qa_i (qF_rep nk pm T fs el er bs g (1 + 9 * k + w))), (K, I', R, n, z)) ∧ qz_fr t 16 I I' := by
  have t0 := hQ.1
  have l0 := hL.1
  have hC := hA.1
  have k10 := hC.2.2.2.2.1
  have hk10 : k < 10 := by omega
  have hs1 := (hQ.2.2.2.2.2.2.2.2.2.2.2.2.2.2.2.2 k hk10).1
  have c0 := hC.1.1
  have e2 : ¬ nk ≤ k := by omega
  have e3 : ¬ 1 < w := by omega
  obtain ⟨I1, b1, b2, b3⟩ := qs_LG_replayInto (d := d) (n := n) (z := z) hL hS hC hQ hpt hs he
  refine ⟨I1, ?_, b2⟩
  rcases hw with hw | hw
  · subst hw
    simp (disch := first | assumption | omega | exact Or.inl rfl | exact Or.inr rfl | exact qb_01) only [qe_138, qr_138_0, qr_138_1, qr_138_4, qr_138_5, qr_138_8, qr_138_11, qr_138_12, qr_138_13, qr_138_14, qr_138_15, qr_138_16, qr_138_19, qr_138_22, qr_138_24, qr_138_25, qr_138_26, qr_138_29, qr_138_30, qr_138_33, qr_138_36, qr_138_37, qr_138_40, qr_138_41, qr_138_44, qr_138_45, qr_138_46, qr_138_47, qr_138_50, qr_138_51, qr_138_54, qr_138_57, qr_138_58, qr_138_61, true_and, and_true, false_and, and_false, Option.bind_some, Option.toList_some, Option.toList_none, List.nil_append, List.cons_append, if_true, if_false, ite_true, ite_false, not_true_eq_false, not_false_eq_true, qn_lt0, qn_ge0, qn_lt, qn_le, qn_eq, qn_e0, qn_gt0, qn_le0, qn_m1, nI_add, pk_mul, qb_e0, Classical.not_not, Nat.reduceEqDiff, Nat.reduceLT, Nat.reduceLeDiff, Nat.not_lt_zero, Nat.zero_le, qs_LA_isWithin, r4, r6, r7, qs_CO_hasSkill hC, e2, e3, b1, qs_PR_stateOf hQ hk10, qs_SS_evidenceFor, qs_SS_evidenceAgainst, b3.2.1 k 0 hk10 (by omega)]
  · subst hw
    simp (disch := first | assumption | omega | exact Or.inl rfl | exact Or.inr rfl | exact qb_01) only [qe_138, qr_138_0, qr_138_1, qr_138_4, qr_138_5, qr_138_8, qr_138_11, qr_138_12, qr_138_13, qr_138_14, qr_138_15, qr_138_16, qr_138_19, qr_138_22, qr_138_24, qr_138_25, qr_138_26, qr_138_29, qr_138_30, qr_138_33, qr_138_36, qr_138_37, qr_138_40, qr_138_41, qr_138_44, qr_138_45, qr_138_46, qr_138_47, qr_138_50, qr_138_51, qr_138_54, qr_138_57, qr_138_58, qr_138_61, true_and, and_true, false_and, and_false, Option.bind_some, Option.toList_some, Option.toList_none, List.nil_append, List.cons_append, if_true, if_false, ite_true, ite_false, not_true_eq_false, not_false_eq_true, qn_lt0, qn_ge0, qn_lt, qn_le, qn_eq, qn_e0, qn_gt0, qn_le0, qn_m1, nI_add, pk_mul, qb_e0, Classical.not_not, Nat.reduceEqDiff, Nat.reduceLT, Nat.reduceLeDiff, Nat.not_lt_zero, Nat.zero_le, qs_LA_isWithin, r4, r6, r7, qs_CO_hasSkill hC, e2, e3, b1, qs_PR_stateOf hQ hk10, qs_SS_evidenceFor, qs_SS_evidenceAgainst, b3.2.1 k 1 hk10 (by omega)]
end Q54
