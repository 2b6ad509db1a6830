/-! What changes a Progress. -/
def qz_fr (p w : Nat) (I I' : Nat → Nat → Int32) : Prop := ∀ a, (a < p ∨ p + w ≤ a) → I' a = I a
def qz_sep (p c q : Nat) : Prop := (c + 3 ≤ p ∨ p + 16 ≤ c) ∧ (q + 4 ≤ p ∨ p + 16 ≤ q)
def qs_sk (s : Nat → Int32) (k : Nat) : Nat → Int32 := fun j => s (1 + 9 * k + j)
def qs_put (s : Nat → Int32) (k : Nat) (g : Nat → Int32) : Nat → Int32 := fun i => if 1 + 9 * k ≤ i ∧ i < 10 + 9 * k then g (i - (1 + 9 * k)) else s i
theorem qz_fr_r {p w : Nat} {I : Nat → Nat → Int32} : qz_fr p w I I := fun _ _ => rfl
theorem qz_fr_t {p w : Nat} {I J L : Nat → Nat → Int32} (h1 : qz_fr p w I J) (h2 : qz_fr p w J L) : qz_fr p w I L := fun a ha => (h2 a ha).trans (h1 a ha)
theorem qz_fr_u {p w a : Nat} {I : Nat → Nat → Int32} {f : Nat → Int32} (h1 : p ≤ a) (h2 : a < p + w) : qz_fr p w I (va_up I a f) := fun e he => qa_up_n _ _ (by omega)
theorem qs_put_at {s g : Nat → Int32} {k j : Nat} (hj : j < 9) : qs_put s k g (1 + 9 * k + j) = g j := by
  unfold qs_put
  rw [if_pos (by omega)]
  congr 1
  omega
theorem qs_put_ne {s g : Nat → Int32} {k i : Nat} (h : i < 1 + 9 * k ∨ 10 + 9 * k ≤ i) : qs_put s k g i = s i := by
  unfold qs_put
  rw [if_neg (by omega)]
theorem qp_PS_sk {I : Nat → Nat → Int32} {p k : Nat} {s f g : Nat → Int32} (h : qp_PS I p s) (hk : k < 10) (hf : ∀ j, j < 9 → f j = g j) : qp_PS (va_up I (p + 6 + k) f) p (qs_put s k g) := by
  obtain ⟨h1, h2, h3⟩ := h
  refine ⟨?_, fun k' j hk' hj => ?_, fun i hi => ?_⟩
  · rw [qa_up_n _ _ (by omega), qs_put_ne (by omega)]; exact h1
  · by_cases e : k' = k
    · subst e
      rw [qa_up_s, qs_put_at hj]; exact hf j hj
    · rw [qa_up_n _ _ (by omega), qs_put_ne (by omega)]; exact h2 k' j hk' hj
  · obtain ⟨g1, g2, g3⟩ := h3 i hi
    rw [qa_up_n _ _ (by omega), qa_up_n _ _ (by omega), qa_up_n _ _ (by omega), qs_put_ne (by omega), qs_put_ne (by omega), qs_put_ne (by omega)]
    exact ⟨g1, g2, g3⟩
theorem qp_PS_day {I : Nat → Nat → Int32} {p : Nat} {s : Nat → Int32} {x : Int32} (h : qp_PS I p s) : qp_PS (va_up I p (va_up (I p) 6 x)) p (va_up s 0 x) := by
  obtain ⟨h1, h2, h3⟩ := h
  refine ⟨?_, fun k' j hk' hj => ?_, fun i hi => ?_⟩
  · rw [qa_up_s, qa_up_s, qa_up_s]
  · rw [qa_up_n _ _ (by omega), qa_up_n _ _ (by omega)]; exact h2 k' j hk' hj
  · obtain ⟨g1, g2, g3⟩ := h3 i hi
    rw [qa_up_n _ _ (by omega), qa_up_n _ _ (by omega), qa_up_n _ _ (by omega), qa_up_n _ _ (by omega), qa_up_n _ _ (by omega), qa_up_n _ _ (by omega)]
    exact ⟨g1, g2, g3⟩
theorem qp_PS_it {I : Nat → Nat → Int32} {p w i : Nat} {s : Nat → Int32} {x : Int32} (h : qp_PS I p s) (hw : w < 3) (hi : i < 12) : qp_PS (va_up I (p + 2 + w) (va_up (I (p + 2 + w)) i x)) p (va_up s (91 + 3 * i + w) x) := by
  obtain ⟨h1, h2, h3⟩ := h
  refine ⟨?_, fun k' j hk' hj => ?_, fun i' hi' => ?_⟩
  · rw [qa_up_n _ _ (by omega), qa_up_n _ _ (by omega)]; exact h1
  · rw [qa_up_n _ _ (by omega), qa_up_n _ _ (by omega)]; exact h2 k' j hk' hj
  · obtain ⟨g1, g2, g3⟩ := h3 i' hi'
    by_cases e : i' = i
    · subst e
      rcases (show w = 0 ∨ w = 1 ∨ w = 2 by omega) with rfl | rfl | rfl
      · refine ⟨?_, ?_, ?_⟩
        · rw [qa_up_s, qa_up_s]; exact (qa_up_s _ _ _).symm
        · rw [qa_up_n _ _ (by omega), qa_up_n _ _ (by omega)]; exact g2
        · rw [qa_up_n _ _ (by omega), qa_up_n _ _ (by omega)]; exact g3
      · refine ⟨?_, ?_, ?_⟩
        · rw [qa_up_n _ _ (by omega), qa_up_n _ _ (by omega)]; exact g1
        · rw [show p + 2 + 1 = p + 3 by omega, qa_up_s, qa_up_s, show 91 + 3 * i' + 1 = 92 + 3 * i' by omega, qa_up_s]
        · rw [qa_up_n _ _ (by omega), qa_up_n _ _ (by omega)]; exact g3
      · refine ⟨?_, ?_, ?_⟩
        · rw [qa_up_n _ _ (by omega), qa_up_n _ _ (by omega)]; exact g1
        · rw [qa_up_n _ _ (by omega), qa_up_n _ _ (by omega)]; exact g2
        · rw [show p + 2 + 2 = p + 4 by omega, qa_up_s, qa_up_s, show 91 + 3 * i' + 2 = 93 + 3 * i' by omega, qa_up_s]
    · have key : ∀ u, u < 3 → va_up I (p + 2 + w) (va_up (I (p + 2 + w)) i x) (p + 2 + u) i' = I (p + 2 + u) i' := by
        intro u hu
        by_cases e2 : u = w
        · subst e2
          rw [qa_up_s, qa_up_n _ _ e]
        · rw [qa_up_n _ _ (by omega)]
      have k0 := key 0 (by omega)
      have k1 := key 1 (by omega)
      have k2 := key 2 (by omega)
      rw [show p + 2 + 1 = p + 3 by omega] at k1
      rw [show p + 2 + 2 = p + 4 by omega] at k2
      rw [show p + 2 + 0 = p + 2 by omega] at k0
      rw [k0, k1, k2, qa_up_n _ _ (by omega), qa_up_n _ _ (by omega), qa_up_n _ _ (by omega)]
      exact ⟨g1, g2, g3⟩
theorem qw_C_fr {K : Nat → Nat × Nat} {I I' : Nat → Nat → Int32} {R : Nat → Nat → Option Nat} {p c q nk ni : Nat} {ps rq : Nat → Int32} {fs hd : Nat → Nat} (hC : qw_C K I R c q nk ps rq ni fs hd) (hf : qz_fr p 16 I I') (hs : qz_sep p c q) : qw_C K I' R c q nk ps rq ni fs hd := by
  obtain ⟨h1, h2, h3, h4, h5, h6, h7, h8, h9⟩ := hC
  obtain ⟨s1, s2⟩ := hs
  have f0 := hf c (by omega)
  have f1 := hf (c + 1) (by omega)
  have f2 := hf (c + 2) (by omega)
  have f3 := hf q (by omega)
  have f4 := hf (q + 1) (by omega)
  have f5 := hf (q + 2) (by omega)
  refine ⟨h1, h2, by rw [f3]; exact h3, h4, h5, fun k hk => by rw [f4, f5]; exact h6 k hk, by rw [f0]; exact h7, h8, fun i hi => by rw [f1, f2]; exact h9 i hi⟩
theorem qf_giv_c {w j : Nat} {f g : Nat → Int32} {x : Int32} (hw : w < 2) (h : ∀ j, j < 9 → f j = g j) (hj : j < 9) : qf_giv w f x j = qf_giv w g x j := by
  unfold qf_giv va_up
  rw [h w (by omega), h (5 + w) (by omega), h 7 (by omega), h j hj]
theorem qf_pr1_c {j : Nat} {f g : Nat → Int32} {x : Int32} (h : ∀ j, j < 9 → f j = g j) (hj : j < 9) : qf_pr1 f x j = qf_pr1 g x j := by
  have h2 := qf_giv_c (w := 0) (x := nI 16) (f := va_up f 4 x) (g := va_up g 4 x) (by omega) (fun j hj => by unfold va_up; rw [h j hj]) hj
  unfold qf_pr1
  generalize qf_giv 0 (va_up f 4 x) (nI 16) = F at h2 ⊢
  generalize qf_giv 0 (va_up g 4 x) (nI 16) = G at h2 ⊢
  unfold va_up
  rw [h2, h 2 (by omega)]
theorem qf_pr0_c {j : Nat} {f g : Nat → Int32} {x : Int32} (h : ∀ j, j < 9 → f j = g j) (hj : j < 9) : qf_pr0 f x j = qf_pr0 g x j := by
  have h2 := qf_giv_c (w := 1) (x := nI 16) (f := va_up f 4 x) (g := va_up g 4 x) (by omega) (fun j hj => by unfold va_up; rw [h j hj]) hj
  unfold qf_pr0
  generalize qf_giv 1 (va_up f 4 x) (nI 16) = F at h2 ⊢
  generalize qf_giv 1 (va_up g 4 x) (nI 16) = G at h2 ⊢
  unfold va_up
  rw [h2]
theorem qf_pas_c {j : Nat} {f g : Nat → Int32} {x : Int32} (h : ∀ j, j < 9 → f j = g j) (hj : j < 9) : qf_pas f x j = qf_pas g x j := by
  unfold qf_pas
  rw [h 4 (by omega), h 2 (by omega)]
  split
  · exact h j hj
  · unfold va_up
    rw [h 0 (by omega), h 1 (by omega), h 8 (by omega), h j hj]
/-- the next day -/
def qF_pas (s : Nat → Int32) : Nat → Nat → Int32
  | 0 => va_up s 0 (s 0 + nI 1)
  | k + 1 => qs_put (qF_pas s k) k (qf_pas (qs_sk (qF_pas s k) k) (qF_pas s k 0))
/-- an answer: to the skills that are needed -/
def qF_an1 (r : Nat) (rq mb : Int32) (s : Nat → Int32) (o : Nat) : Nat → Int32 :=
  if (rq >>> (nI o &&& 31)) &&& nI 1 = nI 1 then (if r = 1 then qs_put s o (qf_giv 0 (qs_sk s o) (nI 4)) else if (mb >>> (nI o &&& 31)) &&& nI 1 = 0 then qs_put s o (qf_giv 1 (qs_sk s o) (nI 4)) else s) else s
def qF_anl (r : Nat) (rq mb : Int32) (s : Nat → Int32) : Nat → Nat → Int32
  | 0 => s
  | o + 1 => qF_an1 r rq mb (qF_anl r rq mb s o) o
def qF_cnt (r i : Nat) (s : Nat → Int32) : Nat → Int32 := va_up (va_up s (if r = 1 then 91 + 3 * i else 92 + 3 * i) (s (if r = 1 then 91 + 3 * i else 92 + 3 * i) + nI 1)) (93 + 3 * i) (s 0)
def qF_mb (nk : Nat) (ps s : Nat → Int32) : Int32 := qf_ms (fun k => qf_mst (s (1 + 9 * k + 0)) (s (1 + 9 * k + 1)) (ps k)) nk
def qF_ans (nk : Nat) (ps rq : Nat → Int32) (r k i : Nat) (s : Nat → Int32) : Nat → Int32 :=
  qF_cnt r i (qF_anl r (rq k) (qF_mb nk ps s) (qs_put s k (if r = 1 then qf_pr1 (qs_sk s k) (s 0) else qf_pr0 (qs_sk s k) (s 0))) nk)
theorem qf_ms_c {f g : Nat → Bool} : ∀ {m : Nat}, (∀ k, k < m → f k = g k) → qf_ms f m = qf_ms g m := by
  intro m
  induction m with
  | zero => intro _; rfl
  | succ m ih =>
    intro h
    have h1 := ih (fun k hk => h k (by omega))
    show (if _ then _ else _) = (if _ then _ else _)
    rw [h1, h m (by omega)]
section Q22
variable {d a b : Nat} {K : Nat → Nat × Nat} {I : Nat → Nat → Int32} {R : Nat → Nat → Option Nat} {n z : Nat} {x y : Int32} {h : qa_H} {p c q nk ni k i : Nat} {ps rq s : Nat → Int32} {fs hd : Nat → Nat}
theorem qs_PR_passDay (hP : qp_PR K R p c) (hC : qw_C K I R c q nk ps rq ni fs hd) (hs : qz_sep p c q) (hS : qp_PS I p s) : ∃ I', qa_ex (d + 3) 76 [qa_a (some p)] (K, I, R, n, z) = some (none, (K, I', R, n, z)) ∧ qz_fr p 16 I I' ∧ qp_PS I' p (qF_pas s nk) := by
  have p0 := hP.1
  have r0 := hP.2.2.2.2.2.2.2.2.2.2.1
  have hst := hP.2.2.2.2.2.2.2.2.2.2.2.2.2.2.2.2
  have h10 := hC.2.2.2.2.1
  have loop : ∀ j k I, k + j = nk → qw_C K I R c q nk ps rq ni fs hd → qp_PS I p (qF_pas s k) → ∃ I', qa_run (d + 2) 76 12 [qa_a (some p), qa_i (nI k)] [] [] (K, I, R, n, z) = some (none, (K, I', R, n, z)) ∧ qz_fr p 16 I I' ∧ qp_PS I' p (qF_pas s nk) := by
    intro j
    induction j with
    | zero =>
      intro k I hk hC hS
      have c0 := hC.1.1
      have hk : k = nk := by omega
      subst hk
      rw [qr_76_12]
      simp (disch := first | assumption | omega | exact Or.inl rfl | exact Or.inr rfl | exact qb_01) only [qr_76_0, qr_76_1, qr_76_2, qr_76_5, qr_76_6, qr_76_7, qr_76_10, qr_76_11, qr_76_13, qr_76_14, qr_76_17, qr_76_20, qr_76_23, qr_76_24, qr_76_25, qr_76_28, qr_76_29, qr_76_32, qr_76_35, qr_76_38, qr_76_41, true_and, and_true, false_and, and_false, Option.bind_some, Option.toList_some, Option.toList_none, List.nil_append, List.cons_append, if_true, if_false, ite_true, ite_false, not_true_eq_false, not_false_eq_true, qn_lt0, qn_ge0, qn_lt, qn_le, qn_eq, qn_e0, qn_gt0, qn_le0, qn_m1, nI_add, pk_mul, qb_e0, Classical.not_not, r0, qs_CO_skills hC, Nat.le_refl]
      exact ⟨I, rfl, qz_fr_r, hS⟩
    | succ j ih =>
      intro k I hk hC hS
      have c0 := hC.1.1
      have e1 : ¬ nk ≤ k := by omega
      have hk10 : k < 10 := by omega
      have hs1 := (hst k hk10).1
      have hfr : qz_fr p 16 I (va_up I (p + 6 + k) (qf_pas (I (p + 6 + k)) (I p 6))) := qz_fr_u (by omega) (by omega)
      obtain ⟨I', g1, g2, g3⟩ := ih (k + 1) (va_up I (p + 6 + k) (qf_pas (I (p + 6 + k)) (I p 6))) (by omega) (qw_C_fr hC hfr hs) (qp_PS_sk hS hk10 (fun j hj => by rw [hS.1]; exact qf_pas_c (fun j hj => hS.2.1 k j hk10 hj) hj))
      refine ⟨I', ?_, qz_fr_t hfr g2, g3⟩
      rw [qr_76_12]
      simp (disch := first | assumption | omega | exact Or.inl rfl | exact Or.inr rfl | exact qb_01) only [qr_76_0, qr_76_1, qr_76_2, qr_76_5, qr_76_6, qr_76_7, qr_76_10, qr_76_11, qr_76_13, qr_76_14, qr_76_17, qr_76_20, qr_76_23, qr_76_24, qr_76_25, qr_76_28, qr_76_29, qr_76_32, qr_76_35, qr_76_38, qr_76_41, true_and, and_true, false_and, and_false, Option.bind_some, Option.toList_some, Option.toList_none, List.nil_append, List.cons_append, if_true, if_false, ite_true, ite_false, not_true_eq_false, not_false_eq_true, qn_lt0, qn_ge0, qn_lt, qn_le, qn_eq, qn_e0, qn_gt0, qn_le0, qn_m1, nI_add, pk_mul, qb_e0, Classical.not_not, r0, qs_CO_skills hC, e1, qs_PR_stateOf hP hk10, qs_SS_passTo hs1, g1]
  have hfr : qz_fr p 16 I (va_up I p (va_up (I p) 6 (I p 6 + nI 1))) := qz_fr_u (by omega) (by omega)
  obtain ⟨I', g1, g2, g3⟩ := loop nk 0 (va_up I p (va_up (I p) 6 (I p 6 + nI 1))) (by omega) (qw_C_fr hC hfr hs) (by show qp_PS _ p (va_up s 0 (s 0 + nI 1)); rw [← hS.1]; exact qp_PS_day hS)
  refine ⟨I', ?_, qz_fr_t hfr g2, g3⟩
  simp (disch := first | assumption | omega | exact Or.inl rfl | exact Or.inr rfl | exact qb_01) only [qe_76, qr_76_0, qr_76_1, qr_76_2, qr_76_5, qr_76_6, qr_76_7, qr_76_10, qr_76_11, qr_76_13, qr_76_14, qr_76_17, qr_76_20, qr_76_23, qr_76_24, qr_76_25, qr_76_28, qr_76_29, qr_76_32, qr_76_35, qr_76_38, qr_76_41, true_and, and_true, false_and, and_false, Option.bind_some, Option.toList_some, Option.toList_none, List.nil_append, List.cons_append, if_true, if_false, ite_true, ite_false, not_true_eq_false, not_false_eq_true, g1]
theorem qs_PR_countAnswer (hP : qp_PR K R p c) (hS : qp_PS I p s) (hi : i < 12) {r : Nat} (hr : r = 0 ∨ r = 1) : ∃ I', qa_ex (d + 1) 71 [qa_a (some p), qa_i (nI i), qa_i (nI r)] (K, I, R, n, z) = some (none, (K, I', R, n, z)) ∧ qz_fr p 16 I I' ∧ qp_PS I' p (qF_cnt r i s) := by
  obtain ⟨p0, p1, p2, p3, p4, p5, p6, p7, p8, p9, r0, r1, r2, r3, r4, r5, hs⟩ := hP
  have h3 := hS.2.2 i hi
  have e6 : ¬ p + 2 = p := by omega
  rcases hr with rfl | rfl
  · refine ⟨va_up (va_up I (p + 2 + 1) (va_up (I (p + 2 + 1)) i (I (p + 3) i + nI 1))) (p + 2 + 2) (va_up (va_up I (p + 2 + 1) (va_up (I (p + 2 + 1)) i (I (p + 3) i + nI 1)) (p + 2 + 2)) i (I p 6)), ?_, qz_fr_t (qz_fr_u (by omega) (by omega)) (qz_fr_u (by omega) (by omega)), ?_⟩
    · simp (disch := first | assumption | omega | exact Or.inl rfl | exact Or.inr rfl | exact qb_01) only [qe_71, qr_71_0, qr_71_1, qr_71_4, qr_71_5, qr_71_7, qr_71_10, qr_71_11, qr_71_12, qr_71_15, qr_71_16, qr_71_19, qr_71_20, qr_71_21, qr_71_22, qr_71_23, qr_71_24, qr_71_25, qr_71_28, qr_71_29, qr_71_32, qr_71_33, qr_71_34, qr_71_35, qr_71_36, qr_71_37, qr_71_38, qr_71_39, qr_71_42, qr_71_43, qr_71_44, qr_71_47, qr_71_48, true_and, and_true, false_and, and_false, Option.bind_some, Option.toList_some, Option.toList_none, List.nil_append, List.cons_append, if_true, if_false, ite_true, ite_false, not_true_eq_false, not_false_eq_true, qn_lt0, qn_ge0, qn_lt, qn_le, qn_eq, qn_e0, qn_gt0, qn_le0, qn_m1, nI_add, pk_mul, qb_e0, Classical.not_not, qa_up_s, qa_up_n, qa_uu, r2, r3, r4]
      rw [if_pos hi]
    · have g := qp_PS_it (i := i) (w := 2) (x := I p 6) (qp_PS_it (i := i) (w := 1) (x := I (p + 3) i + nI 1) hS (by omega) hi) (by omega) hi
      rw [h3.2.1, hS.1, show 91 + 3 * i + 1 = 92 + 3 * i by omega, show 91 + 3 * i + 2 = 93 + 3 * i by omega] at g
      rw [h3.2.1, hS.1]
      exact g
  · refine ⟨va_up (va_up I (p + 2 + 0) (va_up (I (p + 2 + 0)) i (I (p + 2) i + nI 1))) (p + 2 + 2) (va_up (va_up I (p + 2 + 0) (va_up (I (p + 2 + 0)) i (I (p + 2) i + nI 1)) (p + 2 + 2)) i (I p 6)), ?_, qz_fr_t (qz_fr_u (by omega) (by omega)) (qz_fr_u (by omega) (by omega)), ?_⟩
    · simp (disch := first | assumption | omega | exact Or.inl rfl | exact Or.inr rfl | exact qb_01) only [qe_71, qr_71_0, qr_71_1, qr_71_4, qr_71_5, qr_71_7, qr_71_10, qr_71_11, qr_71_12, qr_71_15, qr_71_16, qr_71_19, qr_71_20, qr_71_21, qr_71_22, qr_71_23, qr_71_24, qr_71_25, qr_71_28, qr_71_29, qr_71_32, qr_71_33, qr_71_34, qr_71_35, qr_71_36, qr_71_37, qr_71_38, qr_71_39, qr_71_42, qr_71_43, qr_71_44, qr_71_47, qr_71_48, true_and, and_true, false_and, and_false, Option.bind_some, Option.toList_some, Option.toList_none, List.nil_append, List.cons_append, if_true, if_false, ite_true, ite_false, not_true_eq_false, not_false_eq_true, qn_lt0, qn_ge0, qn_lt, qn_le, qn_eq, qn_e0, qn_gt0, qn_le0, qn_m1, nI_add, pk_mul, qb_e0, Classical.not_not, qa_up_s, qa_up_n, qa_uu, r2, r3, r4, Nat.one_ne_zero, Nat.add_zero]
      rw [if_pos hi]
    · have g := qp_PS_it (i := i) (w := 2) (x := I p 6) (qp_PS_it (i := i) (w := 0) (x := I (p + 2) i + nI 1) hS (by omega) hi) (by omega) hi
      rw [h3.1, hS.1, show 91 + 3 * i + 2 = 93 + 3 * i by omega] at g
      rw [h3.1, hS.1]
      exact g
end Q22
