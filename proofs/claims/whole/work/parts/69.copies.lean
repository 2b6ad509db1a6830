/-! Copies, what is kept, what is logged. -/
theorem qp_MC_cg {c c' : Nat → Int32} {nk ni : Nat} {pm fs hd : Nat → Nat} {T : Nat → qt_T} (h : qp_MC c nk pm T ni fs hd) (he : ∀ i, i < 556 → c' i = c i) : qp_MC c' nk pm T ni fs hd := by
  obtain ⟨c1, c2, c3, c4, c5, c6, c7, c8, c9⟩ := h
  exact ⟨by rw [he 0 (by omega)]; exact c1, c2, c3, by rw [he 1 (by omega)]; exact c4, c5, fun k hk => by rw [he _ (by omega)]; exact c6 k hk, fun k hk => by rw [he _ (by omega)]; exact ⟨qt_M_up (fun i h1 h2 => he i (by omega)) (c7 k hk).1, (c7 k hk).2⟩, c8, fun i hi => by rw [he _ (by omega), he _ (by omega)]; exact c9 i hi⟩
theorem qj_A_g {K K' : Nat → Nat × Nat} {I I' : Nat → Nat → Int32} {R R' : Nat → Nat → Option Nat} {c q nk ni : Nat} {pm fs hd : Nat → Nat} {T : Nat → qt_T} (h : qj_A K I R c q nk pm T ni fs hd) (hc : ∀ a, c ≤ a → a < c + 3 → K' a = K a ∧ I' a = I a ∧ R' a = R a) (hq : ∀ a, q ≤ a → a < q + 4 → K' a = K a ∧ I' a = I a ∧ R' a = R a) (ht : ∀ a, 204 ≤ a → K a = (10, 0) → K' a = K a ∧ I' a = I a ∧ R' a = R a) : qj_A K' I' R' c q nk pm T ni fs hd := by
  obtain ⟨⟨⟨a1, a2, a3, a4, a5, a6, a7, a8⟩, ⟨u0, u1, u2, u3, u4, u5, u6, v0, v1, v2⟩, h3, h4, h5, h6, h7, h8, h9⟩, hT, hw⟩ := h
  obtain ⟨x1, x2, x3⟩ := hc c (by omega) (by omega)
  obtain ⟨x4, x5, x6⟩ := hc (c + 1) (by omega) (by omega)
  obtain ⟨x7, x8, x9⟩ := hc (c + 2) (by omega) (by omega)
  obtain ⟨y1, y2, y3⟩ := hq q (by omega) (by omega)
  obtain ⟨y4, y5, y6⟩ := hq (q + 1) (by omega) (by omega)
  obtain ⟨y7, y8, y9⟩ := hq (q + 2) (by omega) (by omega)
  obtain ⟨w1, w2, w3⟩ := hq (q + 3) (by omega) (by omega)
  refine ⟨⟨⟨by rw [x1]; exact a1, by rw [x4]; exact a2, by rw [x4]; exact a3, by rw [x7]; exact a4, by rw [x7]; exact a5, by rw [x3]; exact a6, by rw [x3]; exact a7, by rw [x3]; exact a8⟩, ⟨by rw [y1]; exact u0, by rw [y4]; exact u1, by rw [y4]; exact u2, by rw [y7]; exact u3, by rw [y7]; exact u4, by rw [w1]; exact u5, by rw [w1]; exact u6, by rw [y3]; exact v0, by rw [y3]; exact v1, by rw [y3]; exact v2⟩, by rw [y2]; exact h3, h4, h5, fun k hk => by rw [y5, y8]; exact h6 k hk, by rw [x2]; exact h7, h8, fun i hi => by rw [x5, x8]; exact h9 i hi⟩, fun k hk => ?_, hw⟩
  rw [w3]
  exact ⟨qt_C_cg ht (hT k hk).1, (hT k hk).2⟩
/-- a course's copy -/
def qI_p (I : Nat → Nat → Int32) (c c2 : Nat) : Nat → Nat → Int32 := va_up (va_up (va_up I c (va_up (I c) 2 (I c2 2))) (c + 1) (va_cpy (I (c2 + 1)) (I (c + 1)) 0 0 12)) (c + 2) (va_cpy (I (c2 + 2)) (I (c + 2)) 0 0 12)
def qR_p (R : Nat → Nat → Option Nat) (c c2 : Nat) : Nat → Nat → Option Nat := va_up R c (va_up (R c) 3 (R c2 3))
theorem qI_p_n {I : Nat → Nat → Int32} {c c2 a : Nat} (h : a < c ∨ c + 3 ≤ a) : qI_p I c c2 a = I a := by
  unfold qI_p
  rw [qa_up_n _ _ (by omega), qa_up_n _ _ (by omega), qa_up_n _ _ (by omega)]
theorem qR_p_n {R : Nat → Nat → Option Nat} {c c2 a : Nat} (h : a ≠ c) : qR_p R c c2 a = R a := qa_up_n _ _ h
theorem qj_A_cp {K : Nat → Nat × Nat} {I : Nat → Nat → Int32} {R : Nat → Nat → Option Nat} {c c2 q nk ni : Nat} {pm fs hd : Nat → Nat} {T : Nat → qt_T} (h : qj_A K I R c2 q nk pm T ni fs hd) (hC : qC0 K R c) (hcc : c + 3 ≤ c2 ∨ c2 + 3 ≤ c) (hq : q + 4 ≤ c ∨ c + 3 ≤ q) (hc : c + 3 ≤ 204) : qj_A K (qI_p I c c2) (qR_p R c c2) c q nk pm T ni fs hd := by
  obtain ⟨⟨⟨a1, a2, a3, a4, a5, a6, a7, a8⟩, ⟨u0, u1, u2, u3, u4, u5, u6, v0, v1, v2⟩, h3, h4, h5, h6, h7, h8, h9⟩, hT, hw⟩ := h
  obtain ⟨b1, b2, b3, b4, b5, b6, b7⟩ := hC
  have rq : ∀ a, a ≠ c → qR_p R c c2 a = R a := fun a ha => qR_p_n ha
  have rc : qR_p R c c2 c = va_up (R c) 3 (R c2 3) := qa_up_s _ _ _
  have i0 : qI_p I c c2 c = va_up (I c) 2 (I c2 2) := by unfold qI_p; rw [qa_up_n _ _ (by omega), qa_up_n _ _ (by omega), qa_up_s]
  have i1 : qI_p I c c2 (c + 1) = va_cpy (I (c2 + 1)) (I (c + 1)) 0 0 12 := by unfold qI_p; rw [qa_up_n _ _ (by omega), qa_up_s]
  have i2 : qI_p I c c2 (c + 2) = va_cpy (I (c2 + 2)) (I (c + 2)) 0 0 12 := by unfold qI_p; rw [qa_up_s]
  refine ⟨⟨⟨b1, b2, b3, b4, b5, by rw [rc, qa_up_n _ _ (by omega)]; exact b6, by rw [rc, qa_up_n _ _ (by omega)]; exact b7, by rw [rc, qa_up_s]; exact a8⟩, ⟨u0, u1, u2, u3, u4, u5, u6, by rw [rq q (by omega)]; exact v0, by rw [rq q (by omega)]; exact v1, by rw [rq q (by omega)]; exact v2⟩, by rw [qI_p_n (by omega)]; exact h3, h4, h5, fun k hk => by rw [qI_p_n (by omega), qI_p_n (by omega)]; exact h6 k hk, by rw [i0, qa_up_s]; exact h7, h8, fun i hi => ?_⟩, fun k hk => ?_, hw⟩
  · rw [i1, i2, pk_cpy_in (by omega) (by omega), pk_cpy_in (by omega) (by omega), Nat.zero_add, Nat.sub_zero]
    exact h9 i hi
  · rw [rq (q + 3) (by omega)]
    exact ⟨qt_C_cg (fun a ha _ => ⟨rfl, qI_p_n (by omega), rq a (by omega)⟩) (hT k hk).1, (hT k hk).2⟩
theorem qL_ok {g e r ni : Nat} {el er : Nat → Nat} (h : ∀ j, j < g → el j ≤ ni ∧ (er j = 0 ∨ er j = 1)) (he : e ≤ ni) (hr : r = 0 ∨ r = 1) (hg : g ≤ 60) : ∀ j, j < qL_g g → qL_e g el e j ≤ ni ∧ (qL_e g er r j = 0 ∨ qL_e g er r j = 1) := by
  intro j hj
  unfold qL_g at hj
  unfold qL_e
  by_cases h1 : g < 60
  · rw [if_pos h1] at hj
    rw [if_pos h1, if_pos h1]
    by_cases h2 : j < g
    · rw [if_pos h2, if_pos h2]; exact h j h2
    · rw [if_neg h2, if_neg h2]; exact ⟨he, hr⟩
  · rw [if_neg h1] at hj
    rw [if_neg h1, if_neg h1]
    by_cases h2 : j < 59
    · rw [if_pos h2, if_pos h2]; exact h (j + 1) (by omega)
    · rw [if_neg h2, if_neg h2]; exact ⟨he, hr⟩
theorem qL_g_le {g : Nat} (hg : g ≤ 60) : qL_g g ≤ 60 := by
  unfold qL_g
  split <;> omega
theorem qL_b_S {B nk ni g : Nat} {pm fs el er : Nat → Nat} {T : Nat → qt_T} {bs : Nat → Int32} (h : qv_S B bs) (h10 : nk ≤ 10) (he : ∀ j, j < g → el j ≤ ni ∧ (er j = 0 ∨ er j = 1)) (hfi : ∀ i, i < ni → fs i < nk) : qv_S (B + 1) (qL_b nk pm T fs g el er bs) := by
  unfold qL_b
  split
  · exact qv_S_mono h (by omega)
  · exact qv_S_step h h10 (he 0 (by omega)).1 hfi
theorem qL_b_Z {nk ni g : Nat} {pm fs el er : Nat → Nat} {T : Nat → qt_T} {bs : Nat → Int32} (h : qv_Z bs) (h10 : nk ≤ 10) (h12 : ni ≤ 12) (he : ∀ j, j < g → el j ≤ ni ∧ (er j = 0 ∨ er j = 1)) (hfi : ∀ i, i < ni → fs i < nk) : qv_Z (qL_b nk pm T fs g el er bs) := by
  unfold qL_b
  split
  · exact h
  · exact qv_Z_step h h10 h12 (he 0 (by omega)).1 hfi
/-- rows that were kept, with one more; of six the first goes -/
def qK_n (nh : Nat) : Nat := if nh < 6 then nh + 1 else 6
def qK_P (nh : Nat) (P : Nat → Nat → Int32) (s : Nat → Int32) : Nat → Nat → Int32 := fun j => if nh < 6 then (if j < nh then P j else s) else (if j < 5 then P (j + 1) else s)
theorem qK_n_le {nh : Nat} (h : nh ≤ 6) : qK_n nh ≤ 6 := by
  unfold qK_n
  split <;> omega
theorem qK_P_all {nh : Nat} {P : Nat → Nat → Int32} {s : Nat → Int32} {C : (Nat → Int32) → Prop} (h : ∀ j, j < nh → C (P j)) (hs : C s) (hn : nh ≤ 6) : ∀ j, j < qK_n nh → C (qK_P nh P s j) := by
  intro j hj
  unfold qK_n at hj
  unfold qK_P
  by_cases h1 : nh < 6
  · rw [if_pos h1] at hj ⊢
    by_cases h2 : j < nh
    · rw [if_pos h2]; exact h j h2
    · rw [if_neg h2]; exact hs
  · rw [if_neg h1] at hj ⊢
    by_cases h2 : j < 5
    · rw [if_pos h2]; exact h _ (by omega)
    · rw [if_neg h2]; exact hs
section Q69
variable {d a b f : Nat} {K : Nat → Nat × Nat} {I : Nat → Nat → Int32} {R : Nat → Nat → Option Nat} {n z : Nat} {x y : Int32} {h : qa_H} {u nk ni k i j m B p q c e g w v r l t c2 nh nx : Nat} {s bs : Nat → Int32} {P : Nat → Nat → Int32} {fs hd pm el er : Nat → Nat} {T : Nat → qt_T}
theorem qs_CO_copyFrom (hC : qC0 K R c) (hD : qC0 K R c2) (hcc : c + 3 ≤ c2 ∨ c2 + 3 ≤ c) : qa_ex (d + 1) 156 [qa_a (some c), qa_a (some c2)] (K, I, R, n, z) = some (none, (K, qI_p I c c2, qR_p R c c2, n, z)) := by
  obtain ⟨c0, c1, c3, c4, c5, c6, c7⟩ := hC
  obtain ⟨d0, d1, d3, d4, d5, d6, d7⟩ := hD
  have x1 : va_up (R c) 3 (R c2 3) 0 = some (c + 1) := by rw [qa_up_n _ _ (by omega)]; exact c6
  have x2 : va_up (R c) 3 (R c2 3) 1 = some (c + 2) := by rw [qa_up_n _ _ (by omega)]; exact c7
  simp (disch := first | assumption | omega | exact Or.inl rfl | exact Or.inr rfl | exact qb_01) only [qe_156, qr_156_0, qr_156_1, qr_156_2, qr_156_5, qr_156_8, qr_156_9, qr_156_10, qr_156_13, qr_156_16, qr_156_17, qr_156_20, qr_156_21, qr_156_22, qr_156_25, qr_156_26, qr_156_28, qr_156_31, qr_156_32, qr_156_35, qr_156_36, qr_156_37, qr_156_40, qr_156_41, qr_156_43, qr_156_46, true_and, and_true, false_and, and_false, Option.bind_some, Option.toList_some, Option.toList_none, List.nil_append, List.cons_append, if_true, if_false, ite_true, ite_false, not_true_eq_false, not_false_eq_true, qn_lt0, qn_ge0, qn_lt, qn_le, qn_eq, qn_e0, qn_gt0, qn_le0, qn_m1, nI_add, pk_mul, qb_e0, Classical.not_not, qa_up_s, qa_up_n, qa_uu, Nat.reduceEqDiff, Nat.reduceLT, Nat.reduceLeDiff, Nat.not_lt_zero, Nat.zero_le, c6, c7, d6, d7, x1, x2, Nat.zero_add]
  rfl
theorem qs_LA_startAgain (ha : K a = (0, 0)) (r5 : R a 5 = some p) (r7 : R a 7 = some b) (r8 : R a 8 = some w) (hH : K w = (9, 0)) (hL : qp_LG K R b v) (hP : qp_PR K R p c) (hp : p + 16 ≤ b ∨ b + 19 ≤ p) (hQ : qp_PS I p s) (hw : w + 1 ≤ p ∨ p + 16 ≤ w) : ∃ I', qa_ex (d + 4) 38 [qa_a (some a)] (K, I, R, n, z) = some (none, (K, I', R, n, z)) ∧ (∀ e, e ≠ w → (e < b ∨ b + 19 ≤ e) → I' e = I e) ∧ (w < b ∨ b + 19 ≤ w → I' w = va_up (I w) 2 (nI 0)) ∧ ∀ el er, qp_LS I' b 0 0 el er s := by
  obtain ⟨I0, hI0⟩ : ∃ I0, I0 = va_up I w (va_up (I w) 2 (nI 0)) := ⟨_, rfl⟩
  have hQ0 : qp_PS I0 p s := qp_PS_cg hQ (fun a h1 h2 => by rw [hI0, qa_up_n _ _ (by omega)])
  obtain ⟨I1, a1, a2, a3⟩ := qs_LG_startAt (d := d) (n := n) (z := z) hL hP hp hQ0
  have l0 := hL.1
  refine ⟨I1, ?_, fun e h1 h2 => by rw [a2 e h2, hI0, qa_up_n _ _ h1], fun h1 => by rw [a2 w h1, hI0, qa_up_s], a3⟩
  simp (disch := first | assumption | omega | exact Or.inl rfl | exact Or.inr rfl | exact qb_01) only [qe_38, qr_38_0, qr_38_1, qr_38_4, qr_38_7, qr_38_8, qr_38_11, qr_38_12, qr_38_15, qr_38_18, true_and, and_true, false_and, and_false, Option.bind_some, Option.toList_some, Option.toList_none, List.nil_append, List.cons_append, if_true, if_false, ite_true, ite_false, not_true_eq_false, not_false_eq_true, qn_lt0, qn_ge0, qn_lt, qn_le, qn_eq, qn_e0, qn_gt0, qn_le0, qn_m1, nI_add, pk_mul, qb_e0, Classical.not_not, r5, r7, r8, qs_HI_clear, ← hI0, a1]
theorem qs_MO_keeps2 (hM : qp_MO K R u) (hc : I u 4 = nI nh) (h6 : nh ≤ 6) (hP : ∀ j, j < nh → ∀ i, i < 127 → I (u + 4) (127 * j + i) = P j i) : ∃ I', qa_ex (d + 1) 180 [qa_a (some u)] (K, I, R, n, z) = some (none, (K, I', R, n, z)) ∧ (∀ a, a ≠ u → a ≠ u + 4 → I' a = I a) ∧ (∀ f, f ≠ 4 → I' u f = I u f) ∧ I' u 4 = nI (qK_n nh) ∧ ∀ j, j < qK_n nh → ∀ i, i < 127 → I' (u + 4) (127 * j + i) = qK_P nh P (I (u + 1)) j i := by
  unfold qK_n qK_P
  by_cases h1 : nh < 6
  · have e1 := qs_MO_keeps (d := d) (n := n) (z := z) hM hc h1
    refine ⟨_, e1, fun a g1 g2 => by rw [qa_up_n _ _ g1, qa_up_n _ _ g2], fun f hf => by rw [qa_up_s, qa_up_n _ _ hf], by rw [qa_up_s, qa_up_s, if_pos h1], fun j hj i hi => ?_⟩
    rw [if_pos h1] at hj
    rw [qa_up_n _ _ (by omega), qa_up_s, if_pos h1]
    unfold qf_st
    by_cases h2 : j < nh
    · rw [if_pos h2, if_neg (by omega)]
      exact hP j h2 i hi
    · have h3 : j = nh := by omega
      subst h3
      rw [if_neg h2, if_pos (by omega), show 127 * j + i - 127 * j = i by omega]
  · have h3 : nh = 6 := by omega
    subst h3
    have e1 := qs_MO_keeps6 (d := d) (n := n) (z := z) hM hc
    refine ⟨_, e1, fun a g1 g2 => by rw [qa_up_n _ _ g1, qa_up_n _ _ g2], fun f hf => by rw [qa_up_s, qa_up_n _ _ hf], by rw [qa_up_s, qa_up_s, if_neg h1], fun j hj i hi => ?_⟩
    rw [if_neg h1] at hj
    rw [qa_up_n _ _ (by omega), qa_up_s, if_neg h1]
    unfold qf_st
    by_cases h2 : j < 5
    · rw [if_pos h2, if_neg (by omega)]
      unfold qf_sh
      rw [if_pos (by omega), show 127 * j + i + 127 = 127 * (j + 1) + i by omega]
      exact hP (j + 1) (by omega) i hi
    · have h4 : j = 5 := by omega
      subst h4
      rw [if_neg h2, if_pos (by omega), show 127 * 5 + i - 635 = i by omega]
theorem qs_MO_logs2 (hM : qp_MO K R u) (hC : qp_MC (I (u + 5)) nk pm T ni fs hd) (hB : B < 1000000) (hv : qv_S B (I (u + 2))) (hZs : qv_Z (I (u + 1))) (hZb : qv_Z (I (u + 2))) (hZa : qv_Z (I (u + 3))) (hg : I u 12 = nI g) (hg60 : g ≤ 60) (hl : ∀ j, j < g → I (u + 9) j = qe_v (el j) ∧ I (u + 10) j = nI (er j)) (he : ∀ j, j < g → el j ≤ ni ∧ (er j = 0 ∨ er j = 1)) :
    ∃ I', qa_ex (d + 17) 181 [qa_a (some u), qa_i (qe_v e), qa_i (nI r)] (K, I, R, n, z) = some (none, (K, I', R, n, z)) ∧ I' (u + 1) = I (u + 1) ∧ I' (u + 2) = qL_b nk pm T fs g el er (I (u + 2)) ∧ qv_Z (I' (u + 3)) ∧ I' u 12 = nI (qL_g g) ∧ (∀ j, j < qL_g g → I' (u + 9) j = qe_v (qL_e g el e j) ∧ I' (u + 10) j = nI (qL_e g er r j)) ∧ (∀ f, f ≠ 12 → I' u f = I u f) ∧ ∀ a, a ≠ u → a ≠ u + 1 → a ≠ u + 2 → a ≠ u + 3 → a ≠ u + 9 → a ≠ u + 10 → I' a = I a := by
  unfold qL_b qL_g qL_e
  by_cases h1 : g < 60
  · have e1 := qs_MO_logs (d := d) (n := n) (z := z) (x := qe_v e) (y := nI r) hM hg h1
    refine ⟨_, e1, ?_, ?_, ?_, by rw [qa_up_s, qa_up_s, if_pos h1], fun j hj => ?_, fun f hf => by rw [qa_up_s, qa_up_n _ _ hf], fun a g1 g2 g3 g4 g5 g6 => by rw [qa_up_n _ _ g1, qa_up_n _ _ g6, qa_up_n _ _ g5]⟩
    · rw [qa_up_n _ _ (by omega), qa_up_n _ _ (by omega), qa_up_n _ _ (by omega)]
    · rw [if_pos h1, qa_up_n _ _ (by omega), qa_up_n _ _ (by omega), qa_up_n _ _ (by omega)]
    · rw [qa_up_n _ _ (by omega), qa_up_n _ _ (by omega), qa_up_n _ _ (by omega)]; exact hZa
    · rw [if_pos h1] at hj
      rw [if_pos h1, if_pos h1, qa_up_n _ _ (show u + 9 ≠ u by omega), qa_up_n _ _ (show u + 9 ≠ u + 10 by omega), qa_up_s, qa_up_n _ _ (show u + 10 ≠ u by omega), qa_up_s]
      by_cases h2 : j < g
      · rw [if_pos h2, if_pos h2, qa_up_n _ _ (by omega), qa_up_n _ _ (by omega)]
        exact hl j h2
      · have h3 : j = g := by omega
        subst h3
        rw [if_neg h2, if_neg h2, qa_up_s, qa_up_s]
        exact ⟨rfl, rfl⟩
  · have h3 : g = 60 := by omega
    subst h3
    obtain ⟨I', q1, q2, q3, q4, q5, q6, q7, q8⟩ := qs_MO_logs60 (d := d) (n := n) (z := z) (x := qe_v e) (y := nI r) (e := el 0) (r := er 0) hM hg hC hB hv hZs hZb hZa (he 0 (by omega)).1 (he 0 (by omega)).2 (hl 0 (by omega)).1 (hl 0 (by omega)).2
    refine ⟨I', q1, q2, by rw [q3, if_neg h1], by rw [q4]; exact hZs, by rw [q7, qa_up_s, if_neg h1], fun j hj => ?_, fun f hf => by rw [q7, qa_up_n _ _ hf], q8⟩
    rw [if_neg h1] at hj
    rw [if_neg h1, if_neg h1, q5, q6]
    by_cases h2 : j < 59
    · rw [if_pos h2, if_pos h2, qa_up_n _ _ (by omega), qa_up_n _ _ (by omega)]
      unfold qf_s1
      rw [if_pos (by omega), if_pos (by omega)]
      exact hl (j + 1) (by omega)
    · have h4 : j = 59 := by omega
      subst h4
      rw [if_neg h2, if_neg h2, qa_up_s, qa_up_s]
      exact ⟨rfl, rfl⟩
end Q69
theorem qv_S_eq {B : Nat} {s t : Nat → Int32} (h : qv_S B s) (he : ∀ i, i < 127 → s i = t i) : qv_S B t := by
  obtain ⟨⟨v, h1, h2⟩, h3⟩ := h
  refine ⟨⟨v, h1, by rw [← he 0 (by omega)]; exact h2⟩, fun k hk => ?_⟩
  have := h3 k hk
  rw [he _ (by omega), he _ (by omega), he _ (by omega), he _ (by omega), he _ (by omega)] at this
  exact this
theorem qv_I_eq {ni : Nat} {s t : Nat → Int32} (h : qv_I ni s) (he : ∀ i, i < 127 → s i = t i) : qv_I ni t := fun i h1 h2 => by
  rw [← he _ (by omega), ← he _ (by omega)]
  exact h i h1 h2
theorem qv_I_step {nk ni e r : Nat} {pm fs : Nat → Nat} {T : Nat → qt_T} {s : Nat → Int32} (h : qv_I ni s) (h10 : nk ≤ 10) (he : e ≤ ni) (hf : ∀ i, i < ni → fs i < nk) : qv_I ni (qF_step nk pm T fs e r s) := by
  intro i h1 h2
  unfold qF_step
  by_cases h0 : e = 0
  · rw [if_pos h0, qF_pas_ge (by omega), qF_pas_ge (by omega)]
    exact h i h1 h2
  · rw [if_neg h0]
    unfold qF_ans qF_cnt
    have hk := hf (e - 1) (by omega)
    obtain ⟨g1, g2⟩ := h i h1 h2
    have key : ∀ j, 91 ≤ j → j < 127 → (j = 91 + 3 * i ∨ j = 92 + 3 * i) → va_up (va_up (qF_anl r (qt_rq (T (fs (e - 1)))) (qF_mb nk (fun k => nI (pm k)) s) (qs_put s (fs (e - 1)) (if r = 1 then qf_pr1 (qs_sk s (fs (e - 1))) (s 0) else qf_pr0 (qs_sk s (fs (e - 1))) (s 0))) nk) (if r = 1 then 91 + 3 * (e - 1) else 92 + 3 * (e - 1)) (qF_anl r (qt_rq (T (fs (e - 1)))) (qF_mb nk (fun k => nI (pm k)) s) (qs_put s (fs (e - 1)) (if r = 1 then qf_pr1 (qs_sk s (fs (e - 1))) (s 0) else qf_pr0 (qs_sk s (fs (e - 1))) (s 0))) nk (if r = 1 then 91 + 3 * (e - 1) else 92 + 3 * (e - 1)) + nI 1)) (93 + 3 * (e - 1)) (qF_anl r (qt_rq (T (fs (e - 1)))) (qF_mb nk (fun k => nI (pm k)) s) (qs_put s (fs (e - 1)) (if r = 1 then qf_pr1 (qs_sk s (fs (e - 1))) (s 0) else qf_pr0 (qs_sk s (fs (e - 1))) (s 0))) nk 0) j = s j := by
      intro j j1 j2 j3
      rw [qa_up_n _ _ (by omega), qa_up_n _ _ (by split <;> omega), qF_anl_n (by omega) h10, qs_put_ne (by omega)]
    exact ⟨(key _ (by omega) (by omega) (Or.inl rfl)).trans g1, (key _ (by omega) (by omega) (Or.inr rfl)).trans g2⟩
