/-! The class keeps and takes back: a ring of six. -/
theorem qn_mod6 : ∀ v, v < 13 → nI v - nI v / nI 6 * nI 6 = nI (v % 6) := by decide +kernel
def qp_HI (K : Nat → Nat × Nat) (R : Nat → Nat → Option Nat) (w : Nat) : Prop := K w = (9, 0) ∧ (K (w + 1)).1 = 102 ∧ (K (w + 1)).2 = 6 ∧ R w 0 = some (w + 1) ∧ ∀ j, j < 6 → R (w + 1) j = some (w + 2 + 16 * j) ∧ ∃ c, qp_PR K R (w + 2 + 16 * j) c
def qp_HS (I : Nat → Nat → Int32) (w nx sz : Nat) (P : Nat → Nat → Int32) : Prop := I w 1 = nI nx ∧ nx < 6 ∧ I w 2 = nI sz ∧ sz ≤ 6 ∧ ∀ j, j < sz → qp_PS I (w + 2 + 16 * ((nx + 6 - sz + j) % 6)) (P j)
theorem qp_PS_cg {I I' : Nat → Nat → Int32} {p : Nat} {s : Nat → Int32} (h : qp_PS I p s) (he : ∀ a, p ≤ a → a < p + 16 → I' a = I a) : qp_PS I' p s := by
  obtain ⟨h1, h2, h3⟩ := h
  refine ⟨?_, fun k j hk hj => ?_, fun i hi => ?_⟩
  · rw [he p (by omega) (by omega)]; exact h1
  · rw [he (p + 6 + k) (by omega) (by omega)]; exact h2 k j hk hj
  · rw [he (p + 2) (by omega) (by omega), he (p + 3) (by omega) (by omega), he (p + 4) (by omega) (by omega)]; exact h3 i hi
section Q44
variable {d a b f : Nat} {K : Nat → Nat × Nat} {I : Nat → Nat → Int32} {R : Nat → Nat → Option Nat} {n z : Nat} {x y : Int32} {h : qa_H} {u nk ni k i j m B p q c e g w nx sz : Nat} {s : Nat → Int32} {P : Nat → Nat → Int32}
theorem qs_HI_push (hH : qp_HI K R w) (hS : qp_HS I w nx sz P) (hP : qp_PR K R b e) (hb : b + 16 ≤ w ∨ w + 98 ≤ b) (hs : qp_PS I b s) : ∃ I', qa_ex (d + 3) 56 [qa_a (some w), qa_a (some b)] (K, I, R, n, z) = some (none, (K, I', R, n, z)) ∧ qz_fr w 98 I I' ∧ qp_HS I' w ((nx + 1) % 6) (if sz < 6 then sz + 1 else 6) (fun j => if sz < 6 then (if j < sz then P j else s) else (if j < 5 then P (j + 1) else s)) := by
  obtain ⟨w0, w1, w2, w3, w4⟩ := hH
  obtain ⟨n1, n2, n3, n4, n5⟩ := hS
  obtain ⟨w5, c, w6⟩ := w4 nx n2
  obtain ⟨I1, q1, q2, q3⟩ := qs_PR_copyFrom (d := d) (n := n) (z := z) w6 hP (by omega) hs
  have hp0 := w6.1
  have n6 : ¬ nI 6 = 0 := by decide
  have hm := qn_mod6 (nx + 1) (by omega)
  have h1 : I1 w = I w := q2 w (Or.inl (by omega))
  have hmin : qf_min (nI (sz + 1)) (nI 6) = nI (if sz < 6 then sz + 1 else 6) := by
    unfold qf_min
    simp (disch := omega) only [qn_lt]
    by_cases h6 : sz < 6
    · rw [if_pos h6, if_neg (by omega)]
    · rw [if_neg h6, if_pos (by omega)]
  obtain ⟨I2, hI2⟩ : ∃ I2, I2 = va_up I1 w (va_up (va_up (I1 w) 1 (nI ((nx + 1) % 6))) 2 (nI (if sz < 6 then sz + 1 else 6))) := ⟨_, rfl⟩
  have hfr : ∀ a, (a < w ∨ w + 98 ≤ a) → I2 a = I a := fun a ha => by
    rw [hI2, qa_up_n _ _ (by omega)]
    exact q2 a (by omega)
  refine ⟨I2, ?_, hfr, ?_, Nat.mod_lt _ (by omega), ?_, ?_, ?_⟩
  · simp (disch := first | assumption | omega | exact Or.inl rfl | exact Or.inr rfl | exact qb_01) only [qe_56, qr_56_0, qr_56_1, qr_56_4, qr_56_5, qr_56_8, qr_56_9, qr_56_10, qr_56_13, qr_56_14, qr_56_15, qr_56_18, qr_56_19, qr_56_20, qr_56_22, qr_56_23, qr_56_26, qr_56_27, qr_56_28, qr_56_31, qr_56_32, qr_56_33, qr_56_35, qr_56_38, qr_56_41, true_and, and_true, false_and, and_false, Option.bind_some, Option.toList_some, Option.toList_none, List.nil_append, List.cons_append, if_true, if_false, ite_true, ite_false, not_true_eq_false, not_false_eq_true, qn_lt0, qn_ge0, qn_lt, qn_le, qn_eq, qn_e0, qn_gt0, qn_le0, qn_m1, nI_add, pk_mul, qb_e0, Classical.not_not, qa_up_s, qa_up_n, qa_uu, w3, w5, n1, n3, q1, h1, hm, qs_MA_min, hmin]
    rw [hI2, h1]
  · rw [hI2, qa_up_s, qa_up_n _ _ (by omega), qa_up_s]
  · rw [hI2, qa_up_s, qa_up_s]
  · by_cases h6 : sz < 6
    · rw [if_pos h6]; omega
    · rw [if_neg h6]; omega
  · intro j hj
    have hne : ∀ t, t < 6 → t ≠ nx → ∀ r, qp_PS I (w + 2 + 16 * t) r → qp_PS I2 (w + 2 + 16 * t) r := fun t ht htn r hr => qp_PS_cg hr (fun a h1 h2 => by
      rw [hI2, qa_up_n _ _ (by omega)]
      exact q2 a (by omega))
    have hnw : qp_PS I2 (w + 2 + 16 * nx) s := qp_PS_cg q3 (fun a h1 h2 => by rw [hI2, qa_up_n _ _ (by omega)])
    by_cases h6 : sz < 6
    · simp only [if_pos h6] at hj ⊢
      by_cases hj2 : j < sz
      · rw [if_pos hj2, show ((nx + 1) % 6 + 6 - (sz + 1) + j) % 6 = (nx + 6 - sz + j) % 6 by omega]
        exact hne _ (by omega) (by omega) _ (n5 j hj2)
      · rw [if_neg hj2, show ((nx + 1) % 6 + 6 - (sz + 1) + j) % 6 = nx by omega]
        exact hnw
    · simp only [if_neg h6] at hj ⊢
      by_cases hj2 : j < 5
      · rw [if_pos hj2, show ((nx + 1) % 6 + 6 - 6 + j) % 6 = (nx + 6 - sz + (j + 1)) % 6 by omega]
        exact hne _ (by omega) (by omega) _ (n5 (j + 1) (by omega))
      · rw [if_neg hj2, show ((nx + 1) % 6 + 6 - 6 + j) % 6 = nx by omega]
        exact hnw
theorem qs_HI_popInto (hH : qp_HI K R w) (hS : qp_HS I w nx (g + 1) P) (hP : qp_PR K R b e) (hb : b + 16 ≤ w ∨ w + 98 ≤ b) : ∃ I', qa_ex (d + 3) 154 [qa_a (some w), qa_a (some b)] (K, I, R, n, z) = some (none, (K, I', R, n, z)) ∧ (∀ a, a ≠ w → (a < b ∨ b + 16 ≤ a) → I' a = I a) ∧ qp_PS I' b (P g) ∧ qp_HS I' w ((nx + 5) % 6) g P := by
  obtain ⟨w0, w1, w2, w3, w4⟩ := hH
  obtain ⟨n1, n2, n3, n4, n5⟩ := hS
  obtain ⟨w5, c, w6⟩ := w4 ((nx + 5) % 6) (by omega)
  have hpg := n5 g (by omega)
  rw [show (nx + 6 - (g + 1) + g) % 6 = (nx + 5) % 6 by omega] at hpg
  obtain ⟨I0, hI0⟩ : ∃ I0, I0 = va_up I w (va_up (va_up (I w) 1 (nI ((nx + 5) % 6))) 2 (nI g)) := ⟨_, rfl⟩
  have hpg0 : qp_PS I0 (w + 2 + 16 * ((nx + 5) % 6)) (P g) := qp_PS_cg hpg (fun a h1 h2 => by rw [hI0, qa_up_n _ _ (by omega)])
  obtain ⟨I1, q1, q2, q3⟩ := qs_PR_copyFrom (d := d) (n := n) (z := z) hP w6 (by omega) hpg0
  have hp0 := hP.1
  have n6 : ¬ nI 6 = 0 := by decide
  have hm := qn_mod6 (nx + 5) (by omega)
  have hs1 : nI (nx + 6) - nI 1 = nI (nx + 5) := qn_sub (by omega)
  have hs2 : nI (g + 1) - nI 1 = nI g := qn_sub (by omega)
  have hg0 : ¬ g + 1 ≤ 0 := by omega
  have hg1 : ¬ g + 1 = 0 := by omega
  have h1w : I1 w = I0 w := q2 w (by omega)
  have h01 : I0 w 1 = nI ((nx + 5) % 6) := by rw [hI0, qa_up_s, qa_up_n _ _ (by omega), qa_up_s]
  refine ⟨I1, ?_, fun a h1 h2 => ?_, q3, ?_, Nat.mod_lt _ (by omega), ?_, by omega, fun j hj => ?_⟩
  · simp (disch := first | assumption | omega | exact Or.inl rfl | exact Or.inr rfl | exact qb_01) only [qe_154, qr_154_0, qr_154_1, qr_154_4, qr_154_7, qr_154_8, qr_154_9, qr_154_12, qr_154_14, qr_154_15, qr_154_16, qr_154_17, qr_154_19, qr_154_20, qr_154_23, qr_154_24, qr_154_25, qr_154_28, qr_154_29, qr_154_30, qr_154_33, qr_154_34, qr_154_35, qr_154_38, qr_154_39, qr_154_42, qr_154_43, qr_154_46, true_and, and_true, false_and, and_false, Option.bind_some, Option.toList_some, Option.toList_none, List.nil_append, List.cons_append, if_true, if_false, ite_true, ite_false, not_true_eq_false, not_false_eq_true, qn_lt0, qn_ge0, qn_lt, qn_le, qn_eq, qn_e0, qn_gt0, qn_le0, qn_m1, nI_add, pk_mul, qb_e0, Classical.not_not, qa_up_s, qa_up_n, qa_uu, w3, w5, n1, n3, hs1, hs2, hm, hg0, hg1, ← hI0, h01, q1]
  · rw [q2 a h2, hI0, qa_up_n _ _ h1]
  · rw [h1w, hI0, qa_up_s, qa_up_n _ _ (by omega), qa_up_s]
  · rw [h1w, hI0, qa_up_s, qa_up_s]
  · have hpj := n5 j (by omega)
    rw [show (nx + 6 - (g + 1) + j) % 6 = ((nx + 5) % 6 + 6 - g + j) % 6 by omega] at hpj
    exact qp_PS_cg hpj (fun a h1 h2 => by rw [q2 a (by omega), hI0, qa_up_n _ _ (by omega)])
end Q44
