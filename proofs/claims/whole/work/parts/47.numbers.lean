/-! Numbers: greatest common divisors, bits. -/
theorem qn_gcd (x y : Nat) : Nat.gcd x y = Nat.gcd y (x % y) := by
  rw [Nat.gcd_comm x y, Nat.gcd_rec y x, Nat.gcd_comm (x % y) y]
theorem qn_half {x y k : Nat} (h : y < 2 ^ (k + 1)) (h0 : ¬ y = 0) (h1 : ¬ x % y = 0) : y % (x % y) < 2 ^ k := by
  have a1 : x % y < y := Nat.mod_lt x (by omega)
  have a2 : y % (x % y) < x % y := Nat.mod_lt y (by omega)
  have a3 := Nat.div_add_mod y (x % y)
  have a4 : 1 ≤ y / (x % y) := Nat.div_pos (by omega) (by omega)
  have a5 := Nat.mul_le_mul_left (x % y) a4
  rw [Nat.mul_one] at a5
  rw [Nat.pow_succ] at h
  omega
def qn_pop : Nat → Nat → Nat
  | 0, _ => 0
  | f + 1, v => if v = 0 then 0 else qn_pop f (v &&& (v - 1)) + 1
theorem qn_pop_s : ∀ v, v < 1024 → ¬ v = 0 → (v &&& (v - 1)) < v ∧ qn_pop 10 v = qn_pop 10 (v &&& (v - 1)) + 1 := by decide +kernel
theorem qn_pop_i : ∀ v, v < 1024 → ¬ v = 0 → nI v &&& (nI v - nI 1) = nI (v &&& (v - 1)) := by decide +kernel
theorem qf_ms_v10 : ∀ b0 b1 b2 b3 b4 b5 b6 b7 b8 b9 : Bool, qf_ms (qf_l10 b0 b1 b2 b3 b4 b5 b6 b7 b8 b9) 10 = nI (b0.toNat + 2 * b1.toNat + 4 * b2.toNat + 8 * b3.toNat + 16 * b4.toNat + 32 * b5.toNat + 64 * b6.toNat + 128 * b7.toNat + 256 * b8.toNat + 512 * b9.toNat) := by decide +kernel
theorem qf_ms_v {g : Nat → Bool} {nk : Nat} (h10 : nk ≤ 10) : ∃ v, v < 1024 ∧ qf_ms g nk = nI v := by
  have e1 := qf_ms_ext (g := g) (nk := nk) (j := 10 - nk)
  rw [show nk + (10 - nk) = 10 by omega] at e1
  have e2 := qf_ms_congr (g := fun i => decide (i < nk) && g i) (n := 10) (g' := _) (fun i hi => (qf_l10_g (g := fun i => decide (i < nk) && g i) i hi).symm)
  rw [e1, qf_ms_v10] at e2
  refine ⟨_, ?_, e2⟩
  have hb : ∀ b : Bool, b.toNat ≤ 1 := fun b => by cases b <;> decide
  have h0 := hb (decide (0 < nk) && g 0)
  have h1 := hb (decide (1 < nk) && g 1)
  have h2 := hb (decide (2 < nk) && g 2)
  have h3 := hb (decide (3 < nk) && g 3)
  have h4 := hb (decide (4 < nk) && g 4)
  have h5 := hb (decide (5 < nk) && g 5)
  have h6 := hb (decide (6 < nk) && g 6)
  have h7 := hb (decide (7 < nk) && g 7)
  have h8 := hb (decide (8 < nk) && g 8)
  have h9 := hb (decide (9 < nk) && g 9)
  omega
section Q47
variable {d a b f : Nat} {K : Nat → Nat × Nat} {I : Nat → Nat → Int32} {R : Nat → Nat → Option Nat} {n z : Nat} {x y : Int32} {h : qa_H} {u nk ni k i j m B p q c e g w v r lv : Nat}
theorem qs_LA_gcd (ha : a < 2147483648) (hb : b < 2147483648) : qa_ex (d + 1) 86 [qa_i (nI a), qa_i (nI b)] h = some (some (qa_i (nI (Nat.gcd a b))), h) := by
  have loop : ∀ k i x y l5, x < 2147483648 → y < 2147483648 → y < 2 ^ k → i + 2 * k ≤ 64 → qa_run d 86 7 [qa_i (nI a), qa_i (nI b), qa_i (nI x), qa_i (nI y), qa_i (nI i), l5] [] [] h = some (some (qa_i (nI (Nat.gcd x y))), h) := by
    intro k
    induction k with
    | zero =>
      intro i x y l5 hx hy hk hi
      have h0 : y = 0 := by rw [Nat.pow_zero] at hk; omega
      subst h0
      rw [qr_86_7]
      simp (disch := first | assumption | omega | exact Or.inl rfl | exact Or.inr rfl | exact qb_01) only [qr_86_0, qr_86_1, qr_86_2, qr_86_3, qr_86_4, qr_86_5, qr_86_9, qr_86_11, qr_86_14, qr_86_15, qr_86_18, qr_86_19, qr_86_20, qr_86_21, qr_86_23, qr_86_24, qr_86_25, qr_86_27, qr_86_28, qr_86_31, qr_86_34, qr_86_35, true_and, and_true, false_and, and_false, Option.bind_some, Option.toList_some, Option.toList_none, List.nil_append, List.cons_append, if_true, if_false, ite_true, ite_false, not_true_eq_false, not_false_eq_true, qn_lt0, qn_ge0, qn_lt, qn_le, qn_eq, qn_e0, qn_gt0, qn_le0, qn_m1, nI_add, pk_mul, qb_e0, Classical.not_not, Nat.gcd_zero_right, ite_self]
    | succ k ih =>
      intro i x y l5 hx hy hk hi
      have e1 : ¬ 64 ≤ i := by omega
      have e2 : ¬ 64 ≤ i + 1 := by omega
      by_cases h0 : y = 0
      · subst h0
        rw [qr_86_7]
        simp (disch := first | assumption | omega | exact Or.inl rfl | exact Or.inr rfl | exact qb_01) only [qr_86_0, qr_86_1, qr_86_2, qr_86_3, qr_86_4, qr_86_5, qr_86_9, qr_86_11, qr_86_14, qr_86_15, qr_86_18, qr_86_19, qr_86_20, qr_86_21, qr_86_23, qr_86_24, qr_86_25, qr_86_27, qr_86_28, qr_86_31, qr_86_34, qr_86_35, true_and, and_true, false_and, and_false, Option.bind_some, Option.toList_some, Option.toList_none, List.nil_append, List.cons_append, if_true, if_false, ite_true, ite_false, not_true_eq_false, not_false_eq_true, qn_lt0, qn_ge0, qn_lt, qn_le, qn_eq, qn_e0, qn_gt0, qn_le0, qn_m1, nI_add, pk_mul, qb_e0, Classical.not_not, Nat.gcd_zero_right, e1]
      · have y0 : ¬ nI y = 0 := by rw [qn_e0 hy]; exact h0
        have r1 := pk_rem (a := x) (d := y) (by omega) (by omega) (by omega)
        have m1 : x % y < y := Nat.mod_lt x (by omega)
        rw [qr_86_7]
        simp (disch := first | assumption | omega | exact Or.inl rfl | exact Or.inr rfl | exact qb_01) only [qr_86_0, qr_86_1, qr_86_2, qr_86_3, qr_86_4, qr_86_5, qr_86_9, qr_86_11, qr_86_14, qr_86_15, qr_86_18, qr_86_19, qr_86_20, qr_86_21, qr_86_23, qr_86_24, qr_86_25, qr_86_27, qr_86_28, qr_86_31, qr_86_34, qr_86_35, true_and, and_true, false_and, and_false, Option.bind_some, Option.toList_some, Option.toList_none, List.nil_append, List.cons_append, if_true, if_false, ite_true, ite_false, not_true_eq_false, not_false_eq_true, qn_lt0, qn_ge0, qn_lt, qn_le, qn_eq, qn_e0, qn_gt0, qn_le0, qn_m1, nI_add, pk_mul, qb_e0, Classical.not_not, e1, h0, r1]
        rw [qn_gcd]
        by_cases h1 : x % y = 0
        · rw [h1, qr_86_7]
          simp (disch := first | assumption | omega | exact Or.inl rfl | exact Or.inr rfl | exact qb_01) only [qr_86_0, qr_86_1, qr_86_2, qr_86_3, qr_86_4, qr_86_5, qr_86_9, qr_86_11, qr_86_14, qr_86_15, qr_86_18, qr_86_19, qr_86_20, qr_86_21, qr_86_23, qr_86_24, qr_86_25, qr_86_27, qr_86_28, qr_86_31, qr_86_34, qr_86_35, true_and, and_true, false_and, and_false, Option.bind_some, Option.toList_some, Option.toList_none, List.nil_append, List.cons_append, if_true, if_false, ite_true, ite_false, not_true_eq_false, not_false_eq_true, qn_lt0, qn_ge0, qn_lt, qn_le, qn_eq, qn_e0, qn_gt0, qn_le0, qn_m1, nI_add, pk_mul, qb_e0, Classical.not_not, Nat.gcd_zero_right, e2]
        · have y1 : ¬ nI (x % y) = 0 := by rw [qn_e0 (by omega)]; exact h1
          have r2 := pk_rem (a := y) (d := x % y) (by omega) (by omega) (by omega)
          have m2 : y % (x % y) < x % y := Nat.mod_lt y (by omega)
          have e3 := ih (i + 1 + 1) (x % y) (y % (x % y)) (qa_i (nI (y % (x % y)))) (by omega) (by omega) (qn_half hk h0 h1) (by omega)
          rw [← qn_gcd] at e3
          rw [qr_86_7]
          simp (disch := first | assumption | omega | exact Or.inl rfl | exact Or.inr rfl | exact qb_01) only [qr_86_0, qr_86_1, qr_86_2, qr_86_3, qr_86_4, qr_86_5, qr_86_9, qr_86_11, qr_86_14, qr_86_15, qr_86_18, qr_86_19, qr_86_20, qr_86_21, qr_86_23, qr_86_24, qr_86_25, qr_86_27, qr_86_28, qr_86_31, qr_86_34, qr_86_35, true_and, and_true, false_and, and_false, Option.bind_some, Option.toList_some, Option.toList_none, List.nil_append, List.cons_append, if_true, if_false, ite_true, ite_false, not_true_eq_false, not_false_eq_true, qn_lt0, qn_ge0, qn_lt, qn_le, qn_eq, qn_e0, qn_gt0, qn_le0, qn_m1, nI_add, pk_mul, qb_e0, Classical.not_not, e2, h1, r2]
          exact e3
  have e1 := loop 31 0 a b qa_u ha hb hb (by omega)
  simp (disch := first | assumption | omega | exact Or.inl rfl | exact Or.inr rfl | exact qb_01) only [qe_86, qr_86_0, qr_86_1, qr_86_2, qr_86_3, qr_86_4, qr_86_5, qr_86_9, qr_86_11, qr_86_14, qr_86_15, qr_86_18, qr_86_19, qr_86_20, qr_86_21, qr_86_23, qr_86_24, qr_86_25, qr_86_27, qr_86_28, qr_86_31, qr_86_34, qr_86_35, true_and, and_true, false_and, and_false, Option.bind_some, Option.toList_some, Option.toList_none, List.nil_append, List.cons_append, if_true, if_false, ite_true, ite_false, not_true_eq_false, not_false_eq_true, qn_lt0, qn_ge0, qn_lt, qn_le, qn_eq, qn_e0, qn_gt0, qn_le0, qn_m1, nI_add, pk_mul, qb_e0, Classical.not_not]
  exact e1
theorem qs_MO_gcd (ha : a < 2147483648) (hb : b < 2147483648) : qa_ex (d + 1) 195 [qa_i (nI a), qa_i (nI b)] h = some (some (qa_i (nI (Nat.gcd a b))), h) := by
  have loop : ∀ N y x l4, y < N → x < 2147483648 → y < 2147483648 → qa_run d 195 4 [qa_i (nI a), qa_i (nI b), qa_i (nI x), qa_i (nI y), l4] [] [] h = some (some (qa_i (nI (Nat.gcd x y))), h) := by
    intro N
    induction N with
    | zero => intro y x l4 hN; omega
    | succ N ih =>
      intro y x l4 hN hx hy
      by_cases h0 : y = 0
      · subst h0
        rw [qr_195_4]
        simp (disch := first | assumption | omega | exact Or.inl rfl | exact Or.inr rfl | exact qb_01) only [qr_195_0, qr_195_1, qr_195_2, qr_195_3, qr_195_5, qr_195_8, qr_195_9, qr_195_10, qr_195_11, qr_195_13, qr_195_14, qr_195_15, qr_195_17, qr_195_18, qr_195_21, qr_195_22, true_and, and_true, false_and, and_false, Option.bind_some, Option.toList_some, Option.toList_none, List.nil_append, List.cons_append, if_true, if_false, ite_true, ite_false, not_true_eq_false, not_false_eq_true, qn_lt0, qn_ge0, qn_lt, qn_le, qn_eq, qn_e0, qn_gt0, qn_le0, qn_m1, nI_add, pk_mul, qb_e0, Classical.not_not, Nat.gcd_zero_right]
      · have y0 : ¬ nI y = 0 := by rw [qn_e0 hy]; exact h0
        have r1 := pk_rem (a := x) (d := y) (by omega) (by omega) (by omega)
        have m1 : x % y < y := Nat.mod_lt x (by omega)
        have e3 := ih (x % y) y (qa_i (nI (x % y))) (by omega) hy (by omega)
        rw [← qn_gcd] at e3
        rw [qr_195_4]
        simp (disch := first | assumption | omega | exact Or.inl rfl | exact Or.inr rfl | exact qb_01) only [qr_195_0, qr_195_1, qr_195_2, qr_195_3, qr_195_5, qr_195_8, qr_195_9, qr_195_10, qr_195_11, qr_195_13, qr_195_14, qr_195_15, qr_195_17, qr_195_18, qr_195_21, qr_195_22, true_and, and_true, false_and, and_false, Option.bind_some, Option.toList_some, Option.toList_none, List.nil_append, List.cons_append, if_true, if_false, ite_true, ite_false, not_true_eq_false, not_false_eq_true, qn_lt0, qn_ge0, qn_lt, qn_le, qn_eq, qn_e0, qn_gt0, qn_le0, qn_m1, nI_add, pk_mul, qb_e0, Classical.not_not, h0, r1]
        exact e3
  have e1 := loop (b + 1) b a qa_u (by omega) ha hb
  simp (disch := first | assumption | omega | exact Or.inl rfl | exact Or.inr rfl | exact qb_01) only [qe_195, qr_195_0, qr_195_1, qr_195_2, qr_195_3, qr_195_5, qr_195_8, qr_195_9, qr_195_10, qr_195_11, qr_195_13, qr_195_14, qr_195_15, qr_195_17, qr_195_18, qr_195_21, qr_195_22, true_and, and_true, false_and, and_false, Option.bind_some, Option.toList_some, Option.toList_none, List.nil_append, List.cons_append, if_true, if_false, ite_true, ite_false, not_true_eq_false, not_false_eq_true, qn_lt0, qn_ge0, qn_lt, qn_le, qn_eq, qn_e0, qn_gt0, qn_le0, qn_m1, nI_add, pk_mul, qb_e0, Classical.not_not]
  exact e1
theorem qs_LA_inLowestTerms (ha : a < 2147483648) (hb : b < 2147483648) (h0 : 0 < b) (hp : p = 0 ∨ p = 1) : qa_ex (d + 2) 85 [qa_i (nI a), qa_i (nI b), qa_i (nI p)] h = some (some (qa_i (nI ((if p = 0 then a else b) / Nat.gcd a b))), h) := by
  have g0 : 0 < Nat.gcd a b := Nat.gcd_pos_of_pos_right a h0
  have g1 : Nat.gcd a b ≤ b := Nat.gcd_le_right a h0
  have g2 : ¬ nI (Nat.gcd a b) = 0 := by rw [qn_e0 (by omega)]; omega
  have g3 : ¬ Nat.gcd a b = 0 := by omega
  have d1 := pk_div (a := a) (d := Nat.gcd a b) (by omega) g0 (by omega)
  have d2 := pk_div (a := b) (d := Nat.gcd a b) (by omega) g0 (by omega)
  rcases hp with hp | hp
  · subst hp
    simp (disch := first | assumption | omega | exact Or.inl rfl | exact Or.inr rfl | exact qb_01) only [qe_85, qr_85_0, qr_85_1, qr_85_2, qr_85_5, qr_85_6, qr_85_7, qr_85_10, qr_85_11, qr_85_12, qr_85_13, qr_85_16, qr_85_17, qr_85_18, qr_85_19, qr_85_22, qr_85_23, qr_85_24, qr_85_25, true_and, and_true, false_and, and_false, Option.bind_some, Option.toList_some, Option.toList_none, List.nil_append, List.cons_append, if_true, if_false, ite_true, ite_false, not_true_eq_false, not_false_eq_true, qn_lt0, qn_ge0, qn_lt, qn_le, qn_eq, qn_e0, qn_gt0, qn_le0, qn_m1, nI_add, pk_mul, qb_e0, Classical.not_not, qs_LA_gcd ha hb, g3, d1, d2]
  · subst hp
    simp (disch := first | assumption | omega | exact Or.inl rfl | exact Or.inr rfl | exact qb_01) only [qe_85, qr_85_0, qr_85_1, qr_85_2, qr_85_5, qr_85_6, qr_85_7, qr_85_10, qr_85_11, qr_85_12, qr_85_13, qr_85_16, qr_85_17, qr_85_18, qr_85_19, qr_85_22, qr_85_23, qr_85_24, qr_85_25, true_and, and_true, false_and, and_false, Option.bind_some, Option.toList_some, Option.toList_none, List.nil_append, List.cons_append, if_true, if_false, ite_true, ite_false, not_true_eq_false, not_false_eq_true, qn_lt0, qn_ge0, qn_lt, qn_le, qn_eq, qn_e0, qn_gt0, qn_le0, qn_m1, nI_add, pk_mul, qb_e0, Classical.not_not, qs_LA_gcd ha hb, g3, d1, d2, Nat.one_ne_zero]
theorem qs_MO_least (ha : a < 2147483648) (hb : b < 2147483648) (h0 : 0 < b) (hp : p = 0 ∨ p = 1) : qa_ex (d + 2) 194 [qa_i (nI a), qa_i (nI b), qa_i (nI p)] h = some (some (qa_i (nI ((if p = 0 then a else b) / Nat.gcd a b))), h) := by
  have g0 : 0 < Nat.gcd a b := Nat.gcd_pos_of_pos_right a h0
  have g1 : Nat.gcd a b ≤ b := Nat.gcd_le_right a h0
  have g2 : ¬ nI (Nat.gcd a b) = 0 := by rw [qn_e0 (by omega)]; omega
  have d1 := pk_div (a := a) (d := Nat.gcd a b) (by omega) g0 (by omega)
  have d2 := pk_div (a := b) (d := Nat.gcd a b) (by omega) g0 (by omega)
  rcases hp with hp | hp
  · subst hp
    simp (disch := first | assumption | omega | exact Or.inl rfl | exact Or.inr rfl | exact qb_01) only [qe_194, qr_194_0, qr_194_1, qr_194_2, qr_194_5, qr_194_6, qr_194_7, qr_194_10, qr_194_11, qr_194_14, qr_194_15, qr_194_16, qr_194_17, true_and, and_true, false_and, and_false, Option.bind_some, Option.toList_some, Option.toList_none, List.nil_append, List.cons_append, if_true, if_false, ite_true, ite_false, not_true_eq_false, not_false_eq_true, qn_lt0, qn_ge0, qn_lt, qn_le, qn_eq, qn_e0, qn_gt0, qn_le0, qn_m1, nI_add, pk_mul, qb_e0, Classical.not_not, qs_MO_gcd ha hb, d1, d2]
  · subst hp
    simp (disch := first | assumption | omega | exact Or.inl rfl | exact Or.inr rfl | exact qb_01) only [qe_194, qr_194_0, qr_194_1, qr_194_2, qr_194_5, qr_194_6, qr_194_7, qr_194_10, qr_194_11, qr_194_14, qr_194_15, qr_194_16, qr_194_17, true_and, and_true, false_and, and_false, Option.bind_some, Option.toList_some, Option.toList_none, List.nil_append, List.cons_append, if_true, if_false, ite_true, ite_false, not_true_eq_false, not_false_eq_true, qn_lt0, qn_ge0, qn_lt, qn_le, qn_eq, qn_e0, qn_gt0, qn_le0, qn_m1, nI_add, pk_mul, qb_e0, Classical.not_not, qs_MO_gcd ha hb, d1, d2, Nat.one_ne_zero]
theorem qs_MO_bits (hv : v < 1024) : qa_ex (d + 1) 217 [qa_i (nI v)] h = some (some (qa_i (nI (qn_pop 10 v))), h) := by
  have loop : ∀ N y m, y < N → y < 1024 → m + qn_pop 10 y < 2000 → qa_run d 217 4 [qa_i (nI v), qa_i (nI m), qa_i (nI y)] [] [] h = some (some (qa_i (nI (m + qn_pop 10 y))), h) := by
    intro N
    induction N with
    | zero => intro y m hN; omega
    | succ N ih =>
      intro y m hN hy hm
      by_cases h0 : y = 0
      · subst h0
        have z0 : qn_pop 10 0 = 0 := by decide
        rw [qr_217_4]
        simp (disch := first | assumption | omega | exact Or.inl rfl | exact Or.inr rfl | exact qb_01) only [qr_217_0, qr_217_1, qr_217_2, qr_217_3, qr_217_5, qr_217_8, qr_217_11, qr_217_12, qr_217_13, qr_217_14, qr_217_15, qr_217_16, qr_217_17, qr_217_20, qr_217_21, true_and, and_true, false_and, and_false, Option.bind_some, Option.toList_some, Option.toList_none, List.nil_append, List.cons_append, if_true, if_false, ite_true, ite_false, not_true_eq_false, not_false_eq_true, qn_lt0, qn_ge0, qn_lt, qn_le, qn_eq, qn_e0, qn_gt0, qn_le0, qn_m1, nI_add, pk_mul, qb_e0, Classical.not_not, z0, Nat.add_zero]
      · obtain ⟨p1, p2⟩ := qn_pop_s y hy h0
        have e3 := ih (y &&& (y - 1)) (m + 1) (by omega) (by omega) (by omega)
        rw [show m + 1 + qn_pop 10 (y &&& (y - 1)) = m + qn_pop 10 y by omega] at e3
        rw [qr_217_4]
        simp (disch := first | assumption | omega | exact Or.inl rfl | exact Or.inr rfl | exact qb_01) only [qr_217_0, qr_217_1, qr_217_2, qr_217_3, qr_217_5, qr_217_8, qr_217_11, qr_217_12, qr_217_13, qr_217_14, qr_217_15, qr_217_16, qr_217_17, qr_217_20, qr_217_21, true_and, and_true, false_and, and_false, Option.bind_some, Option.toList_some, Option.toList_none, List.nil_append, List.cons_append, if_true, if_false, ite_true, ite_false, not_true_eq_false, not_false_eq_true, qn_lt0, qn_ge0, qn_lt, qn_le, qn_eq, qn_e0, qn_gt0, qn_le0, qn_m1, nI_add, pk_mul, qb_e0, Classical.not_not, h0, qn_pop_i y hy h0]
        exact e3
  have hp : ∀ f v, qn_pop f v ≤ f := by
    intro f
    induction f with
    | zero => intro v; exact Nat.le_refl 0
    | succ f ih =>
      intro v
      unfold qn_pop
      split
      · omega
      · have := ih (v &&& (v - 1)); omega
  have e1 := loop (v + 1) v 0 (by omega) hv (by have := hp 10 v; omega)
  rw [Nat.zero_add] at e1
  simp (disch := first | assumption | omega | exact Or.inl rfl | exact Or.inr rfl | exact qb_01) only [qe_217, qr_217_0, qr_217_1, qr_217_2, qr_217_3, qr_217_5, qr_217_8, qr_217_11, qr_217_12, qr_217_13, qr_217_14, qr_217_15, qr_217_16, qr_217_17, qr_217_20, qr_217_21, true_and, and_true, false_and, and_false, Option.bind_some, Option.toList_some, Option.toList_none, List.nil_append, List.cons_append, if_true, if_false, ite_true, ite_false, not_true_eq_false, not_false_eq_true, qn_lt0, qn_ge0, qn_lt, qn_le, qn_eq, qn_e0, qn_gt0, qn_le0, qn_m1, nI_add, pk_mul, qb_e0, Classical.not_not]
  exact e1
end Q47
