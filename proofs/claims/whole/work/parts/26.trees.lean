/-! Trees of prerequisites, as forests: num 0 nothing more, mulL k a skill, add an and, sub an or, each with what stands behind it. -/
abbrev qt_T : Type := Int.Internal.Linear.Expr
def qt_ne : qt_T → Bool
  | .num _ => false
  | _ => true
def qt_len : qt_T → Nat
  | .mulL _ nx => qt_len nx + 1
  | .add _ nx => qt_len nx + 1
  | .sub _ nx => qt_len nx + 1
  | _ => 0
/-- depth: of the first tree, of all -/
def qt_dp : qt_T → Nat × Nat
  | .mulL _ nx => (1, max 1 (qt_dp nx).2)
  | .add f nx => ((qt_dp f).2 + 1, max ((qt_dp f).2 + 1) (qt_dp nx).2)
  | .sub f nx => ((qt_dp f).2 + 1, max ((qt_dp f).2 + 1) (qt_dp nx).2)
  | _ => (0, 0)
def qt_wf (m : Nat) : qt_T → Prop
  | .mulL k nx => k.toNat < m ∧ qt_wf m nx
  | .add f nx => qt_ne f = true ∧ qt_wf m f ∧ qt_wf m nx
  | .sub f nx => qt_ne f = true ∧ qt_wf m f ∧ qt_wf m nx
  | .num _ => True
  | _ => False
/-- the first tree's value, all, any -/
def qt_ev (g : Nat → Bool) : qt_T → Bool × Bool × Bool
  | .mulL k nx => (g k.toNat, g k.toNat && (qt_ev g nx).2.1, g k.toNat || (qt_ev g nx).2.2)
  | .add f nx => ((qt_ev g f).2.1, (qt_ev g f).2.1 && (qt_ev g nx).2.1, (qt_ev g f).2.1 || (qt_ev g nx).2.2)
  | .sub f nx => ((qt_ev g f).2.2, (qt_ev g f).2.2 && (qt_ev g nx).2.1, (qt_ev g f).2.2 || (qt_ev g nx).2.2)
  | _ => (false, true, false)
/-- the skills: of the first tree, of all -/
def qt_sk : qt_T → Int32 × Int32
  | .mulL k nx => (nI 1 <<< (nI k.toNat &&& 31), (nI 1 <<< (nI k.toNat &&& 31)) ||| (qt_sk nx).2)
  | .add f nx => (nI 0 ||| (qt_sk f).2, (nI 0 ||| (qt_sk f).2) ||| (qt_sk nx).2)
  | .sub f nx => (nI 0 ||| (qt_sk f).2, (nI 0 ||| (qt_sk f).2) ||| (qt_sk nx).2)
  | _ => (nI 0, nI 0)
/-- the first skill that blocks: of the first tree, of the first tree that is not fulfilled -/
def qt_bl (g : Nat → Bool) : qt_T → Nat × Nat
  | .mulL k nx => (k.toNat, if g k.toNat = true then (qt_bl g nx).2 else k.toNat)
  | .add f nx => ((qt_bl g f).2, if (qt_ev g f).2.1 = true then (qt_bl g nx).2 else (qt_bl g f).2)
  | .sub f nx => ((qt_bl g f).1, if (qt_ev g f).2.2 = true then (qt_bl g nx).2 else (qt_bl g f).1)
  | _ => (0, 0)
def qt_C (K : Nat → Nat × Nat) (I : Nat → Nat → Int32) (R : Nat → Nat → Option Nat) : qt_T → Option Nat → Prop
  | .mulL k nx, o => ∃ a, o = some a ∧ 204 ≤ a ∧ K a = (10, 0) ∧ I a 0 = nI 0 ∧ I a 1 = nI k.toNat ∧ qt_C K I R nx (R a 3)
  | .add f nx, o => ∃ a, o = some a ∧ 204 ≤ a ∧ K a = (10, 0) ∧ I a 0 = nI 1 ∧ qt_C K I R f (R a 2) ∧ qt_C K I R nx (R a 3)
  | .sub f nx, o => ∃ a, o = some a ∧ 204 ≤ a ∧ K a = (10, 0) ∧ I a 0 = nI 2 ∧ qt_C K I R f (R a 2) ∧ qt_C K I R nx (R a 3)
  | .num _, o => o = none
  | _, _ => False
theorem qb_e1 {P : Prop} [Decidable P] : (qa_bi P = nI 1) = P := by
  by_cases h : P
  · rw [qb_t h]; exact propext ⟨fun _ => h, fun _ => rfl⟩
  · rw [qb_f h]; exact propext ⟨fun q => absurd q (by decide), fun q => absurd q h⟩
theorem qb_en {P : Prop} [Decidable P] : (qa_bi P = nI 0) = ¬ P := by
  by_cases h : P
  · rw [qb_t h]; exact propext ⟨fun q => absurd q (by decide), fun q => absurd h q⟩
  · rw [qb_f h]; exact propext ⟨fun _ => h, fun _ => rfl⟩
def qt_bit (mb : Int32) (k : Nat) : Bool := decide ((mb >>> (nI k &&& 31)) &&& nI 1 = nI 1)
theorem qt_len_0 {t : qt_T} : qt_ne t = false → qt_len t = 0 := by
  intro h
  cases t <;> first | rfl | (simp [qt_ne] at h)
theorem qt_C_len {K : Nat → Nat × Nat} {I : Nat → Nat → Int32} {R : Nat → Nat → Option Nat} : ∀ {t t' : qt_T} {o : Option Nat}, qt_C K I R t o → qt_C K I R t' o → qt_len t = qt_len t' := by
  intro t
  induction t with
  | num v =>
    intro t' o h h'
    have h : o = none := h
    subst h
    cases t' <;> first | rfl | exact h'.elim | (obtain ⟨a, g, -⟩ := h'; cases g)
  | var i => intro t' o h; exact h.elim
  | neg a => intro t' o h; exact h.elim
  | mulR a k => intro t' o h; exact h.elim
  | mulL k nx ih =>
    intro t' o h h'
    obtain ⟨a, rfl, -, -, -, -, h1⟩ := h
    cases t' with
    | num v => cases h'
    | var i => exact h'.elim
    | neg a => exact h'.elim
    | mulR a k => exact h'.elim
    | mulL k' nx' => obtain ⟨a', e, -, -, -, -, h2⟩ := h'; cases e; exact congrArg (· + 1) (ih h1 h2)
    | add f nx' => obtain ⟨a', e, -, -, -, -, h2⟩ := h'; cases e; exact congrArg (· + 1) (ih h1 h2)
    | sub f nx' => obtain ⟨a', e, -, -, -, -, h2⟩ := h'; cases e; exact congrArg (· + 1) (ih h1 h2)
  | add f nx ihf ih =>
    intro t' o h h'
    obtain ⟨a, rfl, -, -, -, -, h1⟩ := h
    cases t' with
    | num v => cases h'
    | var i => exact h'.elim
    | neg a => exact h'.elim
    | mulR a k => exact h'.elim
    | mulL k' nx' => obtain ⟨a', e, -, -, -, -, h2⟩ := h'; cases e; exact congrArg (· + 1) (ih h1 h2)
    | add f nx' => obtain ⟨a', e, -, -, -, -, h2⟩ := h'; cases e; exact congrArg (· + 1) (ih h1 h2)
    | sub f nx' => obtain ⟨a', e, -, -, -, -, h2⟩ := h'; cases e; exact congrArg (· + 1) (ih h1 h2)
  | sub f nx ihf ih =>
    intro t' o h h'
    obtain ⟨a, rfl, -, -, -, -, h1⟩ := h
    cases t' with
    | num v => cases h'
    | var i => exact h'.elim
    | neg a => exact h'.elim
    | mulR a k => exact h'.elim
    | mulL k' nx' => obtain ⟨a', e, -, -, -, -, h2⟩ := h'; cases e; exact congrArg (· + 1) (ih h1 h2)
    | add f nx' => obtain ⟨a', e, -, -, -, -, h2⟩ := h'; cases e; exact congrArg (· + 1) (ih h1 h2)
    | sub f nx' => obtain ⟨a', e, -, -, -, -, h2⟩ := h'; cases e; exact congrArg (· + 1) (ih h1 h2)
section Q26
variable {a b : Nat} {K : Nat → Nat × Nat} {I : Nat → Nat → Int32} {R : Nat → Nat → Option Nat} {n z : Nat} {x y w : Int32} {h : qa_H} {u nk ni k i j m B : Nat}
theorem qs_EP_skillsIn_all : ∀ (t : qt_T) (o : Option Nat), qt_C K I R t o → (qt_ne t = true → ∀ D e, (qt_dp t).1 ≤ D → e + (qt_dp t).1 ≤ 13 → qa_ex D 8 [qa_a o, qa_i (nI e)] (K, I, R, n, z) = some (some (qa_i (qt_sk t).1), (K, I, R, n, z))) ∧ (∀ D e acc rt, (qt_dp t).2 ≤ D → e + 1 + (qt_dp t).2 ≤ 13 → qa_run D 8 33 [rt, qa_i (nI e), qa_i acc, qa_a o] [] [] (K, I, R, n, z) = some (some (qa_i (acc ||| (qt_sk t).2)), (K, I, R, n, z))) := by
  have step : ∀ (t nx : qt_T) (a : Nat), K a = (10, 0) → (qt_sk t).2 = (qt_sk t).1 ||| (qt_sk nx).2 → (qt_dp t).2 = max (qt_dp t).1 (qt_dp nx).2 → (∀ D e, (qt_dp t).1 ≤ D → e + (qt_dp t).1 ≤ 13 → qa_ex D 8 [qa_a (some a), qa_i (nI e)] (K, I, R, n, z) = some (some (qa_i (qt_sk t).1), (K, I, R, n, z))) → (∀ D e acc rt, (qt_dp nx).2 ≤ D → e + 1 + (qt_dp nx).2 ≤ 13 → qa_run D 8 33 [rt, qa_i (nI e), qa_i acc, qa_a (R a 3)] [] [] (K, I, R, n, z) = some (some (qa_i (acc ||| (qt_sk nx).2)), (K, I, R, n, z))) →
      ∀ D e acc rt, (qt_dp t).2 ≤ D → e + 1 + (qt_dp t).2 ≤ 13 → qa_run D 8 33 [rt, qa_i (nI e), qa_i acc, qa_a (some a)] [] [] (K, I, R, n, z) = some (some (qa_i (acc ||| (qt_sk t).2)), (K, I, R, n, z)) := by
    intro t nx a hk hsk hdp h1 h2 D e acc rt hD he
    have g1 := h1 D (e + 1) (by omega) (by omega)
    have g2 := h2 D e (acc ||| (qt_sk t).1) rt (by omega) (by omega)
    rw [qr_8_33]
    simp (disch := first | assumption | omega | exact Or.inl rfl | exact Or.inr rfl | exact qb_01) only [qr_8_0, qr_8_1_0, qr_8_1_1, qr_8_4, qr_8_5, qr_8_7, qr_8_10, qr_8_11, qr_8_12, qr_8_13, qr_8_16, qr_8_19, qr_8_20, qr_8_21, qr_8_24, qr_8_25, qr_8_26, qr_8_27, qr_8_28, qr_8_29, qr_8_32, qr_8_34_0, qr_8_34_1, qr_8_37, qr_8_38, qr_8_39, qr_8_40, qr_8_41, qr_8_42, qr_8_45, qr_8_46, qr_8_47, qr_8_48, qr_8_51, qr_8_52, qr_8_55, qr_8_56, true_and, and_true, false_and, and_false, Option.bind_some, Option.toList_some, Option.toList_none, List.nil_append, List.cons_append, if_true, if_false, ite_true, ite_false, not_true_eq_false, not_false_eq_true, nI_add, g1, g2, hsk, Int32.or_assoc]
  intro t
  induction t with
  | num v =>
    intro o h
    have h : o = none := h
    subst h
    refine ⟨fun h => absurd h (by intro q; cases q), fun D e acc rt hD he => ?_⟩
    rw [qr_8_33]
    simp (disch := first | assumption | omega | exact Or.inl rfl | exact Or.inr rfl | exact qb_01) only [qr_8_0, qr_8_1_0, qr_8_1_1, qr_8_4, qr_8_5, qr_8_7, qr_8_10, qr_8_11, qr_8_12, qr_8_13, qr_8_16, qr_8_19, qr_8_20, qr_8_21, qr_8_24, qr_8_25, qr_8_26, qr_8_27, qr_8_28, qr_8_29, qr_8_32, qr_8_34_0, qr_8_34_1, qr_8_37, qr_8_38, qr_8_39, qr_8_40, qr_8_41, qr_8_42, qr_8_45, qr_8_46, qr_8_47, qr_8_48, qr_8_51, qr_8_52, qr_8_55, qr_8_56, qt_sk, nI_0, Int32.or_zero]
  | var i => intro o h; exact h.elim
  | neg a => intro o h; exact h.elim
  | mulR a k => intro o h; exact h.elim
  | mulL k nx ih =>
    intro o h
    obtain ⟨a, rfl, -, h1, h2, h3, h4⟩ := h
    have hd : ∀ D e, (qt_dp (.mulL k nx)).1 ≤ D → e + (qt_dp (.mulL k nx)).1 ≤ 13 → qa_ex D 8 [qa_a (some a), qa_i (nI e)] (K, I, R, n, z) = some (some (qa_i (qt_sk (.mulL k nx)).1), (K, I, R, n, z)) := by
      intro D e hD he
      simp only [qt_dp] at hD he
      obtain ⟨d, rfl⟩ : ∃ d, D = d + 1 := ⟨D - 1, by omega⟩
      have e1 : e ≤ 12 := by omega
      simp (disch := first | assumption | omega | exact Or.inl rfl | exact Or.inr rfl | exact qb_01) only [qe_8, qr_8_0, qr_8_1_0, qr_8_1_1, qr_8_4, qr_8_5, qr_8_7, qr_8_10, qr_8_11, qr_8_12, qr_8_13, qr_8_16, qr_8_19, qr_8_20, qr_8_21, qr_8_24, qr_8_25, qr_8_26, qr_8_27, qr_8_28, qr_8_29, qr_8_32, qr_8_34_0, qr_8_34_1, qr_8_37, qr_8_38, qr_8_39, qr_8_40, qr_8_41, qr_8_42, qr_8_45, qr_8_46, qr_8_47, qr_8_48, qr_8_51, qr_8_52, qr_8_55, qr_8_56, true_and, and_true, false_and, and_false, Option.bind_some, Option.toList_some, Option.toList_none, List.nil_append, List.cons_append, if_true, if_false, ite_true, ite_false, not_true_eq_false, not_false_eq_true, qn_lt0, qn_ge0, qn_lt, qn_le, qn_eq, qn_e0, qn_gt0, qn_le0, qn_m1, nI_add, pk_mul, qb_e0, Classical.not_not, h2, h3, e1, qt_sk]
    exact ⟨fun _ => hd, step _ nx a h1 rfl rfl hd (ih _ h4).2⟩
  | add f nx ihf ih =>
    intro o h
    obtain ⟨a, rfl, -, h1, h2, h3, h4⟩ := h
    have hd : ∀ D e, (qt_dp (.add f nx)).1 ≤ D → e + (qt_dp (.add f nx)).1 ≤ 13 → qa_ex D 8 [qa_a (some a), qa_i (nI e)] (K, I, R, n, z) = some (some (qa_i (qt_sk (.add f nx)).1), (K, I, R, n, z)) := by
      intro D e hD he
      simp only [qt_dp] at hD he
      obtain ⟨d, rfl⟩ : ∃ d, D = d + 1 := ⟨D - 1, by omega⟩
      have e1 : e ≤ 12 := by omega
      have g := (ihf _ h3).2 d e (nI 0) (qa_a (some a)) (by omega) (by omega)
      simp (disch := first | assumption | omega | exact Or.inl rfl | exact Or.inr rfl | exact qb_01) only [qe_8, qr_8_0, qr_8_1_0, qr_8_1_1, qr_8_4, qr_8_5, qr_8_7, qr_8_10, qr_8_11, qr_8_12, qr_8_13, qr_8_16, qr_8_19, qr_8_20, qr_8_21, qr_8_24, qr_8_25, qr_8_26, qr_8_27, qr_8_28, qr_8_29, qr_8_32, qr_8_34_0, qr_8_34_1, qr_8_37, qr_8_38, qr_8_39, qr_8_40, qr_8_41, qr_8_42, qr_8_45, qr_8_46, qr_8_47, qr_8_48, qr_8_51, qr_8_52, qr_8_55, qr_8_56, true_and, and_true, false_and, and_false, Option.bind_some, Option.toList_some, Option.toList_none, List.nil_append, List.cons_append, if_true, if_false, ite_true, ite_false, not_true_eq_false, not_false_eq_true, qn_lt0, qn_ge0, qn_lt, qn_le, qn_eq, qn_e0, qn_gt0, qn_le0, qn_m1, nI_add, pk_mul, qb_e0, Classical.not_not, h2, e1, g, qt_sk, Nat.one_ne_zero]
    exact ⟨fun _ => hd, step _ nx a h1 rfl rfl hd (ih _ h4).2⟩
  | sub f nx ihf ih =>
    intro o h
    obtain ⟨a, rfl, -, h1, h2, h3, h4⟩ := h
    have hd : ∀ D e, (qt_dp (.sub f nx)).1 ≤ D → e + (qt_dp (.sub f nx)).1 ≤ 13 → qa_ex D 8 [qa_a (some a), qa_i (nI e)] (K, I, R, n, z) = some (some (qa_i (qt_sk (.sub f nx)).1), (K, I, R, n, z)) := by
      intro D e hD he
      simp only [qt_dp] at hD he
      obtain ⟨d, rfl⟩ : ∃ d, D = d + 1 := ⟨D - 1, by omega⟩
      have e1 : e ≤ 12 := by omega
      have g := (ihf _ h3).2 d e (nI 0) (qa_a (some a)) (by omega) (by omega)
      simp (disch := first | assumption | omega | exact Or.inl rfl | exact Or.inr rfl | exact qb_01) only [qe_8, qr_8_0, qr_8_1_0, qr_8_1_1, qr_8_4, qr_8_5, qr_8_7, qr_8_10, qr_8_11, qr_8_12, qr_8_13, qr_8_16, qr_8_19, qr_8_20, qr_8_21, qr_8_24, qr_8_25, qr_8_26, qr_8_27, qr_8_28, qr_8_29, qr_8_32, qr_8_34_0, qr_8_34_1, qr_8_37, qr_8_38, qr_8_39, qr_8_40, qr_8_41, qr_8_42, qr_8_45, qr_8_46, qr_8_47, qr_8_48, qr_8_51, qr_8_52, qr_8_55, qr_8_56, true_and, and_true, false_and, and_false, Option.bind_some, Option.toList_some, Option.toList_none, List.nil_append, List.cons_append, if_true, if_false, ite_true, ite_false, not_true_eq_false, not_false_eq_true, qn_lt0, qn_ge0, qn_lt, qn_le, qn_eq, qn_e0, qn_gt0, qn_le0, qn_m1, nI_add, pk_mul, qb_e0, Classical.not_not, h2, e1, g, qt_sk, show ¬ 2 = 0 by decide]
    exact ⟨fun _ => hd, step _ nx a h1 rfl rfl hd (ih _ h4).2⟩
end Q26
