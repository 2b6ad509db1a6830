/-! The model reads expressions. -/
theorem qt_M_cg {c c' : Nat → Int32} (h : ∀ j, j < 170 → c (22 + j) ≠ nI 999 → c' (22 + j) = c (22 + j) ∧ c' (192 + j) = c (192 + j) ∧ c' (362 + j) = c (362 + j)) : ∀ {t : qt_T} {x : Int32}, qt_M c t x → qt_M c' t x := by
  intro t
  induction t with
  | mulL k nx ih =>
    intro x ⟨j, h1, h2, h3, h4, h5⟩
    obtain ⟨g1, g2, g3⟩ := h j h2 (by rw [h4]; intro q; rw [qn_eq (by omega) (by omega)] at q; omega)
    exact ⟨j, h1, h2, h3, by rw [g1]; exact h4, by rw [g3]; exact ih h5⟩
  | add f nx ih1 ih2 =>
    intro x ⟨j, h1, h2, h4, h5, h6⟩
    obtain ⟨g1, g2, g3⟩ := h j h2 (by rw [h4]; decide)
    exact ⟨j, h1, h2, by rw [g1]; exact h4, by rw [g2]; exact ih1 h5, by rw [g3]; exact ih2 h6⟩
  | sub f nx ih1 ih2 =>
    intro x ⟨j, h1, h2, h4, h5, h6⟩
    obtain ⟨g1, g2, g3⟩ := h j h2 (by rw [h4]; decide)
    exact ⟨j, h1, h2, by rw [g1]; exact h4, by rw [g2]; exact ih1 h5, by rw [g3]; exact ih2 h6⟩
  | num _ => intro x h1; exact h1
  | _ => intro x h1; exact h1.elim
def qt_Mx (lo hi ex : Nat) (c : Nat → Int32) : Nat → Int32 := fun i => if 22 ≤ i ∧ i < 192 ∧ ¬ (lo ≤ i - 22 ∧ i - 22 < hi ∧ i - 22 ≠ ex) then nI 999 else c i
def qt_MB (lo hi ex : Nat) (c : Nat → Int32) (t : qt_T) (x : Int32) : Prop := qt_M (qt_Mx lo hi ex c) t x
theorem qt_Mx_in {lo hi ex j : Nat} {c : Nat → Int32} (hj : j < 170) (h : qt_Mx lo hi ex c (22 + j) ≠ nI 999) : lo ≤ j ∧ j < hi ∧ j ≠ ex ∧ qt_Mx lo hi ex c (22 + j) = c (22 + j) := by
  unfold qt_Mx at h ⊢
  by_cases hr : 22 ≤ 22 + j ∧ 22 + j < 192 ∧ ¬ (lo ≤ 22 + j - 22 ∧ 22 + j - 22 < hi ∧ 22 + j - 22 ≠ ex)
  · rw [if_pos hr] at h
    exact absurd rfl h
  · rw [if_neg hr]
    have h2 : lo ≤ 22 + j - 22 ∧ 22 + j - 22 < hi ∧ 22 + j - 22 ≠ ex := Decidable.byContradiction fun q => hr ⟨by omega, by omega, q⟩
    exact ⟨by omega, by omega, by omega, rfl⟩
theorem qt_Mx_2 {lo hi ex j : Nat} {c : Nat → Int32} : qt_Mx lo hi ex c (192 + j) = c (192 + j) ∧ qt_Mx lo hi ex c (362 + j) = c (362 + j) := ⟨if_neg (by omega), if_neg (by omega)⟩
theorem qt_MB_cg {lo hi ex lo' hi' ex' : Nat} {c c' : Nat → Int32} {t : qt_T} {x : Int32} (h : ∀ j, lo ≤ j → j < hi → j ≠ ex → c' (22 + j) = c (22 + j) ∧ c' (192 + j) = c (192 + j) ∧ c' (362 + j) = c (362 + j)) (h1 : lo' ≤ lo) (h2 : hi ≤ hi') (h3 : ∀ j, lo ≤ j → j < hi → j ≠ ex → j ≠ ex') (hM : qt_MB lo hi ex c t x) : qt_MB lo' hi' ex' c' t x := by
  refine qt_M_cg (fun j hj hne => ?_) hM
  obtain ⟨a1, a2, a3, a4⟩ := qt_Mx_in hj hne
  obtain ⟨g1, g2, g3⟩ := h j a1 a2 a3
  have g4 := h3 j a1 a2 a3
  rw [a4, qt_Mx_2.1, qt_Mx_2.1, qt_Mx_2.2, qt_Mx_2.2]
  refine ⟨?_, g2, g3⟩
  unfold qt_Mx
  rw [if_neg (fun q => q.2.2 ⟨by omega, by omega, by omega⟩)]
  exact g1
theorem qt_MB_M {lo hi ex : Nat} {c : Nat → Int32} {t : qt_T} {x : Int32} (hM : qt_MB lo hi ex c t x) : qt_M c t x := by
  refine qt_M_cg (fun j hj hne => ?_) hM
  obtain ⟨a1, a2, a3, a4⟩ := qt_Mx_in hj hne
  rw [a4, qt_Mx_2.1, qt_Mx_2.2]
  exact ⟨rfl, rfl, rfl⟩
/-- a tree whose node is b, whatever is behind it; its other nodes from lo on, before hi -/
def qt_RM (lo hi : Nat) (c : Nat → Int32) : qt_T → Nat → Prop
  | .mulL k _, b => k.toNat < 10 ∧ c (22 + b) = nI k.toNat
  | .add f _, b => c (22 + b) = nI 100 ∧ qt_MB lo hi b c f (c (192 + b))
  | .sub f _, b => c (22 + b) = nI 101 ∧ qt_MB lo hi b c f (c (192 + b))
  | _, _ => False
theorem qt_RM_cg {lo hi b : Nat} {c c' : Nat → Int32} {t : qt_T} (h : ∀ j, lo ≤ j → j < hi → j ≠ b → c' (22 + j) = c (22 + j) ∧ c' (192 + j) = c (192 + j) ∧ c' (362 + j) = c (362 + j)) (h1 : c' (22 + b) = c (22 + b)) (h2 : c' (192 + b) = c (192 + b)) (hR : qt_RM lo hi c t b) : qt_RM lo hi c' t b := by
  cases t with
  | mulL k nx => exact ⟨hR.1, by rw [h1]; exact hR.2⟩
  | add f nx => exact ⟨by rw [h1]; exact hR.1, by rw [h2]; exact qt_MB_cg h (Nat.le_refl _) (Nat.le_refl _) (fun _ _ _ q => q) hR.2⟩
  | sub f nx => exact ⟨by rw [h1]; exact hR.1, by rw [h2]; exact qt_MB_cg h (Nat.le_refl _) (Nat.le_refl _) (fun _ _ _ q => q) hR.2⟩
  | _ => exact hR.elim
theorem qt_RM_M {lo hi lo' hi' ex b : Nat} {c : Nat → Int32} {t r : qt_T} (hR : qt_RM lo hi c t b) (h1 : lo ≤ b) (h2 : b < hi) (h3 : b < 170) (h4 : lo' ≤ lo) (h5 : hi ≤ hi') (hex : ¬ (lo ≤ ex ∧ ex < hi)) (hr : qt_MB lo' hi' ex c r (c (362 + b))) : qt_MB lo' hi' ex c (qP_tl t r) (nI b) := by
  have hx : qt_Mx lo' hi' ex c (22 + b) = c (22 + b) := if_neg (fun q => q.2.2 ⟨by omega, by omega, by omega⟩)
  have hch : ∀ f x, qt_MB lo hi b c f x → qt_MB lo' hi' ex c f x := fun f x hf => qt_MB_cg (fun _ _ _ _ => ⟨rfl, rfl, rfl⟩) h4 h5 (fun j j1 j2 _ q => hex (by subst q; exact ⟨j1, j2⟩)) hf
  cases t with
  | mulL k nx => exact ⟨b, rfl, h3, hR.1, by rw [hx]; exact hR.2, by rw [qt_Mx_2.2]; exact hr⟩
  | add f nx => exact ⟨b, rfl, h3, by rw [hx]; exact hR.1, by rw [qt_Mx_2.1]; exact hch _ _ hR.2, by rw [qt_Mx_2.2]; exact hr⟩
  | sub f nx => exact ⟨b, rfl, h3, by rw [hx]; exact hR.1, by rw [qt_Mx_2.1]; exact hch _ _ hR.2, by rw [qt_Mx_2.2]; exact hr⟩
  | _ => exact hR.elim
/-- the model's reading: the text, at i, nd nodes, e open -/
def qM_x (I : Nat → Nat → Int32) (u L : Nat) (c : Nat → Nat) (i nd e : Nat) : Prop := I u 14 = nI L ∧ I u 15 = nI i ∧ I u 16 = nI nd ∧ I u 17 = nI e ∧ i ≤ L ∧ L ≤ 80 ∧ (∀ j, j < L → I (u + 11) j = nI (c j)) ∧ (∀ j, L ≤ j → c j = 200) ∧ ∀ j, j < L → c j < 128
def qM_F (u : Nat) (I I' : Nat → Nat → Int32) : Prop := (∀ a, a ≠ u → a ≠ u + 6 → I' a = I a) ∧ ∀ f, f ≠ 15 → f ≠ 16 → f ≠ 17 → I' u f = I u f
theorem qM_F_t {u : Nat} {I J H : Nat → Nat → Int32} (h1 : qM_F u I J) (h2 : qM_F u J H) : qM_F u I H := ⟨fun a g1 g2 => (h2.1 a g1 g2).trans (h1.1 a g1 g2), fun f g1 g2 g3 => (h2.2 f g1 g2 g3).trans (h1.2 f g1 g2 g3)⟩
def qM_R (nd ex : Nat) (c c' : Nat → Int32) : Prop := (∀ x, x < 22 → c' x = c x) ∧ ∀ k, k < nd → c' (22 + k) = c (22 + k) ∧ c' (192 + k) = c (192 + k) ∧ (k ≠ ex → c' (362 + k) = c (362 + k))
theorem qM_R_r {nd ex : Nat} {c : Nat → Int32} : qM_R nd ex c c := ⟨fun _ _ => rfl, fun _ _ => ⟨rfl, rfl, fun _ => rfl⟩⟩
theorem qM_R_t {nd nd1 ex ex1 : Nat} {c c1 c2 : Nat → Int32} (h1 : qM_R nd ex c c1) (h2 : qM_R nd1 ex1 c1 c2) (hn : nd ≤ nd1) (he : nd ≤ ex1 ∨ ex1 = ex) : qM_R nd ex c c2 :=
  ⟨fun x hx => (h2.1 x hx).trans (h1.1 x hx), fun k hk => ⟨((h2.2 k (by omega)).1).trans (h1.2 k hk).1, ((h2.2 k (by omega)).2.1).trans (h1.2 k hk).2.1, fun hne => ((h2.2 k (by omega)).2.2 (by omega)).trans ((h1.2 k hk).2.2 hne)⟩⟩
theorem qM_x_F {u L i nd e j nd' e' : Nat} {c : Nat → Nat} {I I' : Nat → Nat → Int32} (hX : qM_x I u L c i nd e) (hF : qM_F u I I') (h1 : I' u 15 = nI j) (h2 : I' u 16 = nI nd') (h3 : I' u 17 = nI e') (hj : j ≤ L) : qM_x I' u L c j nd' e' := by
  obtain ⟨x1, x2, x3, x4, x5, x6, x7, x8, x9⟩ := hX
  exact ⟨by rw [hF.2 14 (by omega) (by omega) (by omega)]; exact x1, h1, h2, h3, hj, x6, fun k hk => by rw [hF.1 (u + 11) (by omega) (by omega)]; exact x7 k hk, x8, x9⟩
section Q64
variable {d a b f : Nat} {K : Nat → Nat × Nat} {I : Nat → Nat → Int32} {R : Nat → Nat → Option Nat} {n z : Nat} {x y : Int32} {h : qa_H} {u i j m p q g w v r k e nd L F : Nat} {c : Nat → Nat}
theorem qs_MO_here (hM : qp_MO K R u) (hX : qM_x I u L c i nd e) : qa_ex (d + 1) 170 [qa_a (some u)] (K, I, R, n, z) = some (some (qa_i (qR_v c L i)), (K, I, R, n, z)) := by
  obtain ⟨x1, x2, x3, x4, x5, x6, x7, x8, x9⟩ := hX
  obtain ⟨m0, -, -, -, -, -, -, -, -, -, -, ⟨t1, t2, t3⟩, -⟩ := hM
  unfold qR_v
  by_cases h : i < L
  · have e1 : ¬ L ≤ i := by omega
    rw [if_pos h]
    simp (disch := first | assumption | omega | exact Or.inl rfl | exact Or.inr rfl | exact qb_01) only [qe_170, qr_170_0, qr_170_1, qr_170_4, qr_170_5, qr_170_8, qr_170_11, qr_170_12, qr_170_15, qr_170_16, qr_170_19, qr_170_20, qr_170_23, qr_170_24, true_and, and_true, false_and, and_false, Option.bind_some, Option.toList_some, Option.toList_none, List.nil_append, List.cons_append, if_true, if_false, ite_true, ite_false, not_true_eq_false, not_false_eq_true, qn_lt0, qn_ge0, qn_lt, qn_le, qn_eq, qn_e0, qn_gt0, qn_le0, qn_m1, nI_add, pk_mul, qb_e0, Classical.not_not, x1, x2, t3, e1, x7 i h]
  · have e1 : L ≤ i := by omega
    rw [if_neg h]
    simp (disch := first | assumption | omega | exact Or.inl rfl | exact Or.inr rfl | exact qb_01) only [qe_170, qr_170_0, qr_170_1, qr_170_4, qr_170_5, qr_170_8, qr_170_11, qr_170_12, qr_170_15, qr_170_16, qr_170_19, qr_170_20, qr_170_23, qr_170_24, true_and, and_true, false_and, and_false, Option.bind_some, Option.toList_some, Option.toList_none, List.nil_append, List.cons_append, if_true, if_false, ite_true, ite_false, not_true_eq_false, not_false_eq_true, qn_lt0, qn_ge0, qn_lt, qn_le, qn_eq, qn_e0, qn_gt0, qn_le0, qn_m1, nI_add, pk_mul, qb_e0, Classical.not_not, x1, x2, e1]
theorem qM_lt {c : Nat → Nat} {L i w : Nat} (hw : w < 128) (h1 : ∀ j, L ≤ j → c j = 200) (h2 : ∀ j, j < L → c j < 128) : ((¬ qR_v c L i < nI w) = (w ≤ c i ∧ i < L)) ∧ ((¬ nI w ≤ qR_v c L i) = (c i < w ∨ L ≤ i)) ∧ ((¬ nI w < qR_v c L i) = (c i ≤ w ∨ L ≤ i)) := by
  unfold qR_v
  by_cases h : i < L
  · have := h2 i h
    rw [if_pos h, qn_lt (by omega) (by omega), qn_le (by omega) (by omega), qn_lt (by omega) (by omega)]
    exact ⟨propext (by omega), propext (by omega), propext (by omega)⟩
  · have h3 : (-1 : Int32) < nI w := Int32.lt_iff_toInt_lt.mpr (by rw [nI_toInt (by omega)]; show (-1 : Int) < w; omega)
    have h4 : ¬ nI w ≤ (-1 : Int32) := Int32.not_le.mpr h3
    have h5 : ¬ nI w < (-1 : Int32) := fun q => h4 (Int32.le_of_lt q)
    rw [if_neg h]
    exact ⟨propext ⟨fun q => absurd h3 q, fun q => absurd q.2 h⟩, propext ⟨fun _ => Or.inr (by omega), fun _ => h4⟩, propext ⟨fun _ => Or.inr (by omega), fun _ => h5⟩⟩
theorem qs_MO_isDigit (hM : qp_MO K R u) (hX : qM_x I u L c i nd e) (hw : w < 10) : qa_ex (d + 2) 169 [qa_a (some u), qa_i (nI w)] (K, I, R, n, z) = some (some (qa_i (qa_bi (48 + w ≤ c i ∧ c i ≤ 57))), (K, I, R, n, z)) := by
  have e1 := qs_MO_here (d := d) (n := n) (z := z) hM hX
  obtain ⟨x1, x2, x3, x4, x5, x6, x7, x8, x9⟩ := hX
  have m0 := hM.1
  have g1 := (qM_lt (i := i) (w := 48 + w) (by omega) x8 x9).1
  have g2 := (qM_lt (i := i) (w := 57) (by omega) x8 x9).2.2
  have g3 : qa_bi (¬ qR_v c L i < nI (48 + w) ∧ ¬ nI 57 < qR_v c L i) = qa_bi (48 + w ≤ c i ∧ c i ≤ 57) := qb_c (by
    rw [g1, g2]
    have := x8 i
    constructor
    · intro q; omega
    · intro q; exact ⟨⟨q.1, by omega⟩, Or.inl q.2⟩)
  simp (disch := first | assumption | omega | exact Or.inl rfl | exact Or.inr rfl | exact qb_01) only [qe_169, qr_169_0, qr_169_1, qr_169_4, qr_169_6, qr_169_7, qr_169_8, qr_169_10, qr_169_13, true_and, and_true, false_and, and_false, Option.bind_some, Option.toList_some, Option.toList_none, List.nil_append, List.cons_append, if_true, if_false, ite_true, ite_false, not_true_eq_false, not_false_eq_true, e1, nI_add, qs_MO_isIn, g3]
def qM_mk (c : Nat → Int32) (nd : Nat) (x : Int32) : Nat → Int32 := va_up (va_up (va_up c (22 + nd) x) (192 + nd) (-1)) (362 + nd) (-1)
theorem qM_mk_R {c : Nat → Int32} {x : Int32} {ex : Nat} (hn : nd < 170) : qM_R nd ex c (qM_mk c nd x) := by
  unfold qM_mk
  refine ⟨fun i hi => ?_, fun k hk => ⟨?_, ?_, fun _ => ?_⟩⟩
  all_goals rw [qa_up_n _ _ (by omega), qa_up_n _ _ (by omega), qa_up_n _ _ (by omega)]
theorem qM_mk_at {c : Nat → Int32} {x : Int32} (hn : nd < 170) : qM_mk c nd x (22 + nd) = x ∧ qM_mk c nd x (192 + nd) = -1 ∧ qM_mk c nd x (362 + nd) = -1 := by
  unfold qM_mk
  refine ⟨?_, ?_, ?_⟩
  · rw [qa_up_n _ _ (by omega), qa_up_n _ _ (by omega), qa_up_s]
  · rw [qa_up_n _ _ (by omega), qa_up_s]
  · rw [qa_up_s]
theorem qs_MO_makes (hM : qp_MO K R u) (hn : I u 16 = nI nd) (h170 : nd < 170) : qa_ex (d + 1) 173 [qa_a (some u), qa_i x] (K, I, R, n, z) = some (some (qa_i (nI nd)), (K, va_up (va_up I (u + 6) (qM_mk (I (u + 6)) nd x)) u (va_up (I u) 16 (nI (nd + 1))), R, n, z)) := by
  obtain ⟨m0, -, -, -, -, -, ⟨r1, r2, r3⟩, -⟩ := hM
  have e1 : nI (nd + 1) - nI 1 = nI nd := qn_sub (by omega)
  simp (disch := first | assumption | omega | exact Or.inl rfl | exact Or.inr rfl | exact qb_01) only [qe_173, qr_173_0, qr_173_1, qr_173_4, qr_173_6, qr_173_7, qr_173_10, qr_173_11, qr_173_12, qr_173_13, qr_173_14, qr_173_17, qr_173_20, qr_173_21, qr_173_24, qr_173_25, qr_173_26, qr_173_27, qr_173_28, qr_173_31, qr_173_34, qr_173_35, qr_173_38, qr_173_39, qr_173_40, qr_173_41, qr_173_42, qr_173_43, qr_173_46, qr_173_47, qr_173_48, qr_173_51, qr_173_52, qr_173_55, qr_173_56, qr_173_57, true_and, and_true, false_and, and_false, Option.bind_some, Option.toList_some, Option.toList_none, List.nil_append, List.cons_append, if_true, if_false, ite_true, ite_false, not_true_eq_false, not_false_eq_true, qn_lt0, qn_ge0, qn_lt, qn_le, qn_eq, qn_e0, qn_gt0, qn_le0, qn_m1, nI_add, pk_mul, qb_e0, Classical.not_not, qa_up_s, qa_up_n, qa_uu, hn, r3, e1]
  rfl
end Q64
def qM_S (u : Nat) (K : Nat → Nat × Nat) (R : Nat → Nat → Option Nat) (n z : Nat) (c : Nat → Nat) (m L md F : Nat) : Prop := ∀ (e i D nd : Nat) (I : Nat → Nat → Int32), e ≤ 5 → 4 * (L - i) + md + 1 < F → 3 * (5 - e) + 4 + md ≤ D → qM_x I u L c i nd e → nd ≤ i →
  ∃ v I' nd', qa_ex D (if md = 0 then 172 else 171) (if md = 0 then [qa_a (some u), qa_i (nI m)] else [qa_a (some u), qa_i (nI (99 + md)), qa_i (nI m)]) (K, I, R, n, z) = some (some (qa_i v), (K, I', R, n, z)) ∧ qM_F u I I' ∧ qM_R nd 1000 (I (u + 6)) (I' (u + 6)) ∧ I' u 15 = nI (qP c m F md e i).2 ∧ I' u 16 = nI nd' ∧ nd ≤ nd' ∧ nd' + i ≤ nd + (qP c m F md e i).2 ∧ ((qP c m F md e i).1 = none → v = -1) ∧ ∀ t, (qP c m F md e i).1 = some t → I' u 17 = nI e ∧ ∃ b, v = nI b ∧ nd ≤ b ∧ b < nd' ∧ qt_RM nd nd' (I' (u + 6)) t b ∧ I' (u + 6) (362 + b) = -1
def qM_Q (u : Nat) (K : Nat → Nat × Nat) (R : Nat → Nat → Option Nat) (n z : Nat) (c : Nat → Nat) (m L kd F : Nat) : Prop := ∀ (e j D nd nd0 b : Nat) (l4 l7 : qa_V) (I : Nat → Nat → Int32), e ≤ 5 → 4 * (L - j) + 3 < F → 3 * (5 - e) + 4 + kd ≤ D → qM_x I u L c j nd e → nd ≤ j + 1 → b < nd → I (u + 6) (362 + b) = -1 →
  ∃ v I' nd', qa_run D 171 77 [qa_a (some u), qa_i (nI (100 + kd)), qa_i (nI m), qa_i (nI (qP_sg kd)), l4, qa_i (nI nd0), qa_i (nI b), l7] [] [] (K, I, R, n, z) = some (some (qa_i v), (K, I', R, n, z)) ∧ qM_F u I I' ∧ qM_R nd b (I (u + 6)) (I' (u + 6)) ∧ I' u 15 = nI (qP c m F (kd + 3) e j).2 ∧ I' u 16 = nI nd' ∧ nd ≤ nd' ∧ nd' + j + (if c j = qP_sg kd then 1 else 0) ≤ nd + (qP c m F (kd + 3) e j).2 ∧ ((qP c m F (kd + 3) e j).1 = none → v = -1) ∧ ∀ f, (qP c m F (kd + 3) e j).1 = some f → I' u 17 = nI e ∧ v = nI nd0 ∧ qt_MB nd nd' 1000 (I' (u + 6)) f (I' (u + 6) (362 + b))
section Q64b
variable {K : Nat → Nat × Nat} {R : Nat → Nat → Option Nat} {n z u m L F : Nat} {c : Nat → Nat}
theorem qM_atom (hM : qp_MO K R u) (hm : m ≤ 10) (hc : ∀ j, L ≤ j → c j = 200) (hO : qM_S u K R n z c m L 2 F) : qM_S u K R n z c m L 0 (F + 1) := by
  intro e i D nd I he hF hD hX hnd
  have hM' := hM
  obtain ⟨d, rfl⟩ : ∃ d, D = d + 4 := ⟨D - 4, by omega⟩
  have hq : qP c m (F + 1) 0 e i = (if 48 ≤ c i ∧ c i ≤ 57 then (if c i - 48 < m then (some (.mulL ((c i - 48 : Nat) : Int) (.num 0)), i + 1) else (none, i)) else if e < 5 ∧ c i = 40 then qP_cl c (qP c m F 2 (e + 1) (i + 1)) else (none, i)) := by
    rw [qP, if_pos rfl]
  have hhe := qs_MO_here (d := d + 2) (n := n) (z := z) hM hX
  obtain ⟨x1, x2, x3, x4, x5, x6, x7, x8, x9⟩ := id hX
  obtain ⟨m0, -, -, -, -, -, ⟨r1, r2, r3⟩, -, -, -, -, ⟨t1, t2, t3⟩, -⟩ := hM
  have hlt : ∀ j, ¬ c j = 200 → j < L := fun j hj => Decidable.byContradiction fun h => hj (hc j (by omega))
  have g1 := (qM_lt (i := i) (w := 48) (by omega) x8 x9).1
  have g2 := (qM_lt (i := i) (w := 48 + m) (by omega) x8 x9).2.1
  have gv := qR_v_eq (c := c) (L := L) (i := i) (w := 40) (by omega) x8 x9
  rw [hq, if_pos rfl, if_pos rfl]
  by_cases h1 : 48 ≤ c i ∧ c i < 48 + m
  · have hi := hlt i (by omega)
    rw [if_pos (by omega), if_pos (by omega)]
    obtain ⟨I1, hI1⟩ : ∃ I1, I1 = va_up I u (va_up (I u) 15 (nI (i + 1))) := ⟨_, rfl⟩
    have e0 : nI (i + 1) - nI 1 = nI i := qn_sub (by omega)
    have e1 : nI (c i) - nI 48 = nI (c i - 48) := qn_sub (by omega)
    have hmk := qs_MO_makes (d := d + 2) (I := I1) (n := n) (z := z) (x := nI (c i - 48)) (nd := nd) hM' (by rw [hI1, qa_up_s, qa_up_n _ _ (by omega)]; exact x3) (by omega)
    have i6 : I1 (u + 6) = I (u + 6) := by rw [hI1, qa_up_n _ _ (by omega)]
    have i0 : I1 u = va_up (I u) 15 (nI (i + 1)) := by rw [hI1, qa_up_s]
    have i11 : I1 (u + 11) = I (u + 11) := by rw [hI1, qa_up_n _ _ (by omega)]
    rw [i6, i0] at hmk
    obtain ⟨I2, hI2⟩ : ∃ I2, I2 = va_up (va_up I1 (u + 6) (qM_mk (I (u + 6)) nd (nI (c i - 48)))) u (va_up (va_up (I u) 15 (nI (i + 1))) 16 (nI (nd + 1))) := ⟨_, rfl⟩
    rw [← hI2] at hmk
    have j6 : I2 (u + 6) = qM_mk (I (u + 6)) nd (nI (c i - 48)) := by rw [hI2, qa_up_n _ _ (by omega), qa_up_s]
    have j0 : I2 u = va_up (va_up (I u) 15 (nI (i + 1))) 16 (nI (nd + 1)) := by rw [hI2, qa_up_s]
    have hat := qM_mk_at (c := I (u + 6)) (x := nI (c i - 48)) (nd := nd) (by omega)
    refine ⟨nI nd, I2, nd + 1, ?_, ⟨fun a h1 h2 => by rw [hI2, qa_up_n _ _ h1, qa_up_n _ _ h2, hI1, qa_up_n _ _ h1], fun f h1 h2 h3 => by rw [j0, qa_up_n _ _ h2, qa_up_n _ _ h1]⟩, by rw [j6]; exact qM_mk_R (by omega), by rw [j0, qa_up_n _ _ (by omega), qa_up_s], by rw [j0, qa_up_s], by omega, by show nd + 1 + i ≤ nd + (i + 1); omega, fun h => absurd h (by simp), fun t ht => ?_⟩
    · have h2 : ¬ ((¬ (48 ≤ c i ∧ i < L)) ∨ ¬ (c i < 48 + m ∨ L ≤ i)) := by omega
      have e9 : (48 ≤ c i) = True := eq_true h1.1
      have e10 : (i < L) = True := eq_true hi
      have e11 : (c i < 48 + m) = True := eq_true h1.2
      simp (disch := first | assumption | omega | exact Or.inl rfl | exact Or.inr rfl | exact qb_01) only [qe_172, qr_172_0, qr_172_1, qr_172_4, qr_172_6, qr_172_8, qr_172_9, qr_172_10, qr_172_11, qr_172_12, qr_172_15, qr_172_18, qr_172_19, qr_172_20, qr_172_23, qr_172_24, qr_172_25, qr_172_28, qr_172_29, qr_172_30, qr_172_33, qr_172_34, qr_172_37, qr_172_38, qr_172_39, qr_172_40, qr_172_42, qr_172_43, qr_172_46, qr_172_47, qr_172_48, qr_172_51, qr_172_53, qr_172_56, qr_172_57, qr_172_60, qr_172_61, qr_172_64, qr_172_65, qr_172_66, qr_172_67, qr_172_68, qr_172_71, qr_172_72, qr_172_73, qr_172_76, qr_172_77, qr_172_78, qr_172_81, qr_172_82, qr_172_83, qr_172_86, qr_172_87, qr_172_89, qr_172_90, qr_172_93, qr_172_94, qr_172_95, qr_172_98, qr_172_99, qr_172_102, qr_172_104, qr_172_107, qr_172_108, qr_172_109, qr_172_110, qr_172_111, qr_172_114, qr_172_115, qr_172_116, qr_172_119, qr_172_120, qr_172_121, qr_172_124, qr_172_125, qr_172_126, qr_172_129, qr_172_130, true_and, and_true, false_and, and_false, Option.bind_some, Option.toList_some, Option.toList_none, List.nil_append, List.cons_append, if_true, if_false, ite_true, ite_false, not_true_eq_false, not_false_eq_true, qn_lt0, qn_ge0, qn_lt, qn_le, qn_eq, qn_e0, qn_gt0, qn_le0, qn_m1, nI_add, pk_mul, qb_e0, Classical.not_not, qa_up_s, qa_up_n, qa_uu, hhe, nI_add, qs_MO_isIn, qn_prd, g1, g2, e9, e10, e11, true_or, x2, ← hI1, t3, i11, i0, e0, x7 i hi, e1, hmk]
    · cases ht
      refine ⟨by rw [j0, qa_up_n _ _ (by omega), qa_up_n _ _ (by omega)]; exact x4, nd, rfl, Nat.le_refl _, by omega, ?_, by rw [j6]; exact hat.2.2⟩
      rw [j6]
      exact ⟨by rw [Int.toNat_natCast]; omega, by rw [Int.toNat_natCast]; exact hat.1⟩
  · have hnin : ((48 ≤ c i ∧ i < L) ∧ (c i < 48 + m ∨ L ≤ i)) = False := eq_false (by
      intro q
      have := q.1
      rcases q.2 with q2 | q2
      · exact h1 ⟨this.1, q2⟩
      · omega)
    have hnone : ∀ (hne : ¬ (c i = 40 ∧ e < 5)), ∃ v I' nd', qa_ex (d + 4) 172 [qa_a (some u), qa_i (nI m)] (K, I, R, n, z) = some (some (qa_i v), (K, I', R, n, z)) ∧ qM_F u I I' ∧ qM_R nd 1000 (I (u + 6)) (I' (u + 6)) ∧ I' u 15 = nI i ∧ I' u 16 = nI nd' ∧ nd ≤ nd' ∧ nd' + i ≤ nd + i ∧ ((none : Option qt_T) = none → v = -1) ∧ ∀ t, (none : Option qt_T) = some t → I' u 17 = nI e ∧ ∃ b, v = nI b ∧ nd ≤ b ∧ b < nd' ∧ qt_RM nd nd' (I' (u + 6)) t b ∧ I' (u + 6) (362 + b) = -1 := by
      intro hne
      refine ⟨-1, I, nd, ?_, ⟨fun _ _ _ => rfl, fun _ _ _ _ => rfl⟩, qM_R_r, x2, x3, Nat.le_refl _, Nat.le_refl _, fun _ => rfl, fun t ht => absurd ht (by simp)⟩
      by_cases h3 : c i = 40
      · have h5 : e = 5 := by
          have : ¬ e < 5 := fun q => hne ⟨h3, q⟩
          omega
        simp (disch := first | assumption | omega | exact Or.inl rfl | exact Or.inr rfl | exact qb_01) only [qe_172, qr_172_0, qr_172_1, qr_172_4, qr_172_6, qr_172_8, qr_172_9, qr_172_10, qr_172_11, qr_172_12, qr_172_15, qr_172_18, qr_172_19, qr_172_20, qr_172_23, qr_172_24, qr_172_25, qr_172_28, qr_172_29, qr_172_30, qr_172_33, qr_172_34, qr_172_37, qr_172_38, qr_172_39, qr_172_40, qr_172_42, qr_172_43, qr_172_46, qr_172_47, qr_172_48, qr_172_51, qr_172_53, qr_172_56, qr_172_57, qr_172_60, qr_172_61, qr_172_64, qr_172_65, qr_172_66, qr_172_67, qr_172_68, qr_172_71, qr_172_72, qr_172_73, qr_172_76, qr_172_77, qr_172_78, qr_172_81, qr_172_82, qr_172_83, qr_172_86, qr_172_87, qr_172_89, qr_172_90, qr_172_93, qr_172_94, qr_172_95, qr_172_98, qr_172_99, qr_172_102, qr_172_104, qr_172_107, qr_172_108, qr_172_109, qr_172_110, qr_172_111, qr_172_114, qr_172_115, qr_172_116, qr_172_119, qr_172_120, qr_172_121, qr_172_124, qr_172_125, qr_172_126, qr_172_129, qr_172_130, true_and, and_true, false_and, and_false, Option.bind_some, Option.toList_some, Option.toList_none, List.nil_append, List.cons_append, if_true, if_false, ite_true, ite_false, not_true_eq_false, not_false_eq_true, qn_lt0, qn_ge0, qn_lt, qn_le, qn_eq, qn_e0, qn_gt0, qn_le0, qn_m1, nI_add, pk_mul, qb_e0, Classical.not_not, qa_up_s, qa_up_n, qa_uu, hhe, nI_add, qs_MO_isIn, qn_prd, g1, g2, hnin, gv, eq_true h3, x4, h5]
      · simp (disch := first | assumption | omega | exact Or.inl rfl | exact Or.inr rfl | exact qb_01) only [qe_172, qr_172_0, qr_172_1, qr_172_4, qr_172_6, qr_172_8, qr_172_9, qr_172_10, qr_172_11, qr_172_12, qr_172_15, qr_172_18, qr_172_19, qr_172_20, qr_172_23, qr_172_24, qr_172_25, qr_172_28, qr_172_29, qr_172_30, qr_172_33, qr_172_34, qr_172_37, qr_172_38, qr_172_39, qr_172_40, qr_172_42, qr_172_43, qr_172_46, qr_172_47, qr_172_48, qr_172_51, qr_172_53, qr_172_56, qr_172_57, qr_172_60, qr_172_61, qr_172_64, qr_172_65, qr_172_66, qr_172_67, qr_172_68, qr_172_71, qr_172_72, qr_172_73, qr_172_76, qr_172_77, qr_172_78, qr_172_81, qr_172_82, qr_172_83, qr_172_86, qr_172_87, qr_172_89, qr_172_90, qr_172_93, qr_172_94, qr_172_95, qr_172_98, qr_172_99, qr_172_102, qr_172_104, qr_172_107, qr_172_108, qr_172_109, qr_172_110, qr_172_111, qr_172_114, qr_172_115, qr_172_116, qr_172_119, qr_172_120, qr_172_121, qr_172_124, qr_172_125, qr_172_126, qr_172_129, qr_172_130, true_and, and_true, false_and, and_false, Option.bind_some, Option.toList_some, Option.toList_none, List.nil_append, List.cons_append, if_true, if_false, ite_true, ite_false, not_true_eq_false, not_false_eq_true, qn_lt0, qn_ge0, qn_lt, qn_le, qn_eq, qn_e0, qn_gt0, qn_le0, qn_m1, nI_add, pk_mul, qb_e0, Classical.not_not, qa_up_s, qa_up_n, qa_uu, hhe, nI_add, qs_MO_isIn, qn_prd, g1, g2, hnin, gv, eq_false h3]
    by_cases h2 : 48 ≤ c i ∧ c i ≤ 57
    · rw [if_pos h2, if_neg (by omega)]
      exact hnone (by omega)
    · rw [if_neg h2]
      by_cases h3 : e < 5 ∧ c i = 40
      · rw [if_pos h3]
        have hi := hlt i (by omega)
        obtain ⟨I1, hI1⟩ : ∃ I1, I1 = va_up I u (va_up (va_up (I u) 15 (nI (i + 1))) 17 (nI (e + 1))) := ⟨_, rfl⟩
        have i6 : I1 (u + 6) = I (u + 6) := by rw [hI1, qa_up_n _ _ (by omega)]
        have i0 : I1 u = va_up (va_up (I u) 15 (nI (i + 1))) 17 (nI (e + 1)) := by rw [hI1, qa_up_s]
        have hF1 : qM_F u I I1 := ⟨fun a h1 _ => by rw [hI1, qa_up_n _ _ h1], fun f h1 h2 h3 => by rw [i0, qa_up_n _ _ h3, qa_up_n _ _ h1]⟩
        have hX1 : qM_x I1 u L c (i + 1) nd (e + 1) := qM_x_F hX hF1 (by rw [i0, qa_up_n _ _ (by omega), qa_up_s]) (by rw [i0, qa_up_n _ _ (by omega), qa_up_n _ _ (by omega)]; exact x3) (by rw [i0, qa_up_s]) (by omega)
        obtain ⟨v, I', nd', a1, a2, a3, a4, a5, a6, a7, a8, a9⟩ := hO (e + 1) (i + 1) (d + 3) nd I1 (by omega) (by omega) (by omega) hX1 (by omega)
        rw [if_neg (by omega), if_neg (by omega)] at a1
        have hok := qP_ok (m := m) hc F 2 (e + 1) (i + 1) (by omega) (by omega) (by omega)
        generalize qP c m F 2 (e + 1) (i + 1) = p at a4 a7 a8 a9 hok ⊢
        obtain ⟨r, j⟩ := p
        obtain ⟨k1, k2, k3⟩ := hok
        have k1 : i + 1 ≤ j := k1
        have k2 : j ≤ L := k2
        have a7 : nd' + (i + 1) ≤ nd + j := a7
        have h5 : ¬ e = 5 := by omega
        rw [i6] at a3
        cases r with
        | none =>
          have hv := a8 rfl
          subst hv
          refine ⟨-1, I', nd', ?_, qM_F_t hF1 a2, a3, a4, a5, a6, by show nd' + i ≤ nd + j; omega, fun _ => rfl, fun t ht => absurd ht (by show ¬ (none : Option qt_T) = some t; simp)⟩
          simp (disch := first | assumption | omega | exact Or.inl rfl | exact Or.inr rfl | exact qb_01) only [qe_172, qr_172_0, qr_172_1, qr_172_4, qr_172_6, qr_172_8, qr_172_9, qr_172_10, qr_172_11, qr_172_12, qr_172_15, qr_172_18, qr_172_19, qr_172_20, qr_172_23, qr_172_24, qr_172_25, qr_172_28, qr_172_29, qr_172_30, qr_172_33, qr_172_34, qr_172_37, qr_172_38, qr_172_39, qr_172_40, qr_172_42, qr_172_43, qr_172_46, qr_172_47, qr_172_48, qr_172_51, qr_172_53, qr_172_56, qr_172_57, qr_172_60, qr_172_61, qr_172_64, qr_172_65, qr_172_66, qr_172_67, qr_172_68, qr_172_71, qr_172_72, qr_172_73, qr_172_76, qr_172_77, qr_172_78, qr_172_81, qr_172_82, qr_172_83, qr_172_86, qr_172_87, qr_172_89, qr_172_90, qr_172_93, qr_172_94, qr_172_95, qr_172_98, qr_172_99, qr_172_102, qr_172_104, qr_172_107, qr_172_108, qr_172_109, qr_172_110, qr_172_111, qr_172_114, qr_172_115, qr_172_116, qr_172_119, qr_172_120, qr_172_121, qr_172_124, qr_172_125, qr_172_126, qr_172_129, qr_172_130, true_and, and_true, false_and, and_false, Option.bind_some, Option.toList_some, Option.toList_none, List.nil_append, List.cons_append, if_true, if_false, ite_true, ite_false, not_true_eq_false, not_false_eq_true, qn_lt0, qn_ge0, qn_lt, qn_le, qn_eq, qn_e0, qn_gt0, qn_le0, qn_m1, nI_add, pk_mul, qb_e0, Classical.not_not, qa_up_s, qa_up_n, qa_uu, hhe, nI_add, qs_MO_isIn, qn_prd, g1, g2, hnin, gv, eq_true h3.2, x2, x4, h5, ← hI1, a1, qn_m1l]
        | some t =>
          obtain ⟨b1, b, b2, b3, b4, b5, b6⟩ := a9 t rfl
          subst b2
          have hX2 : qM_x I' u L c j nd' (e + 1) := qM_x_F hX1 a2 a4 a5 b1 k2
          have hhe2 := qs_MO_here (d := d + 2) (n := n) (z := z) hM' hX2
          have gv2 := qR_v_eq (c := c) (L := L) (i := j) (w := 41) (by omega) x8 x9
          have hb31 : b < 2147483648 := by omega
          have a4 : I' u 15 = nI j := a4
          rw [show qP_cl c (some t, j) = (if c j = 41 then (some t, j + 1) else (none, j)) from rfl]
          by_cases h6 : c j = 41
          · rw [if_pos h6]
            obtain ⟨I2, hI2⟩ : ∃ I2, I2 = va_up I' u (va_up (va_up (I' u) 15 (nI (j + 1))) 17 (nI e)) := ⟨_, rfl⟩
            have i6 : I2 (u + 6) = I' (u + 6) := by rw [hI2, qa_up_n _ _ (by omega)]
            have i0 : I2 u = va_up (va_up (I' u) 15 (nI (j + 1))) 17 (nI e) := by rw [hI2, qa_up_s]
            have hF2 : qM_F u I' I2 := ⟨fun a h1 _ => by rw [hI2, qa_up_n _ _ h1], fun f h1 h2 h3 => by rw [i0, qa_up_n _ _ h3, qa_up_n _ _ h1]⟩
            have e0 : nI (e + 1) - nI 1 = nI e := qn_sub (by omega)
            refine ⟨nI b, I2, nd', ?_, qM_F_t (qM_F_t hF1 a2) hF2, by rw [i6]; exact a3, by rw [i0, qa_up_n _ _ (by omega), qa_up_s], by rw [i0, qa_up_n _ _ (by omega), qa_up_n _ _ (by omega)]; exact a5, a6, by show nd' + i ≤ nd + (j + 1); omega, fun h => absurd h (by simp), fun t' ht => ?_⟩
            · simp (disch := first | assumption | omega | exact Or.inl rfl | exact Or.inr rfl | exact qb_01) only [qe_172, qr_172_0, qr_172_1, qr_172_4, qr_172_6, qr_172_8, qr_172_9, qr_172_10, qr_172_11, qr_172_12, qr_172_15, qr_172_18, qr_172_19, qr_172_20, qr_172_23, qr_172_24, qr_172_25, qr_172_28, qr_172_29, qr_172_30, qr_172_33, qr_172_34, qr_172_37, qr_172_38, qr_172_39, qr_172_40, qr_172_42, qr_172_43, qr_172_46, qr_172_47, qr_172_48, qr_172_51, qr_172_53, qr_172_56, qr_172_57, qr_172_60, qr_172_61, qr_172_64, qr_172_65, qr_172_66, qr_172_67, qr_172_68, qr_172_71, qr_172_72, qr_172_73, qr_172_76, qr_172_77, qr_172_78, qr_172_81, qr_172_82, qr_172_83, qr_172_86, qr_172_87, qr_172_89, qr_172_90, qr_172_93, qr_172_94, qr_172_95, qr_172_98, qr_172_99, qr_172_102, qr_172_104, qr_172_107, qr_172_108, qr_172_109, qr_172_110, qr_172_111, qr_172_114, qr_172_115, qr_172_116, qr_172_119, qr_172_120, qr_172_121, qr_172_124, qr_172_125, qr_172_126, qr_172_129, qr_172_130, true_and, and_true, false_and, and_false, Option.bind_some, Option.toList_some, Option.toList_none, List.nil_append, List.cons_append, if_true, if_false, ite_true, ite_false, not_true_eq_false, not_false_eq_true, qn_lt0, qn_ge0, qn_lt, qn_le, qn_eq, qn_e0, qn_gt0, qn_le0, qn_m1, nI_add, pk_mul, qb_e0, Classical.not_not, qa_up_s, qa_up_n, qa_uu, hhe, nI_add, qs_MO_isIn, qn_prd, g1, g2, hnin, gv, eq_true h3.2, x2, x4, h5, ← hI1, a1, hhe2, gv2, eq_true h6, a4, b1, e0]
              rw [hI2]
            · cases ht
              exact ⟨by rw [i0, qa_up_s], b, rfl, b3, b4, by rw [i6]; exact b5, by rw [i6]; exact b6⟩
          · rw [if_neg h6]
            refine ⟨-1, I', nd', ?_, qM_F_t hF1 a2, a3, a4, a5, a6, by show nd' + i ≤ nd + j; omega, fun _ => rfl, fun t' ht => absurd ht (by simp)⟩
            simp (disch := first | assumption | omega | exact Or.inl rfl | exact Or.inr rfl | exact qb_01) only [qe_172, qr_172_0, qr_172_1, qr_172_4, qr_172_6, qr_172_8, qr_172_9, qr_172_10, qr_172_11, qr_172_12, qr_172_15, qr_172_18, qr_172_19, qr_172_20, qr_172_23, qr_172_24, qr_172_25, qr_172_28, qr_172_29, qr_172_30, qr_172_33, qr_172_34, qr_172_37, qr_172_38, qr_172_39, qr_172_40, qr_172_42, qr_172_43, qr_172_46, qr_172_47, qr_172_48, qr_172_51, qr_172_53, qr_172_56, qr_172_57, qr_172_60, qr_172_61, qr_172_64, qr_172_65, qr_172_66, qr_172_67, qr_172_68, qr_172_71, qr_172_72, qr_172_73, qr_172_76, qr_172_77, qr_172_78, qr_172_81, qr_172_82, qr_172_83, qr_172_86, qr_172_87, qr_172_89, qr_172_90, qr_172_93, qr_172_94, qr_172_95, qr_172_98, qr_172_99, qr_172_102, qr_172_104, qr_172_107, qr_172_108, qr_172_109, qr_172_110, qr_172_111, qr_172_114, qr_172_115, qr_172_116, qr_172_119, qr_172_120, qr_172_121, qr_172_124, qr_172_125, qr_172_126, qr_172_129, qr_172_130, true_and, and_true, false_and, and_false, Option.bind_some, Option.toList_some, Option.toList_none, List.nil_append, List.cons_append, if_true, if_false, ite_true, ite_false, not_true_eq_false, not_false_eq_true, qn_lt0, qn_ge0, qn_lt, qn_le, qn_eq, qn_e0, qn_gt0, qn_le0, qn_m1, nI_add, pk_mul, qb_e0, Classical.not_not, qa_up_s, qa_up_n, qa_uu, hhe, nI_add, qs_MO_isIn, qn_prd, g1, g2, hnin, gv, eq_true h3.2, x2, x4, h5, ← hI1, a1, hhe2, gv2, eq_false h6]
      · rw [if_neg h3]
        exact hnone (fun q => h3 ⟨q.2, q.1⟩)
theorem qM_loop0 (hM : qp_MO K R u) (hm : m ≤ 10) (hc : ∀ j, L ≤ j → c j = 200) (hS : qM_S u K R n z c m L 0 F) (hQ : qM_Q u K R n z c m L 0 F) : qM_Q u K R n z c m L 0 (F + 1) := by
  intro e j D nd nd0 b l4 l7 I he hF hD hX hnd hb hnx
  have hM' := hM
  obtain ⟨d, rfl⟩ : ∃ d, D = d + 4 := ⟨D - 4, by omega⟩
  have hq : qP c m (F + 1) (0 + 3) e j = qP_lp 0 c j (qP c m F 0 e (j + 1)) (fun j => qP c m F (0 + 3) e j) := by
    rw [qP, if_neg (by omega), if_neg (by omega)]
  have hsg : qP_sg 0 = 38 := rfl
  have kf : ¬ (100 : Nat) = 101 := by omega
  have hhe := qs_MO_here (d := d + 3) (n := n) (z := z) hM hX
  obtain ⟨x1, x2, x3, x4, x5, x6, x7, x8, x9⟩ := id hX
  obtain ⟨m0, -, -, -, -, -, ⟨r1, r2, r3⟩, -⟩ := hM
  have hlt : ∀ j, ¬ c j = 200 → j < L := fun j hj => Decidable.byContradiction fun h => hj (hc j (by omega))
  have gv := qR_v_eq (c := c) (L := L) (i := j) (w := 38) (by omega) x8 x9
  rw [hq, hsg]
  by_cases h1 : c j = 38
  · have h1s : c j = qP_sg 0 := h1
    have hj := hlt j (by omega)
    obtain ⟨I1, hI1⟩ : ∃ I1, I1 = va_up I u (va_up (I u) 15 (nI (j + 1))) := ⟨_, rfl⟩
    have i6 : I1 (u + 6) = I (u + 6) := by rw [hI1, qa_up_n _ _ (by omega)]
    have i0 : I1 u = va_up (I u) 15 (nI (j + 1)) := by rw [hI1, qa_up_s]
    have hF1 : qM_F u I I1 := ⟨fun a h1 _ => by rw [hI1, qa_up_n _ _ h1], fun f h1 h2 h3 => by rw [i0, qa_up_n _ _ h1]⟩
    have hX1 : qM_x I1 u L c (j + 1) nd e := qM_x_F hX hF1 (by rw [i0, qa_up_s]) (by rw [i0, qa_up_n _ _ (by omega)]; exact x3) (by rw [i0, qa_up_n _ _ (by omega)]; exact x4) (by omega)
    obtain ⟨v, I', nd', a1, a2, a3, a4, a5, a6, a7, a8, a9⟩ := hS e (j + 1) (d + 4) nd I1 he (by omega) (by omega) hX1 (by omega)
    rw [if_pos rfl, if_pos rfl] at a1
    have hok := qP_ok (m := m) hc F 0 e (j + 1) (by omega) he (by omega)
    generalize qP c m F 0 e (j + 1) = p at a4 a7 a8 a9 hok ⊢
    obtain ⟨k1, k2, k3⟩ := hok
    rw [i6] at a3
    cases hp : p.1 with
    | none =>
      have hv := a8 hp
      subst hv
      rw [qP_lp_n h1s hp]
      refine ⟨-1, I', nd', ?_, qM_F_t hF1 a2, ⟨a3.1, fun k hk => ⟨(a3.2 k hk).1, (a3.2 k hk).2.1, fun _ => (a3.2 k hk).2.2 (by omega)⟩⟩, a4, a5, a6, by rw [if_pos h1]; show nd' + j + 1 ≤ nd + p.2; omega, fun _ => rfl, fun t ht => absurd ht (by simp)⟩
      rw [qr_171_77]
      simp (disch := first | assumption | omega | exact Or.inl rfl | exact Or.inr rfl | exact qb_01) only [qr_171_0, qr_171_1, qr_171_3, qr_171_6, qr_171_8, qr_171_11, qr_171_13, qr_171_14, qr_171_15, qr_171_17, qr_171_20, qr_171_21, qr_171_23, qr_171_24, qr_171_27, qr_171_30, qr_171_31, qr_171_32, qr_171_35, qr_171_37, qr_171_39, qr_171_42, qr_171_43, qr_171_46, qr_171_47, qr_171_50, qr_171_52, qr_171_53, qr_171_54, qr_171_55, qr_171_58, qr_171_60, qr_171_61, qr_171_64, qr_171_67, qr_171_69, qr_171_70, qr_171_72, qr_171_73, qr_171_75, qr_171_78, qr_171_81, qr_171_82, qr_171_85, qr_171_86, qr_171_87, qr_171_90, qr_171_91, qr_171_92, qr_171_95, qr_171_96, qr_171_98, qr_171_101, qr_171_102, qr_171_104, qr_171_105, qr_171_108, qr_171_111, qr_171_112, qr_171_113, qr_171_116, qr_171_118, qr_171_120, qr_171_123, qr_171_124, qr_171_125, qr_171_126, qr_171_129, qr_171_132, qr_171_134, qr_171_135, qr_171_137, qr_171_138, qr_171_140, qr_171_142, qr_171_145, qr_171_147, true_and, and_true, false_and, and_false, Option.bind_some, Option.toList_some, Option.toList_none, List.nil_append, List.cons_append, if_true, if_false, ite_true, ite_false, not_true_eq_false, not_false_eq_true, qn_lt0, qn_ge0, qn_lt, qn_le, qn_eq, qn_e0, qn_gt0, qn_le0, qn_m1, nI_add, pk_mul, qb_e0, Classical.not_not, qa_up_s, qa_up_n, qa_uu, hhe, gv, eq_true h1, x2, ← hI1, kf, a1, qn_m10, qn_m1z]
    | some t =>
      obtain ⟨b1, bb, b2, b3, b4, b5, b6⟩ := a9 t hp
      subst b2
      obtain ⟨-, k4, -⟩ := k3 t hp
      have k5 : j + 1 < p.2 := (k4 (by omega)).1
      have hX2 : qM_x I' u L c p.2 nd' e := qM_x_F hX1 a2 a4 a5 b1 k2
      obtain ⟨I2, hI2⟩ : ∃ I2, I2 = va_up I' (u + 6) (va_up (I' (u + 6)) (362 + b) (nI bb)) := ⟨_, rfl⟩
      have j6 : I2 (u + 6) = va_up (I' (u + 6)) (362 + b) (nI bb) := by rw [hI2, qa_up_s]
      have j0 : ∀ a, a ≠ u + 6 → I2 a = I' a := fun a ha => by rw [hI2, qa_up_n _ _ ha]
      have hF2 : qM_F u I' I2 := ⟨fun a _ h2 => j0 a h2, fun f _ _ _ => by rw [j0 u (by omega)]⟩
      have hX3 : qM_x I2 u L c p.2 nd' e := qM_x_F hX2 hF2 (by rw [j0 u (by omega)]; exact a4) (by rw [j0 u (by omega)]; exact a5) (by rw [j0 u (by omega)]; exact b1) k2
      have hb31 : bb < 2147483648 := by omega
      have hbb : bb ≠ b := by omega
      obtain ⟨v, I3, n3, c1, c2, c3, c4, c5, c6, c7, c8, c9⟩ := hQ e p.2 (d + 4) nd' nd0 bb l4 (qa_i (nI bb)) I2 he (by omega) (by omega) hX3 (by omega) b4 (by rw [j6, qa_up_n _ _ (by omega)]; exact b6)
      have hok2 := qP_ok (m := m) hc F (0 + 3) e p.2 (by omega) he k2
      rw [hsg] at c1
      have hR2 : qM_R nd b (I (u + 6)) (I2 (u + 6)) := by
        rw [j6]
        refine ⟨fun x hx => by rw [qa_up_n _ _ (by omega)]; exact a3.1 x hx, fun k hk => ⟨by rw [qa_up_n _ _ (by omega)]; exact (a3.2 k hk).1, by rw [qa_up_n _ _ (by omega)]; exact (a3.2 k hk).2.1, fun hne => by rw [qa_up_n _ _ (by omega)]; exact (a3.2 k hk).2.2 (by omega)⟩⟩
      have gR := qM_R_t hR2 c3 a6 (Or.inl b3)
      have gF := qM_F_t (qM_F_t hF1 a2) (qM_F_t hF2 c2)
      have k6 := hok2.1
      have hif : 0 ≤ (if c p.2 = qP_sg 0 then 1 else 0) := Nat.zero_le _
      have hbd : n3 + j + 1 ≤ nd + (qP c m F (0 + 3) e p.2).2 := by omega
      have hrun : qa_run (d + 4) 171 77 [qa_a (some u), qa_i (nI 100), qa_i (nI m), qa_i (nI 38), l4, qa_i (nI nd0), qa_i (nI b), l7] [] [] (K, I, R, n, z) = some (some (qa_i v), (K, I3, R, n, z)) := by
        rw [qr_171_77]
        simp (disch := first | assumption | omega | exact Or.inl rfl | exact Or.inr rfl | exact qb_01) only [qr_171_0, qr_171_1, qr_171_3, qr_171_6, qr_171_8, qr_171_11, qr_171_13, qr_171_14, qr_171_15, qr_171_17, qr_171_20, qr_171_21, qr_171_23, qr_171_24, qr_171_27, qr_171_30, qr_171_31, qr_171_32, qr_171_35, qr_171_37, qr_171_39, qr_171_42, qr_171_43, qr_171_46, qr_171_47, qr_171_50, qr_171_52, qr_171_53, qr_171_54, qr_171_55, qr_171_58, qr_171_60, qr_171_61, qr_171_64, qr_171_67, qr_171_69, qr_171_70, qr_171_72, qr_171_73, qr_171_75, qr_171_78, qr_171_81, qr_171_82, qr_171_85, qr_171_86, qr_171_87, qr_171_90, qr_171_91, qr_171_92, qr_171_95, qr_171_96, qr_171_98, qr_171_101, qr_171_102, qr_171_104, qr_171_105, qr_171_108, qr_171_111, qr_171_112, qr_171_113, qr_171_116, qr_171_118, qr_171_120, qr_171_123, qr_171_124, qr_171_125, qr_171_126, qr_171_129, qr_171_132, qr_171_134, qr_171_135, qr_171_137, qr_171_138, qr_171_140, qr_171_142, qr_171_145, qr_171_147, true_and, and_true, false_and, and_false, Option.bind_some, Option.toList_some, Option.toList_none, List.nil_append, List.cons_append, if_true, if_false, ite_true, ite_false, not_true_eq_false, not_false_eq_true, qn_lt0, qn_ge0, qn_lt, qn_le, qn_eq, qn_e0, qn_gt0, qn_le0, qn_m1, nI_add, pk_mul, qb_e0, Classical.not_not, qa_up_s, qa_up_n, qa_uu, hhe, gv, eq_true h1, x2, ← hI1, kf, a1, r3, ← hI2]
        exact c1
      cases hl : (qP c m F (0 + 3) e p.2).1 with
      | none =>
        rw [qP_lp_nn h1s hp hl]
        exact ⟨v, I3, n3, hrun, gF, gR, c4, c5, by omega, by rw [if_pos h1]; exact hbd, fun _ => c8 hl, fun t ht => absurd ht (by simp)⟩
      | some f =>
        obtain ⟨d1, d2, d3⟩ := c9 f hl
        rw [qP_lp_s h1s hp hl]
        refine ⟨v, I3, n3, hrun, gF, gR, c4, c5, by omega, by rw [if_pos h1]; exact hbd, fun h => absurd h (by simp), fun f' hf' => ?_⟩
        cases hf'
        refine ⟨d1, d2, ?_⟩
        have hnb : I3 (u + 6) (362 + b) = nI bb := by rw [(c3.2 b (by omega)).2.2 (by omega), j6, qa_up_s]
        rw [hnb]
        refine qt_RM_M (lo := nd) (hi := nd') (qt_RM_cg (fun k k1 k2 k3 => ?_) ?_ ?_ b5) b3 b4 (by omega) (Nat.le_refl _) c6 (by omega) ?_
        · obtain ⟨g1, g2, g3⟩ := c3.2 k k2
          rw [g1, g2, g3 k3, j6, qa_up_n _ _ (by omega), qa_up_n _ _ (by omega), qa_up_n _ _ (by omega)]
          exact ⟨rfl, rfl, rfl⟩
        · rw [(c3.2 bb b4).1, j6, qa_up_n _ _ (by omega)]
        · rw [(c3.2 bb b4).2.1, j6, qa_up_n _ _ (by omega)]
        · exact qt_MB_cg (fun _ _ _ _ => ⟨rfl, rfl, rfl⟩) a6 (Nat.le_refl _) (fun _ _ _ q => q) d3
  · have h1s : ¬ c j = qP_sg 0 := h1
    rw [qP_lp_0 h1s]
    refine ⟨nI nd0, I, nd, ?_, ⟨fun _ _ _ => rfl, fun _ _ _ _ => rfl⟩, qM_R_r, x2, x3, Nat.le_refl _, by rw [if_neg h1]; exact Nat.le_refl _, fun h => absurd h (by simp), fun f hf => ?_⟩
    · rw [qr_171_77]
      simp (disch := first | assumption | omega | exact Or.inl rfl | exact Or.inr rfl | exact qb_01) only [qr_171_0, qr_171_1, qr_171_3, qr_171_6, qr_171_8, qr_171_11, qr_171_13, qr_171_14, qr_171_15, qr_171_17, qr_171_20, qr_171_21, qr_171_23, qr_171_24, qr_171_27, qr_171_30, qr_171_31, qr_171_32, qr_171_35, qr_171_37, qr_171_39, qr_171_42, qr_171_43, qr_171_46, qr_171_47, qr_171_50, qr_171_52, qr_171_53, qr_171_54, qr_171_55, qr_171_58, qr_171_60, qr_171_61, qr_171_64, qr_171_67, qr_171_69, qr_171_70, qr_171_72, qr_171_73, qr_171_75, qr_171_78, qr_171_81, qr_171_82, qr_171_85, qr_171_86, qr_171_87, qr_171_90, qr_171_91, qr_171_92, qr_171_95, qr_171_96, qr_171_98, qr_171_101, qr_171_102, qr_171_104, qr_171_105, qr_171_108, qr_171_111, qr_171_112, qr_171_113, qr_171_116, qr_171_118, qr_171_120, qr_171_123, qr_171_124, qr_171_125, qr_171_126, qr_171_129, qr_171_132, qr_171_134, qr_171_135, qr_171_137, qr_171_138, qr_171_140, qr_171_142, qr_171_145, qr_171_147, true_and, and_true, false_and, and_false, Option.bind_some, Option.toList_some, Option.toList_none, List.nil_append, List.cons_append, if_true, if_false, ite_true, ite_false, not_true_eq_false, not_false_eq_true, qn_lt0, qn_ge0, qn_lt, qn_le, qn_eq, qn_e0, qn_gt0, qn_le0, qn_m1, nI_add, pk_mul, qb_e0, Classical.not_not, qa_up_s, qa_up_n, qa_uu, hhe, gv, eq_false h1]
    · cases hf
      exact ⟨x4, rfl, hnx⟩
theorem qM_par0 (hM : qp_MO K R u) (hm : m ≤ 10) (hc : ∀ j, L ≤ j → c j = 200) (hS : qM_S u K R n z c m L 0 F) (hQ : qM_Q u K R n z c m L 0 F) : qM_S u K R n z c m L 1 (F + 1) := by
  intro e i D nd I he hF hD hX hnd
  have hM' := hM
  obtain ⟨d, rfl⟩ : ∃ d, D = d + 5 := ⟨D - 5, by omega⟩
  have hq : qP c m (F + 1) 1 e i = qP_par 0 c (qP c m F 0 e i) (fun j => qP c m F (0 + 3) e j) := by
    rw [qP, if_neg (by omega), if_pos (by omega)]
  have hsg : qP_sg 0 = 38 := rfl
  have kf : ¬ (100 : Nat) = 101 := by omega
  obtain ⟨x1, x2, x3, x4, x5, x6, x7, x8, x9⟩ := id hX
  obtain ⟨m0, -, -, -, -, -, ⟨r1, r2, r3⟩, -⟩ := hM
  rw [hq, if_neg (by omega), if_neg (by omega)]
  obtain ⟨v, I', nd', a1, a2, a3, a4, a5, a6, a7, a8, a9⟩ := hS e i (d + 4) nd I he (by omega) (by omega) hX hnd
  rw [if_pos rfl, if_pos rfl] at a1
  have hok := qP_ok (m := m) hc F 0 e i (by omega) he x5
  generalize qP c m F 0 e i = p at a4 a7 a8 a9 hok ⊢
  obtain ⟨k1, k2, k3⟩ := hok
  cases hp : p.1 with
  | none =>
    have hv := a8 hp
    subst hv
    rw [qP_par_n hp]
    refine ⟨-1, I', nd', ?_, a2, a3, a4, a5, a6, a7, fun _ => rfl, fun t ht => absurd ht (by simp)⟩
    simp (disch := first | assumption | omega | exact Or.inl rfl | exact Or.inr rfl | exact qb_01) only [qe_171, qr_171_0, qr_171_1, qr_171_3, qr_171_6, qr_171_8, qr_171_11, qr_171_13, qr_171_14, qr_171_15, qr_171_17, qr_171_20, qr_171_21, qr_171_23, qr_171_24, qr_171_27, qr_171_30, qr_171_31, qr_171_32, qr_171_35, qr_171_37, qr_171_39, qr_171_42, qr_171_43, qr_171_46, qr_171_47, qr_171_50, qr_171_52, qr_171_53, qr_171_54, qr_171_55, qr_171_58, qr_171_60, qr_171_61, qr_171_64, qr_171_67, qr_171_69, qr_171_70, qr_171_72, qr_171_73, qr_171_75, qr_171_78, qr_171_81, qr_171_82, qr_171_85, qr_171_86, qr_171_87, qr_171_90, qr_171_91, qr_171_92, qr_171_95, qr_171_96, qr_171_98, qr_171_101, qr_171_102, qr_171_104, qr_171_105, qr_171_108, qr_171_111, qr_171_112, qr_171_113, qr_171_116, qr_171_118, qr_171_120, qr_171_123, qr_171_124, qr_171_125, qr_171_126, qr_171_129, qr_171_132, qr_171_134, qr_171_135, qr_171_137, qr_171_138, qr_171_140, qr_171_142, qr_171_145, qr_171_147, true_and, and_true, false_and, and_false, Option.bind_some, Option.toList_some, Option.toList_none, List.nil_append, List.cons_append, if_true, if_false, ite_true, ite_false, not_true_eq_false, not_false_eq_true, qn_lt0, qn_ge0, qn_lt, qn_le, qn_eq, qn_e0, qn_gt0, qn_le0, qn_m1, nI_add, pk_mul, qb_e0, Classical.not_not, qa_up_s, qa_up_n, qa_uu, Nat.reduceAdd, kf, a1, qn_m1l]
  | some t =>
    obtain ⟨b1, bb, b2, b3, b4, b5, b6⟩ := a9 t hp
    subst b2
    obtain ⟨-, k4, -⟩ := k3 t hp
    have k5 : i < p.2 := (k4 (by omega)).1
    have hX2 : qM_x I' u L c p.2 nd' e := qM_x_F hX a2 a4 a5 b1 k2
    have hhe := qs_MO_here (d := d + 3) (n := n) (z := z) hM' hX2
    have gv := qR_v_eq (c := c) (L := L) (i := p.2) (w := 38) (by omega) x8 x9
    have hb31 : bb < 2147483648 := by omega
    by_cases h1 : c p.2 = 38
    · have h1s : c p.2 = qP_sg 0 := h1
      have hmk := qs_MO_makes (d := d + 3) (I := I') (n := n) (z := z) (x := nI 100) (nd := nd') hM' a5 (by omega)
      obtain ⟨I1, hI1⟩ : ∃ I1, I1 = va_up (va_up I' (u + 6) (qM_mk (I' (u + 6)) nd' (nI 100))) u (va_up (I' u) 16 (nI (nd' + 1))) := ⟨_, rfl⟩
      rw [← hI1] at hmk
      obtain ⟨I2, hI2⟩ : ∃ I2, I2 = va_up I1 (u + 6) (va_up (I1 (u + 6)) (192 + nd') (nI bb)) := ⟨_, rfl⟩
      have hmR := qM_mk_R (ex := 1000) (c := I' (u + 6)) (x := nI 100) (nd := nd') (by omega)
      have hma := qM_mk_at (c := I' (u + 6)) (x := nI 100) (nd := nd') (by omega)
      have i6 : I1 (u + 6) = qM_mk (I' (u + 6)) nd' (nI 100) := by rw [hI1, qa_up_n _ _ (by omega), qa_up_s]
      have j6 : I2 (u + 6) = va_up (qM_mk (I' (u + 6)) nd' (nI 100)) (192 + nd') (nI bb) := by rw [hI2, qa_up_s, i6]
      have j0 : I2 u = va_up (I' u) 16 (nI (nd' + 1)) := by rw [hI2, qa_up_n _ _ (by omega), hI1, qa_up_s]
      have hF2 : qM_F u I' I2 := ⟨fun a h1 h2 => by rw [hI2, qa_up_n _ _ h2, hI1, qa_up_n _ _ h1, qa_up_n _ _ h2], fun f h1 h2 h3 => by rw [j0, qa_up_n _ _ h2]⟩
      have hR2 : qM_R nd' 1000 (I' (u + 6)) (I2 (u + 6)) := by
        rw [j6]
        exact ⟨fun x hx => by rw [qa_up_n _ _ (by omega)]; exact hmR.1 x hx, fun k hk => ⟨by rw [qa_up_n _ _ (by omega)]; exact (hmR.2 k hk).1, by rw [qa_up_n _ _ (by omega)]; exact (hmR.2 k hk).2.1, fun hne => by rw [qa_up_n _ _ (by omega)]; exact (hmR.2 k hk).2.2 hne⟩⟩
      have hX3 : qM_x I2 u L c p.2 (nd' + 1) e := qM_x_F hX2 hF2 (by rw [j0, qa_up_n _ _ (by omega)]; exact a4) (by rw [j0, qa_up_s]) (by rw [j0, qa_up_n _ _ (by omega)]; exact b1) k2
      obtain ⟨v, I3, n3, c1, c2, c3, c4, c5, c6, c7, c8, c9⟩ := hQ e p.2 (d + 4) (nd' + 1) nd' bb (qa_i (nI bb)) qa_u I2 he (by omega) (by omega) hX3 (by omega) (by omega) (by rw [(hR2.2 bb b4).2.2 (by omega)]; exact b6)
      have hok2 := qP_ok (m := m) hc F (0 + 3) e p.2 (by omega) he k2
      rw [hsg] at c1
      rw [if_pos h1s] at c7
      have gF := qM_F_t a2 (qM_F_t hF2 c2)
      have gR := qM_R_t (qM_R_t a3 hR2 a6 (Or.inr rfl)) c3 (by omega) (Or.inl b3)
      have k6 := hok2.1
      have hbd : n3 + i ≤ nd + (qP c m F (0 + 3) e p.2).2 := by omega
      have hrun : qa_ex (d + 5) 171 [qa_a (some u), qa_i (nI (99 + 1)), qa_i (nI m)] (K, I, R, n, z) = some (some (qa_i v), (K, I3, R, n, z)) := by
        simp (disch := first | assumption | omega | exact Or.inl rfl | exact Or.inr rfl | exact qb_01) only [qe_171, qr_171_0, qr_171_1, qr_171_3, qr_171_6, qr_171_8, qr_171_11, qr_171_13, qr_171_14, qr_171_15, qr_171_17, qr_171_20, qr_171_21, qr_171_23, qr_171_24, qr_171_27, qr_171_30, qr_171_31, qr_171_32, qr_171_35, qr_171_37, qr_171_39, qr_171_42, qr_171_43, qr_171_46, qr_171_47, qr_171_50, qr_171_52, qr_171_53, qr_171_54, qr_171_55, qr_171_58, qr_171_60, qr_171_61, qr_171_64, qr_171_67, qr_171_69, qr_171_70, qr_171_72, qr_171_73, qr_171_75, qr_171_78, qr_171_81, qr_171_82, qr_171_85, qr_171_86, qr_171_87, qr_171_90, qr_171_91, qr_171_92, qr_171_95, qr_171_96, qr_171_98, qr_171_101, qr_171_102, qr_171_104, qr_171_105, qr_171_108, qr_171_111, qr_171_112, qr_171_113, qr_171_116, qr_171_118, qr_171_120, qr_171_123, qr_171_124, qr_171_125, qr_171_126, qr_171_129, qr_171_132, qr_171_134, qr_171_135, qr_171_137, qr_171_138, qr_171_140, qr_171_142, qr_171_145, qr_171_147, true_and, and_true, false_and, and_false, Option.bind_some, Option.toList_some, Option.toList_none, List.nil_append, List.cons_append, if_true, if_false, ite_true, ite_false, not_true_eq_false, not_false_eq_true, qn_lt0, qn_ge0, qn_lt, qn_le, qn_eq, qn_e0, qn_gt0, qn_le0, qn_m1, nI_add, pk_mul, qb_e0, Classical.not_not, qa_up_s, qa_up_n, qa_uu, Nat.reduceAdd, kf, a1, hhe, gv, eq_true h1, hmk, r3, ← hI2]
        exact c1
      cases hl : (qP c m F (0 + 3) e p.2).1 with
      | none =>
        rw [qP_par_nn hp h1s hl]
        exact ⟨v, I3, n3, hrun, gF, gR, c4, c5, by omega, hbd, fun _ => c8 hl, fun t ht => absurd ht (by simp)⟩
      | some f =>
        obtain ⟨d1, d2, d3⟩ := c9 f hl
        rw [qP_par_s hp h1s hl]
        refine ⟨v, I3, n3, hrun, gF, gR, c4, c5, by omega, hbd, fun h => absurd h (by simp), fun f' hf' => ?_⟩
        cases hf'
        have e1 : I3 (u + 6) (22 + nd') = nI 100 := by rw [(c3.2 nd' (by omega)).1, j6, qa_up_n _ _ (by omega)]; exact hma.1
        have e2 : I3 (u + 6) (192 + nd') = nI bb := by rw [(c3.2 nd' (by omega)).2.1, j6, qa_up_s]
        have e3 : I3 (u + 6) (362 + nd') = -1 := by rw [(c3.2 nd' (by omega)).2.2 (by omega), j6, qa_up_n _ _ (by omega)]; exact hma.2.2
        refine ⟨d1, nd', d2, a6, by omega, ⟨e1, ?_⟩, e3⟩
        rw [e2]
        refine qt_RM_M (lo := nd) (hi := nd') (qt_RM_cg (fun k k1 k2 k3 => ?_) ?_ ?_ b5) b3 b4 (by omega) (Nat.le_refl _) (by omega) (by omega) ?_
        · obtain ⟨g1, g2, g3⟩ := c3.2 k (by omega)
          obtain ⟨h1, h2, h3⟩ := hR2.2 k k2
          rw [g1, g2, g3 k3, h1, h2, h3 (by omega)]
          exact ⟨rfl, rfl, rfl⟩
        · rw [(c3.2 bb (by omega)).1, (hR2.2 bb b4).1]
        · rw [(c3.2 bb (by omega)).2.1, (hR2.2 bb b4).2.1]
        · exact qt_MB_cg (fun _ _ _ _ => ⟨rfl, rfl, rfl⟩) (by omega) (Nat.le_refl _) (fun j j1 _ _ q => by omega) d3
    · have h1s : ¬ c p.2 = qP_sg 0 := h1
      rw [qP_par_1 hp h1s]
      refine ⟨nI bb, I', nd', ?_, a2, a3, a4, a5, a6, a7, fun h => absurd h (by simp), fun t' ht' => ?_⟩
      · simp (disch := first | assumption | omega | exact Or.inl rfl | exact Or.inr rfl | exact qb_01) only [qe_171, qr_171_0, qr_171_1, qr_171_3, qr_171_6, qr_171_8, qr_171_11, qr_171_13, qr_171_14, qr_171_15, qr_171_17, qr_171_20, qr_171_21, qr_171_23, qr_171_24, qr_171_27, qr_171_30, qr_171_31, qr_171_32, qr_171_35, qr_171_37, qr_171_39, qr_171_42, qr_171_43, qr_171_46, qr_171_47, qr_171_50, qr_171_52, qr_171_53, qr_171_54, qr_171_55, qr_171_58, qr_171_60, qr_171_61, qr_171_64, qr_171_67, qr_171_69, qr_171_70, qr_171_72, qr_171_73, qr_171_75, qr_171_78, qr_171_81, qr_171_82, qr_171_85, qr_171_86, qr_171_87, qr_171_90, qr_171_91, qr_171_92, qr_171_95, qr_171_96, qr_171_98, qr_171_101, qr_171_102, qr_171_104, qr_171_105, qr_171_108, qr_171_111, qr_171_112, qr_171_113, qr_171_116, qr_171_118, qr_171_120, qr_171_123, qr_171_124, qr_171_125, qr_171_126, qr_171_129, qr_171_132, qr_171_134, qr_171_135, qr_171_137, qr_171_138, qr_171_140, qr_171_142, qr_171_145, qr_171_147, true_and, and_true, false_and, and_false, Option.bind_some, Option.toList_some, Option.toList_none, List.nil_append, List.cons_append, if_true, if_false, ite_true, ite_false, not_true_eq_false, not_false_eq_true, qn_lt0, qn_ge0, qn_lt, qn_le, qn_eq, qn_e0, qn_gt0, qn_le0, qn_m1, nI_add, pk_mul, qb_e0, Classical.not_not, qa_up_s, qa_up_n, qa_uu, Nat.reduceAdd, kf, a1, hhe, gv, eq_false h1]
      · cases ht'
        exact ⟨b1, bb, rfl, b3, b4, b5, b6⟩
theorem qM_loop1 (hM : qp_MO K R u) (hm : m ≤ 10) (hc : ∀ j, L ≤ j → c j = 200) (hS : qM_S u K R n z c m L 1 F) (hQ : qM_Q u K R n z c m L 1 F) : qM_Q u K R n z c m L 1 (F + 1) := by
  intro e j D nd nd0 b l4 l7 I he hF hD hX hnd hb hnx
  have hM' := hM
  obtain ⟨d, rfl⟩ : ∃ d, D = d + 4 := ⟨D - 4, by omega⟩
  have hq : qP c m (F + 1) (1 + 3) e j = qP_lp 1 c j (qP c m F 1 e (j + 1)) (fun j => qP c m F (1 + 3) e j) := by
    rw [qP, if_neg (by omega), if_neg (by omega)]
  have hsg : qP_sg 1 = 124 := rfl
  have kf : (101 : Nat) = 101 := rfl
  have hhe := qs_MO_here (d := d + 3) (n := n) (z := z) hM hX
  obtain ⟨x1, x2, x3, x4, x5, x6, x7, x8, x9⟩ := id hX
  obtain ⟨m0, -, -, -, -, -, ⟨r1, r2, r3⟩, -⟩ := hM
  have hlt : ∀ j, ¬ c j = 200 → j < L := fun j hj => Decidable.byContradiction fun h => hj (hc j (by omega))
  have gv := qR_v_eq (c := c) (L := L) (i := j) (w := 124) (by omega) x8 x9
  rw [hq, hsg]
  by_cases h1 : c j = 124
  · have h1s : c j = qP_sg 1 := h1
    have hj := hlt j (by omega)
    obtain ⟨I1, hI1⟩ : ∃ I1, I1 = va_up I u (va_up (I u) 15 (nI (j + 1))) := ⟨_, rfl⟩
    have i6 : I1 (u + 6) = I (u + 6) := by rw [hI1, qa_up_n _ _ (by omega)]
    have i0 : I1 u = va_up (I u) 15 (nI (j + 1)) := by rw [hI1, qa_up_s]
    have hF1 : qM_F u I I1 := ⟨fun a h1 _ => by rw [hI1, qa_up_n _ _ h1], fun f h1 h2 h3 => by rw [i0, qa_up_n _ _ h1]⟩
    have hX1 : qM_x I1 u L c (j + 1) nd e := qM_x_F hX hF1 (by rw [i0, qa_up_s]) (by rw [i0, qa_up_n _ _ (by omega)]; exact x3) (by rw [i0, qa_up_n _ _ (by omega)]; exact x4) (by omega)
    obtain ⟨v, I', nd', a1, a2, a3, a4, a5, a6, a7, a8, a9⟩ := hS e (j + 1) (d + 4) nd I1 he (by omega) (by omega) hX1 (by omega)
    rw [if_neg (by omega), if_neg (by omega)] at a1
    have hok := qP_ok (m := m) hc F 1 e (j + 1) (by omega) he (by omega)
    generalize qP c m F 1 e (j + 1) = p at a4 a7 a8 a9 hok ⊢
    obtain ⟨k1, k2, k3⟩ := hok
    rw [i6] at a3
    cases hp : p.1 with
    | none =>
      have hv := a8 hp
      subst hv
      rw [qP_lp_n h1s hp]
      refine ⟨-1, I', nd', ?_, qM_F_t hF1 a2, ⟨a3.1, fun k hk => ⟨(a3.2 k hk).1, (a3.2 k hk).2.1, fun _ => (a3.2 k hk).2.2 (by omega)⟩⟩, a4, a5, a6, by rw [if_pos h1]; show nd' + j + 1 ≤ nd + p.2; omega, fun _ => rfl, fun t ht => absurd ht (by simp)⟩
      rw [qr_171_77]
      simp (disch := first | assumption | omega | exact Or.inl rfl | exact Or.inr rfl | exact qb_01) only [qr_171_0, qr_171_1, qr_171_3, qr_171_6, qr_171_8, qr_171_11, qr_171_13, qr_171_14, qr_171_15, qr_171_17, qr_171_20, qr_171_21, qr_171_23, qr_171_24, qr_171_27, qr_171_30, qr_171_31, qr_171_32, qr_171_35, qr_171_37, qr_171_39, qr_171_42, qr_171_43, qr_171_46, qr_171_47, qr_171_50, qr_171_52, qr_171_53, qr_171_54, qr_171_55, qr_171_58, qr_171_60, qr_171_61, qr_171_64, qr_171_67, qr_171_69, qr_171_70, qr_171_72, qr_171_73, qr_171_75, qr_171_78, qr_171_81, qr_171_82, qr_171_85, qr_171_86, qr_171_87, qr_171_90, qr_171_91, qr_171_92, qr_171_95, qr_171_96, qr_171_98, qr_171_101, qr_171_102, qr_171_104, qr_171_105, qr_171_108, qr_171_111, qr_171_112, qr_171_113, qr_171_116, qr_171_118, qr_171_120, qr_171_123, qr_171_124, qr_171_125, qr_171_126, qr_171_129, qr_171_132, qr_171_134, qr_171_135, qr_171_137, qr_171_138, qr_171_140, qr_171_142, qr_171_145, qr_171_147, true_and, and_true, false_and, and_false, Option.bind_some, Option.toList_some, Option.toList_none, List.nil_append, List.cons_append, if_true, if_false, ite_true, ite_false, not_true_eq_false, not_false_eq_true, qn_lt0, qn_ge0, qn_lt, qn_le, qn_eq, qn_e0, qn_gt0, qn_le0, qn_m1, nI_add, pk_mul, qb_e0, Classical.not_not, qa_up_s, qa_up_n, qa_uu, hhe, gv, eq_true h1, x2, ← hI1, eq_true kf, a1, qn_m10, qn_m1z]
    | some t =>
      obtain ⟨b1, bb, b2, b3, b4, b5, b6⟩ := a9 t hp
      subst b2
      obtain ⟨-, k4, -⟩ := k3 t hp
      have k5 : j + 1 < p.2 := (k4 (by omega)).1
      have hX2 : qM_x I' u L c p.2 nd' e := qM_x_F hX1 a2 a4 a5 b1 k2
      obtain ⟨I2, hI2⟩ : ∃ I2, I2 = va_up I' (u + 6) (va_up (I' (u + 6)) (362 + b) (nI bb)) := ⟨_, rfl⟩
      have j6 : I2 (u + 6) = va_up (I' (u + 6)) (362 + b) (nI bb) := by rw [hI2, qa_up_s]
      have j0 : ∀ a, a ≠ u + 6 → I2 a = I' a := fun a ha => by rw [hI2, qa_up_n _ _ ha]
      have hF2 : qM_F u I' I2 := ⟨fun a _ h2 => j0 a h2, fun f _ _ _ => by rw [j0 u (by omega)]⟩
      have hX3 : qM_x I2 u L c p.2 nd' e := qM_x_F hX2 hF2 (by rw [j0 u (by omega)]; exact a4) (by rw [j0 u (by omega)]; exact a5) (by rw [j0 u (by omega)]; exact b1) k2
      have hb31 : bb < 2147483648 := by omega
      have hbb : bb ≠ b := by omega
      obtain ⟨v, I3, n3, c1, c2, c3, c4, c5, c6, c7, c8, c9⟩ := hQ e p.2 (d + 4) nd' nd0 bb l4 (qa_i (nI bb)) I2 he (by omega) (by omega) hX3 (by omega) b4 (by rw [j6, qa_up_n _ _ (by omega)]; exact b6)
      have hok2 := qP_ok (m := m) hc F (1 + 3) e p.2 (by omega) he k2
      rw [hsg] at c1
      have hR2 : qM_R nd b (I (u + 6)) (I2 (u + 6)) := by
        rw [j6]
        refine ⟨fun x hx => by rw [qa_up_n _ _ (by omega)]; exact a3.1 x hx, fun k hk => ⟨by rw [qa_up_n _ _ (by omega)]; exact (a3.2 k hk).1, by rw [qa_up_n _ _ (by omega)]; exact (a3.2 k hk).2.1, fun hne => by rw [qa_up_n _ _ (by omega)]; exact (a3.2 k hk).2.2 (by omega)⟩⟩
      have gR := qM_R_t hR2 c3 a6 (Or.inl b3)
      have gF := qM_F_t (qM_F_t hF1 a2) (qM_F_t hF2 c2)
      have k6 := hok2.1
      have hif : 0 ≤ (if c p.2 = qP_sg 1 then 1 else 0) := Nat.zero_le _
      have hbd : n3 + j + 1 ≤ nd + (qP c m F (1 + 3) e p.2).2 := by omega
      have hrun : qa_run (d + 4) 171 77 [qa_a (some u), qa_i (nI 101), qa_i (nI m), qa_i (nI 124), l4, qa_i (nI nd0), qa_i (nI b), l7] [] [] (K, I, R, n, z) = some (some (qa_i v), (K, I3, R, n, z)) := by
        rw [qr_171_77]
        simp (disch := first | assumption | omega | exact Or.inl rfl | exact Or.inr rfl | exact qb_01) only [qr_171_0, qr_171_1, qr_171_3, qr_171_6, qr_171_8, qr_171_11, qr_171_13, qr_171_14, qr_171_15, qr_171_17, qr_171_20, qr_171_21, qr_171_23, qr_171_24, qr_171_27, qr_171_30, qr_171_31, qr_171_32, qr_171_35, qr_171_37, qr_171_39, qr_171_42, qr_171_43, qr_171_46, qr_171_47, qr_171_50, qr_171_52, qr_171_53, qr_171_54, qr_171_55, qr_171_58, qr_171_60, qr_171_61, qr_171_64, qr_171_67, qr_171_69, qr_171_70, qr_171_72, qr_171_73, qr_171_75, qr_171_78, qr_171_81, qr_171_82, qr_171_85, qr_171_86, qr_171_87, qr_171_90, qr_171_91, qr_171_92, qr_171_95, qr_171_96, qr_171_98, qr_171_101, qr_171_102, qr_171_104, qr_171_105, qr_171_108, qr_171_111, qr_171_112, qr_171_113, qr_171_116, qr_171_118, qr_171_120, qr_171_123, qr_171_124, qr_171_125, qr_171_126, qr_171_129, qr_171_132, qr_171_134, qr_171_135, qr_171_137, qr_171_138, qr_171_140, qr_171_142, qr_171_145, qr_171_147, true_and, and_true, false_and, and_false, Option.bind_some, Option.toList_some, Option.toList_none, List.nil_append, List.cons_append, if_true, if_false, ite_true, ite_false, not_true_eq_false, not_false_eq_true, qn_lt0, qn_ge0, qn_lt, qn_le, qn_eq, qn_e0, qn_gt0, qn_le0, qn_m1, nI_add, pk_mul, qb_e0, Classical.not_not, qa_up_s, qa_up_n, qa_uu, hhe, gv, eq_true h1, x2, ← hI1, eq_true kf, a1, r3, ← hI2]
        exact c1
      cases hl : (qP c m F (1 + 3) e p.2).1 with
      | none =>
        rw [qP_lp_nn h1s hp hl]
        exact ⟨v, I3, n3, hrun, gF, gR, c4, c5, by omega, by rw [if_pos h1]; exact hbd, fun _ => c8 hl, fun t ht => absurd ht (by simp)⟩
      | some f =>
        obtain ⟨d1, d2, d3⟩ := c9 f hl
        rw [qP_lp_s h1s hp hl]
        refine ⟨v, I3, n3, hrun, gF, gR, c4, c5, by omega, by rw [if_pos h1]; exact hbd, fun h => absurd h (by simp), fun f' hf' => ?_⟩
        cases hf'
        refine ⟨d1, d2, ?_⟩
        have hnb : I3 (u + 6) (362 + b) = nI bb := by rw [(c3.2 b (by omega)).2.2 (by omega), j6, qa_up_s]
        rw [hnb]
        refine qt_RM_M (lo := nd) (hi := nd') (qt_RM_cg (fun k k1 k2 k3 => ?_) ?_ ?_ b5) b3 b4 (by omega) (Nat.le_refl _) c6 (by omega) ?_
        · obtain ⟨g1, g2, g3⟩ := c3.2 k k2
          rw [g1, g2, g3 k3, j6, qa_up_n _ _ (by omega), qa_up_n _ _ (by omega), qa_up_n _ _ (by omega)]
          exact ⟨rfl, rfl, rfl⟩
        · rw [(c3.2 bb b4).1, j6, qa_up_n _ _ (by omega)]
        · rw [(c3.2 bb b4).2.1, j6, qa_up_n _ _ (by omega)]
        · exact qt_MB_cg (fun _ _ _ _ => ⟨rfl, rfl, rfl⟩) a6 (Nat.le_refl _) (fun _ _ _ q => q) d3
  · have h1s : ¬ c j = qP_sg 1 := h1
    rw [qP_lp_0 h1s]
    refine ⟨nI nd0, I, nd, ?_, ⟨fun _ _ _ => rfl, fun _ _ _ _ => rfl⟩, qM_R_r, x2, x3, Nat.le_refl _, by rw [if_neg h1]; exact Nat.le_refl _, fun h => absurd h (by simp), fun f hf => ?_⟩
    · rw [qr_171_77]
      simp (disch := first | assumption | omega | exact Or.inl rfl | exact Or.inr rfl | exact qb_01) only [qr_171_0, qr_171_1, qr_171_3, qr_171_6, qr_171_8, qr_171_11, qr_171_13, qr_171_14, qr_171_15, qr_171_17, qr_171_20, qr_171_21, qr_171_23, qr_171_24, qr_171_27, qr_171_30, qr_171_31, qr_171_32, qr_171_35, qr_171_37, qr_171_39, qr_171_42, qr_171_43, qr_171_46, qr_171_47, qr_171_50, qr_171_52, qr_171_53, qr_171_54, qr_171_55, qr_171_58, qr_171_60, qr_171_61, qr_171_64, qr_171_67, qr_171_69, qr_171_70, qr_171_72, qr_171_73, qr_171_75, qr_171_78, qr_171_81, qr_171_82, qr_171_85, qr_171_86, qr_171_87, qr_171_90, qr_171_91, qr_171_92, qr_171_95, qr_171_96, qr_171_98, qr_171_101, qr_171_102, qr_171_104, qr_171_105, qr_171_108, qr_171_111, qr_171_112, qr_171_113, qr_171_116, qr_171_118, qr_171_120, qr_171_123, qr_171_124, qr_171_125, qr_171_126, qr_171_129, qr_171_132, qr_171_134, qr_171_135, qr_171_137, qr_171_138, qr_171_140, qr_171_142, qr_171_145, qr_171_147, true_and, and_true, false_and, and_false, Option.bind_some, Option.toList_some, Option.toList_none, List.nil_append, List.cons_append, if_true, if_false, ite_true, ite_false, not_true_eq_false, not_false_eq_true, qn_lt0, qn_ge0, qn_lt, qn_le, qn_eq, qn_e0, qn_gt0, qn_le0, qn_m1, nI_add, pk_mul, qb_e0, Classical.not_not, qa_up_s, qa_up_n, qa_uu, hhe, gv, eq_false h1]
    · cases hf
      exact ⟨x4, rfl, hnx⟩
theorem qM_par1 (hM : qp_MO K R u) (hm : m ≤ 10) (hc : ∀ j, L ≤ j → c j = 200) (hS : qM_S u K R n z c m L 1 F) (hQ : qM_Q u K R n z c m L 1 F) : qM_S u K R n z c m L 2 (F + 1) := by
  intro e i D nd I he hF hD hX hnd
  have hM' := hM
  obtain ⟨d, rfl⟩ : ∃ d, D = d + 5 := ⟨D - 5, by omega⟩
  have hq : qP c m (F + 1) 2 e i = qP_par 1 c (qP c m F 1 e i) (fun j => qP c m F (1 + 3) e j) := by
    rw [qP, if_neg (by omega), if_pos (by omega)]
  have hsg : qP_sg 1 = 124 := rfl
  have kf : (101 : Nat) = 101 := rfl
  obtain ⟨x1, x2, x3, x4, x5, x6, x7, x8, x9⟩ := id hX
  obtain ⟨m0, -, -, -, -, -, ⟨r1, r2, r3⟩, -⟩ := hM
  rw [hq, if_neg (by omega), if_neg (by omega)]
  obtain ⟨v, I', nd', a1, a2, a3, a4, a5, a6, a7, a8, a9⟩ := hS e i (d + 4) nd I he (by omega) (by omega) hX hnd
  rw [if_neg (by omega), if_neg (by omega)] at a1
  have hok := qP_ok (m := m) hc F 1 e i (by omega) he x5
  generalize qP c m F 1 e i = p at a4 a7 a8 a9 hok ⊢
  obtain ⟨k1, k2, k3⟩ := hok
  cases hp : p.1 with
  | none =>
    have hv := a8 hp
    subst hv
    rw [qP_par_n hp]
    refine ⟨-1, I', nd', ?_, a2, a3, a4, a5, a6, a7, fun _ => rfl, fun t ht => absurd ht (by simp)⟩
    simp (disch := first | assumption | omega | exact Or.inl rfl | exact Or.inr rfl | exact qb_01) only [qe_171, qr_171_0, qr_171_1, qr_171_3, qr_171_6, qr_171_8, qr_171_11, qr_171_13, qr_171_14, qr_171_15, qr_171_17, qr_171_20, qr_171_21, qr_171_23, qr_171_24, qr_171_27, qr_171_30, qr_171_31, qr_171_32, qr_171_35, qr_171_37, qr_171_39, qr_171_42, qr_171_43, qr_171_46, qr_171_47, qr_171_50, qr_171_52, qr_171_53, qr_171_54, qr_171_55, qr_171_58, qr_171_60, qr_171_61, qr_171_64, qr_171_67, qr_171_69, qr_171_70, qr_171_72, qr_171_73, qr_171_75, qr_171_78, qr_171_81, qr_171_82, qr_171_85, qr_171_86, qr_171_87, qr_171_90, qr_171_91, qr_171_92, qr_171_95, qr_171_96, qr_171_98, qr_171_101, qr_171_102, qr_171_104, qr_171_105, qr_171_108, qr_171_111, qr_171_112, qr_171_113, qr_171_116, qr_171_118, qr_171_120, qr_171_123, qr_171_124, qr_171_125, qr_171_126, qr_171_129, qr_171_132, qr_171_134, qr_171_135, qr_171_137, qr_171_138, qr_171_140, qr_171_142, qr_171_145, qr_171_147, true_and, and_true, false_and, and_false, Option.bind_some, Option.toList_some, Option.toList_none, List.nil_append, List.cons_append, if_true, if_false, ite_true, ite_false, not_true_eq_false, not_false_eq_true, qn_lt0, qn_ge0, qn_lt, qn_le, qn_eq, qn_e0, qn_gt0, qn_le0, qn_m1, nI_add, pk_mul, qb_e0, Classical.not_not, qa_up_s, qa_up_n, qa_uu, Nat.reduceAdd, eq_true kf, a1, qn_m1l]
  | some t =>
    obtain ⟨b1, bb, b2, b3, b4, b5, b6⟩ := a9 t hp
    subst b2
    obtain ⟨-, k4, -⟩ := k3 t hp
    have k5 : i < p.2 := (k4 (by omega)).1
    have hX2 : qM_x I' u L c p.2 nd' e := qM_x_F hX a2 a4 a5 b1 k2
    have hhe := qs_MO_here (d := d + 3) (n := n) (z := z) hM' hX2
    have gv := qR_v_eq (c := c) (L := L) (i := p.2) (w := 124) (by omega) x8 x9
    have hb31 : bb < 2147483648 := by omega
    by_cases h1 : c p.2 = 124
    · have h1s : c p.2 = qP_sg 1 := h1
      have hmk := qs_MO_makes (d := d + 3) (I := I') (n := n) (z := z) (x := nI 101) (nd := nd') hM' a5 (by omega)
      obtain ⟨I1, hI1⟩ : ∃ I1, I1 = va_up (va_up I' (u + 6) (qM_mk (I' (u + 6)) nd' (nI 101))) u (va_up (I' u) 16 (nI (nd' + 1))) := ⟨_, rfl⟩
      rw [← hI1] at hmk
      obtain ⟨I2, hI2⟩ : ∃ I2, I2 = va_up I1 (u + 6) (va_up (I1 (u + 6)) (192 + nd') (nI bb)) := ⟨_, rfl⟩
      have hmR := qM_mk_R (ex := 1000) (c := I' (u + 6)) (x := nI 101) (nd := nd') (by omega)
      have hma := qM_mk_at (c := I' (u + 6)) (x := nI 101) (nd := nd') (by omega)
      have i6 : I1 (u + 6) = qM_mk (I' (u + 6)) nd' (nI 101) := by rw [hI1, qa_up_n _ _ (by omega), qa_up_s]
      have j6 : I2 (u + 6) = va_up (qM_mk (I' (u + 6)) nd' (nI 101)) (192 + nd') (nI bb) := by rw [hI2, qa_up_s, i6]
      have j0 : I2 u = va_up (I' u) 16 (nI (nd' + 1)) := by rw [hI2, qa_up_n _ _ (by omega), hI1, qa_up_s]
      have hF2 : qM_F u I' I2 := ⟨fun a h1 h2 => by rw [hI2, qa_up_n _ _ h2, hI1, qa_up_n _ _ h1, qa_up_n _ _ h2], fun f h1 h2 h3 => by rw [j0, qa_up_n _ _ h2]⟩
      have hR2 : qM_R nd' 1000 (I' (u + 6)) (I2 (u + 6)) := by
        rw [j6]
        exact ⟨fun x hx => by rw [qa_up_n _ _ (by omega)]; exact hmR.1 x hx, fun k hk => ⟨by rw [qa_up_n _ _ (by omega)]; exact (hmR.2 k hk).1, by rw [qa_up_n _ _ (by omega)]; exact (hmR.2 k hk).2.1, fun hne => by rw [qa_up_n _ _ (by omega)]; exact (hmR.2 k hk).2.2 hne⟩⟩
      have hX3 : qM_x I2 u L c p.2 (nd' + 1) e := qM_x_F hX2 hF2 (by rw [j0, qa_up_n _ _ (by omega)]; exact a4) (by rw [j0, qa_up_s]) (by rw [j0, qa_up_n _ _ (by omega)]; exact b1) k2
      obtain ⟨v, I3, n3, c1, c2, c3, c4, c5, c6, c7, c8, c9⟩ := hQ e p.2 (d + 4) (nd' + 1) nd' bb (qa_i (nI bb)) qa_u I2 he (by omega) (by omega) hX3 (by omega) (by omega) (by rw [(hR2.2 bb b4).2.2 (by omega)]; exact b6)
      have hok2 := qP_ok (m := m) hc F (1 + 3) e p.2 (by omega) he k2
      rw [hsg] at c1
      rw [if_pos h1s] at c7
      have gF := qM_F_t a2 (qM_F_t hF2 c2)
      have gR := qM_R_t (qM_R_t a3 hR2 a6 (Or.inr rfl)) c3 (by omega) (Or.inl b3)
      have k6 := hok2.1
      have hbd : n3 + i ≤ nd + (qP c m F (1 + 3) e p.2).2 := by omega
      have hrun : qa_ex (d + 5) 171 [qa_a (some u), qa_i (nI (99 + 2)), qa_i (nI m)] (K, I, R, n, z) = some (some (qa_i v), (K, I3, R, n, z)) := by
        simp (disch := first | assumption | omega | exact Or.inl rfl | exact Or.inr rfl | exact qb_01) only [qe_171, qr_171_0, qr_171_1, qr_171_3, qr_171_6, qr_171_8, qr_171_11, qr_171_13, qr_171_14, qr_171_15, qr_171_17, qr_171_20, qr_171_21, qr_171_23, qr_171_24, qr_171_27, qr_171_30, qr_171_31, qr_171_32, qr_171_35, qr_171_37, qr_171_39, qr_171_42, qr_171_43, qr_171_46, qr_171_47, qr_171_50, qr_171_52, qr_171_53, qr_171_54, qr_171_55, qr_171_58, qr_171_60, qr_171_61, qr_171_64, qr_171_67, qr_171_69, qr_171_70, qr_171_72, qr_171_73, qr_171_75, qr_171_78, qr_171_81, qr_171_82, qr_171_85, qr_171_86, qr_171_87, qr_171_90, qr_171_91, qr_171_92, qr_171_95, qr_171_96, qr_171_98, qr_171_101, qr_171_102, qr_171_104, qr_171_105, qr_171_108, qr_171_111, qr_171_112, qr_171_113, qr_171_116, qr_171_118, qr_171_120, qr_171_123, qr_171_124, qr_171_125, qr_171_126, qr_171_129, qr_171_132, qr_171_134, qr_171_135, qr_171_137, qr_171_138, qr_171_140, qr_171_142, qr_171_145, qr_171_147, true_and, and_true, false_and, and_false, Option.bind_some, Option.toList_some, Option.toList_none, List.nil_append, List.cons_append, if_true, if_false, ite_true, ite_false, not_true_eq_false, not_false_eq_true, qn_lt0, qn_ge0, qn_lt, qn_le, qn_eq, qn_e0, qn_gt0, qn_le0, qn_m1, nI_add, pk_mul, qb_e0, Classical.not_not, qa_up_s, qa_up_n, qa_uu, Nat.reduceAdd, eq_true kf, a1, hhe, gv, eq_true h1, hmk, r3, ← hI2]
        exact c1
      cases hl : (qP c m F (1 + 3) e p.2).1 with
      | none =>
        rw [qP_par_nn hp h1s hl]
        exact ⟨v, I3, n3, hrun, gF, gR, c4, c5, by omega, hbd, fun _ => c8 hl, fun t ht => absurd ht (by simp)⟩
      | some f =>
        obtain ⟨d1, d2, d3⟩ := c9 f hl
        rw [qP_par_s hp h1s hl]
        refine ⟨v, I3, n3, hrun, gF, gR, c4, c5, by omega, hbd, fun h => absurd h (by simp), fun f' hf' => ?_⟩
        cases hf'
        have e1 : I3 (u + 6) (22 + nd') = nI 101 := by rw [(c3.2 nd' (by omega)).1, j6, qa_up_n _ _ (by omega)]; exact hma.1
        have e2 : I3 (u + 6) (192 + nd') = nI bb := by rw [(c3.2 nd' (by omega)).2.1, j6, qa_up_s]
        have e3 : I3 (u + 6) (362 + nd') = -1 := by rw [(c3.2 nd' (by omega)).2.2 (by omega), j6, qa_up_n _ _ (by omega)]; exact hma.2.2
        refine ⟨d1, nd', d2, a6, by omega, ⟨e1, ?_⟩, e3⟩
        rw [e2]
        refine qt_RM_M (lo := nd) (hi := nd') (qt_RM_cg (fun k k1 k2 k3 => ?_) ?_ ?_ b5) b3 b4 (by omega) (Nat.le_refl _) (by omega) (by omega) ?_
        · obtain ⟨g1, g2, g3⟩ := c3.2 k (by omega)
          obtain ⟨h1, h2, h3⟩ := hR2.2 k k2
          rw [g1, g2, g3 k3, h1, h2, h3 (by omega)]
          exact ⟨rfl, rfl, rfl⟩
        · rw [(c3.2 bb (by omega)).1, (hR2.2 bb b4).1]
        · rw [(c3.2 bb (by omega)).2.1, (hR2.2 bb b4).2.1]
        · exact qt_MB_cg (fun _ _ _ _ => ⟨rfl, rfl, rfl⟩) (by omega) (Nat.le_refl _) (fun j j1 _ _ q => by omega) d3
    · have h1s : ¬ c p.2 = qP_sg 1 := h1
      rw [qP_par_1 hp h1s]
      refine ⟨nI bb, I', nd', ?_, a2, a3, a4, a5, a6, a7, fun h => absurd h (by simp), fun t' ht' => ?_⟩
      · simp (disch := first | assumption | omega | exact Or.inl rfl | exact Or.inr rfl | exact qb_01) only [qe_171, qr_171_0, qr_171_1, qr_171_3, qr_171_6, qr_171_8, qr_171_11, qr_171_13, qr_171_14, qr_171_15, qr_171_17, qr_171_20, qr_171_21, qr_171_23, qr_171_24, qr_171_27, qr_171_30, qr_171_31, qr_171_32, qr_171_35, qr_171_37, qr_171_39, qr_171_42, qr_171_43, qr_171_46, qr_171_47, qr_171_50, qr_171_52, qr_171_53, qr_171_54, qr_171_55, qr_171_58, qr_171_60, qr_171_61, qr_171_64, qr_171_67, qr_171_69, qr_171_70, qr_171_72, qr_171_73, qr_171_75, qr_171_78, qr_171_81, qr_171_82, qr_171_85, qr_171_86, qr_171_87, qr_171_90, qr_171_91, qr_171_92, qr_171_95, qr_171_96, qr_171_98, qr_171_101, qr_171_102, qr_171_104, qr_171_105, qr_171_108, qr_171_111, qr_171_112, qr_171_113, qr_171_116, qr_171_118, qr_171_120, qr_171_123, qr_171_124, qr_171_125, qr_171_126, qr_171_129, qr_171_132, qr_171_134, qr_171_135, qr_171_137, qr_171_138, qr_171_140, qr_171_142, qr_171_145, qr_171_147, true_and, and_true, false_and, and_false, Option.bind_some, Option.toList_some, Option.toList_none, List.nil_append, List.cons_append, if_true, if_false, ite_true, ite_false, not_true_eq_false, not_false_eq_true, qn_lt0, qn_ge0, qn_lt, qn_le, qn_eq, qn_e0, qn_gt0, qn_le0, qn_m1, nI_add, pk_mul, qb_e0, Classical.not_not, qa_up_s, qa_up_n, qa_uu, Nat.reduceAdd, eq_true kf, a1, hhe, gv, eq_false h1]
      · cases ht'
        exact ⟨b1, bb, rfl, b3, b4, b5, b6⟩
theorem qM_all (hM : qp_MO K R u) (hm : m ≤ 10) (hc : ∀ j, L ≤ j → c j = 200) : ∀ F, qM_S u K R n z c m L 0 F ∧ qM_S u K R n z c m L 1 F ∧ qM_S u K R n z c m L 2 F ∧ qM_Q u K R n z c m L 0 F ∧ qM_Q u K R n z c m L 1 F := by
  intro F
  induction F with
  | zero => exact ⟨fun _ _ _ _ _ _ h => absurd h (by omega), fun _ _ _ _ _ _ h => absurd h (by omega), fun _ _ _ _ _ _ h => absurd h (by omega), fun _ _ _ _ _ _ _ _ _ _ h => absurd h (by omega), fun _ _ _ _ _ _ _ _ _ _ h => absurd h (by omega)⟩
  | succ F ih =>
    obtain ⟨i1, i2, i3, i4, i5⟩ := ih
    exact ⟨qM_atom hM hm hc i3, qM_par0 hM hm hc i1 i4, qM_par1 hM hm hc i2 i5, qM_loop0 hM hm hc i1 i4, qM_loop1 hM hm hc i2 i5⟩
end Q64b
