/-! Explanations, both sides. -/
def qp_X (I : Nat → Nat → Int32) (e o1 o2 f lv : Nat) (ec en : Nat → Int32) : Prop := I e f = nI lv ∧ ∀ j, j < lv → I (e + o1) j = ec j ∧ I (e + o2) j = en j
theorem qw_E_n {I : Nat → Nat → Int32} {e o1 o2 f lv a : Nat} {x y : Int32} (h0 : a ≠ e) (h1 : a ≠ e + o1) (h2 : a ≠ e + o2) : qw_E I e o1 o2 f lv x y a = I a := by
  unfold qw_E
  rw [qa_up_n _ _ h0, qa_up_n _ _ h2, qa_up_n _ _ h1]
theorem qw_E_0 {I : Nat → Nat → Int32} {e o1 o2 f lv : Nat} {x y : Int32} : qw_E I e o1 o2 f lv x y e = va_up (I e) f (nI (lv + 1)) := qa_up_s _ _ _
theorem qw_E_X {I : Nat → Nat → Int32} {e o1 o2 f lv : Nat} {ec en : Nat → Int32} {x y : Int32} (h : qp_X I e o1 o2 f lv ec en) (h1 : 0 < o1) (h2 : o1 < o2) : qp_X (qw_E I e o1 o2 f lv x y) e o1 o2 f (lv + 1) (va_up ec lv x) (va_up en lv y) := by
  refine ⟨by rw [qw_E_0, qa_up_s], fun j hj => ?_⟩
  unfold qw_E
  rw [qa_up_n _ _ (show e + o1 ≠ e by omega), qa_up_n _ _ (show e + o1 ≠ e + o2 by omega), qa_up_s, qa_up_n _ _ (show e + o2 ≠ e by omega), qa_up_s]
  by_cases hl : j = lv
  · subst hl
    rw [qa_up_s, qa_up_s, qa_up_s, qa_up_s]
    exact ⟨rfl, rfl⟩
  · rw [qa_up_n _ _ hl, qa_up_n _ _ hl, qa_up_n _ _ hl, qa_up_n _ _ hl]
    exact h.2 j (by omega)
theorem qt_wf_0 : ∀ {t : qt_T}, qt_wf 0 t → qt_ne t = false := by
  intro t
  induction t with
  | mulL k nx _ => intro h; exact absurd h.1 (by omega)
  | add f nx ih _ => intro h; have := ih h.2.1; rw [h.1] at this; exact absurd this (by decide)
  | sub f nx ih _ => intro h; have := ih h.2.1; rw [h.1] at this; exact absurd this (by decide)
  | num _ => intro _; rfl
  | _ => intro h; exact h.elim
theorem qt_bl_lt {g : Nat → Bool} {m : Nat} (hm : 0 < m) : ∀ {t : qt_T}, qt_wf m t → (qt_bl g t).1 < m ∧ (qt_bl g t).2 < m := by
  intro t
  induction t with
  | mulL k nx ih =>
    intro h
    have := ih h.2
    unfold qt_bl
    refine ⟨h.1, ?_⟩
    split
    · exact this.2
    · exact h.1
  | add f nx ih1 ih2 =>
    intro h
    have a1 := ih1 h.2.1
    have a2 := ih2 h.2.2
    unfold qt_bl
    refine ⟨a1.2, ?_⟩
    split
    · exact a2.2
    · exact a1.2
  | sub f nx ih1 ih2 =>
    intro h
    have a1 := ih1 h.2.1
    have a2 := ih2 h.2.2
    unfold qt_bl
    refine ⟨a1.1, ?_⟩
    split
    · exact a2.2
    · exact a1.1
  | num _ => intro _; exact ⟨hm, hm⟩
  | _ => intro h; exact h.elim
/-- the chain of what blocks -/
def qE_ch (g : Nat → Bool) (T : Nat → qt_T) : Nat → Nat → List Nat
  | 0, _ => []
  | f + 1, k => if qt_rd g (T k) = true then [] else (qt_bl g (T k)).1 :: qE_ch g T f (qt_bl g (T k)).1
def qE_f : List Nat → Nat → (Nat → Int32) → (Nat → Int32) → Nat × (Nat → Int32) × (Nat → Int32)
  | [], lv, ec, en => (lv, ec, en)
  | b :: l, lv, ec, en => qE_f l (lv + 1) (va_up ec lv (nI 6)) (va_up en lv (nI b))
def qE_o (x y : Int32) : Nat × (Nat → Int32) × (Nat → Int32) := (1, va_up (fun _ => 0) 0 x, va_up (fun _ => 0) 0 y)
/-- an explanation: levels, codes, numbers -/
def qE_x (nk : Nat) (pm : Nat → Nat) (T : Nat → qt_T) (ni : Nat) (fs hd : Nat → Nat) (i : Nat) (s : Nat → Int32) : Nat × (Nat → Int32) × (Nat → Int32) :=
  if qs_op s i = true then
    (if qs_g s (fun k => nI (pm k)) (fs i) = true then qE_o (nI 2) (nI (fs i))
    else if qt_rd (qs_g s (fun k => nI (pm k))) (T (fs i)) = true then qE_o (if qA_l nk pm T ni fs hd s = i + 1 then nI 5 else nI 4) (qe_v (qA_l nk pm T ni fs hd s))
    else qE_f (qE_ch (qs_g s (fun k => nI (pm k))) T 10 (fs i)) 1 (va_up (fun _ => 0) 0 (nI 3)) (va_up (fun _ => 0) 0 (nI (fs i))))
  else qE_o (nI 1) (s 0)
theorem qE_ch_len {g : Nat → Bool} {T : Nat → qt_T} : ∀ {f k : Nat}, (qE_ch g T f k).length ≤ f := by
  intro f
  induction f with
  | zero => intro k; exact Nat.le_refl 0
  | succ f ih =>
    intro k
    unfold qE_ch
    split
    · exact Nat.zero_le _
    · have := ih (k := (qt_bl g (T k)).1)
      rw [List.length_cons]
      omega
theorem qE_f_1 : ∀ {l : List Nat} {lv : Nat} {ec en : Nat → Int32}, (qE_f l lv ec en).1 = lv + l.length := by
  intro l
  induction l with
  | nil => intro lv ec en; rfl
  | cons b l ih => intro lv ec en; show (qE_f l (lv + 1) _ _).1 = _; rw [ih, List.length_cons]; omega
theorem qE_x_le {nk : Nat} {pm : Nat → Nat} {T : Nat → qt_T} {ni : Nat} {fs hd : Nat → Nat} {i : Nat} {s : Nat → Int32} : (qE_x nk pm T ni fs hd i s).1 ≤ 11 := by
  unfold qE_x qE_o
  repeat' split
  all_goals first | (show 1 ≤ 11; omega) | skip
  rw [qE_f_1]
  have := qE_ch_len (g := qs_g s (fun k => nI (pm k))) (T := T) (f := 10) (k := fs i)
  omega
theorem qe_v_i {b i : Nat} (h : b < 2147483648) (hi : i < 2147483647) : (qe_v b = nI i) = (b = i + 1) := by
  cases b with
  | zero => rw [qe_v0]; exact propext ⟨fun q => by have := nI_pos (n := i) (by omega); rw [← q] at this; exact absurd (by decide) this, fun q => by omega⟩
  | succ b => rw [qe_vs, qn_eq (by omega) (by omega)]; exact propext ⟨fun q => by omega, fun q => by omega⟩
theorem qw_C_cg {K : Nat → Nat × Nat} {I I' : Nat → Nat → Int32} {R : Nat → Nat → Option Nat} {c q nk ni : Nat} {ps rq : Nat → Int32} {fs hd : Nat → Nat} (hC : qw_C K I R c q nk ps rq ni fs hd) (hc : ∀ a, c ≤ a → a < c + 3 → I' a = I a) (hq : ∀ a, q ≤ a → a < q + 3 → I' a = I a) : qw_C K I' R c q nk ps rq ni fs hd := by
  obtain ⟨h1, h2, h3, h4, h5, h6, h7, h8, h9⟩ := hC
  have f0 := hc c (by omega) (by omega)
  have f1 := hc (c + 1) (by omega) (by omega)
  have f2 := hc (c + 2) (by omega) (by omega)
  have f3 := hq q (by omega) (by omega)
  have f4 := hq (q + 1) (by omega) (by omega)
  have f5 := hq (q + 2) (by omega) (by omega)
  refine ⟨h1, h2, by rw [f3]; exact h3, h4, h5, fun k hk => by rw [f4, f5]; exact h6 k hk, by rw [f0]; exact h7, h8, fun i hi => by rw [f1, f2]; exact h9 i hi⟩
theorem qj_A_cg {K : Nat → Nat × Nat} {I I' : Nat → Nat → Int32} {R : Nat → Nat → Option Nat} {c q nk ni : Nat} {pm fs hd : Nat → Nat} {T : Nat → qt_T} (h : qj_A K I R c q nk pm T ni fs hd) (hc : ∀ a, c ≤ a → a < c + 3 → I' a = I a) (hq : ∀ a, q ≤ a → a < q + 3 → I' a = I a) (ht : ∀ a, 204 ≤ a → I' a = I a) : qj_A K I' R c q nk pm T ni fs hd :=
  ⟨qw_C_cg h.1 hc hq, fun k hk => ⟨qt_C_cg (fun a ha _ => ⟨rfl, ht a ha, rfl⟩) (h.2.1 k hk).1, (h.2.1 k hk).2⟩, h.2.2⟩
section Q57
variable {d a b f : Nat} {K : Nat → Nat × Nat} {I : Nat → Nat → Int32} {R : Nat → Nat → Option Nat} {n z : Nat} {x y : Int32} {h : qa_H} {u nk ni k i j m B p q c e g w v r lv t na : Nat} {s bs ec en : Nat → Int32} {fs hd pm el er : Nat → Nat} {T : Nat → qt_T}
theorem qs_LA_explainBlocking (ha : K a = (0, 0)) (r3 : R a 3 = some e) (r4 : R a 4 = some c) (r5 : R a 5 = some p) (hE : qp_EX K R e) (hA : qj_A K I R c q nk pm T ni fs hd) (hP : qp_PR K R p c) (hS : qp_PS I p s) (hc : e + 3 ≤ c) (hp : e + 3 ≤ p) (hq : e + 3 ≤ q) (he : e + 3 ≤ 204) (hk : k < nk) (hX : qp_X I e 1 2 2 1 ec en) : ∃ I', qa_ex (d + 18) 130 [qa_a (some a), qa_i (nI k)] (K, I, R, n, z) = some (none, (K, I', R, n, z)) ∧ qz_fr e 3 I I' ∧ qp_X I' e 1 2 2 (qE_f (qE_ch (qs_g s (fun k => nI (pm k))) T 10 k) 1 ec en).1 (qE_f (qE_ch (qs_g s (fun k => nI (pm k))) T 10 k) 1 ec en).2.1 (qE_f (qE_ch (qs_g s (fun k => nI (pm k))) T 10 k) 1 ec en).2.2 := by
  obtain ⟨hC, hT, hw⟩ := id hA
  have p0 := hP.1
  have x0 := hE.1
  have c0 := hC.1.1
  have c7 := hC.1.2.2.2.2.2.2.2
  have u0 := hC.2.1.1
  have k10 := hC.2.2.2.2.1
  have hmb := qs_PR_mastered2 (d := d + 14) (n := n) (z := z) hP hC hS
  obtain ⟨gg, hgg⟩ : ∃ gg, gg = qs_g s (fun k => nI (pm k)) := ⟨_, rfl⟩
  rw [← hgg] at hmb ⊢
  have loop : ∀ f i k0 k lv ec en, i + f = 10 → lv = i + 1 → k < nk → ∀ I0, qz_fr e 3 I I0 → qp_X I0 e 1 2 2 lv ec en → ∃ I', qa_run (d + 17) 130 13 [qa_a (some a), k0, qa_i (qf_ms gg nk), qa_i (nI k), qa_i (nI i)] [] [] (K, I0, R, n, z) = some (none, (K, I', R, n, z)) ∧ qz_fr e 3 I I' ∧ qp_X I' e 1 2 2 (qE_f (qE_ch gg T f k) lv ec en).1 (qE_f (qE_ch gg T f k) lv ec en).2.1 (qE_f (qE_ch gg T f k) lv ec en).2.2 := by
    intro f
    induction f with
    | zero =>
      intro i k0 k lv ec en hi hl hk I0 h0 h1
      have hi : i = 10 := by omega
      subst hi
      refine ⟨I0, ?_, h0, h1⟩
      rw [qr_130_13]
      simp (disch := first | assumption | omega | exact Or.inl rfl | exact Or.inr rfl | exact qb_01) only [qr_130_0, qr_130_1, qr_130_4, qr_130_7, qr_130_8, qr_130_9, qr_130_10, qr_130_11, qr_130_15, qr_130_17, qr_130_20, qr_130_21, qr_130_24, qr_130_27, qr_130_28, qr_130_29, qr_130_32, qr_130_35, qr_130_36, qr_130_39, qr_130_42, qr_130_43, qr_130_44, qr_130_47, qr_130_48, qr_130_49, qr_130_52, qr_130_54, qr_130_55, qr_130_58, qr_130_61, qr_130_64, true_and, and_true, false_and, and_false, Option.bind_some, Option.toList_some, Option.toList_none, List.nil_append, List.cons_append, if_true, if_false, ite_true, ite_false, not_true_eq_false, not_false_eq_true, qn_lt0, qn_ge0, qn_lt, qn_le, qn_eq, qn_e0, qn_gt0, qn_le0, qn_m1, nI_add, pk_mul, qb_e0, Classical.not_not, Nat.le_refl]
    | succ f ih =>
      intro i k0 k lv ec en hi hl hk I0 h0 h1
      have e1 : ¬ 10 ≤ i := by omega
      have hA0 := qj_A_cg hA (fun a h1 h2 => h0 a (by omega)) (fun a h1 h2 => h0 a (by omega)) (fun a h1 => h0 a (by omega))
      have hrd := qs_CU_isReady (d := d + 1) (n := n) (z := z) (mb := qf_ms gg nk) hA0.1.2.1 hA0.1.2.2.1 k10 hk hA0.2.1
      rw [qt_rd_bit hk k10 (hw k hk)] at hrd
      unfold qE_ch
      by_cases hr : qt_rd gg (T k) = true
      · rw [if_pos hr]
        refine ⟨I0, ?_, h0, h1⟩
        rw [qr_130_13]
        simp (disch := first | assumption | omega | exact Or.inl rfl | exact Or.inr rfl | exact qb_01) only [qr_130_0, qr_130_1, qr_130_4, qr_130_7, qr_130_8, qr_130_9, qr_130_10, qr_130_11, qr_130_15, qr_130_17, qr_130_20, qr_130_21, qr_130_24, qr_130_27, qr_130_28, qr_130_29, qr_130_32, qr_130_35, qr_130_36, qr_130_39, qr_130_42, qr_130_43, qr_130_44, qr_130_47, qr_130_48, qr_130_49, qr_130_52, qr_130_54, qr_130_55, qr_130_58, qr_130_61, qr_130_64, true_and, and_true, false_and, and_false, Option.bind_some, Option.toList_some, Option.toList_none, List.nil_append, List.cons_append, if_true, if_false, ite_true, ite_false, not_true_eq_false, not_false_eq_true, qn_lt0, qn_ge0, qn_lt, qn_le, qn_eq, qn_e0, qn_gt0, qn_le0, qn_m1, nI_add, pk_mul, qb_e0, Classical.not_not, e1, r4, c7, qs_CO_curriculum, hrd, hr]
      · rw [if_neg hr]
        have hrf := eq_false_of_ne_true hr
        have hfb := qs_CU_firstBlocking (d := d) (n := n) (z := z) (mb := qf_ms gg nk) hA0.1.2.1 hA0.1.2.2.1 k10 hk hA0.2.1 (by rw [qt_rd_bit hk k10 (hw k hk)]; exact hrf)
        rw [qt_bl_congr (g' := gg) (m := k) (fun i hi => qt_bit_ms (by omega) k10) (hw k hk)] at hfb
        have hk0 : 0 < k := by
          rcases Nat.eq_zero_or_pos k with h | h
          · subst h
            have := qt_wf_0 (hw 0 hk)
            unfold qt_rd at hrf
            rw [this] at hrf
            exact absurd hrf (by simp)
          · exact h
        have hbk := (qt_bl_lt (g := gg) hk0 (hw k hk)).1
        generalize (qt_bl gg (T k)).1 = b at hfb hbk ⊢
        have had := qs_EX_add (d := d + 16) (n := n) (z := z) (x := nI 6) (y := nI b) hE h1.1 (by omega)
        obtain ⟨I2, c1, c2, c3⟩ := ih (i + 1) k0 b (lv + 1) (va_up ec lv (nI 6)) (va_up en lv (nI b)) (by omega) (by omega) (by omega) (qw_E I0 e 1 2 2 lv (nI 6) (nI b)) (fun a ha => (qw_E_n (by omega) (by omega) (by omega)).trans (h0 a ha)) (qw_E_X h1 (by omega) (by omega))
        refine ⟨I2, ?_, c2, c3⟩
        rw [qr_130_13]
        simp (disch := first | assumption | omega | exact Or.inl rfl | exact Or.inr rfl | exact qb_01) only [qr_130_0, qr_130_1, qr_130_4, qr_130_7, qr_130_8, qr_130_9, qr_130_10, qr_130_11, qr_130_15, qr_130_17, qr_130_20, qr_130_21, qr_130_24, qr_130_27, qr_130_28, qr_130_29, qr_130_32, qr_130_35, qr_130_36, qr_130_39, qr_130_42, qr_130_43, qr_130_44, qr_130_47, qr_130_48, qr_130_49, qr_130_52, qr_130_54, qr_130_55, qr_130_58, qr_130_61, qr_130_64, true_and, and_true, false_and, and_false, Option.bind_some, Option.toList_some, Option.toList_none, List.nil_append, List.cons_append, if_true, if_false, ite_true, ite_false, not_true_eq_false, not_false_eq_true, qn_lt0, qn_ge0, qn_lt, qn_le, qn_eq, qn_e0, qn_gt0, qn_le0, qn_m1, nI_add, pk_mul, qb_e0, Classical.not_not, e1, r3, r4, c7, qs_CO_curriculum, hrd, eq_false hr, hfb, had]
        exact c1
  obtain ⟨I2, c1, c2, c3⟩ := loop 10 0 (qa_i (nI k)) k 1 ec en (by omega) (by omega) hk I qz_fr_r hX
  refine ⟨I2, ?_, c2, c3⟩
  simp (disch := first | assumption | omega | exact Or.inl rfl | exact Or.inr rfl | exact qb_01) only [qe_130, qr_130_0, qr_130_1, qr_130_4, qr_130_7, qr_130_8, qr_130_9, qr_130_10, qr_130_11, qr_130_15, qr_130_17, qr_130_20, qr_130_21, qr_130_24, qr_130_27, qr_130_28, qr_130_29, qr_130_32, qr_130_35, qr_130_36, qr_130_39, qr_130_42, qr_130_43, qr_130_44, qr_130_47, qr_130_48, qr_130_49, qr_130_52, qr_130_54, qr_130_55, qr_130_58, qr_130_61, qr_130_64, true_and, and_true, false_and, and_false, Option.bind_some, Option.toList_some, Option.toList_none, List.nil_append, List.cons_append, if_true, if_false, ite_true, ite_false, not_true_eq_false, not_false_eq_true, qn_lt0, qn_ge0, qn_lt, qn_le, qn_eq, qn_e0, qn_gt0, qn_le0, qn_m1, nI_add, pk_mul, qb_e0, Classical.not_not, r5, hmb]
  exact c1
theorem qs_LA_explain (ha : K a = (0, 0)) (r3 : R a 3 = some e) (r4 : R a 4 = some c) (r5 : R a 5 = some p) (hE : qp_EX K R e) (hA : qj_A K I R c q nk pm T ni fs hd) (hP : qp_PR K R p c) (hS : qp_PS I p s) (hc : e + 3 ≤ c) (hp : e + 3 ≤ p) (hq : e + 3 ≤ q) (he : e + 3 ≤ 204) (hi : i < ni) : ∃ I', qa_ex (d + 19) 127 [qa_a (some a), qa_i (nI i)] (K, I, R, n, z) = some (some (qa_i (nI (qE_x nk pm T ni fs hd i s).1)), (K, I', R, n, z)) ∧ qz_fr e 3 I I' ∧ qp_X I' e 1 2 2 (qE_x nk pm T ni fs hd i s).1 (qE_x nk pm T ni fs hd i s).2.1 (qE_x nk pm T ni fs hd i s).2.2 := by
  obtain ⟨hC, hT, hw⟩ := id hA
  have p0 := hP.1
  have x0 := hE.1
  have c0 := hC.1.1
  have cn := hC.2.2.2.2.2.2.1
  have i12 := hC.2.2.2.2.2.2.2.1
  have k10 := hC.2.2.2.2.1
  have hfk := (hC.2.2.2.2.2.2.2.2 i hi).2.2.1
  have e1 : ¬ ni ≤ i := by omega
  have hi12 : i < 12 := by omega
  obtain ⟨I0, hI0⟩ : ∃ I0, I0 = va_up I e (va_up (I e) 2 (nI 0)) := ⟨_, rfl⟩
  have hf0 : qz_fr e 3 I I0 := by rw [hI0]; exact qz_fr_u (by omega) (by omega)
  have hX0 : qp_X I0 e 1 2 2 0 (fun _ => 0) (fun _ => 0) := ⟨by rw [hI0, qa_up_s, qa_up_s], fun j hj => absurd hj (by omega)⟩
  have hA0 := qj_A_cg hA (fun a h1 h2 => hf0 a (by omega)) (fun a h1 h2 => hf0 a (by omega)) (fun a h1 => hf0 a (by omega))
  have hS0 : qp_PS I0 p s := qp_PS_cg hS (fun a h1 h2 => hf0 a (by omega))
  have hop := qs_PR_isOpen2 (d := d + 16) (n := n) (z := z) hP hS0 hi12
  have hma := qs_PR_isMastered2 (d := d + 15) (n := n) (z := z) hP hA0.1 hS0 hfk
  have hrd := qs_PR_isReady (d := d + 1) (n := n) (z := z) hP hA0.1 hS0 hA0.2.1 hw hfk
  have hle := qA_l_le (nk := nk) (pm := pm) (T := T) (ni := ni) (fs := fs) (hd := hd) (s := s)
  have hln := qs_AD_forLearning (d := d + 1) (n := n) (z := z) hP hA0.1 hS0 hA0.2.1 hw
  rw [show qA_it s fs hd ni (qA_ln s (fun k => nI (pm k)) T nk ni fs hd nk) = qA_l nk pm T ni fs hd s from rfl] at hln
  have had := fun x y => qs_EX_add (d := d + 17) (R := R) (n := n) (z := z) (x := x) (y := y) hE hX0.1 (by omega)
  have hfr := fun x y => (fun a ha => (qw_E_n (by omega) (by omega) (by omega)).trans (hf0 a ha) : qz_fr e 3 I (qw_E I0 e 1 2 2 0 x y))
  have hX1 := fun x y => qw_E_X (x := x) (y := y) hX0 (by omega) (by omega)
  have hl1 := fun x y => (hX1 x y).1
  have hd6 : I0 p 6 = s 0 := hS0.1
  unfold qE_x
  by_cases h1 : qs_op s i = true
  · rw [if_pos h1]
    by_cases h2 : qs_g s (fun k => nI (pm k)) (fs i) = true
    · rw [if_pos h2]
      refine ⟨qw_E I0 e 1 2 2 0 (nI 2) (nI (fs i)), ?_, hfr _ _, hX1 _ _⟩
      simp (disch := first | assumption | omega | exact Or.inl rfl | exact Or.inr rfl | exact qb_01) only [qe_127, qr_127_0, qr_127_1, qr_127_4, qr_127_5, qr_127_8, qr_127_11, qr_127_12, qr_127_13, qr_127_14, qr_127_17, qr_127_18, qr_127_21, qr_127_22, qr_127_23, qr_127_26, qr_127_29, qr_127_30, qr_127_33, qr_127_34, qr_127_37, qr_127_40, qr_127_41, qr_127_44, qr_127_45, qr_127_46, qr_127_49, qr_127_52, qr_127_55, qr_127_58, qr_127_59, qr_127_62, qr_127_63, qr_127_66, qr_127_69, qr_127_70, qr_127_73, qr_127_74, qr_127_75, qr_127_78, qr_127_81, qr_127_82, qr_127_85, qr_127_86, qr_127_89, qr_127_92, qr_127_93, qr_127_96, qr_127_97, qr_127_98, qr_127_101, qr_127_102, qr_127_103, qr_127_106, qr_127_109, qr_127_110, qr_127_113, qr_127_114, qr_127_117, qr_127_120, qr_127_121, qr_127_122, qr_127_125, qr_127_126, qr_127_127, qr_127_130, qr_127_131, qr_127_134, qr_127_135, qr_127_136, qr_127_139, qr_127_140, qr_127_143, qr_127_146, true_and, and_true, false_and, and_false, Option.bind_some, Option.toList_some, Option.toList_none, List.nil_append, List.cons_append, if_true, if_false, ite_true, ite_false, not_true_eq_false, not_false_eq_true, qn_lt0, qn_ge0, qn_lt, qn_le, qn_eq, qn_e0, qn_gt0, qn_le0, qn_m1, nI_add, pk_mul, qb_e0, Classical.not_not, Nat.reduceEqDiff, Nat.reduceLT, Nat.reduceLeDiff, Nat.not_lt_zero, Nat.zero_le, r3, r4, r5, qs_CO_hasItem c0 cn, e1, qs_CO_skillOf hC hi, qs_EX_clear, ← hI0, hop, h1, hma, h2, had, qs_EX_levels, hl1]
      rfl
    · rw [if_neg h2]
      by_cases h3 : qt_rd (qs_g s (fun k => nI (pm k))) (T (fs i)) = true
      · rw [if_pos h3]
        have hv := qe_v_i (b := qA_l nk pm T ni fs hd s) (i := i) (by omega) (by omega)
        refine ⟨qw_E I0 e 1 2 2 0 (if qA_l nk pm T ni fs hd s = i + 1 then nI 5 else nI 4) (qe_v (qA_l nk pm T ni fs hd s)), ?_, hfr _ _, hX1 _ _⟩
        by_cases h4 : qA_l nk pm T ni fs hd s = i + 1
        · simp (disch := first | assumption | omega | exact Or.inl rfl | exact Or.inr rfl | exact qb_01) only [qe_127, qr_127_0, qr_127_1, qr_127_4, qr_127_5, qr_127_8, qr_127_11, qr_127_12, qr_127_13, qr_127_14, qr_127_17, qr_127_18, qr_127_21, qr_127_22, qr_127_23, qr_127_26, qr_127_29, qr_127_30, qr_127_33, qr_127_34, qr_127_37, qr_127_40, qr_127_41, qr_127_44, qr_127_45, qr_127_46, qr_127_49, qr_127_52, qr_127_55, qr_127_58, qr_127_59, qr_127_62, qr_127_63, qr_127_66, qr_127_69, qr_127_70, qr_127_73, qr_127_74, qr_127_75, qr_127_78, qr_127_81, qr_127_82, qr_127_85, qr_127_86, qr_127_89, qr_127_92, qr_127_93, qr_127_96, qr_127_97, qr_127_98, qr_127_101, qr_127_102, qr_127_103, qr_127_106, qr_127_109, qr_127_110, qr_127_113, qr_127_114, qr_127_117, qr_127_120, qr_127_121, qr_127_122, qr_127_125, qr_127_126, qr_127_127, qr_127_130, qr_127_131, qr_127_134, qr_127_135, qr_127_136, qr_127_139, qr_127_140, qr_127_143, qr_127_146, true_and, and_true, false_and, and_false, Option.bind_some, Option.toList_some, Option.toList_none, List.nil_append, List.cons_append, if_true, if_false, ite_true, ite_false, not_true_eq_false, not_false_eq_true, qn_lt0, qn_ge0, qn_lt, qn_le, qn_eq, qn_e0, qn_gt0, qn_le0, qn_m1, nI_add, pk_mul, qb_e0, Classical.not_not, Nat.reduceEqDiff, Nat.reduceLT, Nat.reduceLeDiff, Nat.not_lt_zero, Nat.zero_le, r3, r4, r5, qs_CO_hasItem c0 cn, e1, qs_CO_skillOf hC hi, qs_EX_clear, ← hI0, hop, h1, hma, eq_false h2, hrd, h3, hln, hv, eq_true h4, had, qs_EX_levels, hl1]
          rfl
        · simp (disch := first | assumption | omega | exact Or.inl rfl | exact Or.inr rfl | exact qb_01) only [qe_127, qr_127_0, qr_127_1, qr_127_4, qr_127_5, qr_127_8, qr_127_11, qr_127_12, qr_127_13, qr_127_14, qr_127_17, qr_127_18, qr_127_21, qr_127_22, qr_127_23, qr_127_26, qr_127_29, qr_127_30, qr_127_33, qr_127_34, qr_127_37, qr_127_40, qr_127_41, qr_127_44, qr_127_45, qr_127_46, qr_127_49, qr_127_52, qr_127_55, qr_127_58, qr_127_59, qr_127_62, qr_127_63, qr_127_66, qr_127_69, qr_127_70, qr_127_73, qr_127_74, qr_127_75, qr_127_78, qr_127_81, qr_127_82, qr_127_85, qr_127_86, qr_127_89, qr_127_92, qr_127_93, qr_127_96, qr_127_97, qr_127_98, qr_127_101, qr_127_102, qr_127_103, qr_127_106, qr_127_109, qr_127_110, qr_127_113, qr_127_114, qr_127_117, qr_127_120, qr_127_121, qr_127_122, qr_127_125, qr_127_126, qr_127_127, qr_127_130, qr_127_131, qr_127_134, qr_127_135, qr_127_136, qr_127_139, qr_127_140, qr_127_143, qr_127_146, true_and, and_true, false_and, and_false, Option.bind_some, Option.toList_some, Option.toList_none, List.nil_append, List.cons_append, if_true, if_false, ite_true, ite_false, not_true_eq_false, not_false_eq_true, qn_lt0, qn_ge0, qn_lt, qn_le, qn_eq, qn_e0, qn_gt0, qn_le0, qn_m1, nI_add, pk_mul, qb_e0, Classical.not_not, Nat.reduceEqDiff, Nat.reduceLT, Nat.reduceLeDiff, Nat.not_lt_zero, Nat.zero_le, r3, r4, r5, qs_CO_hasItem c0 cn, e1, qs_CO_skillOf hC hi, qs_EX_clear, ← hI0, hop, h1, hma, eq_false h2, hrd, h3, hln, hv, eq_false h4, had, qs_EX_levels, hl1]
          rfl
      · rw [if_neg h3]
        have hf1 := hfr (nI 3) (nI (fs i))
        have hA1 := qj_A_cg hA (fun a h1 h2 => hf1 a (by omega)) (fun a h1 h2 => hf1 a (by omega)) (fun a h1 => hf1 a (by omega))
        have hS1 : qp_PS (qw_E I0 e 1 2 2 0 (nI 3) (nI (fs i))) p s := qp_PS_cg hS (fun a h1 h2 => hf1 a (by omega))
        obtain ⟨I2, b1, b2, b3⟩ := qs_LA_explainBlocking (d := d) (n := n) (z := z) ha r3 r4 r5 hE hA1 hP hS1 hc hp hq he hfk (hX1 _ _)
        refine ⟨I2, ?_, qz_fr_t hf1 b2, b3⟩
        simp (disch := first | assumption | omega | exact Or.inl rfl | exact Or.inr rfl | exact qb_01) only [qe_127, qr_127_0, qr_127_1, qr_127_4, qr_127_5, qr_127_8, qr_127_11, qr_127_12, qr_127_13, qr_127_14, qr_127_17, qr_127_18, qr_127_21, qr_127_22, qr_127_23, qr_127_26, qr_127_29, qr_127_30, qr_127_33, qr_127_34, qr_127_37, qr_127_40, qr_127_41, qr_127_44, qr_127_45, qr_127_46, qr_127_49, qr_127_52, qr_127_55, qr_127_58, qr_127_59, qr_127_62, qr_127_63, qr_127_66, qr_127_69, qr_127_70, qr_127_73, qr_127_74, qr_127_75, qr_127_78, qr_127_81, qr_127_82, qr_127_85, qr_127_86, qr_127_89, qr_127_92, qr_127_93, qr_127_96, qr_127_97, qr_127_98, qr_127_101, qr_127_102, qr_127_103, qr_127_106, qr_127_109, qr_127_110, qr_127_113, qr_127_114, qr_127_117, qr_127_120, qr_127_121, qr_127_122, qr_127_125, qr_127_126, qr_127_127, qr_127_130, qr_127_131, qr_127_134, qr_127_135, qr_127_136, qr_127_139, qr_127_140, qr_127_143, qr_127_146, true_and, and_true, false_and, and_false, Option.bind_some, Option.toList_some, Option.toList_none, List.nil_append, List.cons_append, if_true, if_false, ite_true, ite_false, not_true_eq_false, not_false_eq_true, qn_lt0, qn_ge0, qn_lt, qn_le, qn_eq, qn_e0, qn_gt0, qn_le0, qn_m1, nI_add, pk_mul, qb_e0, Classical.not_not, Nat.reduceEqDiff, Nat.reduceLT, Nat.reduceLeDiff, Nat.not_lt_zero, Nat.zero_le, r3, r4, r5, qs_CO_hasItem c0 cn, e1, qs_CO_skillOf hC hi, qs_EX_clear, ← hI0, hop, h1, hma, eq_false h2, hrd, eq_false h3, had, b1, qs_EX_levels, b3.1]
  · rw [if_neg h1]
    refine ⟨qw_E I0 e 1 2 2 0 (nI 1) (s 0), ?_, hfr _ _, hX1 _ _⟩
    simp (disch := first | assumption | omega | exact Or.inl rfl | exact Or.inr rfl | exact qb_01) only [qe_127, qr_127_0, qr_127_1, qr_127_4, qr_127_5, qr_127_8, qr_127_11, qr_127_12, qr_127_13, qr_127_14, qr_127_17, qr_127_18, qr_127_21, qr_127_22, qr_127_23, qr_127_26, qr_127_29, qr_127_30, qr_127_33, qr_127_34, qr_127_37, qr_127_40, qr_127_41, qr_127_44, qr_127_45, qr_127_46, qr_127_49, qr_127_52, qr_127_55, qr_127_58, qr_127_59, qr_127_62, qr_127_63, qr_127_66, qr_127_69, qr_127_70, qr_127_73, qr_127_74, qr_127_75, qr_127_78, qr_127_81, qr_127_82, qr_127_85, qr_127_86, qr_127_89, qr_127_92, qr_127_93, qr_127_96, qr_127_97, qr_127_98, qr_127_101, qr_127_102, qr_127_103, qr_127_106, qr_127_109, qr_127_110, qr_127_113, qr_127_114, qr_127_117, qr_127_120, qr_127_121, qr_127_122, qr_127_125, qr_127_126, qr_127_127, qr_127_130, qr_127_131, qr_127_134, qr_127_135, qr_127_136, qr_127_139, qr_127_140, qr_127_143, qr_127_146, true_and, and_true, false_and, and_false, Option.bind_some, Option.toList_some, Option.toList_none, List.nil_append, List.cons_append, if_true, if_false, ite_true, ite_false, not_true_eq_false, not_false_eq_true, qn_lt0, qn_ge0, qn_lt, qn_le, qn_eq, qn_e0, qn_gt0, qn_le0, qn_m1, nI_add, pk_mul, qb_e0, Classical.not_not, Nat.reduceEqDiff, Nat.reduceLT, Nat.reduceLeDiff, Nat.not_lt_zero, Nat.zero_le, r3, r4, r5, qs_CO_hasItem c0 cn, e1, qs_CO_skillOf hC hi, qs_EX_clear, ← hI0, hop, eq_false h1, qs_PR_day, hd6, had, qs_EX_levels, hl1]
    rfl
theorem qs_MO_explain (hM : qp_MO K R u) (hC : qp_MC (I (u + 5)) nk pm T ni fs hd) (hi : i < ni) : ∃ I', qa_ex (d + 19) 220 [qa_a (some u), qa_i (nI i)] (K, I, R, n, z) = some (some (qa_i (nI (qE_x nk pm T ni fs hd i (I (u + 1))).1)), (K, I', R, n, z)) ∧ (∀ a, a ≠ u → a ≠ u + 12 → a ≠ u + 13 → I' a = I a) ∧ (∀ j, j ≠ 20 → I' u j = I u j) ∧ qp_X I' u 12 13 20 (qE_x nk pm T ni fs hd i (I (u + 1))).1 (qE_x nk pm T ni fs hd i (I (u + 1))).2.1 (qE_x nk pm T ni fs hd i (I (u + 1))).2.2 := by
  have hM' := hM
  have k10 := hC.2.2.1
  have i12 := hC.2.2.2.2.1
  have hf1 := (hC.2.2.2.2.2.2.2.2 i hi).1
  have hfk := (hC.2.2.2.2.2.2.2.2 i hi).2.2.1
  have hw := hC.2.2.2.2.2.2.2.1
  have hMT := hC.2.2.2.2.2.2.1
  have e1 : ¬ ni ≤ i := by omega
  have hi12 : i < 12 := by omega
  obtain ⟨m0, ⟨s1, s2, s3⟩, -, -, -, ⟨c1, c2, c3⟩, -⟩ := hM
  obtain ⟨s, hs⟩ : ∃ s, s = I (u + 1) := ⟨_, rfl⟩
  obtain ⟨gg, hgg⟩ : ∃ gg, gg = qs_g s (fun k => nI (pm k)) := ⟨_, rfl⟩
  obtain ⟨I0, hI0⟩ : ∃ I0, I0 = va_up I u (va_up (I u) 20 (nI 0)) := ⟨_, rfl⟩
  have hf0 : ∀ a, a ≠ u → a ≠ u + 12 → a ≠ u + 13 → I0 a = I a := fun a h1 _ _ => by rw [hI0, qa_up_n _ _ h1]
  have hg0 : ∀ j, j ≠ 20 → I0 u j = I u j := fun j hj => by rw [hI0, qa_up_s, qa_up_n _ _ hj]
  have hX0 : qp_X I0 u 12 13 20 0 (fun _ => 0) (fun _ => 0) := ⟨by rw [hI0, qa_up_s, qa_up_s], fun j hj => absurd hj (by omega)⟩
  have hk : ∀ J : Nat → Nat → Int32, (∀ a, a ≠ u → a ≠ u + 12 → a ≠ u + 13 → J a = I a) → J (u + 1) = s ∧ qp_MC (J (u + 5)) nk pm T ni fs hd := fun J hJ => ⟨(hJ _ (by omega) (by omega) (by omega)).trans hs.symm, by rw [hJ _ (by omega) (by omega) (by omega)]; exact hC⟩
  obtain ⟨h01, h05⟩ := hk I0 hf0
  have hop := qs_MO_isOpen2 (d := d + 16) (I := I0) (n := n) (z := z) hM' hi12
  have hma := qs_MO_isMastered2 (d := d + 16) (I := I0) (n := n) (z := z) hM' h05 hfk
  have hrd := qs_MO_isReady2 (d := d + 1) (I := I0) (n := n) (z := z) hM' h05 hfk
  have hln := qs_MO_forLearning (d := d) (I := I0) (n := n) (z := z) hM' h05
  rw [h01] at hop hma hrd hln
  have hle := qA_l_le (nk := nk) (pm := pm) (T := T) (ni := ni) (fs := fs) (hd := hd) (s := s)
  rw [show qA_it s fs hd ni (qA_ln s (fun k => nI (pm k)) T nk ni fs hd nk) = qA_l nk pm T ni fs hd s from rfl] at hln
  have had := fun x y => qs_MO_tells (d := d + 17) (n := n) (z := z) (x := x) (y := y) hM' hX0.1 (by omega)
  have hfr : ∀ x y a, a ≠ u → a ≠ u + 12 → a ≠ u + 13 → qw_E I0 u 12 13 20 0 x y a = I a := fun x y a h1 h2 h3 => (qw_E_n h1 h2 h3).trans (hf0 a h1 h2 h3)
  have hgr : ∀ x y j, j ≠ 20 → qw_E I0 u 12 13 20 0 x y u j = I u j := fun x y j hj => by rw [qw_E_0, qa_up_n _ _ hj]; exact hg0 j hj
  have hX1 := fun x y => qw_E_X (x := x) (y := y) hX0 (by omega) (by omega)
  have hl1 := fun x y => (hX1 x y).1
  have hd0 : I0 (u + 1) 0 = s 0 := by rw [h01]
  have hf10 : I0 (u + 5) (532 + i) = nI (fs i) := by rw [hf0 _ (by omega) (by omega) (by omega)]; exact hf1
  rw [← hs]
  unfold qE_x
  by_cases h1 : qs_op s i = true
  · rw [if_pos h1]
    by_cases h2 : qs_g s (fun k => nI (pm k)) (fs i) = true
    · rw [if_pos h2]
      refine ⟨qw_E I0 u 12 13 20 0 (nI 2) (nI (fs i)), ?_, hfr _ _, hgr _ _, hX1 _ _⟩
      simp (disch := first | assumption | omega | exact Or.inl rfl | exact Or.inr rfl | exact qb_01) only [qe_220, qr_220_0, qr_220_1, qr_220_2, qr_220_5, qr_220_8, qr_220_9, qr_220_10, qr_220_11, qr_220_12, qr_220_15, qr_220_16, qr_220_19, qr_220_22, qr_220_23, qr_220_24, qr_220_25, qr_220_26, qr_220_27, qr_220_28, qr_220_31, qr_220_34, qr_220_35, qr_220_36, qr_220_37, qr_220_40, qr_220_41, qr_220_42, qr_220_45, qr_220_48, qr_220_49, qr_220_50, qr_220_53, qr_220_56, qr_220_57, qr_220_58, qr_220_59, qr_220_62, qr_220_65, qr_220_66, qr_220_67, qr_220_70, qr_220_73, qr_220_74, qr_220_75, qr_220_76, qr_220_80, qr_220_81, qr_220_84, qr_220_87, qr_220_88, qr_220_89, qr_220_92, qr_220_94, qr_220_95, qr_220_96, qr_220_97, qr_220_100, qr_220_101, qr_220_102, qr_220_104, qr_220_105, qr_220_108, qr_220_111, qr_220_112, qr_220_115, qr_220_116, qr_220_117, qr_220_118, qr_220_119, qr_220_122, qr_220_123, qr_220_126, qr_220_127, qr_220_128, qr_220_131, qr_220_132, qr_220_135, true_and, and_true, false_and, and_false, Option.bind_some, Option.toList_some, Option.toList_none, List.nil_append, List.cons_append, if_true, if_false, ite_true, ite_false, not_true_eq_false, not_false_eq_true, qn_lt0, qn_ge0, qn_lt, qn_le, qn_eq, qn_e0, qn_gt0, qn_le0, qn_m1, nI_add, pk_mul, qb_e0, Classical.not_not, Nat.reduceEqDiff, Nat.reduceLT, Nat.reduceLeDiff, Nat.not_lt_zero, Nat.zero_le, qs_MO_isItem hM' hC.2.2.2.1 i12, e1, ← hI0, c3, hf10, hop, h1, hma, h2, had, hl1]
      rfl
    · rw [if_neg h2]
      by_cases h3 : qt_rd (qs_g s (fun k => nI (pm k))) (T (fs i)) = true
      · rw [if_pos h3]
        have hv := qe_v_i (b := qA_l nk pm T ni fs hd s) (i := i) (by omega) (by omega)
        refine ⟨qw_E I0 u 12 13 20 0 (if qA_l nk pm T ni fs hd s = i + 1 then nI 5 else nI 4) (qe_v (qA_l nk pm T ni fs hd s)), ?_, hfr _ _, hgr _ _, hX1 _ _⟩
        by_cases h4 : qA_l nk pm T ni fs hd s = i + 1
        · simp (disch := first | assumption | omega | exact Or.inl rfl | exact Or.inr rfl | exact qb_01) only [qe_220, qr_220_0, qr_220_1, qr_220_2, qr_220_5, qr_220_8, qr_220_9, qr_220_10, qr_220_11, qr_220_12, qr_220_15, qr_220_16, qr_220_19, qr_220_22, qr_220_23, qr_220_24, qr_220_25, qr_220_26, qr_220_27, qr_220_28, qr_220_31, qr_220_34, qr_220_35, qr_220_36, qr_220_37, qr_220_40, qr_220_41, qr_220_42, qr_220_45, qr_220_48, qr_220_49, qr_220_50, qr_220_53, qr_220_56, qr_220_57, qr_220_58, qr_220_59, qr_220_62, qr_220_65, qr_220_66, qr_220_67, qr_220_70, qr_220_73, qr_220_74, qr_220_75, qr_220_76, qr_220_80, qr_220_81, qr_220_84, qr_220_87, qr_220_88, qr_220_89, qr_220_92, qr_220_94, qr_220_95, qr_220_96, qr_220_97, qr_220_100, qr_220_101, qr_220_102, qr_220_104, qr_220_105, qr_220_108, qr_220_111, qr_220_112, qr_220_115, qr_220_116, qr_220_117, qr_220_118, qr_220_119, qr_220_122, qr_220_123, qr_220_126, qr_220_127, qr_220_128, qr_220_131, qr_220_132, qr_220_135, true_and, and_true, false_and, and_false, Option.bind_some, Option.toList_some, Option.toList_none, List.nil_append, List.cons_append, if_true, if_false, ite_true, ite_false, not_true_eq_false, not_false_eq_true, qn_lt0, qn_ge0, qn_lt, qn_le, qn_eq, qn_e0, qn_gt0, qn_le0, qn_m1, nI_add, pk_mul, qb_e0, Classical.not_not, Nat.reduceEqDiff, Nat.reduceLT, Nat.reduceLeDiff, Nat.not_lt_zero, Nat.zero_le, qs_MO_isItem hM' hC.2.2.2.1 i12, e1, ← hI0, c3, hf10, hop, h1, hma, eq_false h2, hrd, h3, hln, hv, eq_true h4, had, hl1]
          rfl
        · simp (disch := first | assumption | omega | exact Or.inl rfl | exact Or.inr rfl | exact qb_01) only [qe_220, qr_220_0, qr_220_1, qr_220_2, qr_220_5, qr_220_8, qr_220_9, qr_220_10, qr_220_11, qr_220_12, qr_220_15, qr_220_16, qr_220_19, qr_220_22, qr_220_23, qr_220_24, qr_220_25, qr_220_26, qr_220_27, qr_220_28, qr_220_31, qr_220_34, qr_220_35, qr_220_36, qr_220_37, qr_220_40, qr_220_41, qr_220_42, qr_220_45, qr_220_48, qr_220_49, qr_220_50, qr_220_53, qr_220_56, qr_220_57, qr_220_58, qr_220_59, qr_220_62, qr_220_65, qr_220_66, qr_220_67, qr_220_70, qr_220_73, qr_220_74, qr_220_75, qr_220_76, qr_220_80, qr_220_81, qr_220_84, qr_220_87, qr_220_88, qr_220_89, qr_220_92, qr_220_94, qr_220_95, qr_220_96, qr_220_97, qr_220_100, qr_220_101, qr_220_102, qr_220_104, qr_220_105, qr_220_108, qr_220_111, qr_220_112, qr_220_115, qr_220_116, qr_220_117, qr_220_118, qr_220_119, qr_220_122, qr_220_123, qr_220_126, qr_220_127, qr_220_128, qr_220_131, qr_220_132, qr_220_135, true_and, and_true, false_and, and_false, Option.bind_some, Option.toList_some, Option.toList_none, List.nil_append, List.cons_append, if_true, if_false, ite_true, ite_false, not_true_eq_false, not_false_eq_true, qn_lt0, qn_ge0, qn_lt, qn_le, qn_eq, qn_e0, qn_gt0, qn_le0, qn_m1, nI_add, pk_mul, qb_e0, Classical.not_not, Nat.reduceEqDiff, Nat.reduceLT, Nat.reduceLeDiff, Nat.not_lt_zero, Nat.zero_le, qs_MO_isItem hM' hC.2.2.2.1 i12, e1, ← hI0, c3, hf10, hop, h1, hma, eq_false h2, hrd, h3, hln, hv, eq_false h4, had, hl1]
          rfl
      · rw [if_neg h3]
        rw [← hgg]
        have loop : ∀ f k lv ec en l3, k ≤ f → lv + k ≤ 11 → k < nk → ∀ J, (∀ a, a ≠ u → a ≠ u + 12 → a ≠ u + 13 → J a = I a) → (∀ j, j ≠ 20 → J u j = I u j) → qp_X J u 12 13 20 lv ec en → ∃ I', qa_run (d + 18) 220 79 [qa_a (some u), qa_i (nI i), qa_i (nI k), l3] [] [] (K, J, R, n, z) = some (some (qa_i (nI (qE_f (qE_ch gg T f k) lv ec en).1)), (K, I', R, n, z)) ∧ (∀ a, a ≠ u → a ≠ u + 12 → a ≠ u + 13 → I' a = I a) ∧ (∀ j, j ≠ 20 → I' u j = I u j) ∧ qp_X I' u 12 13 20 (qE_f (qE_ch gg T f k) lv ec en).1 (qE_f (qE_ch gg T f k) lv ec en).2.1 (qE_f (qE_ch gg T f k) lv ec en).2.2 := by
          intro f
          induction f with
          | zero =>
            intro k lv ec en l3 hkf hlv hkn J j1 j2 j3
            have hk0 : k = 0 := by omega
            subst hk0
            obtain ⟨h01, h05⟩ := hk J j1
            have hrd := qs_MO_isReady2 (d := d + 1) (I := J) (n := n) (z := z) hM' h05 hkn
            have hne := qt_wf_0 (hw 0 hkn)
            have hr0 : qt_rd (qs_g (J (u + 1)) (fun k => nI (pm k))) (T 0) = true := by
              unfold qt_rd
              rw [hne]
              rfl
            rw [hr0] at hrd
            refine ⟨J, ?_, j1, j2, j3⟩
            rw [qr_220_79]
            simp (disch := first | assumption | omega | exact Or.inl rfl | exact Or.inr rfl | exact qb_01) only [qr_220_0, qr_220_1, qr_220_2, qr_220_5, qr_220_8, qr_220_9, qr_220_10, qr_220_11, qr_220_12, qr_220_15, qr_220_16, qr_220_19, qr_220_22, qr_220_23, qr_220_24, qr_220_25, qr_220_26, qr_220_27, qr_220_28, qr_220_31, qr_220_34, qr_220_35, qr_220_36, qr_220_37, qr_220_40, qr_220_41, qr_220_42, qr_220_45, qr_220_48, qr_220_49, qr_220_50, qr_220_53, qr_220_56, qr_220_57, qr_220_58, qr_220_59, qr_220_62, qr_220_65, qr_220_66, qr_220_67, qr_220_70, qr_220_73, qr_220_74, qr_220_75, qr_220_76, qr_220_80, qr_220_81, qr_220_84, qr_220_87, qr_220_88, qr_220_89, qr_220_92, qr_220_94, qr_220_95, qr_220_96, qr_220_97, qr_220_100, qr_220_101, qr_220_102, qr_220_104, qr_220_105, qr_220_108, qr_220_111, qr_220_112, qr_220_115, qr_220_116, qr_220_117, qr_220_118, qr_220_119, qr_220_122, qr_220_123, qr_220_126, qr_220_127, qr_220_128, qr_220_131, qr_220_132, qr_220_135, true_and, and_true, false_and, and_false, Option.bind_some, Option.toList_some, Option.toList_none, List.nil_append, List.cons_append, if_true, if_false, ite_true, ite_false, not_true_eq_false, not_false_eq_true, qn_lt0, qn_ge0, qn_lt, qn_le, qn_eq, qn_e0, qn_gt0, qn_le0, qn_m1, nI_add, pk_mul, qb_e0, Classical.not_not, hrd, j3.1]
            rfl
          | succ f ih =>
            intro k lv ec en l3 hkf hlv hkn J j1 j2 j3
            obtain ⟨h01, h05⟩ := hk J j1
            have hrd := qs_MO_isReady2 (d := d + 1) (I := J) (n := n) (z := z) hM' h05 hkn
            rw [h01, ← hgg] at hrd
            unfold qE_ch
            by_cases hr : qt_rd gg (T k) = true
            · rw [if_pos hr]
              refine ⟨J, ?_, j1, j2, j3⟩
              rw [qr_220_79]
              simp (disch := first | assumption | omega | exact Or.inl rfl | exact Or.inr rfl | exact qb_01) only [qr_220_0, qr_220_1, qr_220_2, qr_220_5, qr_220_8, qr_220_9, qr_220_10, qr_220_11, qr_220_12, qr_220_15, qr_220_16, qr_220_19, qr_220_22, qr_220_23, qr_220_24, qr_220_25, qr_220_26, qr_220_27, qr_220_28, qr_220_31, qr_220_34, qr_220_35, qr_220_36, qr_220_37, qr_220_40, qr_220_41, qr_220_42, qr_220_45, qr_220_48, qr_220_49, qr_220_50, qr_220_53, qr_220_56, qr_220_57, qr_220_58, qr_220_59, qr_220_62, qr_220_65, qr_220_66, qr_220_67, qr_220_70, qr_220_73, qr_220_74, qr_220_75, qr_220_76, qr_220_80, qr_220_81, qr_220_84, qr_220_87, qr_220_88, qr_220_89, qr_220_92, qr_220_94, qr_220_95, qr_220_96, qr_220_97, qr_220_100, qr_220_101, qr_220_102, qr_220_104, qr_220_105, qr_220_108, qr_220_111, qr_220_112, qr_220_115, qr_220_116, qr_220_117, qr_220_118, qr_220_119, qr_220_122, qr_220_123, qr_220_126, qr_220_127, qr_220_128, qr_220_131, qr_220_132, qr_220_135, true_and, and_true, false_and, and_false, Option.bind_some, Option.toList_some, Option.toList_none, List.nil_append, List.cons_append, if_true, if_false, ite_true, ite_false, not_true_eq_false, not_false_eq_true, qn_lt0, qn_ge0, qn_lt, qn_le, qn_eq, qn_e0, qn_gt0, qn_le0, qn_m1, nI_add, pk_mul, qb_e0, Classical.not_not, hrd, hr, j3.1]
              rfl
            · rw [if_neg hr]
              have hrf := eq_false_of_ne_true hr
              have hgc : ∀ i, i < k → qm_g J u i = gg i := fun i hi => by rw [qm_g2 h05 (by omega), h01, hgg]
              have hbl := qs_MO_blocks (d := d + 1) (I := J) (n := n) (z := z) hM' hkn k10 h05.2.2.2.2.2.2.1 (by rw [qt_rd_cg hgc (hw k hkn)]; exact hrf)
              rw [qt_bl_congr hgc (hw k hkn)] at hbl
              have hk0 : 0 < k := by
                rcases Nat.eq_zero_or_pos k with h | h
                · subst h
                  have := qt_wf_0 (hw 0 hkn)
                  unfold qt_rd at hrf
                  rw [this] at hrf
                  exact absurd hrf (by simp)
                · exact h
              have hbk := (qt_bl_lt (g := gg) hk0 (hw k hkn)).1
              generalize (qt_bl gg (T k)).1 = b at hbl hbk ⊢
              have had := qs_MO_tells (d := d + 17) (n := n) (z := z) (x := nI 6) (y := nI b) hM' j3.1 (by omega)
              obtain ⟨I2, q1, q2, q3, q4⟩ := ih b (lv + 1) (va_up ec lv (nI 6)) (va_up en lv (nI b)) l3 (by omega) (by omega) (by omega) (qw_E J u 12 13 20 lv (nI 6) (nI b)) (fun a g1 g2 g3 => (qw_E_n g1 g2 g3).trans (j1 a g1 g2 g3)) (fun j hj => by rw [qw_E_0, qa_up_n _ _ hj]; exact j2 j hj) (qw_E_X j3 (by omega) (by omega))
              refine ⟨I2, ?_, q2, q3, q4⟩
              rw [qr_220_79]
              simp (disch := first | assumption | omega | exact Or.inl rfl | exact Or.inr rfl | exact qb_01) only [qr_220_0, qr_220_1, qr_220_2, qr_220_5, qr_220_8, qr_220_9, qr_220_10, qr_220_11, qr_220_12, qr_220_15, qr_220_16, qr_220_19, qr_220_22, qr_220_23, qr_220_24, qr_220_25, qr_220_26, qr_220_27, qr_220_28, qr_220_31, qr_220_34, qr_220_35, qr_220_36, qr_220_37, qr_220_40, qr_220_41, qr_220_42, qr_220_45, qr_220_48, qr_220_49, qr_220_50, qr_220_53, qr_220_56, qr_220_57, qr_220_58, qr_220_59, qr_220_62, qr_220_65, qr_220_66, qr_220_67, qr_220_70, qr_220_73, qr_220_74, qr_220_75, qr_220_76, qr_220_80, qr_220_81, qr_220_84, qr_220_87, qr_220_88, qr_220_89, qr_220_92, qr_220_94, qr_220_95, qr_220_96, qr_220_97, qr_220_100, qr_220_101, qr_220_102, qr_220_104, qr_220_105, qr_220_108, qr_220_111, qr_220_112, qr_220_115, qr_220_116, qr_220_117, qr_220_118, qr_220_119, qr_220_122, qr_220_123, qr_220_126, qr_220_127, qr_220_128, qr_220_131, qr_220_132, qr_220_135, true_and, and_true, false_and, and_false, Option.bind_some, Option.toList_some, Option.toList_none, List.nil_append, List.cons_append, if_true, if_false, ite_true, ite_false, not_true_eq_false, not_false_eq_true, qn_lt0, qn_ge0, qn_lt, qn_le, qn_eq, qn_e0, qn_gt0, qn_le0, qn_m1, nI_add, pk_mul, qb_e0, Classical.not_not, hrd, eq_false hr, c3, hbl, had]
              exact q1
        obtain ⟨I2, q1, q2, q3, q4⟩ := loop 10 (fs i) 1 (va_up (fun _ => 0) 0 (nI 3)) (va_up (fun _ => 0) 0 (nI (fs i))) qa_u (by omega) (by omega) hfk (qw_E I0 u 12 13 20 0 (nI 3) (nI (fs i))) (hfr _ _) (hgr _ _) (hX1 _ _)
        refine ⟨I2, ?_, q2, q3, q4⟩
        rw [← hgg] at h3 hrd
        simp (disch := first | assumption | omega | exact Or.inl rfl | exact Or.inr rfl | exact qb_01) only [qe_220, qr_220_0, qr_220_1, qr_220_2, qr_220_5, qr_220_8, qr_220_9, qr_220_10, qr_220_11, qr_220_12, qr_220_15, qr_220_16, qr_220_19, qr_220_22, qr_220_23, qr_220_24, qr_220_25, qr_220_26, qr_220_27, qr_220_28, qr_220_31, qr_220_34, qr_220_35, qr_220_36, qr_220_37, qr_220_40, qr_220_41, qr_220_42, qr_220_45, qr_220_48, qr_220_49, qr_220_50, qr_220_53, qr_220_56, qr_220_57, qr_220_58, qr_220_59, qr_220_62, qr_220_65, qr_220_66, qr_220_67, qr_220_70, qr_220_73, qr_220_74, qr_220_75, qr_220_76, qr_220_80, qr_220_81, qr_220_84, qr_220_87, qr_220_88, qr_220_89, qr_220_92, qr_220_94, qr_220_95, qr_220_96, qr_220_97, qr_220_100, qr_220_101, qr_220_102, qr_220_104, qr_220_105, qr_220_108, qr_220_111, qr_220_112, qr_220_115, qr_220_116, qr_220_117, qr_220_118, qr_220_119, qr_220_122, qr_220_123, qr_220_126, qr_220_127, qr_220_128, qr_220_131, qr_220_132, qr_220_135, true_and, and_true, false_and, and_false, Option.bind_some, Option.toList_some, Option.toList_none, List.nil_append, List.cons_append, if_true, if_false, ite_true, ite_false, not_true_eq_false, not_false_eq_true, qn_lt0, qn_ge0, qn_lt, qn_le, qn_eq, qn_e0, qn_gt0, qn_le0, qn_m1, nI_add, pk_mul, qb_e0, Classical.not_not, Nat.reduceEqDiff, Nat.reduceLT, Nat.reduceLeDiff, Nat.not_lt_zero, Nat.zero_le, qs_MO_isItem hM' hC.2.2.2.1 i12, e1, ← hI0, c3, hf10, hop, h1, hma, eq_false h2, hrd, eq_false h3, had]
        exact q1
  · rw [if_neg h1]
    refine ⟨qw_E I0 u 12 13 20 0 (nI 1) (s 0), ?_, hfr _ _, hgr _ _, hX1 _ _⟩
    simp (disch := first | assumption | omega | exact Or.inl rfl | exact Or.inr rfl | exact qb_01) only [qe_220, qr_220_0, qr_220_1, qr_220_2, qr_220_5, qr_220_8, qr_220_9, qr_220_10, qr_220_11, qr_220_12, qr_220_15, qr_220_16, qr_220_19, qr_220_22, qr_220_23, qr_220_24, qr_220_25, qr_220_26, qr_220_27, qr_220_28, qr_220_31, qr_220_34, qr_220_35, qr_220_36, qr_220_37, qr_220_40, qr_220_41, qr_220_42, qr_220_45, qr_220_48, qr_220_49, qr_220_50, qr_220_53, qr_220_56, qr_220_57, qr_220_58, qr_220_59, qr_220_62, qr_220_65, qr_220_66, qr_220_67, qr_220_70, qr_220_73, qr_220_74, qr_220_75, qr_220_76, qr_220_80, qr_220_81, qr_220_84, qr_220_87, qr_220_88, qr_220_89, qr_220_92, qr_220_94, qr_220_95, qr_220_96, qr_220_97, qr_220_100, qr_220_101, qr_220_102, qr_220_104, qr_220_105, qr_220_108, qr_220_111, qr_220_112, qr_220_115, qr_220_116, qr_220_117, qr_220_118, qr_220_119, qr_220_122, qr_220_123, qr_220_126, qr_220_127, qr_220_128, qr_220_131, qr_220_132, qr_220_135, true_and, and_true, false_and, and_false, Option.bind_some, Option.toList_some, Option.toList_none, List.nil_append, List.cons_append, if_true, if_false, ite_true, ite_false, not_true_eq_false, not_false_eq_true, qn_lt0, qn_ge0, qn_lt, qn_le, qn_eq, qn_e0, qn_gt0, qn_le0, qn_m1, nI_add, pk_mul, qb_e0, Classical.not_not, Nat.reduceEqDiff, Nat.reduceLT, Nat.reduceLeDiff, Nat.not_lt_zero, Nat.zero_le, qs_MO_isItem hM' hC.2.2.2.1 i12, e1, ← hI0, c3, s3, hf10, hop, eq_false h1, hd0, had, hl1]
    rfl
end Q57
