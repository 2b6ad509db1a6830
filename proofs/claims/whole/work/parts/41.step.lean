/-! One change, as the model makes it. -/
/-- what the model's curriculum holds: skills with pass marks and trees, items with skills and difficulties -/
def qp_MC (c : Nat → Int32) (nk : Nat) (pm : Nat → Nat) (T : Nat → qt_T) (ni : Nat) (fs hd : Nat → Nat) : Prop :=
  c 0 = nI nk ∧ 1 ≤ nk ∧ nk ≤ 10 ∧ c 1 = nI ni ∧ ni ≤ 12 ∧ (∀ k, k < nk → c (2 + k) = nI (pm k) ∧ pm k < 101) ∧ qt_MT c nk T ∧ (∀ k, k < nk → qt_wf k (T k)) ∧ ∀ i, i < ni → c (532 + i) = nI (fs i) ∧ c (544 + i) = nI (hd i) ∧ fs i < nk ∧ hd i < 5
/-- an entry: 0 a day, i + 1 the item i -/
def qe_v (e : Nat) : Int32 := if e = 0 then -1 else nI (e - 1)
def qF_step (nk : Nat) (pm : Nat → Nat) (T : Nat → qt_T) (fs : Nat → Nat) (e r : Nat) (s : Nat → Int32) : Nat → Int32 :=
  if e = 0 then qF_pas s nk else qF_ans nk (fun k => nI (pm k)) (fun k => qt_rq (T k)) r (fs (e - 1)) (e - 1) s
theorem qF_mb_c {nk : Nat} {ps ps' s : Nat → Int32} (h : ∀ k, k < nk → ps k = ps' k) : qF_mb nk ps s = qF_mb nk ps' s := qf_ms_congr (fun i hi => by rw [h i hi])
theorem qF_ans_c {nk r k i : Nat} {ps ps' rq rq' s : Nat → Int32} (h : ∀ k, k < nk → ps k = ps' k) (h2 : rq k = rq' k) : qF_ans nk ps rq r k i s = qF_ans nk ps' rq' r k i s := by
  unfold qF_ans
  rw [qF_mb_c h, h2]
theorem qv_S_step {B nk ni e r : Nat} {pm : Nat → Nat} {T : Nat → qt_T} {fs : Nat → Nat} {s : Nat → Int32} (h : qv_S B s) (h10 : nk ≤ 10) (he : e ≤ ni) (hf : ∀ i, i < ni → fs i < nk) : qv_S (B + 1) (qF_step nk pm T fs e r s) := by
  unfold qF_step
  by_cases h0 : e = 0
  · rw [if_pos h0]; exact qv_S_pas h h10
  · rw [if_neg h0]
    have hfi := hf (e - 1) (by omega)
    have h1 := qv_S_ans (nk := nk) (r := r) (k := fs (e - 1)) (i := e - 1) (ps := fun k => nI (pm k)) (rq := fun k => qt_rq (T k)) h (by omega) h10
    obtain ⟨⟨v, a1, a2⟩, a3⟩ := qv_SK.mp h1
    exact qv_SK.mpr ⟨⟨v, by omega, a2⟩, fun k hk => qv_K_mono (a3 k hk) (by omega)⟩
section Q41
variable {d a b f : Nat} {K : Nat → Nat × Nat} {I : Nat → Nat → Int32} {R : Nat → Nat → Option Nat} {n z : Nat} {x y : Nat} {h : qa_H} {u nk ni k i j m B p q c e : Nat} {l r : List Nat} {T : Nat → qt_T} {pm fs hd : Nat → Nat}
theorem qs_MO_applies (hM : qp_MO K R u) (hC : qp_MC (I (u + 5)) nk pm T ni fs hd) (hB : B < 1000000) (hv : qv_S B (I (u + 1))) (he : e ≤ ni) {r : Nat} (hr : r = 0 ∨ r = 1) : qa_ex (d + 16) 182 [qa_a (some u), qa_i (qe_v e), qa_i (nI r)] (K, I, R, n, z) = some (none, (K, va_up I (u + 1) (qF_step nk pm T fs e r (I (u + 1))), R, n, z)) := by
  obtain ⟨c1, c2, c3, c4, c5, c6, c7, c8, c9⟩ := hC
  have m0 := hM.1
  unfold qe_v qF_step
  by_cases h0 : e = 0
  · have e1 := qs_MO_passes (d := d + 12) (n := n) (z := z) hM c1 c3 hB hv
    rw [if_pos h0, if_pos h0]
    simp (disch := first | assumption | omega | exact Or.inl rfl | exact Or.inr rfl | exact qb_01) only [qe_182, qr_182_0, qr_182_1, qr_182_4, qr_182_5, qr_182_8, qr_182_11, qr_182_12, qr_182_13, qr_182_14, qr_182_17, true_and, and_true, false_and, and_false, Option.bind_some, Option.toList_some, Option.toList_none, List.nil_append, List.cons_append, if_true, if_false, ite_true, ite_false, not_true_eq_false, not_false_eq_true, qn_lt0, qn_ge0, qn_lt, qn_le, qn_eq, qn_e0, qn_gt0, qn_le0, qn_m1, nI_add, pk_mul, qb_e0, Classical.not_not, qn_m1z, qn_m1l, e1]
  · obtain ⟨f1, f2, f3, f4⟩ := c9 (e - 1) (by omega)
    obtain ⟨v, v1, v2⟩ := (hv.2 (fs (e - 1)) (by omega)).2.2.1
    have e1 := qs_MO_answers (d := d) (n := n) (z := z) hM c1 c3 c7 hr (show e - 1 < 12 by omega) f1 f3 (qv_SE hv) v1 v2
    have e2 := qF_ans_c (nk := nk) (r := r) (k := fs (e - 1)) (i := e - 1) (ps := fun k => I (u + 5) (2 + k)) (ps' := fun k => nI (pm k)) (rq := fun k => qt_rq (T k)) (rq' := fun k => qt_rq (T k)) (s := I (u + 1)) (fun k hk => (c6 k hk).1) rfl
    rw [e2] at e1
    rw [if_neg h0, if_neg h0]
    simp (disch := first | assumption | omega | exact Or.inl rfl | exact Or.inr rfl | exact qb_01) only [qe_182, qr_182_0, qr_182_1, qr_182_4, qr_182_5, qr_182_8, qr_182_11, qr_182_12, qr_182_13, qr_182_14, qr_182_17, true_and, and_true, false_and, and_false, Option.bind_some, Option.toList_some, Option.toList_none, List.nil_append, List.cons_append, if_true, if_false, ite_true, ite_false, not_true_eq_false, not_false_eq_true, qn_lt0, qn_ge0, qn_lt, qn_le, qn_eq, qn_e0, qn_gt0, qn_le0, qn_m1, nI_add, pk_mul, qb_e0, Classical.not_not, e1]
end Q41
