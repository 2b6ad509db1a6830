/-! Answers and days keep the numbers in their ranges. -/
def qv_K (B : Nat) (f : Nat → Int32) : Prop := (∃ v, v ≤ 480 ∧ f 0 = nI v) ∧ (∃ v, v ≤ 480 ∧ f 1 = nI v) ∧ (∃ v, v ≤ 64 ∧ f 2 = nI v) ∧ (f 3 = (-1) ∨ ∃ v, v ≤ B + 64 ∧ f 3 = nI v) ∧ (f 4 = (-1) ∨ ∃ v, v ≤ B ∧ f 4 = nI v)
theorem qn_dec : ∀ v, v < 481 → nI v - nI v / nI 8 = nI (v - v / 8) := by decide +kernel
theorem qv_SK {B : Nat} {s : Nat → Int32} : qv_S B s ↔ (∃ v, v ≤ B ∧ s 0 = nI v) ∧ ∀ k, k < 10 → qv_K B (qs_sk s k) := Iff.rfl
theorem qv_K_mono {B B' : Nat} {f : Nat → Int32} (h : qv_K B f) (hB : B ≤ B') : qv_K B' f := by
  obtain ⟨h0, h1, h2, h3, h4⟩ := h
  exact ⟨h0, h1, h2, h3.imp id (fun ⟨v, a, b⟩ => ⟨v, by omega, b⟩), h4.imp id (fun ⟨v, a, b⟩ => ⟨v, by omega, b⟩)⟩
theorem qv_K_pas {B : Nat} {f : Nat → Int32} {x : Int32} (h : qv_K B f) : qv_K B (qf_pas f x) := by
  have h' := h
  obtain ⟨⟨v0, a0, b0⟩, ⟨v1, a1, b1⟩, h2, h3, h4⟩ := h
  unfold qf_pas
  by_cases c : f 4 = (-1) ∨ x - f 4 < f 2
  · rw [if_pos c]; exact h'
  · rw [if_neg c]
    refine ⟨⟨v0 - v0 / 8, by omega, ?_⟩, ⟨v1 - v1 / 8, by omega, ?_⟩, ?_, ?_, ?_⟩
    · rw [qa_up_n _ _ (by omega), qa_up_n _ _ (by omega), qa_up_s, b0, qn_dec v0 (by omega)]
    · rw [qa_up_n _ _ (by omega), qa_up_s, b1, qn_dec v1 (by omega)]
    · rw [qa_up_n _ _ (by omega), qa_up_n _ _ (by omega), qa_up_n _ _ (by omega)]; exact h2
    · rw [qa_up_n _ _ (by omega), qa_up_n _ _ (by omega), qa_up_n _ _ (by omega)]; exact h3
    · rw [qa_up_n _ _ (by omega), qa_up_n _ _ (by omega), qa_up_n _ _ (by omega)]; exact h4
theorem qv_K_giv {B w a : Nat} {f : Nat → Int32} (h : qv_K B f) (hw : w < 2) (ha : a ≤ 16) : qv_K B (qf_giv w f (nI a)) := by
  obtain ⟨⟨v0, a0, b0⟩, ⟨v1, a1, b1⟩, h2, h3, h4⟩ := h
  have hmin : ∀ v, v ≤ 480 → ∃ v', v' ≤ 480 ∧ qf_min (nI v + nI a) (nI 480) = nI v' := by
    intro v hv
    unfold qf_min
    simp (disch := omega) only [nI_add, qn_lt]
    by_cases h2 : 480 < v + a
    · rw [if_pos h2]; exact ⟨480, Nat.le_refl _, rfl⟩
    · rw [if_neg h2]; exact ⟨v + a, by omega, rfl⟩
  refine ⟨?_, ?_, ?_, ?_, ?_⟩
  · by_cases e : w = 0
    · subst e
      obtain ⟨v', c1, c2⟩ := hmin v0 a0
      refine ⟨v', c1, ?_⟩
      unfold qf_giv
      rw [qa_up_n _ _ (by omega), qa_up_n _ _ (by omega), qa_up_s, b0, c2]
    · rw [qf_giv_n (by omega) (by omega) (by omega)]; exact ⟨v0, a0, b0⟩
  · by_cases e : w = 1
    · subst e
      obtain ⟨v', c1, c2⟩ := hmin v1 a1
      refine ⟨v', c1, ?_⟩
      unfold qf_giv
      rw [qa_up_n _ _ (by omega), qa_up_n _ _ (by omega), qa_up_s, b1, c2]
    · rw [qf_giv_n (by omega) (by omega) (by omega)]; exact ⟨v1, a1, b1⟩
  · rw [qf_giv_n (by omega) (by omega) (by omega)]; exact h2
  · rw [qf_giv_n (by omega) (by omega) (by omega)]; exact h3
  · rw [qf_giv_n (by omega) (by omega) (by omega)]; exact h4
theorem qv_K_set {B v : Nat} {f : Nat → Int32} (h : qv_K B f) (hv : v ≤ B) : qv_K B (va_up f 4 (nI v)) := by
  obtain ⟨h0, h1, h2, h3, h4⟩ := h
  refine ⟨?_, ?_, ?_, ?_, ?_⟩
  · rw [qa_up_n _ _ (by omega)]; exact h0
  · rw [qa_up_n _ _ (by omega)]; exact h1
  · rw [qa_up_n _ _ (by omega)]; exact h2
  · rw [qa_up_n _ _ (by omega)]; exact h3
  · rw [qa_up_s]; exact Or.inr ⟨v, hv, rfl⟩
theorem qv_K_23 {B v w : Nat} {f : Nat → Int32} (h : qv_K B f) (hv : v ≤ 64) (hw : w ≤ B + 64) : qv_K B (va_up (va_up f 2 (nI v)) 3 (nI w)) := by
  obtain ⟨h0, h1, h2, h3, h4⟩ := h
  refine ⟨?_, ?_, ?_, ?_, ?_⟩
  · rw [qa_up_n _ _ (by omega), qa_up_n _ _ (by omega)]; exact h0
  · rw [qa_up_n _ _ (by omega), qa_up_n _ _ (by omega)]; exact h1
  · rw [qa_up_n _ _ (by omega), qa_up_s]; exact ⟨v, hv, rfl⟩
  · rw [qa_up_s]; exact Or.inr ⟨w, hw, rfl⟩
  · rw [qa_up_n _ _ (by omega), qa_up_n _ _ (by omega)]; exact h4
theorem qv_K_pr1 {B v : Nat} {f : Nat → Int32} (h : qv_K B f) (hv : v ≤ B) : qv_K B (qf_pr1 f (nI v)) := by
  obtain ⟨x, c1, c2⟩ := h.2.2.1
  have hm : ∃ y, y ≤ 64 ∧ qf_min (nI 2 * f 2) (nI 64) = nI y := by
    rw [c2, pk_mul]
    unfold qf_min
    simp (disch := omega) only [qn_lt]
    by_cases h2 : 64 < 2 * x
    · rw [if_pos h2]; exact ⟨64, Nat.le_refl _, rfl⟩
    · rw [if_neg h2]; exact ⟨2 * x, by omega, rfl⟩
  obtain ⟨y, y1, y2⟩ := hm
  unfold qf_pr1
  rw [y2, nI_add]
  exact qv_K_23 (qv_K_giv (qv_K_set h hv) (by omega) (by omega)) y1 (by omega)
theorem qv_K_pr0 {B v : Nat} {f : Nat → Int32} (h : qv_K B f) (hv : v ≤ B) : qv_K B (qf_pr0 f (nI v)) := by
  unfold qf_pr0
  rw [nI_add]
  exact qv_K_23 (qv_K_giv (qv_K_set h hv) (by omega) (by omega)) (by omega) (by omega)
theorem qv_S_put {B k : Nat} {s f : Nat → Int32} (h : qv_S B s) (hf : qv_K B f) : qv_S B (qs_put s k f) := by
  obtain ⟨⟨v, h1, h2⟩, h3⟩ := qv_SK.mp h
  refine qv_SK.mpr ⟨⟨v, h1, by rw [qs_put_ne (by omega)]; exact h2⟩, fun k' hk' => ?_⟩
  by_cases e : k' = k
  · subst e
    have he : ∀ j, j < 9 → qs_sk (qs_put s k' f) k' j = f j := fun j hj => by unfold qs_sk; rw [qs_put_at hj]
    unfold qv_K
    rw [he 0 (by omega), he 1 (by omega), he 2 (by omega), he 3 (by omega), he 4 (by omega)]
    exact hf
  · have he : ∀ j, j < 9 → qs_sk (qs_put s k f) k' j = qs_sk s k' j := fun j hj => by unfold qs_sk; rw [qs_put_ne (by omega)]
    unfold qv_K
    rw [he 0 (by omega), he 1 (by omega), he 2 (by omega), he 3 (by omega), he 4 (by omega)]
    exact h3 k' hk'
theorem qv_S_pas {B : Nat} {s : Nat → Int32} (h : qv_S B s) : ∀ {nk : Nat}, nk ≤ 10 → qv_S (B + 1) (qF_pas s nk) := by
  intro nk
  induction nk with
  | zero =>
    intro _
    obtain ⟨⟨v, h1, h2⟩, h3⟩ := qv_SK.mp h
    refine qv_SK.mpr ⟨⟨v + 1, by omega, ?_⟩, fun k hk => ?_⟩
    · show va_up s 0 (s 0 + nI 1) 0 = _
      rw [qa_up_s, h2, nI_add]
    · have he : ∀ j, qs_sk (qF_pas s 0) k j = qs_sk s k j := fun j => by
        show va_up s 0 (s 0 + nI 1) (1 + 9 * k + j) = _
        rw [qa_up_n _ _ (by omega)]
        rfl
      unfold qv_K
      rw [he 0, he 1, he 2, he 3, he 4]
      exact qv_K_mono (h3 k hk) (by omega)
  | succ k ih =>
    intro hk
    have h1 := ih (by omega)
    exact qv_S_put h1 (qv_K_pas ((qv_SK.mp h1).2 k (by omega)))
theorem qv_S_an1 {B r o : Nat} {rq mb : Int32} {s : Nat → Int32} (h : qv_S B s) (ho : o < 10) : qv_S B (qF_an1 r rq mb s o) := by
  have h1 := (qv_SK.mp h).2 o ho
  unfold qF_an1
  by_cases c1 : (rq >>> (nI o &&& 31)) &&& nI 1 = nI 1
  · rw [if_pos c1]
    by_cases c2 : r = 1
    · rw [if_pos c2]; exact qv_S_put h (qv_K_giv h1 (by omega) (by omega))
    · rw [if_neg c2]
      by_cases c3 : (mb >>> (nI o &&& 31)) &&& nI 1 = 0
      · rw [if_pos c3]; exact qv_S_put h (qv_K_giv h1 (by omega) (by omega))
      · rw [if_neg c3]; exact h
  · rw [if_neg c1]; exact h
theorem qv_S_anl {B r : Nat} {rq mb : Int32} {s : Nat → Int32} (h : qv_S B s) : ∀ {o : Nat}, o ≤ 10 → qv_S B (qF_anl r rq mb s o) := by
  intro o
  induction o with
  | zero => intro _; exact h
  | succ o ih => intro ho; exact qv_S_an1 (ih (by omega)) (by omega)
theorem qv_S_far {B a : Nat} {x : Int32} {s : Nat → Int32} (h : qv_S B s) (ha : 91 ≤ a) : qv_S B (va_up s a x) := by
  obtain ⟨⟨v, h1, h2⟩, h3⟩ := qv_SK.mp h
  refine qv_SK.mpr ⟨⟨v, h1, by rw [qa_up_n _ _ (by omega)]; exact h2⟩, fun k hk => ?_⟩
  have he : ∀ j, j < 9 → qs_sk (va_up s a x) k j = qs_sk s k j := fun j hj => by unfold qs_sk; rw [qa_up_n _ _ (by omega)]
  unfold qv_K
  rw [he 0 (by omega), he 1 (by omega), he 2 (by omega), he 3 (by omega), he 4 (by omega)]
  exact h3 k hk
theorem qv_S_ans {B nk r k i : Nat} {ps rq s : Nat → Int32} (h : qv_S B s) (hk : k < 10) (h10 : nk ≤ 10) : qv_S B (qF_ans nk ps rq r k i s) := by
  obtain ⟨⟨v, h1, h2⟩, h3⟩ := qv_SK.mp h
  unfold qF_ans qF_cnt
  refine qv_S_far (qv_S_far (qv_S_anl (qv_S_put h ?_) h10) ?_) (by omega)
  · rw [h2]
    by_cases c : r = 1
    · rw [if_pos c]; exact qv_K_pr1 (h3 k hk) h1
    · rw [if_neg c]; exact qv_K_pr0 (h3 k hk) h1
  · by_cases c : r = 1
    · rw [if_pos c]; omega
    · rw [if_neg c]; omega
theorem qv_SE {B : Nat} {s : Nat → Int32} (h : qv_S B s) : qv_E s := by
  intro k w hk hw
  have h1 := (qv_SK.mp h).2 k hk
  rcases (show w = 0 ∨ w = 1 by omega) with rfl | rfl
  · exact h1.1
  · exact h1.2.1
