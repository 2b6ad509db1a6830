/-! The model's answers are the class's. -/
def qt_rq (t : qt_T) : Int32 := if qt_ne t = true then (qt_sk t).1 else nI 0
theorem va_up_c {α : Type} {f : Nat → α} {a b : Nat} {x y : α} (h : a ≠ b) : va_up (va_up f a x) b y = va_up (va_up f b y) a x := by
  funext i
  by_cases h1 : i = a
  · subst h1
    rw [qa_up_n _ _ h, qa_up_s, qa_up_s]
  · by_cases h2 : i = b
    · subst h2
      rw [qa_up_s, qa_up_n _ _ h1, qa_up_s]
    · rw [qa_up_n _ _ h2, qa_up_n _ _ h1, qa_up_n _ _ h1, qa_up_n _ _ h2]
/-- what is given, as changes of the row -/
theorem qs_put_giv {s : Nat → Int32} {k w : Nat} {x : Int32} (hw : w < 2) : qs_put s k (qf_giv w (qs_sk s k) x) = va_up (va_up (va_up s (1 + 9 * k + w) (qf_min (s (1 + 9 * k + w) + x) (nI 480))) (1 + 9 * k + (5 + w)) (s (1 + 9 * k + (5 + w)) + x)) (1 + 9 * k + 7) (s (1 + 9 * k + 7) + (s (1 + 9 * k + w) + x - qf_min (s (1 + 9 * k + w) + x) (nI 480))) := by
  funext i
  by_cases hin : 1 + 9 * k ≤ i ∧ i < 10 + 9 * k
  · obtain ⟨j, hj, rfl⟩ : ∃ j, j < 9 ∧ i = 1 + 9 * k + j := ⟨i - (1 + 9 * k), by omega, by omega⟩
    rw [qs_put_at hj]
    unfold qf_giv qs_sk
    by_cases e1 : j = 7
    · subst e1
      rw [qa_up_s, qa_up_s]
    · rw [qa_up_n _ _ e1, qa_up_n _ _ (show 1 + 9 * k + j ≠ 1 + 9 * k + 7 by omega)]
      by_cases e2 : j = 5 + w
      · subst e2
        rw [qa_up_s, qa_up_s]
      · rw [qa_up_n _ _ e2, qa_up_n _ _ (show 1 + 9 * k + j ≠ 1 + 9 * k + (5 + w) by omega)]
        by_cases e3 : j = w
        · subst e3
          rw [qa_up_s, qa_up_s]
        · rw [qa_up_n _ _ e3, qa_up_n _ _ (show 1 + 9 * k + j ≠ 1 + 9 * k + w by omega)]
  · rw [qs_put_ne (by omega), qa_up_n _ _ (by omega), qa_up_n _ _ (by omega), qa_up_n _ _ (by omega)]
/-- the interval and the day of the next practice are not touched -/
theorem qs_giv_c {s : Nat → Int32} {k o w e : Nat} {x y : Int32} (hw : w < 2) (he : e = 2 ∨ e = 3) : qs_put (va_up s (1 + 9 * k + e) y) o (qf_giv w (qs_sk (va_up s (1 + 9 * k + e) y) o) x) = va_up (qs_put s o (qf_giv w (qs_sk s o) x)) (1 + 9 * k + e) y := by
  rw [qs_put_giv hw, qs_put_giv hw, qa_up_n _ _ (show 1 + 9 * o + w ≠ 1 + 9 * k + e by omega), qa_up_n _ _ (show 1 + 9 * o + (5 + w) ≠ 1 + 9 * k + e by omega), qa_up_n _ _ (show 1 + 9 * o + 7 ≠ 1 + 9 * k + e by omega)]
  rw [va_up_c (a := 1 + 9 * k + e) (b := 1 + 9 * o + w) (by omega), va_up_c (a := 1 + 9 * k + e) (b := 1 + 9 * o + (5 + w)) (by omega), va_up_c (a := 1 + 9 * k + e) (b := 1 + 9 * o + 7) (by omega)]
theorem qF_an1_c {s : Nat → Int32} {k o e r : Nat} {y rq mb : Int32} (he : e = 2 ∨ e = 3) : qF_an1 r rq mb (va_up s (1 + 9 * k + e) y) o = va_up (qF_an1 r rq mb s o) (1 + 9 * k + e) y := by
  unfold qF_an1
  by_cases h1 : (rq >>> (nI o &&& 31)) &&& nI 1 = nI 1
  · rw [if_pos h1, if_pos h1]
    by_cases h2 : r = 1
    · rw [if_pos h2, if_pos h2]
      exact qs_giv_c (by omega) he
    · rw [if_neg h2, if_neg h2]
      by_cases h3 : (mb >>> (nI o &&& 31)) &&& nI 1 = 0
      · rw [if_pos h3, if_pos h3]
        exact qs_giv_c (by omega) he
      · rw [if_neg h3, if_neg h3]
  · rw [if_neg h1, if_neg h1]
theorem qF_anl_c {s : Nat → Int32} {k e r : Nat} {y rq mb : Int32} (he : e = 2 ∨ e = 3) : ∀ {o : Nat}, qF_anl r rq mb (va_up s (1 + 9 * k + e) y) o = va_up (qF_anl r rq mb s o) (1 + 9 * k + e) y := by
  intro o
  induction o with
  | zero => rfl
  | succ o ih =>
    show qF_an1 r rq mb (qF_anl r rq mb (va_up s (1 + 9 * k + e) y) o) o = va_up (qF_an1 r rq mb (qF_anl r rq mb s o) o) (1 + 9 * k + e) y
    rw [ih, qF_an1_c he]
theorem qF_an1_n {s : Nat → Int32} {o r i : Nat} {rq mb : Int32} (h : i = 0 ∨ 91 ≤ i ∨ (i - 1) % 9 = 2) (ho : o < 10) : qF_an1 r rq mb s o i = s i := by
  unfold qF_an1
  by_cases h1 : (rq >>> (nI o &&& 31)) &&& nI 1 = nI 1
  · rw [if_pos h1]
    by_cases h2 : r = 1
    · rw [if_pos h2, qs_put_giv (by omega), qa_up_n _ _ (by omega), qa_up_n _ _ (by omega), qa_up_n _ _ (by omega)]
    · rw [if_neg h2]
      by_cases h3 : (mb >>> (nI o &&& 31)) &&& nI 1 = 0
      · rw [if_pos h3, qs_put_giv (by omega), qa_up_n _ _ (by omega), qa_up_n _ _ (by omega), qa_up_n _ _ (by omega)]
      · rw [if_neg h3]
  · rw [if_neg h1]
theorem qF_anl_n {s : Nat → Int32} {r i : Nat} {rq mb : Int32} (h : i = 0 ∨ 91 ≤ i ∨ (i - 1) % 9 = 2) : ∀ {o : Nat}, o ≤ 10 → qF_anl r rq mb s o i = s i := by
  intro o
  induction o with
  | zero => intro _; rfl
  | succ o ih =>
    intro ho
    show qF_an1 r rq mb (qF_anl r rq mb s o) o i = s i
    rw [qF_an1_n h (by omega), ih (by omega)]
theorem qf_min_c {x : Nat} (hx : x < 1000) : qf_min (nI 64) (nI 2 * nI x) = qf_min (nI 2 * nI x) (nI 64) := by
  rw [pk_mul]
  unfold qf_min
  simp (disch := omega) only [qn_lt]
  by_cases h1 : 2 * x < 64
  · rw [if_pos h1, if_neg (by omega)]
  · rw [if_neg h1]
    by_cases h2 : 64 < 2 * x
    · rw [if_pos h2]
    · rw [if_neg h2, show 2 * x = 64 by omega]

theorem qs_put_up {s f : Nat → Int32} {k j : Nat} {x : Int32} (hj : j < 9) : qs_put s k (va_up f j x) = va_up (qs_put s k f) (1 + 9 * k + j) x := by
  funext i
  by_cases hin : 1 + 9 * k ≤ i ∧ i < 10 + 9 * k
  · obtain ⟨l, hl, rfl⟩ : ∃ l, l < 9 ∧ i = 1 + 9 * k + l := ⟨i - (1 + 9 * k), by omega, by omega⟩
    rw [qs_put_at hl]
    by_cases e : l = j
    · subst e
      rw [qa_up_s, qa_up_s]
    · rw [qa_up_n _ _ e, qa_up_n _ _ (by omega), qs_put_at hl]
  · rw [qs_put_ne (by omega), qa_up_n _ _ (by omega), qs_put_ne (by omega)]
theorem qs_sk_up {s : Nat → Int32} {k j : Nat} {x : Int32} : qs_sk (va_up s (1 + 9 * k + j) x) k = va_up (qs_sk s k) j x := by
  funext i
  unfold qs_sk
  by_cases e : i = j
  · subst e
    rw [qa_up_s, qa_up_s]
  · rw [qa_up_n _ _ e, qa_up_n _ _ (by omega)]
theorem qs_put_of {s f : Nat → Int32} {k j : Nat} {x : Int32} (hj : j < 9) : qs_put (va_up s (1 + 9 * k + j) x) k f = qs_put s k f := by
  funext i
  by_cases hin : 1 + 9 * k ≤ i ∧ i < 10 + 9 * k
  · obtain ⟨l, hl, rfl⟩ : ∃ l, l < 9 ∧ i = 1 + 9 * k + l := ⟨i - (1 + 9 * k), by omega, by omega⟩
    rw [qs_put_at hl, qs_put_at hl]
  · rw [qs_put_ne (by omega), qs_put_ne (by omega), qa_up_n _ _ (by omega)]
theorem qm_fin_ans {nk r k i v : Nat} {ps rq s : Nat → Int32} (hr : r = 0 ∨ r = 1) (hk : k < 10) (h10 : nk ≤ 10) (hv : v ≤ 64) (hs : s (1 + 9 * k + 2) = nI v) :
    qm_fin r k i (qF_anl r (rq k) (qF_mb nk ps s) (qs_put (va_up s (1 + 9 * k + 4) (s 0)) k (qf_giv (1 - r) (qs_sk (va_up s (1 + 9 * k + 4) (s 0)) k) (nI 16))) nk) = qF_ans nk ps rq r k i s := by
  unfold qF_ans
  generalize hV : (if r = 1 then qf_min (nI 2 * s (1 + 9 * k + 2)) (nI 64) else nI 1) = V
  generalize hG : qs_put (va_up s (1 + 9 * k + 4) (s 0)) k (qf_giv (1 - r) (qs_sk (va_up s (1 + 9 * k + 4) (s 0)) k) (nI 16)) = G
  have hG0 : G 0 = s 0 := by rw [← hG, qs_put_ne (by omega), qa_up_n _ _ (by omega)]
  have hG2 : G (1 + 9 * k + 2) = s (1 + 9 * k + 2) := by rw [← hG, qs_put_giv (by omega), qa_up_n _ _ (by omega), qa_up_n _ _ (by omega), qa_up_n _ _ (by omega), qa_up_n _ _ (by omega)]
  have hP : qs_put s k (if r = 1 then qf_pr1 (qs_sk s k) (s 0) else qf_pr0 (qs_sk s k) (s 0)) = va_up (va_up G (1 + 9 * k + 2) V) (1 + 9 * k + 3) (s 0 + V) := by
    rw [← hG, ← hV]
    rcases hr with rfl | rfl
    · simp only [show ¬ 0 = 1 by decide, if_false]
      unfold qf_pr0
      rw [qs_put_up (by omega), qs_put_up (by omega), qs_sk_up, qs_put_of (by omega)]
    · simp only [if_true]
      unfold qf_pr1
      rw [qs_put_up (by omega), qs_put_up (by omega), qs_sk_up, qs_put_of (by omega)]
      rfl
  rw [hP, qF_anl_c (Or.inr rfl), qF_anl_c (Or.inl rfl)]
  generalize hT : qF_anl r (rq k) (qF_mb nk ps s) G nk = t
  have ht0 : t 0 = s 0 := by rw [← hT, qF_anl_n (Or.inl rfl) h10, hG0]
  have ht2 : t (1 + 9 * k + 2) = s (1 + 9 * k + 2) := by rw [← hT, qF_anl_n (Or.inr (Or.inr (by omega))) h10, hG2]
  have hV2 : (if r = 1 then qf_min (nI 64) (nI 2 * t (1 + 9 * k + 2)) else nI 1) = V := by
    rw [ht2, hs, qf_min_c (by omega), ← hs, hV]
  unfold qm_fin qF_cnt
  rw [hV2, ht0]
  rcases hr with rfl | rfl
  · simp only [show ¬ 0 = 1 by decide, if_false]
    rw [qa_up_n _ _ (show 0 ≠ 1 + 9 * k + 3 by omega), qa_up_n _ _ (show 0 ≠ 1 + 9 * k + 2 by omega), ht0, qa_up_n _ _ (show 92 + 3 * i ≠ 1 + 9 * k + 3 by omega), qa_up_n _ _ (show 92 + 3 * i ≠ 1 + 9 * k + 2 by omega), show 91 + 3 * i + (1 - 0) = 92 + 3 * i by omega, show 91 + 3 * i + 2 = 93 + 3 * i by omega]
  · simp only [if_true]
    rw [qa_up_n _ _ (show 0 ≠ 1 + 9 * k + 3 by omega), qa_up_n _ _ (show 0 ≠ 1 + 9 * k + 2 by omega), ht0, qa_up_n _ _ (show 91 + 3 * i ≠ 1 + 9 * k + 3 by omega), qa_up_n _ _ (show 91 + 3 * i ≠ 1 + 9 * k + 2 by omega), show 91 + 3 * i + (1 - 1) = 91 + 3 * i by omega, show 91 + 3 * i + 2 = 93 + 3 * i by omega]
