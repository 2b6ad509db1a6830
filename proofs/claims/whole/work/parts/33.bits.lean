/-! Bits of skills. -/
theorem qf_ms_congr {g g' : Nat → Bool} : ∀ {n : Nat}, (∀ i, i < n → g i = g' i) → qf_ms g n = qf_ms g' n := by
  intro n
  induction n with
  | zero => intro h; rfl
  | succ n ih =>
    intro h
    unfold qf_ms
    rw [h n (by omega), ih (fun i hi => h i (by omega))]
theorem qf_ms_ext {g : Nat → Bool} {nk : Nat} : ∀ {j : Nat}, qf_ms (fun i => decide (i < nk) && g i) (nk + j) = qf_ms g nk := by
  intro j
  induction j with
  | zero => exact qf_ms_congr (fun i hi => by simp [show i < nk from hi])
  | succ j ih =>
    show (if (decide (nk + j < nk) && g (nk + j)) = true then _ else _) = _
    rw [if_neg (by simp only [Bool.and_eq_true, decide_eq_true_eq]; omega)]
    exact ih
def qf_l10 (b0 b1 b2 b3 b4 b5 b6 b7 b8 b9 : Bool) (i : Nat) : Bool := match i with
  | 0 => b0 | 1 => b1 | 2 => b2 | 3 => b3 | 4 => b4 | 5 => b5 | 6 => b6 | 7 => b7 | 8 => b8 | 9 => b9 | _ => false
theorem qf_ms_10 : ∀ b0 b1 b2 b3 b4 b5 b6 b7 b8 b9 : Bool, ∀ k, k < 10 → qt_bit (qf_ms (qf_l10 b0 b1 b2 b3 b4 b5 b6 b7 b8 b9) 10) k = qf_l10 b0 b1 b2 b3 b4 b5 b6 b7 b8 b9 k := by decide +kernel
theorem qf_l10_g {g : Nat → Bool} : ∀ i, i < 10 → qf_l10 (g 0) (g 1) (g 2) (g 3) (g 4) (g 5) (g 6) (g 7) (g 8) (g 9) i = g i := by
  intro i hi
  rcases (show i = 0 ∨ i = 1 ∨ i = 2 ∨ i = 3 ∨ i = 4 ∨ i = 5 ∨ i = 6 ∨ i = 7 ∨ i = 8 ∨ i = 9 by omega) with rfl | rfl | rfl | rfl | rfl | rfl | rfl | rfl | rfl | rfl <;> rfl
theorem qt_bit_ms {g : Nat → Bool} {nk k : Nat} (hk : k < nk) (h10 : nk ≤ 10) : qt_bit (qf_ms g nk) k = g k := by
  obtain ⟨j, hj⟩ : ∃ j, nk + j = 10 := ⟨10 - nk, by omega⟩
  rw [← qf_ms_ext (j := j), hj]
  generalize hg : (fun i => decide (i < nk) && g i) = g'
  rw [← qf_ms_congr (qf_l10_g (g := g')), qf_ms_10 _ _ _ _ _ _ _ _ _ _ k (by omega), qf_l10_g k (by omega), ← hg]
  simp [hk]
theorem qt_ev_congr {g g' : Nat → Bool} {m : Nat} (h : ∀ i, i < m → g i = g' i) : ∀ {t : qt_T}, qt_wf m t → qt_ev g t = qt_ev g' t := by
  intro t
  induction t with
  | num v => intro _; rfl
  | var i => intro q; exact q.elim
  | neg a => intro q; exact q.elim
  | mulR a k => intro q; exact q.elim
  | mulL k nx ih => intro q; unfold qt_ev; rw [h _ q.1, ih q.2]
  | add f nx ihf ih => intro q; unfold qt_ev; rw [ihf q.2.1, ih q.2.2]
  | sub f nx ihf ih => intro q; unfold qt_ev; rw [ihf q.2.1, ih q.2.2]
theorem qt_bl_congr {g g' : Nat → Bool} {m : Nat} (h : ∀ i, i < m → g i = g' i) : ∀ {t : qt_T}, qt_wf m t → qt_bl g t = qt_bl g' t := by
  intro t
  induction t with
  | num v => intro _; rfl
  | var i => intro q; exact q.elim
  | neg a => intro q; exact q.elim
  | mulR a k => intro q; exact q.elim
  | mulL k nx ih => intro q; unfold qt_bl; rw [h _ q.1, ih q.2]
  | add f nx ihf ih => intro q; unfold qt_bl; rw [ihf q.2.1, ih q.2.2, qt_ev_congr h q.2.1]
  | sub f nx ihf ih => intro q; unfold qt_bl; rw [ihf q.2.1, ih q.2.2, qt_ev_congr h q.2.1]
theorem qt_wf_mono {m m' : Nat} (h : m ≤ m') : ∀ {t : qt_T}, qt_wf m t → qt_wf m' t := by
  intro t
  induction t with
  | num v => exact fun q => q
  | var i => exact fun q => q
  | neg a => exact fun q => q
  | mulR a k => exact fun q => q
  | mulL k nx ih => exact fun q => ⟨Nat.lt_of_lt_of_le q.1 h, ih q.2⟩
  | add f nx ihf ih => exact fun q => ⟨q.1, ihf q.2.1, ih q.2.2⟩
  | sub f nx ihf ih => exact fun q => ⟨q.1, ihf q.2.1, ih q.2.2⟩
