/-! Reading a whole curriculum, as a function of its characters. -/
def qP_mk (c : Nat → Nat) (i : Nat) : Option Nat × Nat :=
  if 49 ≤ c i ∧ c i ≤ 57 then (if 48 ≤ c (i + 1) ∧ c (i + 1) ≤ 57 then (some (10 * (c i - 48) + (c (i + 1) - 48)), i + 2) else (some (c i - 48), i + 1)) else (none, i)
def qP_sk2 (mk : Nat) (p : Option qt_T × Nat) : Option (Nat × qt_T) × Nat :=
  match p.1 with
  | none => (none, p.2)
  | some t => (some (mk, t), p.2)
def qP_sk1 (c : Nat → Nat) (k : Nat) (q : Option Nat × Nat) : Option (Nat × qt_T) × Nat :=
  match q.1 with
  | none => (none, q.2)
  | some v => if c q.2 = 61 then qP_sk2 v (qP c k 400 2 0 (q.2 + 1)) else (some (v, .num 0), q.2)
def qP_sk (c : Nat → Nat) (k i : Nat) : Option (Nat × qt_T) × Nat := qP_sk1 c k (qP_mk c i)
def qP_a1 (c : Nat → Nat) (L k : Nat) (pm : Nat → Nat) (T : Nat → qt_T) (p : Option (Nat × qt_T) × Nat) (nx : (Nat → Nat) → (Nat → qt_T) → Option (Nat × (Nat → Nat) × (Nat → qt_T)) × Nat) : Option (Nat × (Nat → Nat) × (Nat → qt_T)) × Nat :=
  match p.1 with
  | none => (none, p.2)
  | some s => if L ≤ p.2 then (some (k + 1, va_up pm k s.1, va_up T k s.2), p.2) else if k = 9 ∨ ¬ c p.2 = 59 then (none, p.2) else nx (va_up pm k s.1) (va_up T k s.2)
/-- f skills more, from the k-th on, at i -/
def qP_al (c : Nat → Nat) (L : Nat) : Nat → Nat → Nat → (Nat → Nat) → (Nat → qt_T) → Option (Nat × (Nat → Nat) × (Nat → qt_T)) × Nat
  | 0, _, i, _, _ => (none, i)
  | f + 1, k, i, pm, T => qP_a1 c L k pm T (qP_sk c k i) (fun pm' T' => qP_al c L f (k + 1) ((qP_sk c k i).2 + 1) pm' T')
theorem qP_mk_ok {c : Nat → Nat} {L i : Nat} (hc : ∀ j, L ≤ j → c j = 200) (hi : i ≤ L) : i ≤ (qP_mk c i).2 ∧ (qP_mk c i).2 ≤ L ∧ ∀ mk, (qP_mk c i).1 = some mk → i < (qP_mk c i).2 ∧ 1 ≤ mk ∧ mk < 100 ∧ (qk_wn mk).length = (qP_mk c i).2 - i := by
  have hlt : ∀ j, ¬ c j = 200 → j < L := fun j hj => Decidable.byContradiction fun h => hj (hc j (by omega))
  unfold qP_mk
  by_cases h1 : 49 ≤ c i ∧ c i ≤ 57
  · rw [if_pos h1]
    have g1 := hlt i (by omega)
    by_cases h2 : 48 ≤ c (i + 1) ∧ c (i + 1) ≤ 57
    · rw [if_pos h2]
      have g2 := hlt (i + 1) (by omega)
      refine ⟨by show i ≤ i + 2; omega, by show i + 2 ≤ L; omega, fun mk hk => ?_⟩
      cases hk
      refine ⟨by show i < i + 2; omega, by omega, by omega, ?_⟩
      unfold qk_wn
      rw [if_pos (by omega)]
      show 2 = i + 2 - i
      omega
    · rw [if_neg h2]
      refine ⟨by show i ≤ i + 1; omega, by show i + 1 ≤ L; omega, fun mk hk => ?_⟩
      cases hk
      refine ⟨by show i < i + 1; omega, by omega, by omega, ?_⟩
      unfold qk_wn
      rw [if_neg (by omega)]
      show 1 = i + 1 - i
      omega
  · rw [if_neg h1]
    exact ⟨Nat.le_refl i, hi, fun mk hk => absurd hk (by simp)⟩
/-- a skill with its pass mark and its tree -/
def qP_w (mk : Nat) (t : qt_T) : Nat := (qk_wn mk).length + (if qt_ne t = true then (qt_wr t).1.length + 1 else 0)
theorem qP_sk_ok {c : Nat → Nat} {L i k : Nat} (hc : ∀ j, L ≤ j → c j = 200) (hi : i ≤ L) : i ≤ (qP_sk c k i).2 ∧ (qP_sk c k i).2 ≤ L ∧ ∀ s, (qP_sk c k i).1 = some s → i < (qP_sk c k i).2 ∧ s.1 < 100 ∧ qt_wf k s.2 ∧ (qt_dp s.2).1 ≤ 13 ∧ qP_w s.1 s.2 ≤ (qP_sk c k i).2 - i := by
  have hlt : ∀ j, ¬ c j = 200 → j < L := fun j hj => Decidable.byContradiction fun h => hj (hc j (by omega))
  obtain ⟨a1, a2, a3⟩ := qP_mk_ok hc hi
  unfold qP_sk
  generalize qP_mk c i = q at a1 a2 a3 ⊢
  obtain ⟨r, j⟩ := q
  have a1 : i ≤ j := a1
  have a2 : j ≤ L := a2
  cases r with
  | none => exact ⟨a1, a2, fun s hs => absurd hs (by show ¬ (none : Option (Nat × qt_T)) = some s; simp)⟩
  | some mk =>
    obtain ⟨b1, b2, b3, b4⟩ := a3 mk rfl
    have b1 : i < j := b1
    have b4 : (qk_wn mk).length = j - i := b4
    rw [show qP_sk1 c k (some mk, j) = if c j = 61 then qP_sk2 mk (qP c k 400 2 0 (j + 1)) else (some (mk, .num 0), j) from rfl]
    by_cases h1 : c j = 61
    · rw [if_pos h1]
      have g1 := hlt j (by omega)
      obtain ⟨c1, c2, c3⟩ := qP_ok (m := k) hc 400 2 0 (j + 1) (by omega) (by omega) (by omega)
      generalize qP c k 400 2 0 (j + 1) = p at c1 c2 c3 ⊢
      obtain ⟨r, j'⟩ := p
      have c1 : j + 1 ≤ j' := c1
      have c2 : j' ≤ L := c2
      cases r with
      | none => exact ⟨by show i ≤ j'; omega, c2, fun s hs => absurd hs (by show ¬ (none : Option (Nat × qt_T)) = some s; simp)⟩
      | some t =>
        obtain ⟨d1, d2, -⟩ := c3 t rfl
        obtain ⟨d3, d4, d5, d6, d7⟩ := d2 (by omega)
        have d7 : (qt_wr t).1.length ≤ j' - (j + 1) := d7
        refine ⟨by show i ≤ j'; omega, c2, fun s hs => ?_⟩
        cases hs
        refine ⟨by show i < j'; omega, b3, d1, by omega, ?_⟩
        show (qk_wn mk).length + (if qt_ne t = true then (qt_wr t).1.length + 1 else 0) ≤ j' - i
        rw [if_pos d4]
        omega
    · rw [if_neg h1]
      refine ⟨a1, a2, fun s hs => ?_⟩
      cases hs
      refine ⟨b1, b3, trivial, by show 0 ≤ 13; omega, ?_⟩
      show (qk_wn mk).length + 0 ≤ j - i
      omega
theorem qk_ws_c {pm pm' : Nat → Nat} {T T' : Nat → qt_T} : ∀ {k : Nat}, (∀ i, i < k → pm i = pm' i ∧ T i = T' i) → qk_ws pm T k = qk_ws pm' T' k := by
  intro k
  induction k with
  | zero => intro _; rfl
  | succ k ih =>
    intro h
    show qk_ws pm T k ++ qk_w1 pm T k = qk_ws pm' T' k ++ qk_w1 pm' T' k
    rw [ih (fun i hi => h i (by omega))]
    unfold qk_w1
    rw [(h k (by omega)).1, (h k (by omega)).2]
theorem qk_w1_len {pm : Nat → Nat} {T : Nat → qt_T} {k : Nat} : (qk_w1 pm T k).length = (if k = 0 then 0 else 1) + qP_w (pm k) (T k) := by
  unfold qk_w1 qP_w
  rw [List.length_append, List.length_append]
  by_cases h1 : k = 0
  · by_cases h2 : qt_ne (T k) = true
    · rw [if_pos h1, if_pos h1, if_pos h2, if_pos h2]; rfl
    · rw [if_pos h1, if_pos h1, if_neg h2, if_neg h2]; rfl
  · by_cases h2 : qt_ne (T k) = true
    · rw [if_neg h1, if_neg h1, if_pos h2, if_pos h2]; rfl
    · rw [if_neg h1, if_neg h1, if_neg h2, if_neg h2]; rfl
/-- what is known of skills that were read -/
def qP_g (pm : Nat → Nat) (T : Nat → qt_T) (k : Nat) : Prop := ∀ i, i < k → pm i < 100 ∧ qt_wf i (T i) ∧ (qt_dp (T i)).1 ≤ 13
theorem qP_g_s {pm : Nat → Nat} {T : Nat → qt_T} {k mk : Nat} {t : qt_T} (h : qP_g pm T k) (h1 : mk < 100) (h2 : qt_wf k t) (h3 : (qt_dp t).1 ≤ 13) : qP_g (va_up pm k mk) (va_up T k t) (k + 1) := by
  intro i hi
  by_cases hk : i = k
  · subst hk
    rw [qa_up_s, qa_up_s]
    exact ⟨h1, h2, h3⟩
  · rw [qa_up_n _ _ hk, qa_up_n _ _ hk]
    exact h i (by omega)
theorem qk_ws_s {pm : Nat → Nat} {T : Nat → qt_T} {k mk i j : Nat} {t : qt_T} (h : (qk_ws pm T k).length + (if k = 0 then 0 else 1) ≤ i) (hw : qP_w mk t ≤ j - i) (hij : i ≤ j) : (qk_ws (va_up pm k mk) (va_up T k t) (k + 1)).length ≤ j := by
  show (qk_ws (va_up pm k mk) (va_up T k t) k ++ qk_w1 (va_up pm k mk) (va_up T k t) k).length ≤ j
  rw [List.length_append, qk_w1_len, qa_up_s, qa_up_s, qk_ws_c (pm' := pm) (T' := T) (fun i hi => ⟨qa_up_n _ _ (by omega), qa_up_n _ _ (by omega)⟩)]
  omega
theorem qP_al_ok {c : Nat → Nat} {L : Nat} (hc : ∀ j, L ≤ j → c j = 200) : ∀ f k i pm T, k + f = 10 → i ≤ L → qP_g pm T k → (qk_ws pm T k).length + (if k = 0 then 0 else 1) ≤ i → i ≤ (qP_al c L f k i pm T).2 ∧ (qP_al c L f k i pm T).2 ≤ L ∧ ∀ s, (qP_al c L f k i pm T).1 = some s → 1 ≤ s.1 ∧ s.1 ≤ 10 ∧ qP_g s.2.1 s.2.2 s.1 ∧ (qk_ws s.2.1 s.2.2 s.1).length ≤ L := by
  intro f
  induction f with
  | zero => intro k i pm T hk hi _ _; exact ⟨Nat.le_refl i, hi, fun s hs => absurd hs (by show ¬ (none : Option (Nat × (Nat → Nat) × (Nat → qt_T))) = some s; simp)⟩
  | succ f ih =>
    intro k i pm T hk hi hg hl
    obtain ⟨a1, a2, a3⟩ := qP_sk_ok (k := k) hc hi
    have hlt : ∀ j, ¬ c j = 200 → j < L := fun j hj => Decidable.byContradiction fun h => hj (hc j (by omega))
    unfold qP_al
    have ih2 := fun pm' T' => ih (k + 1) ((qP_sk c k i).2 + 1) pm' T' (by omega)
    generalize qP_sk c k i = p at a1 a2 a3 ih2 ⊢
    obtain ⟨r, j⟩ := p
    have a1 : i ≤ j := a1
    have a2 : j ≤ L := a2
    unfold qP_a1
    cases r with
    | none => exact ⟨a1, a2, fun s hs => absurd hs (by show ¬ (none : Option (Nat × (Nat → Nat) × (Nat → qt_T))) = some s; simp)⟩
    | some s0 =>
      obtain ⟨b1, b2, b3, b4, b5⟩ := a3 s0 rfl
      have b5 : qP_w s0.1 s0.2 ≤ j - i := b5
      have hg' := qP_g_s hg b2 b3 b4
      have hl' := qk_ws_s hl b5 a1
      simp only []
      by_cases h1 : L ≤ j
      · rw [if_pos h1]
        refine ⟨a1, a2, fun s hs => ?_⟩
        cases hs
        exact ⟨by show 1 ≤ k + 1; omega, by show k + 1 ≤ 10; omega, hg', Nat.le_trans hl' a2⟩
      · rw [if_neg h1]
        by_cases h2 : k = 9 ∨ ¬ c j = 59
        · rw [if_pos h2]
          exact ⟨a1, a2, fun s hs => absurd hs (by simp)⟩
        · rw [if_neg h2]
          obtain ⟨e1, e2, e3⟩ := ih2 (va_up pm k s0.1) (va_up T k s0.2) (by show j + 1 ≤ L; omega) hg' (by rw [if_neg (by omega)]; show _ + 1 ≤ j + 1; omega)
          exact ⟨Nat.le_trans a1 (Nat.le_trans (Nat.le_succ j) e1), e2, e3⟩
