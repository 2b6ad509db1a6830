/-! Reading a text, as a function of its characters. -/
def qP_sg (kd : Nat) : Nat := if kd = 0 then 38 else 124
/-- a tree, and what stands behind it -/
def qP_tl : qt_T → qt_T → qt_T
  | .mulL k _, r => .mulL k r
  | .add f _, r => .add f r
  | .sub f _, r => .sub f r
  | t, _ => t
def qP_nd (kd : Nat) (x : qt_T) : qt_T := if kd = 0 then .add x (.num 0) else .sub x (.num 0)
def qP_par (kd : Nat) (c : Nat → Nat) (p : Option qt_T × Nat) (lp : Nat → Option qt_T × Nat) : Option qt_T × Nat :=
  match p.1 with
  | none => (none, p.2)
  | some t => if c p.2 = qP_sg kd then (match (lp p.2).1 with
    | none => (none, (lp p.2).2)
    | some f => (some (qP_nd kd (qP_tl t f)), (lp p.2).2)) else (some t, p.2)
def qP_lp (kd : Nat) (c : Nat → Nat) (j : Nat) (p : Option qt_T × Nat) (lp : Nat → Option qt_T × Nat) : Option qt_T × Nat :=
  if c j = qP_sg kd then (match p.1 with
    | none => (none, p.2)
    | some t => (match (lp p.2).1 with
      | none => (none, (lp p.2).2)
      | some f => (some (qP_tl t f), (lp p.2).2))) else (some (.num 0), j)
def qP_cl (c : Nat → Nat) (p : Option qt_T × Nat) : Option qt_T × Nat :=
  match p.1 with
  | none => (none, p.2)
  | some t => if c p.2 = 41 then (some t, p.2 + 1) else (none, p.2)
/-- md: 0 an atom, 1 an and, 2 an or, 3 what follows in an and, 4 what follows in an or; e open parentheses; from i on -/
def qP (c : Nat → Nat) (m : Nat) : Nat → Nat → Nat → Nat → Option qt_T × Nat
  | 0, _, _, i => (none, i)
  | F + 1, md, e, i =>
    if md = 0 then (if 48 ≤ c i ∧ c i ≤ 57 then (if c i - 48 < m then (some (.mulL ((c i - 48 : Nat) : Int) (.num 0)), i + 1) else (none, i)) else if e < 5 ∧ c i = 40 then qP_cl c (qP c m F 2 (e + 1) (i + 1)) else (none, i))
    else if md ≤ 2 then qP_par (md - 1) c (qP c m F (md - 1) e i) (fun j => qP c m F (md + 2) e j)
    else qP_lp (md - 3) c i (qP c m F (md - 3) e (i + 1)) (fun j => qP c m F md e j)
theorem qt_dp_tl {t f : qt_T} {m : Nat} (h : qt_ne t = true) (hw : qt_wf m t) : (qt_dp (qP_tl t f)).2 = max (qt_dp t).1 (qt_dp f).2 ∧ (qt_dp (qP_tl t f)).1 = (qt_dp t).1 := by
  cases t <;> first | exact absurd (show false = true from h) (by decide) | exact ⟨rfl, rfl⟩ | exact hw.elim
theorem qt_ne_tl {t f : qt_T} (h : qt_ne t = true) : qt_ne (qP_tl t f) = true := by
  cases t <;> first | exact absurd (show false = true from h) (by decide) | rfl
theorem qt_wr_tl {t f : qt_T} {m : Nat} (h : qt_ne t = true) (hw : qt_wf m t) : (qt_wr (qP_tl t f)).2.2.1 = 38 :: ((qt_wr t).2.1 ++ (qt_wr f).2.2.1) ∧ (qt_wr (qP_tl t f)).2.2.2 = 124 :: ((qt_wr t).1 ++ (qt_wr f).2.2.2) := by
  cases t <;> first | exact absurd (show false = true from h) (by decide) | exact ⟨rfl, rfl⟩ | exact hw.elim
theorem qt_wf_tl {t f : qt_T} {m : Nat} (hw : qt_wf m t) (hf : qt_wf m f) : qt_wf m (qP_tl t f) := by
  cases t with
  | mulL k nx => exact ⟨hw.1, hf⟩
  | add a nx => exact ⟨hw.1, hw.2.1, hf⟩
  | sub a nx => exact ⟨hw.1, hw.2.1, hf⟩
  | num _ => exact trivial
  | _ => exact hw.elim
theorem qt_wr_in {t : qt_T} {m : Nat} (hw : qt_wf m t) : (qt_wr t).2.1.length ≤ (qt_wr t).1.length + 2 := by
  cases t with
  | mulL k nx => show 1 ≤ 1 + 2; omega
  | add a nx => show ((qt_wr a).2.2.1.drop 1).length ≤ ((qt_wr a).2.2.1.drop 1).length + 2; omega
  | sub a nx =>
    show (40 :: ((qt_wr a).2.2.2.drop 1 ++ [41])).length ≤ ((qt_wr a).2.2.2.drop 1).length + 2
    rw [List.length_cons, List.length_append, List.length_singleton]
    omega
  | num _ => show 0 ≤ 0 + 2; omega
  | _ => exact hw.elim
/-- what is known of what was read -/
def qP_q (md m e i j : Nat) (t : qt_T) : Prop :=
  qt_wf m t ∧
  (md ≤ 2 → i < j ∧ qt_ne t = true ∧ qP_tl t (.num 0) = t ∧ (qt_dp t).1 + 2 * e ≤ 11 + md ∧ (qt_wr t).1.length ≤ j - i) ∧
  (md = 0 → (qt_wr t).2.1.length ≤ j - i) ∧
  (md = 3 → (qt_dp t).2 + 2 * e ≤ 11 ∧ (qt_wr t).2.2.1.length ≤ j - i) ∧
  (md = 4 → (qt_dp t).2 + 2 * e ≤ 12 ∧ (qt_wr t).2.2.2.length ≤ j - i)
theorem qP_ok {c : Nat → Nat} {m L : Nat} (hc : ∀ j, L ≤ j → c j = 200) : ∀ F md e i, md ≤ 4 → e ≤ 5 → i ≤ L → i ≤ (qP c m F md e i).2 ∧ (qP c m F md e i).2 ≤ L ∧ ∀ t, (qP c m F md e i).1 = some t → qP_q md m e i (qP c m F md e i).2 t := by
  have hlt : ∀ j, ¬ c j = 200 → j < L := fun j hj => Decidable.byContradiction fun h => hj (hc j (by omega))
  intro F
  induction F with
  | zero => intro md e i _ _ hi; exact ⟨Nat.le_refl i, hi, fun t ht => absurd ht (by show ¬ (none : Option qt_T) = some t; simp)⟩
  | succ F ih =>
    intro md e i hmd he hi
    unfold qP
    by_cases h0 : md = 0
    · subst h0
      rw [if_pos rfl]
      by_cases h1 : 48 ≤ c i ∧ c i ≤ 57
      · rw [if_pos h1]
        by_cases h2 : c i - 48 < m
        · rw [if_pos h2]
          have hiL := hlt i (by omega)
          refine ⟨by show i ≤ i + 1; omega, by show i + 1 ≤ L; omega, fun t ht => ?_⟩
          cases ht
          exact ⟨⟨by rw [Int.toNat_natCast]; exact h2, trivial⟩, fun _ => ⟨by show i < i + 1; omega, rfl, rfl, by show 1 + 2 * e ≤ 11 + 0; omega, by show 1 ≤ i + 1 - i; omega⟩, fun _ => by show 1 ≤ i + 1 - i; omega, fun h => absurd h (by omega), fun h => absurd h (by omega)⟩
        · rw [if_neg h2]
          exact ⟨Nat.le_refl i, hi, fun t ht => absurd ht (by show ¬ (none : Option qt_T) = some t; simp)⟩
      · rw [if_neg h1]
        by_cases h2 : e < 5 ∧ c i = 40
        · rw [if_pos h2]
          have hiL := hlt i (by omega)
          obtain ⟨a1, a2, a3⟩ := ih 2 (e + 1) (i + 1) (by omega) (by omega) (by omega)
          generalize qP c m F 2 (e + 1) (i + 1) = p at a1 a2 a3 ⊢
          obtain ⟨r, j⟩ := p
          unfold qP_cl
          cases r with
          | none => exact ⟨by show i ≤ j; have : i + 1 ≤ j := a1; omega, a2, fun t ht => absurd ht (by show ¬ (none : Option qt_T) = some t; simp)⟩
          | some t =>
            have a1 : i + 1 ≤ j := a1
            have a2 : j ≤ L := a2
            by_cases h3 : c j = 41
            · have hjL := hlt j (by omega)
              rw [show (match (some t, j).1 with
                | none => (none, (some t, j).2)
                | some t_1 => if c (some t, j).2 = 41 then (some t_1, (some t, j).2 + 1) else (none, (some t, j).2)) = (some t, j + 1) from if_pos h3]
              obtain ⟨b1, b2, -⟩ := a3 t rfl
              obtain ⟨b3, b4, b5, b6, b7⟩ := b2 (by omega)
              have b3 : i + 1 < j := b3
              have b7 : (qt_wr t).1.length ≤ j - (i + 1) := b7
              have b8 := qt_wr_in b1
              refine ⟨by show i ≤ j + 1; omega, by show j + 1 ≤ L; omega, fun t' ht => ?_⟩
              cases ht
              exact ⟨b1, fun _ => ⟨by show i < j + 1; omega, b4, b5, by omega, by show _ ≤ j + 1 - i; omega⟩, fun _ => by show _ ≤ j + 1 - i; omega, fun h => absurd h (by omega), fun h => absurd h (by omega)⟩
            · rw [show (match (some t, j).1 with
                | none => (none, (some t, j).2)
                | some t_1 => if c (some t, j).2 = 41 then (some t_1, (some t, j).2 + 1) else (none, (some t, j).2)) = (none, j) from if_neg h3]
              exact ⟨by show i ≤ j; omega, a2, fun t ht => absurd ht (by show ¬ (none : Option qt_T) = some t; simp)⟩
        · rw [if_neg h2]
          exact ⟨Nat.le_refl i, hi, fun t ht => absurd ht (by show ¬ (none : Option qt_T) = some t; simp)⟩
    · rw [if_neg h0]
      by_cases h1 : md ≤ 2
      · rw [if_pos h1]
        obtain ⟨a1, a2, a3⟩ := ih (md - 1) e i (by omega) he hi
        generalize qP c m F (md - 1) e i = p at a1 a2 a3 ⊢
        obtain ⟨r, j⟩ := p
        have a1 : i ≤ j := a1
        have a2 : j ≤ L := a2
        unfold qP_par
        cases r with
        | none => exact ⟨a1, a2, fun t ht => absurd ht (by show ¬ (none : Option qt_T) = some t; simp)⟩
        | some t =>
          obtain ⟨b1, b2, b2a, -⟩ := a3 t rfl
          obtain ⟨b3, b4, b5, b6, b7⟩ := b2 (by omega)
          have b3 : i < j := b3
          have b7 : (qt_wr t).1.length ≤ j - i := b7
          show i ≤ (if c j = qP_sg (md - 1) then _ else _ : Option qt_T × Nat).2 ∧ (if c j = qP_sg (md - 1) then _ else _ : Option qt_T × Nat).2 ≤ L ∧ ∀ t_1, (if c j = qP_sg (md - 1) then _ else _ : Option qt_T × Nat).1 = some t_1 → qP_q md m e i (if c j = qP_sg (md - 1) then _ else _ : Option qt_T × Nat).2 t_1
          by_cases h2 : c j = qP_sg (md - 1)
          · simp only [if_pos h2]
            obtain ⟨c1, c2, c3⟩ := ih (md + 2) e j (by omega) he a2
            generalize qP c m F (md + 2) e j = p at c1 c2 c3 ⊢
            obtain ⟨r, j'⟩ := p
            have c1 : j ≤ j' := c1
            have c2 : j' ≤ L := c2
            cases r with
            | none => exact ⟨by show i ≤ j'; omega, c2, fun t ht => absurd ht (by show ¬ (none : Option qt_T) = some t; simp)⟩
            | some f =>
              obtain ⟨d1, -, -, d3, d4⟩ := c3 f rfl
              have hwf := qt_wf_tl b1 d1
              have hne := qt_ne_tl (f := f) b4
              obtain ⟨g1, g2⟩ := qt_dp_tl (f := f) b4 b1
              obtain ⟨w1, w2⟩ := qt_wr_tl (f := f) b4 b1
              refine ⟨by show i ≤ j'; omega, c2, fun t' ht => ?_⟩
              cases ht
              rcases (show md = 1 ∨ md = 2 by omega) with rfl | rfl
              · obtain ⟨d5, d6⟩ := d3 rfl
                have d6 : (qt_wr f).2.2.1.length ≤ j' - j := d6
                have b8 : (qt_wr t).2.1.length ≤ j - i := b2a rfl
                refine ⟨⟨hne, hwf, trivial⟩, fun _ => ⟨by show i < j'; omega, rfl, rfl, ?_, ?_⟩, fun h => absurd h (by omega), fun h => absurd h (by omega), fun h => absurd h (by omega)⟩
                · show (qt_dp (qP_tl t f)).2 + 1 + 2 * e ≤ 11 + 1
                  rw [g1]
                  omega
                · show ((qt_wr (qP_tl t f)).2.2.1.drop 1).length ≤ j' - i
                  rw [w1, List.drop_one, List.tail_cons, List.length_append]
                  omega
              · obtain ⟨d5, d6⟩ := d4 rfl
                have d6 : (qt_wr f).2.2.2.length ≤ j' - j := d6
                refine ⟨⟨hne, hwf, trivial⟩, fun _ => ⟨by show i < j'; omega, rfl, rfl, ?_, ?_⟩, fun h => absurd h (by omega), fun h => absurd h (by omega), fun h => absurd h (by omega)⟩
                · show (qt_dp (qP_tl t f)).2 + 1 + 2 * e ≤ 11 + 2
                  rw [g1]
                  omega
                · show ((qt_wr (qP_tl t f)).2.2.2.drop 1).length ≤ j' - i
                  rw [w2, List.drop_one, List.tail_cons, List.length_append]
                  omega
          · simp only [if_neg h2]
            refine ⟨a1, a2, fun t' ht => ?_⟩
            cases ht
            exact ⟨b1, fun _ => ⟨b3, b4, b5, by omega, b7⟩, fun h => absurd h (by omega), fun h => absurd h (by omega), fun h => absurd h (by omega)⟩
      · rw [if_neg h1]
        unfold qP_lp
        by_cases h2 : c i = qP_sg (md - 3)
        · rw [if_pos h2]
          have hiL := hlt i (by rw [h2]; unfold qP_sg; split <;> omega)
          obtain ⟨a1, a2, a3⟩ := ih (md - 3) e (i + 1) (by omega) he (by omega)
          generalize qP c m F (md - 3) e (i + 1) = p at a1 a2 a3 ⊢
          obtain ⟨r, j⟩ := p
          have a1 : i + 1 ≤ j := a1
          have a2 : j ≤ L := a2
          cases r with
          | none => exact ⟨by show i ≤ j; omega, a2, fun t ht => absurd ht (by show ¬ (none : Option qt_T) = some t; simp)⟩
          | some t =>
            obtain ⟨b1, b2, b2a, -⟩ := a3 t rfl
            obtain ⟨b3, b4, b5, b6, b7⟩ := b2 (by omega)
            have b7 : (qt_wr t).1.length ≤ j - (i + 1) := b7
            obtain ⟨c1, c2, c3⟩ := ih md e j hmd he a2
            simp only []
            generalize qP c m F md e j = p at c1 c2 c3 ⊢
            obtain ⟨r, j'⟩ := p
            have c1 : j ≤ j' := c1
            have c2 : j' ≤ L := c2
            cases r with
            | none => exact ⟨by show i ≤ j'; omega, c2, fun t ht => absurd ht (by show ¬ (none : Option qt_T) = some t; simp)⟩
            | some f =>
              obtain ⟨d1, -, -, d3, d4⟩ := c3 f rfl
              have hwf := qt_wf_tl b1 d1
              obtain ⟨g1, g2⟩ := qt_dp_tl (f := f) b4 b1
              obtain ⟨w1, w2⟩ := qt_wr_tl (f := f) b4 b1
              refine ⟨by show i ≤ j'; omega, c2, fun t' ht => ?_⟩
              cases ht
              rcases (show md = 3 ∨ md = 4 by omega) with rfl | rfl
              · obtain ⟨d5, d6⟩ := d3 rfl
                have d6 : (qt_wr f).2.2.1.length ≤ j' - j := d6
                have b8 : (qt_wr t).2.1.length ≤ j - (i + 1) := b2a rfl
                refine ⟨hwf, fun h => absurd h (by omega), fun h => absurd h (by omega), fun _ => ⟨by rw [g1]; omega, ?_⟩, fun h => absurd h (by omega)⟩
                show ((qt_wr (qP_tl t f)).2.2.1).length ≤ j' - i
                rw [w1, List.length_cons, List.length_append]
                omega
              · obtain ⟨d5, d6⟩ := d4 rfl
                have d6 : (qt_wr f).2.2.2.length ≤ j' - j := d6
                refine ⟨hwf, fun h => absurd h (by omega), fun h => absurd h (by omega), fun h => absurd h (by omega), fun _ => ⟨by rw [g1]; omega, ?_⟩⟩
                show ((qt_wr (qP_tl t f)).2.2.2).length ≤ j' - i
                rw [w2, List.length_cons, List.length_append]
                omega
        · rw [if_neg h2]
          refine ⟨Nat.le_refl i, hi, fun t ht => ?_⟩
          cases ht
          exact ⟨trivial, fun h => absurd h h1, fun h => absurd h h0, fun _ => ⟨by show 0 + 2 * e ≤ 11; omega, Nat.zero_le _⟩, fun _ => ⟨by show 0 + 2 * e ≤ 12; omega, Nat.zero_le _⟩⟩
