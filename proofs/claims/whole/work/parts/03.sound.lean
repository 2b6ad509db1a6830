/-! The small machine's answers are the machine's: its heap is the heap from the cell o on (o + 1 is its cell 1; its cell 0 is the script). -/
def qa_ad (o b a : Nat) : Nat := if a = 0 then b else o + a
def qa_tv (o b : Nat) : qa_V → Value
  | .inl x => .int x
  | .inr (.inl r) => va_rf (r.map (qa_ad o b))
  | .inr (.inr (.inl x)) => .long x
  | .inr (.inr (.inr _)) => .null
def qa_tys (cs : Nat → ClassId) : List (ClassId × FieldType) := [(cs 0, .int), (cs 1, .object "LearningAdvisor$SkillState"), (cs 2, .object "LearningAdvisor$Progress"), (cs 3, .object "LearningAdvisor$Expression")]
def qa_fv (o b ci : Nat) (f : Nat → Int32) (r : Nat → Option Nat) (k : Nat) : Value := if qa_ki ci k = 2 then va_rf ((r k).map (qa_ad o b)) else .int (f k)
def qa_ent (cs : Nat → ClassId) (o b : Nat) (k : Nat × Nat) (f : Nat → Int32) (r : Nat → Option Nat) : va_E :=
  if k.1 < 12 then .inr (k.1, (List.range (qa_sz k.1)).map (qa_fv o b k.1 f r))
  else if k.1 = 100 then .inl (cs 0, k.2, .inl f)
  else .inl (cs (k.1 - 100), k.2, .inr (.inr (.inr (.inr (fun j => (r j).map (qa_ad o b))))))
def qa_wl (cs : Nat → ClassId) (o b : Nat) (h : qa_H) : va_W := (List.range (h.2.2.2.1 - 1)).map (fun i => (o + (i + 1), qa_ent cs o b (h.1 (i + 1)) (h.2.1 (i + 1)) (h.2.2.1 (i + 1))))
def qa_Rel (D : va_G) (cs : Nat → ClassId) (o b : Nat) (h : qa_H) (U : State) (H : Heap) : Prop :=
  H.size = o + h.2.2.2.1 ∧ 1 ≤ h.2.2.2.1 ∧ va_P D qa_cl (qa_wl cs o b h) H ∧ va_X b (h.1 0).2 (h.2.1 0) U H ∧ (h.1 0).1 = 99 ∧ ∀ a, h.2.2.2.1 ≤ a → (h.1 a).1 = 77
def qa_Ar (o : Nat) : Nat → Prop := fun q => o + 1 ≤ q
theorem qa_ad_s {o b a : Nat} (h : 1 ≤ a) : qa_ad o b a = o + a := by
  unfold qa_ad
  rw [if_neg (by omega)]
theorem qa_wl_at {cs : Nat → ClassId} {o b a : Nat} {h : qa_H} (h1 : 1 ≤ a) (h2 : a < h.2.2.2.1) : (qa_wl cs o b h)[a - 1]? = some (o + a, qa_ent cs o b (h.1 a) (h.2.1 a) (h.2.2.1 a)) := by
  unfold qa_wl
  rw [List.getElem?_map, List.getElem?_range (by omega)]
  simp only [Option.map_some]
  rw [show a - 1 + 1 = a by omega]
theorem qa_wl_in {cs : Nat → ClassId} {o b k : Nat} {h : qa_H} {q : Nat × va_E} (hq : (qa_wl cs o b h)[k]? = some q) : k + 1 < h.2.2.2.1 ∧ q = (o + (k + 1), qa_ent cs o b (h.1 (k + 1)) (h.2.1 (k + 1)) (h.2.2.1 (k + 1))) := by
  unfold qa_wl at hq
  rw [List.getElem?_map] at hq
  by_cases hk : k < h.2.2.2.1 - 1
  · rw [List.getElem?_range hk] at hq
    simp only [Option.map_some] at hq
    exact ⟨by omega, (Option.some.inj hq).symm⟩
  · rw [List.getElem?_eq_none (by simp; omega)] at hq
    cases hq
theorem qa_wl_D {cs : Nat → ClassId} {o b : Nat} {h : qa_H} : va_D (qa_Ar o) (qa_wl cs o b h) := by
  refine ⟨fun i j p q hp hq e => ?_, fun k q hq => ?_⟩
  · have h1 := (qa_wl_in hp).2
    have h2 := (qa_wl_in hq).2
    rw [h1, h2] at e
    simp only at e
    omega
  · rw [(qa_wl_in hq).2]
    show o + 1 ≤ o + (k + 1)
    omega
theorem qa_wl_set {cs : Nat → ClassId} {o b : Nat} {h h' : qa_H} {a : Nat} {e : va_E} (hn : h'.2.2.2.1 = h.2.2.2.1) (h1 : 1 ≤ a) (he : qa_ent cs o b (h'.1 a) (h'.2.1 a) (h'.2.2.1 a) = e) (ho : ∀ q, q ≠ a → h'.1 q = h.1 q ∧ h'.2.1 q = h.2.1 q ∧ h'.2.2.1 q = h.2.2.1 q) : (qa_wl cs o b h).set (a - 1) (o + a, e) = qa_wl cs o b h' := by
  apply List.ext_getElem?
  intro k
  by_cases hk : k = a - 1
  · subst hk
    by_cases h2 : a < h.2.2.2.1
    · rw [qa_wl_at h1 (by omega : a < h'.2.2.2.1), List.getElem?_set_self (List.getElem?_eq_some_iff.mp (qa_wl_at (cs := cs) (o := o) (b := b) h1 h2)).1, he]
    · rw [List.getElem?_eq_none (by simp [qa_wl]; omega), List.getElem?_eq_none (by simp [qa_wl]; omega)]
  · rw [List.getElem?_set_ne (Ne.symm hk)]
    unfold qa_wl
    rw [List.getElem?_map, List.getElem?_map, hn]
    by_cases h2 : k < h.2.2.2.1 - 1
    · rw [List.getElem?_range h2]
      simp only [Option.map_some]
      obtain ⟨g1, g2, g3⟩ := ho (k + 1) (by omega)
      rw [g1, g2, g3]
    · rw [List.getElem?_eq_none (by simp; omega)]
      rfl
theorem qa_wl_push {cs : Nat → ClassId} {o b : Nat} {h h' : qa_H} {e : va_E} (hn : h'.2.2.2.1 = h.2.2.2.1 + 1) (h1 : 1 ≤ h.2.2.2.1) (he : qa_ent cs o b (h'.1 h.2.2.2.1) (h'.2.1 h.2.2.2.1) (h'.2.2.1 h.2.2.2.1) = e) (ho : ∀ q, q ≠ h.2.2.2.1 → h'.1 q = h.1 q ∧ h'.2.1 q = h.2.1 q ∧ h'.2.2.1 q = h.2.2.1 q) : qa_wl cs o b h ++ [(o + h.2.2.2.1, e)] = qa_wl cs o b h' := by
  have hw : h'.2.2.2.1 - 1 = (h.2.2.2.1 - 1) + 1 := by omega
  unfold qa_wl
  rw [hw, List.range_succ, List.map_append, List.map_singleton, show h.2.2.2.1 - 1 + 1 = h.2.2.2.1 by omega, he]
  congr 1
  apply List.map_congr_left
  intro i hi
  have hi' := List.mem_range.mp hi
  obtain ⟨g1, g2, g3⟩ := ho (i + 1) (by omega)
  rw [g1, g2, g3]
/-- the locals -/
def qa_Lc (o b nL : Nat) (L : List qa_V) (M : List (Option Int64)) (ls : Array Slot) : Prop :=
  L.length = nL ∧ ls.size = nL ∧ lv_wf ls ∧ (∀ (i : Nat) (v : qa_V), L[i]? = some v → qa_ia v = true → ls[i]? = some (.val (qa_tv o b v))) ∧ ∀ (i : Nat) (x : Int64), M[i]? = some (some x) → ls[i]? = some (.val (.long x))
def qa_lp (o b : Nat) (L : List qa_V) (M : List (Option Int64)) : List (Nat × Value) :=
  (List.range L.length).filterMap (fun i => match L[i]? with
    | some v => if qa_ia v = true then some (i, qa_tv o b v) else none
    | none => none) ++ (List.range M.length).filterMap (fun i => match M[i]? with
    | some (some x) => some (i, .long x)
    | _ => none)
theorem qa_lp_in {o b : Nat} {L : List qa_V} {M : List (Option Int64)} {q : Nat × Value} : q ∈ qa_lp o b L M ↔ (∃ v, L[q.1]? = some v ∧ qa_ia v = true ∧ q.2 = qa_tv o b v) ∨ ∃ x, M[q.1]? = some (some x) ∧ q.2 = .long x := by
  obtain ⟨i, w⟩ := q
  unfold qa_lp
  rw [List.mem_append, List.mem_filterMap, List.mem_filterMap]
  constructor
  · rintro (⟨j, -, hj⟩ | ⟨j, -, hj⟩)
    · cases hL : L[j]? with
      | none => rw [hL] at hj; simp at hj
      | some v =>
        rw [hL] at hj
        simp only at hj
        split at hj
        · rename_i hv
          obtain ⟨rfl, rfl⟩ := Prod.mk.inj (Option.some.inj hj)
          exact Or.inl ⟨v, hL, hv, rfl⟩
        · cases hj
    · cases hM : M[j]? with
      | none => rw [hM] at hj; simp at hj
      | some y =>
        rw [hM] at hj
        cases y with
        | none => simp at hj
        | some x =>
          simp only [Option.some.injEq] at hj
          obtain ⟨rfl, rfl⟩ := Prod.mk.inj hj
          exact Or.inr ⟨x, hM, rfl⟩
  · rintro (⟨v, h1, h2, h3⟩ | ⟨x, h1, h3⟩)
    · simp only at h1 h3
      exact Or.inl ⟨i, List.mem_range.mpr (List.getElem?_eq_some_iff.mp h1).1, by rw [h1]; simp [h2, h3]⟩
    · simp only at h1 h3
      exact Or.inr ⟨i, List.mem_range.mpr (List.getElem?_eq_some_iff.mp h1).1, by rw [h1]; simp [h3]⟩
theorem qa_Lc_has {o b nL : Nat} {L : List qa_V} {M : List (Option Int64)} {ls : Array Slot} (h : qa_Lc o b nL L M ls) : lv_has ls nL (qa_lp o b L M) := by
  obtain ⟨-, h2, h3, h4, h5⟩ := h
  refine ⟨h2, h3, fun q hq => ?_⟩
  rcases qa_lp_in.mp hq with ⟨v, g1, g2, g3⟩ | ⟨x, g1, g3⟩
  · rw [g3]; exact h4 _ _ g1 g2
  · rw [g3]; exact h5 _ _ g1
theorem qa_ct_ia {o b : Nat} {v : qa_V} (h : qa_ia v = true) : (qa_tv o b v).category = 1 := by
  match v, h with
  | .inl _, _ => rfl
  | .inr (.inl r), _ => cases r <;> rfl
theorem qa_ct_tv {o b : Nat} (v : qa_V) : (qa_tv o b v).category = qa_ct v := by
  match v with
  | .inl _ => rfl
  | .inr (.inl r) => cases r <;> rfl
  | .inr (.inr (.inl _)) => rfl
  | .inr (.inr (.inr _)) => rfl
theorem qa_sum_tv {o b : Nat} (S : List qa_V) : ((S.map (qa_tv o b)).map fun v => v.category).sum = qa_sum S := by
  unfold qa_sum
  rw [List.map_map]
  congr 1
  apply List.map_congr_left
  intro v _
  exact qa_ct_tv v
theorem qa_fr_at {M : List (Option Int64)} {i : Nat} (h : qa_fr M i = true) : (∀ x, M[i]? ≠ some (some x)) ∧ ∀ x, M[i - 1]? ≠ some (some x) := by
  unfold qa_fr at h
  rw [Bool.and_eq_true] at h
  constructor
  · intro x e
    rw [e] at h
    simp at h
  · intro x e
    rw [e] at h
    simp at h
theorem qa_Lc_s1 {o b nL i : Nat} {L : List qa_V} {M : List (Option Int64)} {ls ls' : Array Slot} {v : qa_V} (h : qa_Lc o b nL L M ls) (hi : i < L.length) (hf : qa_fr M i = true) (hv : qa_ia v = true)
    (hl : lv_has ls' nL ((i, qa_tv o b v) :: (qa_lp o b L M).filter (fun q => !(q.1 == i) && !(q.1 + 1 == i && q.2.category == 2)))) : qa_Lc o b nL (L.set i v) M ls' := by
  obtain ⟨h1, h2, h3, h4, h5⟩ := h
  obtain ⟨f1, f2⟩ := qa_fr_at hf
  obtain ⟨g1, g2, g3⟩ := hl
  refine ⟨by simp [h1], g1, g2, fun j w hj hw => ?_, fun j x hj => ?_⟩
  · by_cases hij : j = i
    · subst hij
      rw [List.getElem?_set_self hi] at hj
      cases hj
      exact g3 (j, _) List.mem_cons_self
    · rw [List.getElem?_set_ne (Ne.symm hij)] at hj
      refine g3 (j, qa_tv o b w) (List.mem_cons_of_mem _ (List.mem_filter.mpr ⟨qa_lp_in.mpr (Or.inl ⟨w, hj, hw, rfl⟩), ?_⟩))
      have hc := qa_ct_ia (o := o) (b := b) hw
      generalize qa_tv o b w = w' at hc ⊢
      simp [hij, hc]
  · refine g3 (j, _) (List.mem_cons_of_mem _ (List.mem_filter.mpr ⟨qa_lp_in.mpr (Or.inr ⟨x, hj, rfl⟩), ?_⟩))
    have hij : j ≠ i := fun e => f1 x (by rw [← e]; exact hj)
    have hij2 : j + 1 ≠ i := fun e => f2 x (by rw [← e]; exact hj)
    simp [hij, hij2]
theorem qa_Lc_s2 {o b nL i : Nat} {L : List qa_V} {M : List (Option Int64)} {ls ls' : Array Slot} {x : Int64} (h : qa_Lc o b nL L M ls) (hi : i + 1 < L.length) (hf : qa_fr M i = true) (hf1 : qa_fr M (i + 1) = true)
    (hl : lv_has ls' nL ((i, .long x) :: (qa_lp o b L M).filter (fun q => !(q.1 == i) && (!(q.1 == i + 1) && !(q.1 + 1 == i && q.2.category == 2))))) : qa_Lc o b nL ((L.set i qa_u).set (i + 1) qa_u) (M.set i (some x)) ls' := by
  obtain ⟨h1, h2, h3, h4, h5⟩ := h
  obtain ⟨f1, f2⟩ := qa_fr_at hf
  obtain ⟨f3, f4⟩ := qa_fr_at hf1
  obtain ⟨g1, g2, g3⟩ := hl
  refine ⟨by simp [h1], g1, g2, fun j w hj hw => ?_, fun j y hj => ?_⟩
  · by_cases hij : j = i + 1
    · subst hij
      rw [List.getElem?_set_self (by simp; exact hi)] at hj
      cases hj
      cases hw
    · rw [List.getElem?_set_ne (Ne.symm hij)] at hj
      by_cases hij2 : j = i
      · subst hij2
        rw [List.getElem?_set_self (by omega)] at hj
        cases hj
        cases hw
      · rw [List.getElem?_set_ne (Ne.symm hij2)] at hj
        refine g3 (j, qa_tv o b w) (List.mem_cons_of_mem _ (List.mem_filter.mpr ⟨qa_lp_in.mpr (Or.inl ⟨w, hj, hw, rfl⟩), ?_⟩))
        have hc := qa_ct_ia (o := o) (b := b) hw
        generalize qa_tv o b w = w' at hc ⊢
        simp [hij, hij2, hc]
  · by_cases hij : j = i
    · subst hij
      have hl := (List.getElem?_eq_some_iff.mp hj).1
      rw [List.getElem?_set_self (by simpa using hl)] at hj
      cases hj
      exact g3 (j, _) List.mem_cons_self
    · rw [List.getElem?_set_ne (Ne.symm hij)] at hj
      refine g3 (j, _) (List.mem_cons_of_mem _ (List.mem_filter.mpr ⟨qa_lp_in.mpr (Or.inr ⟨y, hj, rfl⟩), ?_⟩))
      have hij1 : j ≠ i + 1 := fun e => f3 y (by rw [← e]; exact hj)
      have hij2 : j + 1 ≠ i := fun e => f2 y (by rw [← e]; exact hj)
      simp [hij, hij1, hij2]
