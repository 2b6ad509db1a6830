/-! One step of the small machine is one of the machine. -/
def qa_Tb (U : State) : Prop := (∀ q ∈ qa_mls, q.2.2.1 = 3 → va_Nw (.methodLinkNest (qa_on q.1) q.2.1 (qa_mt q.2.2.2.1).2.1 "LearningAdvisor") U) ∧ va_AO "LearningAdvisor$SkillState" U ∧ va_AO "LearningAdvisor$Progress" U ∧ va_AO "LearningAdvisor$Expression" U
def qa_At (p : Program) (s : State) (mm : MethodId) (meth : Method) (co : Code) (args : Array Value) (D : va_G) (cs : Nat → ClassId) (o b n0 m : Nat) : Prop :=
  p.tables.exec = Jvm.exec ∧ co.code = qa_code m ∧ meth.sig.returnType = (qa_mt m).2.2.2.2.1 ∧ co.maxLocals = (qa_mt m).2.2.2.1 ∧ s.vm.findClass (qa_on (qa_own m)) = some mm.cls ∧ (∀ w ∈ qa_tb, w.before args s = true) ∧ meth.locks = false ∧ ((qa_mt m).2.2.2.2.2.2.1 = 2 → meth.name = "<init>") ∧ va_K D qa_cl (qa_tys cs) s ∧ qa_Tb s ∧ b ≤ o ∧ s.heap.size = o + n0 ∧ 1 ≤ n0
def qa_G (p : Program) (l : Launch) (e : Env) (R : Room) (s : State) (mm : MethodId) (args : Array Value) (below : List Frame) (meth : Method) (co : Code) (Q : State → Prop) (D : va_G) (cs : Nat → ClassId) (o b n0 z0 m : Nat) (c : qa_C) : Prop :=
  ∀ (H : Heap) (locs : List Loc) (ls : Array Slot), qa_Rel D cs o b c.2.2.2.2 s H → qa_Lc o b (qa_mt m).2.2.2.1 c.2.1 c.2.2.1 ls → va_S (qa_Ar o) s.heap H locs → n0 ≤ c.2.2.2.2.2.2.2.1 → z0 ≤ c.2.2.2.2.2.2.2.2 →
    W p l e R s mm args below meth co H locs (c.2.2.2.2.2.2.2.1 - n0) (c.2.2.2.2.2.2.2.2 - z0) Q (F0 mm c.1 ls (c.2.2.2.1.map (qa_tv o b)))
theorem qa_nx_eq {pc : Nat} {L : List qa_V} {M : List (Option Int64)} {S : List qa_V} {h : qa_H} {c : qa_C} (h1 : qa_nx pc L M S h = some (.inl c)) : c = (pc, L, M, S, h) := (Sum.inl.inj (Option.some.inj h1)).symm
theorem qa_tg_eq {pc t : Nat} {off : Int} (h : qa_tg pc off = some t) : (pc : Int) + off = (t : Int) := by
  unfold qa_tg at h
  split at h
  · rename_i hp
    have h1 := Option.some.inj h
    rw [← h1]
    omega
  · cases h
theorem qa_jp_eq {x : Option Nat} {L : List qa_V} {M : List (Option Int64)} {S : List qa_V} {h : qa_H} {c : qa_C} (h1 : qa_jp x L M S h = some (.inl c)) : ∃ t, x = some t ∧ c = (t, L, M, S, h) := by
  unfold qa_jp at h1
  split at h1
  · exact ⟨_, rfl, qa_nx_eq h1⟩
  · cases h1
theorem qa_br_eq {P : Bool} {x : Option Nat} {pc3 : Nat} {L : List qa_V} {M : List (Option Int64)} {S : List qa_V} {h : qa_H} {c : qa_C} (h1 : qa_br P x pc3 L M S h = some (.inl c)) : ∃ t, x = some t ∧ ((P = true ∧ c = (t, L, M, S, h)) ∨ (P = false ∧ c = (pc3, L, M, S, h))) := by
  unfold qa_br at h1
  split at h1
  · refine ⟨_, rfl, ?_⟩
    cases P with
    | true => exact Or.inl ⟨rfl, qa_nx_eq h1⟩
    | false => exact Or.inr ⟨rfl, qa_nx_eq h1⟩
  · cases h1
theorem qa_ad_inj {o b x y : Nat} (hbo : b ≤ o) (h : qa_ad o b x = qa_ad o b y) : x = y := by
  unfold qa_ad at h
  split at h <;> split at h <;> omega
section QS
variable {p : Program} {l : Launch} {e : Env} {R : Room} {s : State} {mm : MethodId} {args : Array Value} {below : List Frame} {meth : Method} {co : Code} {Q : State → Prop} {D : va_G} {cs : Nat → ClassId} {o b n0 z0 m : Nat}
theorem qa_Wsz {H : Heap} {locs : List Loc} {cells slots : Nat} {g : JFrame} (kk : H.size ≤ s.heap.size + cells → W p l e R s mm args below meth co H locs cells slots Q g) : W p l e R s mm args below meth co H locs cells slots Q g := fun T hT X => kk (by rw [← hT]; exact X.heapSize) T hT X
theorem qa_s_ldi {pc pc' i : Nat} {L : List qa_V} {M : List (Option Int64)} {S : List qa_V} {h : qa_H} {c' : qa_C} (hk : ∀ {x : Int32} {H : Heap} {locs : List Loc} {cells slots : Nat} {ls : Array Slot} {rest : List Value}, ls[i]? = some (.val (.int x)) → W p l e R s mm args below meth co H locs cells slots Q (F0 mm pc' ls (.int x :: rest)) → W p l e R s mm args below meth co H locs cells slots Q (F0 mm pc ls rest))
    (ha : qa_ldi pc' i L M S h = some (.inl c')) (hG : qa_G p l e R s mm args below meth co Q D cs o b n0 z0 m c') : qa_G p l e R s mm args below meth co Q D cs o b n0 z0 m (pc, L, M, S, h) := by
  unfold qa_ldi at ha
  split at ha
  · rename_i x hx
    rw [qa_nx_eq ha] at hG
    intro H locs ls hR hL hS h1 h2
    exact hk (hL.2.2.2.1 _ _ hx rfl) (hG H locs ls hR hL hS h1 h2)
  · cases ha
theorem qa_s_lda {pc pc' i : Nat} {L : List qa_V} {M : List (Option Int64)} {S : List qa_V} {h : qa_H} {c' : qa_C} (hk : ∀ {x : Nat} {H : Heap} {locs : List Loc} {cells slots : Nat} {ls : Array Slot} {rest : List Value}, ls[i]? = some (.val (.ref x)) → W p l e R s mm args below meth co H locs cells slots Q (F0 mm pc' ls (.ref x :: rest)) → W p l e R s mm args below meth co H locs cells slots Q (F0 mm pc ls rest))
    (hk2 : ∀ {H : Heap} {locs : List Loc} {cells slots : Nat} {ls : Array Slot} {rest : List Value}, ls[i]? = some (.val .null) → W p l e R s mm args below meth co H locs cells slots Q (F0 mm pc' ls (.null :: rest)) → W p l e R s mm args below meth co H locs cells slots Q (F0 mm pc ls rest))
    (ha : qa_lda pc' i L M S h = some (.inl c')) (hG : qa_G p l e R s mm args below meth co Q D cs o b n0 z0 m c') : qa_G p l e R s mm args below meth co Q D cs o b n0 z0 m (pc, L, M, S, h) := by
  unfold qa_lda at ha
  split at ha
  · rename_i r hx
    rw [qa_nx_eq ha] at hG
    intro H locs ls hR hL hS h1 h2
    cases r with
    | none => exact hk2 (hL.2.2.2.1 _ _ hx rfl) (hG H locs ls hR hL hS h1 h2)
    | some a => exact hk (x := qa_ad o b a) (hL.2.2.2.1 _ _ hx rfl) (hG H locs ls hR hL hS h1 h2)
  · cases ha
theorem qa_s_ldl {pc pc' i : Nat} {L : List qa_V} {M : List (Option Int64)} {S : List qa_V} {h : qa_H} {c' : qa_C} (hk : ∀ {x : Int64} {H : Heap} {locs : List Loc} {cells slots : Nat} {ls : Array Slot} {rest : List Value}, ls[i]? = some (.val (.long x)) → W p l e R s mm args below meth co H locs cells slots Q (F0 mm pc' ls (.long x :: rest)) → W p l e R s mm args below meth co H locs cells slots Q (F0 mm pc ls rest))
    (ha : qa_ldl pc' i L M S h = some (.inl c')) (hG : qa_G p l e R s mm args below meth co Q D cs o b n0 z0 m c') : qa_G p l e R s mm args below meth co Q D cs o b n0 z0 m (pc, L, M, S, h) := by
  unfold qa_ldl at ha
  split at ha
  · rename_i x hx
    rw [qa_nx_eq ha] at hG
    intro H locs ls hR hL hS h1 h2
    exact hk (hL.2.2.2.2 _ _ hx) (hG H locs ls hR hL hS h1 h2)
  · cases ha
theorem qa_s_sti {pc pc' i : Nat} {L : List qa_V} {M : List (Option Int64)} {S : List qa_V} {h : qa_H} {c' : qa_C} (hk : ∀ {x : Int32} {H : Heap} {locs : List Loc} {cells slots nL : Nat} {ls : Array Slot} {rest : List Value} {lv : List (Nat × Value)}, lv_has ls nL lv → i < nL →
      (∀ ls' : Array Slot, lv_has ls' nL ((i, Value.int x) :: lv.filter (fun q => !(q.1 == i) && !(q.1 + 1 == i && q.2.category == 2))) → W p l e R s mm args below meth co H locs cells slots Q (F0 mm pc' ls' rest)) → W p l e R s mm args below meth co H locs cells slots Q (F0 mm pc ls (.int x :: rest)))
    (ha : qa_sti pc' i L M S h = some (.inl c')) (hG : qa_G p l e R s mm args below meth co Q D cs o b n0 z0 m c') : qa_G p l e R s mm args below meth co Q D cs o b n0 z0 m (pc, L, M, S, h) := by
  unfold qa_sti at ha
  split at ha
  · split at ha
    · rename_i x S' hc
      rw [qa_nx_eq ha] at hG
      intro H locs ls hR hL hS h1 h2
      exact hk (qa_Lc_has hL) (by rw [← hL.1]; exact hc.1) fun ls' hl => hG H locs ls' hR (qa_Lc_s1 (v := qa_i x) hL hc.1 hc.2 rfl hl) hS h1 h2
    · cases ha
  · cases ha
theorem qa_s_sta {pc pc' i : Nat} {L : List qa_V} {M : List (Option Int64)} {S : List qa_V} {h : qa_H} {c' : qa_C} (hk : ∀ {x : Nat} {H : Heap} {locs : List Loc} {cells slots nL : Nat} {ls : Array Slot} {rest : List Value} {lv : List (Nat × Value)}, lv_has ls nL lv → i < nL →
      (∀ ls' : Array Slot, lv_has ls' nL ((i, Value.ref x) :: lv.filter (fun q => !(q.1 == i) && !(q.1 + 1 == i && q.2.category == 2))) → W p l e R s mm args below meth co H locs cells slots Q (F0 mm pc' ls' rest)) → W p l e R s mm args below meth co H locs cells slots Q (F0 mm pc ls (.ref x :: rest)))
    (hk2 : ∀ {H : Heap} {locs : List Loc} {cells slots nL : Nat} {ls : Array Slot} {rest : List Value} {lv : List (Nat × Value)}, lv_has ls nL lv → i < nL →
      (∀ ls' : Array Slot, lv_has ls' nL ((i, Value.null) :: lv.filter (fun q => !(q.1 == i) && !(q.1 + 1 == i && q.2.category == 2))) → W p l e R s mm args below meth co H locs cells slots Q (F0 mm pc' ls' rest)) → W p l e R s mm args below meth co H locs cells slots Q (F0 mm pc ls (.null :: rest)))
    (ha : qa_sta pc' i L M S h = some (.inl c')) (hG : qa_G p l e R s mm args below meth co Q D cs o b n0 z0 m c') : qa_G p l e R s mm args below meth co Q D cs o b n0 z0 m (pc, L, M, S, h) := by
  unfold qa_sta at ha
  split at ha
  · split at ha
    · rename_i r S' hc
      rw [qa_nx_eq ha] at hG
      intro H locs ls hR hL hS h1 h2
      cases r with
      | none => exact hk2 (qa_Lc_has hL) (by rw [← hL.1]; exact hc.1) fun ls' hl => hG H locs ls' hR (qa_Lc_s1 (v := qa_a none) hL hc.1 hc.2 rfl hl) hS h1 h2
      | some a => exact hk (x := qa_ad o b a) (qa_Lc_has hL) (by rw [← hL.1]; exact hc.1) fun ls' hl => hG H locs ls' hR (qa_Lc_s1 (v := qa_a (some a)) hL hc.1 hc.2 rfl hl) hS h1 h2
    · cases ha
  · cases ha
theorem qa_s_stl {pc pc' i : Nat} {L : List qa_V} {M : List (Option Int64)} {S : List qa_V} {h : qa_H} {c' : qa_C} (hk : ∀ {x : Int64} {H : Heap} {locs : List Loc} {cells slots nL : Nat} {ls : Array Slot} {rest : List Value} {lv : List (Nat × Value)}, lv_has ls nL lv → i + 1 < nL →
      (∀ ls' : Array Slot, lv_has ls' nL ((i, Value.long x) :: lv.filter (fun q => !(q.1 == i) && (!(q.1 == i + 1) && !(q.1 + 1 == i && q.2.category == 2)))) → W p l e R s mm args below meth co H locs cells slots Q (F0 mm pc' ls' rest)) → W p l e R s mm args below meth co H locs cells slots Q (F0 mm pc ls (.long x :: rest)))
    (ha : qa_stl pc' i L M S h = some (.inl c')) (hG : qa_G p l e R s mm args below meth co Q D cs o b n0 z0 m c') : qa_G p l e R s mm args below meth co Q D cs o b n0 z0 m (pc, L, M, S, h) := by
  unfold qa_stl at ha
  split at ha
  · split at ha
    · rename_i x S' hc
      rw [qa_nx_eq ha] at hG
      intro H locs ls hR hL hS h1 h2
      exact hk (qa_Lc_has hL) (by rw [← hL.1]; exact hc.1) fun ls' hl => hG H locs ls' hR (qa_Lc_s2 hL hc.1 hc.2.1 hc.2.2 hl) hS h1 h2
    · cases ha
  · cases ha
theorem qa_s_b2 {f : Int32 → Int32 → Int32} {pc pc' : Nat} {L : List qa_V} {M : List (Option Int64)} {S : List qa_V} {h : qa_H} {c' : qa_C} (hk : ∀ {x y : Int32} {H : Heap} {locs : List Loc} {cells slots : Nat} {ls : Array Slot} {rest : List Value}, W p l e R s mm args below meth co H locs cells slots Q (F0 mm pc' ls (.int (f x y) :: rest)) → W p l e R s mm args below meth co H locs cells slots Q (F0 mm pc ls (.int y :: .int x :: rest)))
    (ha : qa_b2 f pc' L M S h = some (.inl c')) (hG : qa_G p l e R s mm args below meth co Q D cs o b n0 z0 m c') : qa_G p l e R s mm args below meth co Q D cs o b n0 z0 m (pc, L, M, S, h) := by
  unfold qa_b2 at ha
  split at ha
  · rw [qa_nx_eq ha] at hG
    intro H locs ls hR hL hS h1 h2
    exact hk (hG H locs ls hR hL hS h1 h2)
  · cases ha
theorem qa_s_d2 {f : Int32 → Int32 → Int32} {pc pc' : Nat} {L : List qa_V} {M : List (Option Int64)} {S : List qa_V} {h : qa_H} {c' : qa_C} (hk : ∀ {x y : Int32} {H : Heap} {locs : List Loc} {cells slots : Nat} {ls : Array Slot} {rest : List Value}, ¬ y = 0 → W p l e R s mm args below meth co H locs cells slots Q (F0 mm pc' ls (.int (f x y) :: rest)) → W p l e R s mm args below meth co H locs cells slots Q (F0 mm pc ls (.int y :: .int x :: rest)))
    (ha : qa_d2 f pc' L M S h = some (.inl c')) (hG : qa_G p l e R s mm args below meth co Q D cs o b n0 z0 m c') : qa_G p l e R s mm args below meth co Q D cs o b n0 z0 m (pc, L, M, S, h) := by
  unfold qa_d2 at ha
  split at ha
  · split at ha
    · cases ha
    · rename_i hy
      rw [qa_nx_eq ha] at hG
      intro H locs ls hR hL hS h1 h2
      exact hk hy (hG H locs ls hR hL hS h1 h2)
  · cases ha
theorem qa_s_l2 {f : Int64 → Int64 → Int64} {pc pc' : Nat} {L : List qa_V} {M : List (Option Int64)} {S : List qa_V} {h : qa_H} {c' : qa_C} (hk : ∀ {x y : Int64} {H : Heap} {locs : List Loc} {cells slots : Nat} {ls : Array Slot} {rest : List Value}, W p l e R s mm args below meth co H locs cells slots Q (F0 mm pc' ls (.long (f x y) :: rest)) → W p l e R s mm args below meth co H locs cells slots Q (F0 mm pc ls (.long y :: .long x :: rest)))
    (ha : qa_l2 f pc' L M S h = some (.inl c')) (hG : qa_G p l e R s mm args below meth co Q D cs o b n0 z0 m c') : qa_G p l e R s mm args below meth co Q D cs o b n0 z0 m (pc, L, M, S, h) := by
  unfold qa_l2 at ha
  split at ha
  · rw [qa_nx_eq ha] at hG
    intro H locs ls hR hL hS h1 h2
    exact hk (hG H locs ls hR hL hS h1 h2)
  · cases ha
theorem qa_s_k {pc pc' : Nat} {L : List qa_V} {M : List (Option Int64)} {S : List qa_V} {h : qa_H} {v : qa_V} {c' : qa_C} (hk : ∀ {H : Heap} {locs : List Loc} {cells slots : Nat} {ls : Array Slot} {rest : List Value}, W p l e R s mm args below meth co H locs cells slots Q (F0 mm pc' ls (qa_tv o b v :: rest)) → W p l e R s mm args below meth co H locs cells slots Q (F0 mm pc ls rest))
    (ha : qa_nx pc' L M (v :: S) h = some (.inl c')) (hG : qa_G p l e R s mm args below meth co Q D cs o b n0 z0 m c') : qa_G p l e R s mm args below meth co Q D cs o b n0 z0 m (pc, L, M, S, h) := by
  rw [qa_nx_eq ha] at hG
  intro H locs ls hR hL hS h1 h2
  exact hk (hG H locs ls hR hL hS h1 h2)
theorem qa_s_if1 {pc : Nat} {cd : ClassFile.Cond} {off : Int} {x : Int32} {L : List qa_V} {M : List (Option Int64)} {S : List qa_V} {h : qa_H} {c' : qa_C} (hC : qa_At p s mm meth co args D cs o b n0 m) (hd : decode (qa_code m) pc = .ok (.ifCond cd off, 3))
    (ha : qa_br (qa_cnd cd x 0) (qa_tg pc off) (pc + 3) L M S h = some (.inl c')) (hG : qa_G p l e R s mm args below meth co Q D cs o b n0 z0 m c') : qa_G p l e R s mm args below meth co Q D cs o b n0 z0 m (pc, L, M, qa_i x :: S, h) := by
  obtain ⟨hx, hb, -⟩ := hC
  obtain ⟨t, ht, hc⟩ := qa_br_eq ha
  have ht := qa_tg_eq ht
  intro H locs ls hR hL hS h1 h2
  rcases hc with ⟨hp, rfl⟩ | ⟨hp, rfl⟩
  · have w := hG H locs ls hR hL hS h1 h2
    cases cd <;> simp only [qa_cnd, decide_eq_true_eq] at hp
    · exact lv_if_eq hx hb hd ht (fun _ => w) (fun q => absurd hp q)
    · exact lv_if_ne hx hb hd ht (fun _ => w) (fun q => absurd q hp)
    · exact lv_if_lt hx hb hd ht (fun _ => w) (fun q => absurd hp q)
    · exact lv_if_ge hx hb hd ht (fun _ => w) (fun q => absurd hp q)
    · exact lv_if_gt hx hb hd ht (fun _ => w) (fun q => absurd hp q)
    · exact lv_if_le hx hb hd ht (fun _ => w) (fun q => absurd hp q)
  · have w := hG H locs ls hR hL hS h1 h2
    cases cd <;> simp only [qa_cnd, decide_eq_false_iff_not] at hp
    · exact lv_if_eq hx hb hd ht (fun q => absurd q hp) (fun _ => w)
    · exact lv_if_ne hx hb hd ht (fun q => absurd q hp) (fun _ => w)
    · exact lv_if_lt hx hb hd ht (fun q => absurd q hp) (fun _ => w)
    · exact lv_if_ge hx hb hd ht (fun q => absurd q hp) (fun _ => w)
    · exact lv_if_gt hx hb hd ht (fun q => absurd q hp) (fun _ => w)
    · exact lv_if_le hx hb hd ht (fun q => absurd q hp) (fun _ => w)
theorem qa_s_if2 {pc : Nat} {cd : ClassFile.Cond} {off : Int} {x y : Int32} {L : List qa_V} {M : List (Option Int64)} {S : List qa_V} {h : qa_H} {c' : qa_C} (hC : qa_At p s mm meth co args D cs o b n0 m) (hd : decode (qa_code m) pc = .ok (.if_icmp cd off, 3))
    (ha : qa_br (qa_cnd cd x y) (qa_tg pc off) (pc + 3) L M S h = some (.inl c')) (hG : qa_G p l e R s mm args below meth co Q D cs o b n0 z0 m c') : qa_G p l e R s mm args below meth co Q D cs o b n0 z0 m (pc, L, M, qa_i y :: qa_i x :: S, h) := by
  obtain ⟨hx, hb, -⟩ := hC
  obtain ⟨t, ht, hc⟩ := qa_br_eq ha
  have ht := qa_tg_eq ht
  intro H locs ls hR hL hS h1 h2
  rcases hc with ⟨hp, rfl⟩ | ⟨hp, rfl⟩
  · have w := hG H locs ls hR hL hS h1 h2
    cases cd <;> simp only [qa_cnd, decide_eq_true_eq] at hp
    · exact lv_icmp_eq hx hb hd ht (fun _ => w) (fun q => absurd hp q)
    · exact lv_icmp_ne hx hb hd ht (fun _ => w) (fun q => absurd q hp)
    · exact lv_icmp_lt hx hb hd ht (fun _ => w) (fun q => absurd hp q)
    · exact lv_icmp_ge hx hb hd ht (fun _ => w) (fun q => absurd hp q)
    · exact lv_icmp_gt hx hb hd ht (fun _ => w) (fun q => absurd hp q)
    · exact lv_icmp_le hx hb hd ht (fun _ => w) (fun q => absurd hp q)
  · have w := hG H locs ls hR hL hS h1 h2
    cases cd <;> simp only [qa_cnd, decide_eq_false_iff_not] at hp
    · exact lv_icmp_eq hx hb hd ht (fun q => absurd q hp) (fun _ => w)
    · exact lv_icmp_ne hx hb hd ht (fun q => absurd q hp) (fun _ => w)
    · exact lv_icmp_lt hx hb hd ht (fun q => absurd q hp) (fun _ => w)
    · exact lv_icmp_ge hx hb hd ht (fun q => absurd q hp) (fun _ => w)
    · exact lv_icmp_gt hx hb hd ht (fun q => absurd q hp) (fun _ => w)
    · exact lv_icmp_le hx hb hd ht (fun q => absurd q hp) (fun _ => w)
theorem qa_s_acm {pc : Nat} {off : Int} {x y : Option Nat} {L : List qa_V} {M : List (Option Int64)} {S : List qa_V} {h : qa_H} {c' : qa_C} (hC : qa_At p s mm meth co args D cs o b n0 m) (hd : decode (qa_code m) pc = .ok (.if_acmp .eq off, 3))
    (ha : qa_br (decide (x = y)) (qa_tg pc off) (pc + 3) L M S h = some (.inl c')) (hG : qa_G p l e R s mm args below meth co Q D cs o b n0 z0 m c') : qa_G p l e R s mm args below meth co Q D cs o b n0 z0 m (pc, L, M, qa_a y :: qa_a x :: S, h) := by
  obtain ⟨hx, hb, -, -, -, -, -, -, -, -, hbo, -⟩ := hC
  obtain ⟨t, ht, hc⟩ := qa_br_eq ha
  have ht := qa_tg_eq ht
  have hinj : x.map (qa_ad o b) = y.map (qa_ad o b) ↔ x = y := by
    constructor
    · intro hq
      cases x with
      | none => cases y with
        | none => rfl
        | some y => cases hq
      | some x => cases y with
        | none => cases hq
        | some y => rw [qa_ad_inj hbo (Option.some.inj hq)]
    · intro hq
      rw [hq]
  intro H locs ls hR hL hS h1 h2
  rcases hc with ⟨hp, rfl⟩ | ⟨hp, rfl⟩
  · have w := hG H locs ls hR hL hS h1 h2
    simp only [decide_eq_true_eq] at hp
    exact lv_acmp_eq hx hb hd ht (fun _ => w) (fun q => absurd (hinj.mpr hp) q)
  · have w := hG H locs ls hR hL hS h1 h2
    simp only [decide_eq_false_iff_not] at hp
    exact lv_acmp_eq hx hb hd ht (fun q => absurd (hinj.mp q) hp) (fun _ => w)
/-- a reading of a cell: its kind says what it is -/
theorem qa_lt {h : qa_H} {U : State} {H : Heap} {a : Nat} (hR : qa_Rel D cs o b h U H) (hk : (h.1 a).1 ≠ 77) : a < h.2.2.2.1 := by
  rcases Nat.lt_or_ge a h.2.2.2.1 with q | q
  · exact q
  · exact absurd (hR.2.2.2.2.2 a q) hk
theorem qa_pos {h : qa_H} {U : State} {H : Heap} {a : Nat} (hR : qa_Rel D cs o b h U H) (hk : (h.1 a).1 ≠ 99) : 1 ≤ a := by
  rcases Nat.eq_zero_or_pos a with q | q
  · rw [q] at hk
    exact absurd hR.2.2.2.2.1 hk
  · exact q
theorem qa_ent_o {k : Nat × Nat} {f : Nat → Int32} {r : Nat → Option Nat} (hk : k.1 < 12) : qa_ent cs o b k f r = .inr (k.1, (List.range (qa_sz k.1)).map (qa_fv o b k.1 f r)) := by
  unfold qa_ent
  rw [if_pos hk]
theorem qa_ent_i {k : Nat × Nat} {f : Nat → Int32} {r : Nat → Option Nat} (hk : k.1 = 100) : qa_ent cs o b k f r = .inl (cs 0, k.2, .inl f) := by
  unfold qa_ent
  rw [if_neg (by omega), if_pos hk]
theorem qa_ent_r {k : Nat × Nat} {f : Nat → Int32} {r : Nat → Option Nat} (hk : 101 ≤ k.1) : qa_ent cs o b k f r = .inl (cs (k.1 - 100), k.2, .inr (.inr (.inr (.inr (fun j => (r j).map (qa_ad o b)))))) := by
  unfold qa_ent
  rw [if_neg (by omega), if_neg (by omega)]
theorem qa_fl_ok {own idx k : Nat} (h : qa_fl own idx = some k) : own < 12 ∧ k < qa_sz own ∧ (Jvm.Cond.fieldLink (qa_on own) idx (qa_on own) (qa_T (qa_fs.getD own []) k).2.1 (qa_T (qa_fs.getD own []) k).2.2.1) ∈ qa_tb := by
  unfold qa_fl at h
  cases hf : qa_fls.find? (fun q => q.1 == own && q.2.1 == idx) with
  | none => rw [hf] at h; cases h
  | some q =>
    rw [hf] at h
    have hk := Option.some.inj h
    have hp := List.find?_some hf
    simp only [Bool.and_eq_true, beq_iff_eq] at hp
    obtain ⟨g1, g2, g3⟩ := qa_fls_ok q (List.mem_of_find?_eq_some hf)
    obtain ⟨e1, e2⟩ := hp
    simp only at hk
    rw [← e1, ← e2, ← hk]
    exact ⟨g2, g3, qa_in g1 rfl⟩
theorem qa_cl_in {ci : Nat} (hc : ci < 12) : ∀ w ∈ u_ws (qa_on ci) (qa_T (qa_fs.getD ci [])) (qa_fs.getD ci []).length, w ∈ qa_tb := by
  intro w hw
  have h1 := qa_cl_ok ci hc
  have h2 := qa_cl_at ci hc
  rw [List.getD_eq_getElem?_getD, h2] at h1
  refine List.mem_filter.mpr ⟨h1 w hw, ?_⟩
  obtain ⟨k, -, hk⟩ := List.mem_map.mp hw
  rw [← hk]
  unfold u_lay
  split <;> rfl
theorem qa_wl_q {h : qa_H} {U : State} {H : Heap} {a : Nat} {e : va_E} (hR : qa_Rel D cs o b h U H) (h1 : (h.1 a).1 ≠ 77) (h2 : (h.1 a).1 ≠ 99) (he : qa_ent cs o b (h.1 a) (h.2.1 a) (h.2.2.1 a) = e) : (qa_wl cs o b h)[a - 1]? = some (qa_ad o b a, e) := by
  rw [qa_wl_at (qa_pos hR h2) (qa_lt hR h1), qa_ad_s (qa_pos hR h2), he]
/-- behind a store: the relation again -/
theorem qa_Rel_set {h h' : qa_H} {U : State} {H H1 : Heap} {a : Nat} {e : va_E} {locs1 : List Loc} (hR : qa_Rel D cs o b h U H) (hbo : b ≤ o) (h1 : (h.1 a).1 ≠ 77) (h2 : (h.1 a).1 ≠ 99) (hk : h'.1 = h.1) (hn : h'.2.2.2 = h.2.2.2) (he : qa_ent cs o b (h'.1 a) (h'.2.1 a) (h'.2.2.1 a) = e) (ho : ∀ q, q ≠ a → h'.2.1 q = h.2.1 q ∧ h'.2.2.1 q = h.2.2.1 q)
    (hP : va_P D qa_cl ((qa_wl cs o b h).set (a - 1) (qa_ad o b a, e)) H1) (hS : va_S (qa_Ar o) H H1 locs1) (hsz : H1.size ≤ H.size) : qa_Rel D cs o b h' U H1 := by
  have ha := qa_pos hR h2
  obtain ⟨r1, r2, r3, r4, r5, r6⟩ := hR
  have hb : H1[b]? = H[b]? := hS.2.1 b (by omega) (fun q => by unfold qa_Ar at q; omega)
  refine ⟨by rw [hn]; have := hS.1; omega, by rw [hn]; exact r2, ?_, ?_, by rw [hk]; exact r5, by rw [hk, hn]; exact r6⟩
  · rw [← qa_wl_set (h := h) (by rw [hn]) ha he (fun q hq => ⟨by rw [hk], ho q hq⟩), ← qa_ad_s (b := b) ha]
    exact hP
  · rw [hk, (ho 0 (by omega)).1]
    exact r4.kept hb
theorem qa_S_tr {H0 H H1 : Heap} {l1 l2 : List Loc} (h1 : va_S (qa_Ar o) H0 H l1) (h2 : va_S (qa_Ar o) H H1 l2) : va_S (qa_Ar o) H0 H1 l2 :=
  ⟨Nat.le_trans h1.1 h2.1, fun q g1 g2 => (h2.2.1 q (Nat.lt_of_lt_of_le g1 h1.1) g2).trans (h1.2.1 q g1 g2), h2.2.2⟩
theorem qa_S_rf {H0 H : Heap} {l1 : List Loc} (h1 : va_S (qa_Ar o) H0 H l1) : va_S (qa_Ar o) H H l1 := ⟨Nat.le_refl _, fun _ _ _ => rfl, h1.2.2⟩
theorem qa_s_gf {pc idx : Nat} {L : List qa_V} {M : List (Option Int64)} {S : List qa_V} {h : qa_H} {c' : qa_C} (hC : qa_At p s mm meth co args D cs o b n0 m) (hd : decode (qa_code m) pc = .ok (.getfield idx, 3))
    (ha : qa_gf (qa_own m) idx (pc + 3) L M S h = some (.inl c')) (hG : qa_G p l e R s mm args below meth co Q D cs o b n0 z0 m c') : qa_G p l e R s mm args below meth co Q D cs o b n0 z0 m (pc, L, M, S, h) := by
  obtain ⟨hx, hb, hr, hml, hown, hts, hlk, hini, hK, hTb, hbo, hsz, hn0⟩ := hC
  unfold qa_gf at ha
  split at ha
  · rename_i a S' k hf
    obtain ⟨f1, f2, f3⟩ := qa_fl_ok hf
    split at ha
    · rename_i hka
      intro H locs ls hR hL hS h1 h2
      have hw := qa_wl_q hR (by rw [hka]; simp only; omega) (by rw [hka]; simp only; omega) (qa_ent_o (cs := cs) (o := o) (b := b) (k := h.1 a) (f := h.2.1 a) (r := h.2.2.1 a) (by rw [hka]; exact f1))
      rw [hka] at hw
      have hv : ((List.range (qa_sz (qa_own m))).map (qa_fv o b (qa_own m) (h.2.1 a) (h.2.2.1 a)))[k]? = some (qa_fv o b (qa_own m) (h.2.1 a) (h.2.2.1 a) k) := by
        rw [List.getElem?_map, List.getElem?_range f2]; rfl
      refine va_get (rest := S'.map (qa_tv o b)) hx hb (C := qa_on (qa_own m)) (T := qa_T (qa_fs.getD (qa_own m) [])) (N := qa_sz (qa_own m)) hts (qa_cl_in f1) hown hK hR.2.2.1 (a - 1) hw (qa_cl_at _ f1) k f2 (hts _ f3) (fun x hq => ?_) hv hd ?_
      · rw [qa_de_ok _ f1 k f2] at hq; exact hq
      · split at ha
        · rename_i hki
          rw [qa_nx_eq ha] at hG
          unfold qa_fv
          rw [if_pos hki]
          exact hG H locs ls hR hL hS h1 h2
        · rename_i hki
          rw [qa_nx_eq ha] at hG
          unfold qa_fv
          rw [if_neg hki]
          exact hG H locs ls hR hL hS h1 h2
    · cases ha
  · cases ha
end QS
