/-! One step of the small machine is one of the machine. -/
def qa_Tb (U : State) : Prop := (∀ q ∈ qa_mls, q.2.2.1 = 3 → va_Nw (.methodLinkNest (qa_on q.1) q.2.1 (qa_mt q.2.2.2.1).2.1 "LearningAdvisor") U) ∧ va_AO "LearningAdvisor$SkillState" U ∧ va_AO "LearningAdvisor$Progress" U ∧ va_AO "LearningAdvisor$Expression" U
def qa_At (p : Program) (s : State) (mm : MethodId) (meth : Method) (co : Code) (args : Array Value) (D : va_G) (cs : Nat → ClassId) (o b n0 m : Nat) : Prop :=
  p.tables.exec = Jvm.exec ∧ co.code = qa_code m ∧ meth.sig.returnType = (qa_mt m).2.2.2.2.1 ∧ co.maxLocals = (qa_mt m).2.2.2.1 ∧ s.vm.findClass (qa_on (qa_own m)) = some mm.cls ∧ (∀ w ∈ qa_tb, w.before args s = true) ∧ meth.locks = false ∧ ((qa_mt m).2.2.2.2.2.2.1 = 2 → meth.name = "<init>") ∧ va_K D qa_cl (qa_tys cs) s ∧ qa_Tb s ∧ b ≤ o ∧ s.heap.size = o + n0 ∧ 1 ≤ n0
def qa_G (p : Program) (l : Launch) (e : Env) (R : Room) (s : State) (mm : MethodId) (args : Array Value) (below : List Frame) (meth : Method) (co : Code) (Q : State → Prop) (D : va_G) (cs : Nat → ClassId) (o b n0 z0 m : Nat) (c : qa_C) : Prop :=
  ∀ (H : Heap) (locs : List Loc) (ls : Array Slot), qa_Rel D cs o b c.2.2.2.2 s H → qa_Lc o b (qa_mt m).2.2.2.1 c.2.1 c.2.2.1 ls → va_S (qa_Ar o) s.heap H locs → n0 ≤ c.2.2.2.2.2.2.2.1 → z0 ≤ c.2.2.2.2.2.2.2.2 →
    W p l e R s mm args below meth co H locs (c.2.2.2.2.2.2.2.1 - n0) (c.2.2.2.2.2.2.2.2 - z0) Q (F0 mm c.1 ls (c.2.2.2.1.map (qa_tv o b)))
theorem qa_nx_eq {pc : Nat} {L : List qa_V} {M : List (Option Int64)} {S : List qa_V} {h : qa_H} {c : qa_C} (h1 : qa_nx pc L M S h = some (.inl c)) : c = (pc, L, M, S, h) := (Sum.inl.inj (Option.some.inj h1)).symm
theorem qa_tg_eq {pc t : Nat} {off : Int} (h : qa_tg pc off = some t) : (pc : Int) + off = (t : Int) := by
  unfold qa_tg at h
  split at h
  · rename_i hp
    have h1 := Option.some.inj h
    rw [← h1]
    omega
  · cases h
theorem qa_jp_eq {x : Option Nat} {L : List qa_V} {M : List (Option Int64)} {S : List qa_V} {h : qa_H} {c : qa_C} (h1 : qa_jp x L M S h = some (.inl c)) : ∃ t, x = some t ∧ c = (t, L, M, S, h) := by
  unfold qa_jp at h1
  split at h1
  · exact ⟨_, rfl, qa_nx_eq h1⟩
  · cases h1
section QS
variable {p : Program} {l : Launch} {e : Env} {R : Room} {s : State} {mm : MethodId} {args : Array Value} {below : List Frame} {meth : Method} {co : Code} {Q : State → Prop} {D : va_G} {cs : Nat → ClassId} {o b n0 z0 m : Nat}
theorem qa_Wsz {H : Heap} {locs : List Loc} {cells slots : Nat} {g : JFrame} (kk : H.size ≤ s.heap.size + cells → W p l e R s mm args below meth co H locs cells slots Q g) : W p l e R s mm args below meth co H locs cells slots Q g := fun T hT X => kk (by rw [← hT]; exact X.heapSize) T hT X
theorem qa_s_ldi {pc pc' i : Nat} {L : List qa_V} {M : List (Option Int64)} {S : List qa_V} {h : qa_H} {c' : qa_C} (hk : ∀ {x : Int32} {H : Heap} {locs : List Loc} {cells slots : Nat} {ls : Array Slot} {rest : List Value}, ls[i]? = some (.val (.int x)) → W p l e R s mm args below meth co H locs cells slots Q (F0 mm pc' ls (.int x :: rest)) → W p l e R s mm args below meth co H locs cells slots Q (F0 mm pc ls rest))
    (ha : qa_ldi pc' i L M S h = some (.inl c')) (hG : qa_G p l e R s mm args below meth co Q D cs o b n0 z0 m c') : qa_G p l e R s mm args below meth co Q D cs o b n0 z0 m (pc, L, M, S, h) := by
  unfold qa_ldi at ha
  split at ha
  · rename_i x hx
    rw [qa_nx_eq ha] at hG
    intro H locs ls hR hL hS h1 h2
    exact hk (hL.2.2.2.1 _ _ hx rfl) (hG H locs ls hR hL hS h1 h2)
  · cases ha
theorem qa_s_lda {pc pc' i : Nat} {L : List qa_V} {M : List (Option Int64)} {S : List qa_V} {h : qa_H} {c' : qa_C} (hk : ∀ {x : Nat} {H : Heap} {locs : List Loc} {cells slots : Nat} {ls : Array Slot} {rest : List Value}, ls[i]? = some (.val (.ref x)) → W p l e R s mm args below meth co H locs cells slots Q (F0 mm pc' ls (.ref x :: rest)) → W p l e R s mm args below meth co H locs cells slots Q (F0 mm pc ls rest))
    (hk2 : ∀ {H : Heap} {locs : List Loc} {cells slots : Nat} {ls : Array Slot} {rest : List Value}, ls[i]? = some (.val .null) → W p l e R s mm args below meth co H locs cells slots Q (F0 mm pc' ls (.null :: rest)) → W p l e R s mm args below meth co H locs cells slots Q (F0 mm pc ls rest))
    (ha : qa_lda pc' i L M S h = some (.inl c')) (hG : qa_G p l e R s mm args below meth co Q D cs o b n0 z0 m c') : qa_G p l e R s mm args below meth co Q D cs o b n0 z0 m (pc, L, M, S, h) := by
  unfold qa_lda at ha
  split at ha
  · rename_i r hx
    rw [qa_nx_eq ha] at hG
    intro H locs ls hR hL hS h1 h2
    cases r with
    | none => exact hk2 (hL.2.2.2.1 _ _ hx rfl) (hG H locs ls hR hL hS h1 h2)
    | some a => exact hk (x := qa_ad o b a) (hL.2.2.2.1 _ _ hx rfl) (hG H locs ls hR hL hS h1 h2)
  · cases ha
theorem qa_s_ldl {pc pc' i : Nat} {L : List qa_V} {M : List (Option Int64)} {S : List qa_V} {h : qa_H} {c' : qa_C} (hk : ∀ {x : Int64} {H : Heap} {locs : List Loc} {cells slots : Nat} {ls : Array Slot} {rest : List Value}, ls[i]? = some (.val (.long x)) → W p l e R s mm args below meth co H locs cells slots Q (F0 mm pc' ls (.long x :: rest)) → W p l e R s mm args below meth co H locs cells slots Q (F0 mm pc ls rest))
    (ha : qa_ldl pc' i L M S h = some (.inl c')) (hG : qa_G p l e R s mm args below meth co Q D cs o b n0 z0 m c') : qa_G p l e R s mm args below meth co Q D cs o b n0 z0 m (pc, L, M, S, h) := by
  unfold qa_ldl at ha
  split at ha
  · rename_i x hx
    rw [qa_nx_eq ha] at hG
    intro H locs ls hR hL hS h1 h2
    exact hk (hL.2.2.2.2 _ _ hx) (hG H locs ls hR hL hS h1 h2)
  · cases ha
theorem qa_s_sti {pc pc' i : Nat} {L : List qa_V} {M : List (Option Int64)} {S : List qa_V} {h : qa_H} {c' : qa_C} (hk : ∀ {x : Int32} {H : Heap} {locs : List Loc} {cells slots nL : Nat} {ls : Array Slot} {rest : List Value} {lv : List (Nat × Value)}, lv_has ls nL lv → i < nL →
      (∀ ls' : Array Slot, lv_has ls' nL ((i, Value.int x) :: lv.filter (fun q => !(q.1 == i) && !(q.1 + 1 == i && q.2.category == 2))) → W p l e R s mm args below meth co H locs cells slots Q (F0 mm pc' ls' rest)) → W p l e R s mm args below meth co H locs cells slots Q (F0 mm pc ls (.int x :: rest)))
    (ha : qa_sti pc' i L M S h = some (.inl c')) (hG : qa_G p l e R s mm args below meth co Q D cs o b n0 z0 m c') : qa_G p l e R s mm args below meth co Q D cs o b n0 z0 m (pc, L, M, S, h) := by
  unfold qa_sti at ha
  split at ha
  · split at ha
    · rename_i x S' hc
      rw [qa_nx_eq ha] at hG
      intro H locs ls hR hL hS h1 h2
      exact hk (qa_Lc_has hL) (by rw [← hL.1]; exact hc.1) fun ls' hl => hG H locs ls' hR (qa_Lc_s1 (v := qa_i x) hL hc.1 hc.2 rfl hl) hS h1 h2
    · cases ha
  · cases ha
theorem qa_s_sta {pc pc' i : Nat} {L : List qa_V} {M : List (Option Int64)} {S : List qa_V} {h : qa_H} {c' : qa_C} (hk : ∀ {x : Nat} {H : Heap} {locs : List Loc} {cells slots nL : Nat} {ls : Array Slot} {rest : List Value} {lv : List (Nat × Value)}, lv_has ls nL lv → i < nL →
      (∀ ls' : Array Slot, lv_has ls' nL ((i, Value.ref x) :: lv.filter (fun q => !(q.1 == i) && !(q.1 + 1 == i && q.2.category == 2))) → W p l e R s mm args below meth co H locs cells slots Q (F0 mm pc' ls' rest)) → W p l e R s mm args below meth co H locs cells slots Q (F0 mm pc ls (.ref x :: rest)))
    (hk2 : ∀ {H : Heap} {locs : List Loc} {cells slots nL : Nat} {ls : Array Slot} {rest : List Value} {lv : List (Nat × Value)}, lv_has ls nL lv → i < nL →
      (∀ ls' : Array Slot, lv_has ls' nL ((i, Value.null) :: lv.filter (fun q => !(q.1 == i) && !(q.1 + 1 == i && q.2.category == 2))) → W p l e R s mm args below meth co H locs cells slots Q (F0 mm pc' ls' rest)) → W p l e R s mm args below meth co H locs cells slots Q (F0 mm pc ls (.null :: rest)))
    (ha : qa_sta pc' i L M S h = some (.inl c')) (hG : qa_G p l e R s mm args below meth co Q D cs o b n0 z0 m c') : qa_G p l e R s mm args below meth co Q D cs o b n0 z0 m (pc, L, M, S, h) := by
  unfold qa_sta at ha
  split at ha
  · split at ha
    · rename_i r S' hc
      rw [qa_nx_eq ha] at hG
      intro H locs ls hR hL hS h1 h2
      cases r with
      | none => exact hk2 (qa_Lc_has hL) (by rw [← hL.1]; exact hc.1) fun ls' hl => hG H locs ls' hR (qa_Lc_s1 (v := qa_a none) hL hc.1 hc.2 rfl hl) hS h1 h2
      | some a => exact hk (x := qa_ad o b a) (qa_Lc_has hL) (by rw [← hL.1]; exact hc.1) fun ls' hl => hG H locs ls' hR (qa_Lc_s1 (v := qa_a (some a)) hL hc.1 hc.2 rfl hl) hS h1 h2
    · cases ha
  · cases ha
theorem qa_s_stl {pc pc' i : Nat} {L : List qa_V} {M : List (Option Int64)} {S : List qa_V} {h : qa_H} {c' : qa_C} (hk : ∀ {x : Int64} {H : Heap} {locs : List Loc} {cells slots nL : Nat} {ls : Array Slot} {rest : List Value} {lv : List (Nat × Value)}, lv_has ls nL lv → i + 1 < nL →
      (∀ ls' : Array Slot, lv_has ls' nL ((i, Value.long x) :: lv.filter (fun q => !(q.1 == i) && (!(q.1 == i + 1) && !(q.1 + 1 == i && q.2.category == 2)))) → W p l e R s mm args below meth co H locs cells slots Q (F0 mm pc' ls' rest)) → W p l e R s mm args below meth co H locs cells slots Q (F0 mm pc ls (.long x :: rest)))
    (ha : qa_stl pc' i L M S h = some (.inl c')) (hG : qa_G p l e R s mm args below meth co Q D cs o b n0 z0 m c') : qa_G p l e R s mm args below meth co Q D cs o b n0 z0 m (pc, L, M, S, h) := by
  unfold qa_stl at ha
  split at ha
  · split at ha
    · rename_i x S' hc
      rw [qa_nx_eq ha] at hG
      intro H locs ls hR hL hS h1 h2
      exact hk (qa_Lc_has hL) (by rw [← hL.1]; exact hc.1) fun ls' hl => hG H locs ls' hR (qa_Lc_s2 hL hc.1 hc.2.1 hc.2.2 hl) hS h1 h2
    · cases ha
  · cases ha
theorem qa_s_b2 {f : Int32 → Int32 → Int32} {pc pc' : Nat} {L : List qa_V} {M : List (Option Int64)} {S : List qa_V} {h : qa_H} {c' : qa_C} (hk : ∀ {x y : Int32} {H : Heap} {locs : List Loc} {cells slots : Nat} {ls : Array Slot} {rest : List Value}, W p l e R s mm args below meth co H locs cells slots Q (F0 mm pc' ls (.int (f x y) :: rest)) → W p l e R s mm args below meth co H locs cells slots Q (F0 mm pc ls (.int y :: .int x :: rest)))
    (ha : qa_b2 f pc' L M S h = some (.inl c')) (hG : qa_G p l e R s mm args below meth co Q D cs o b n0 z0 m c') : qa_G p l e R s mm args below meth co Q D cs o b n0 z0 m (pc, L, M, S, h) := by
  unfold qa_b2 at ha
  split at ha
  · rw [qa_nx_eq ha] at hG
    intro H locs ls hR hL hS h1 h2
    exact hk (hG H locs ls hR hL hS h1 h2)
  · cases ha
theorem qa_s_d2 {f : Int32 → Int32 → Int32} {pc pc' : Nat} {L : List qa_V} {M : List (Option Int64)} {S : List qa_V} {h : qa_H} {c' : qa_C} (hk : ∀ {x y : Int32} {H : Heap} {locs : List Loc} {cells slots : Nat} {ls : Array Slot} {rest : List Value}, ¬ y = 0 → W p l e R s mm args below meth co H locs cells slots Q (F0 mm pc' ls (.int (f x y) :: rest)) → W p l e R s mm args below meth co H locs cells slots Q (F0 mm pc ls (.int y :: .int x :: rest)))
    (ha : qa_d2 f pc' L M S h = some (.inl c')) (hG : qa_G p l e R s mm args below meth co Q D cs o b n0 z0 m c') : qa_G p l e R s mm args below meth co Q D cs o b n0 z0 m (pc, L, M, S, h) := by
  unfold qa_d2 at ha
  split at ha
  · split at ha
    · cases ha
    · rename_i hy
      rw [qa_nx_eq ha] at hG
      intro H locs ls hR hL hS h1 h2
      exact hk hy (hG H locs ls hR hL hS h1 h2)
  · cases ha
theorem qa_s_l2 {f : Int64 → Int64 → Int64} {pc pc' : Nat} {L : List qa_V} {M : List (Option Int64)} {S : List qa_V} {h : qa_H} {c' : qa_C} (hk : ∀ {x y : Int64} {H : Heap} {locs : List Loc} {cells slots : Nat} {ls : Array Slot} {rest : List Value}, W p l e R s mm args below meth co H locs cells slots Q (F0 mm pc' ls (.long (f x y) :: rest)) → W p l e R s mm args below meth co H locs cells slots Q (F0 mm pc ls (.long y :: .long x :: rest)))
    (ha : qa_l2 f pc' L M S h = some (.inl c')) (hG : qa_G p l e R s mm args below meth co Q D cs o b n0 z0 m c') : qa_G p l e R s mm args below meth co Q D cs o b n0 z0 m (pc, L, M, S, h) := by
  unfold qa_l2 at ha
  split at ha
  · rw [qa_nx_eq ha] at hG
    intro H locs ls hR hL hS h1 h2
    exact hk (hG H locs ls hR hL hS h1 h2)
  · cases ha
theorem qa_s_k {pc pc' : Nat} {L : List qa_V} {M : List (Option Int64)} {S : List qa_V} {h : qa_H} {v : qa_V} {c' : qa_C} (hk : ∀ {H : Heap} {locs : List Loc} {cells slots : Nat} {ls : Array Slot} {rest : List Value}, W p l e R s mm args below meth co H locs cells slots Q (F0 mm pc' ls (qa_tv o b v :: rest)) → W p l e R s mm args below meth co H locs cells slots Q (F0 mm pc ls rest))
    (ha : qa_nx pc' L M (v :: S) h = some (.inl c')) (hG : qa_G p l e R s mm args below meth co Q D cs o b n0 z0 m c') : qa_G p l e R s mm args below meth co Q D cs o b n0 z0 m (pc, L, M, S, h) := by
  rw [qa_nx_eq ha] at hG
  intro H locs ls hR hL hS h1 h2
  exact hk (hG H locs ls hR hL hS h1 h2)
theorem qa_s_br {pc pc3 : Nat} {x : Option Nat} {P : Bool} {L : List qa_V} {M : List (Option Int64)} {S S' : List qa_V} {h : qa_H} {c' : qa_C} (hk : ∀ {H : Heap} {locs : List Loc} {cells slots : Nat} {ls : Array Slot} {rest : List Value}, (P = true → ∀ t, x = some t → W p l e R s mm args below meth co H locs cells slots Q (F0 mm t ls (S'.map (qa_tv o b)))) → (P = false → W p l e R s mm args below meth co H locs cells slots Q (F0 mm pc3 ls (S'.map (qa_tv o b)))) → W p l e R s mm args below meth co H locs cells slots Q (F0 mm pc ls (S.map (qa_tv o b)))) : True := trivial
end QS
