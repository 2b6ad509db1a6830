/-! THE CLAIM OUT OF ONE WALK OF THE LAW'S BODY. Your part is whole_start (and what it stands on); all else here is the same for every law, but numbers. -/
def R_law : String := "LearningAdvisorLaw"
def lw_P (b : Addr) (xs : List Int32) (args : Array Value) (s : State) : Prop := args = #[.ref b] ∧ s.IntsAt b xs ∧ xs.length ≤ 2560 ∧ (Jvm.Cond.and given_1 narrow_1).before args s = true
def lw_Q (_ : Array Value) (s : State) (o : Outcome) (t : State) : Prop := o = .returned (some (.int 1)) ∧ Framed s o t [] 600000 7302250
def lw_Z (below : List Frame) (a : Array Value) (s : State) : State → Prop := fun t => ∃ o, t.status = .running ∧ Ended t below o ∧ lw_Q a s o t
/-- the law's own end, with 1 on the stack, nothing written that was there before, its room as the claim has it -/
theorem lw_ret {p : Program} {l : Launch} {e : Env} {s : State} {m : MethodId} {below : List Frame} {meth : Method} {c : Code} {b : Nat} (hx : p.tables.exec = Jvm.exec) (hb : c.code = code) (hr : meth.sig.returnType = ret) (hlocks : meth.locks = false) {pc : Nat} {H : Heap} {ls : Array Slot} (hdg : decode code pc = .ok (.ireturn, 1)) : W p l e room_1 s m #[Value.ref b] below meth c H [] 600000 7302250 (lw_Z below #[Value.ref b] s) (F0 m pc ls [.int 1]) := by
  intro T hT X
  obtain ⟨fs, hret, hrun, hended, hW, hframe⟩ := X.leave (v := some (.int 1)) (hlocks := hlocks) (fun h => by rw [hr] at h; cases h)
  have hmeth' : T.vm.method? m = some meth := X.method'
  refine ⟨T.setFrames fs, ?_, .returned (some (.int 1)), hrun, hended, rfl, ⟨_, rfl⟩, hW, hframe⟩
  jvm_step X.here [X.here.top, hx, hb, hdg, hmeth', hr, ret, narrow_b1]
  (try refine ⟨rfl, ?_⟩); (try refine ⟨rfl, ?_⟩)
  first | (intro acts; rw [hret _ acts rfl rfl rfl]) | rw [hret _ _ rfl rfl rfl]
  exact Steps.refl _
/-- what holds at the law's entry: the machine, the code, the tables' words (any of lw_tbl by 'hts w (by decide +kernel)'), the script of L ints xs at the cell b, what the Statement gives of the start (any of its parts by flat_of_before) -/
def lw_At (p : Program) (s : State) (m : MethodId) (meth : Method) (c : Code) (b L : Nat) (xs : Nat → Int32) : Prop :=
  p.tables.exec = Jvm.exec ∧ c.code = code ∧ meth.sig.returnType = ret ∧ c.maxLocals = 4 ∧ s.vm.findClass R_law = some m.cls ∧ (∀ w ∈ lw_tbl, w.before #[Value.ref b] s = true) ∧ va_X b L xs s s.heap ∧ b < s.heap.size ∧ meth.locks = false ∧ (Jvm.Cond.and given_1 narrow_1).before #[Value.ref b] s = true
def qa_h0 (L : Nat) (xs : Nat → Int32) : qa_H := (fun a => if a = 0 then (99, L) else (77, 0), fun a => if a = 0 then xs else fun _ => 0, fun _ _ => none, 1, 0)
/-- the numbers of the classes, found once -/
theorem qa_K0 {s : State} {args : Array Value} (hts : ∀ w ∈ lw_tbl, w.before args s = true) : ∃ (D : va_G) (cs : Nat → ClassId), va_K D qa_cl (qa_tys cs) s := by
  have hk : ∀ i : Nat, ∃ (c : ClassId) (f : Nat → Nat), i < 12 → u_Kn s (qa_on i) (qa_T (qa_fs.getD i [])) (qa_fs.getD i []).length c f := by
    intro i
    by_cases hi : i < 12
    · obtain ⟨qi, hqi, hqe⟩ := qa_ins_at i hi
      obtain ⟨i1, i2, i3⟩ := qa_ins_ok qi hqi
      rw [hqe] at i1 i3
      obtain ⟨c, f, h⟩ := u_known (N := (qa_fs.getD i []).length) hts (fun w hw => (List.mem_filter.mp (qa_cl_in hi w hw)).1) (hts _ (List.mem_of_getElem? i1))
      exact ⟨c, f, fun _ => h⟩
    · exact ⟨0, fun _ => 0, fun h => absurd h hi⟩
  have har : ∀ C : String, (Jvm.Cond.arrayOver (.object C)) ∈ lw_tbl → ∃ c : ClassId, ArrOfT s c (.object C) ∧ va_RA s c (.object C) := by
    intro C hC
    obtain ⟨comp, c, k, h1, -, h3, h4, h5⟩ := Cond.arrayOver_spec (hts _ hC)
    exact ⟨c, fun N z => ⟨(fun k h => by cases h), k, h3, comp, h4⟩, k, comp, h3, h4, h1, h5⟩
  obtain ⟨c0, k0, comp0, a1, a2, a3⟩ := Cond.arrayClass_spec (hts _ qa_w_ar0)
  obtain ⟨c1, b1, b2⟩ := har _ qa_w_ar1
  obtain ⟨c2, d1, d2⟩ := har _ qa_w_ar2
  obtain ⟨c3, e1, e2⟩ := har _ qa_w_ar3
  refine ⟨(fun i => Classical.choose (hk i), fun i => Classical.choose (Classical.choose_spec (hk i))), fun i => if i = 0 then c0 else if i = 1 then c1 else if i = 2 then c2 else c3, fun i q hq => ?_, fun i q hq => ?_⟩
  · have hi : i < 12 := (List.getElem?_eq_some_iff.mp hq).1
    rw [qa_cl_at i hi] at hq
    cases hq
    exact Classical.choose_spec (Classical.choose_spec (hk i)) hi
  · match i, hq with
    | 0, hq => cases hq; exact ⟨fun N z => ⟨(fun k h => by cases h), k0, a2, comp0, a3⟩, a1⟩
    | 1, hq => cases hq; exact ⟨b1, b2⟩
    | 2, hq => cases hq; exact ⟨d1, d2⟩
    | 3, hq => cases hq; exact ⟨e1, e2⟩
    | i + 4, hq => simp [qa_tys] at hq
theorem qa_Tb0 {s : State} {args : Array Value} (hts : ∀ w ∈ lw_tbl, w.before args s = true) : qa_Tb s := by
  refine ⟨fun q hq hk => ?_, va_AO.of (hts _ qa_w_ar1), va_AO.of (hts _ qa_w_ar2), va_AO.of (hts _ qa_w_ar3)⟩
  obtain ⟨g1, -⟩ := qa_mls_ok q hq
  unfold qa_mlw at g1
  rw [hk] at g1
  exact va_Nw.of rfl (hts _ (List.mem_of_getElem? g1))
theorem qa_law_mt : qa_mt qa_law = (12, x, code, 4, ret, 1, 0, 0, []) := rfl
/-- the law, once the small machine has run it -/
theorem qa_start {p : Program} {e : Env} {s : State} {m : MethodId} {below : List Frame} {meth : Method} {c : Code} (l : Launch) {b L : Nat} {xs : Nat → Int32} (C0 : lw_At p s m meth c b L xs)
    (hrun : ∃ (d : Nat) (h' : qa_H), d < 1000 ∧ qa_ex (d + 1) qa_law [qa_a (some 0)] (qa_h0 L xs) = some (some (qa_i 1), h') ∧ h'.2.2.2.1 ≤ 600001 ∧ h'.2.2.2.2 ≤ 7302250) :
    W p l e room_1 s m #[Value.ref b] below meth c s.heap [] 0 0 (lw_Z below #[Value.ref b] s) (entryFrame m ([Value.ref b] : List Value).toArray 4) := by
  obtain ⟨hx, hb, hr, hml, hown, hts, hX, hbl, hlocks, hgv⟩ := id C0
  obtain ⟨d, h', hd, hex, hn, hz⟩ := hrun
  obtain ⟨D, cs, hK⟩ := qa_K0 hts
  obtain ⟨o, ho⟩ : ∃ o, s.heap.size = o + 1 := ⟨s.heap.size - 1, by omega⟩
  have hbo : b ≤ o := by omega
  have hC : qa_At p s m meth c #[Value.ref b] D cs o b 1 qa_law := ⟨hx, hb, hr, hml, hown, fun w hw => hts w (List.mem_filter.mp hw).1, hlocks, fun q => absurd q (by decide), hK, qa_Tb0 hts, hbo, ho, Nat.le_refl _⟩
  obtain ⟨hal, f, hf⟩ := qa_ex_loop hex
  have hR : qa_Rel D cs o b (qa_h0 L xs) s s.heap := by
    refine ⟨ho, Nat.le_refl _, fun k q hq => ?_, ?_, rfl, fun a ha => ?_⟩
    · simp [qa_wl, qa_h0] at hq
    · exact hX
    · show (if a = 0 then (99, L) else (77, 0) : Nat × Nat).1 = 77
      have ha : 1 ≤ a := ha
      rw [if_neg (by omega)]
  have G := qa_s_loop (p := p) (e := e) (R := room_1) (below := below) (z0 := 0) (qa_sound l D cs o b hbo d) hC (by show d + 1 ≤ 2048; omega) (by show 80 * (d + 1) ≤ 84000; omega) f _ _ hf ⟨by show _ ≤ 600000; dsimp only; omega, by show _ ≤ 7302250; dsimp only; omega⟩
  have w := G s.heap [] _ hR (qa_Lc_en (o := o) (b := b) (ml := (qa_mt qa_law).2.2.2.2.2.2.2.1) (nL := 4) (as := [qa_a (some 0)]) rfl (by decide)) va_S.rf (Nat.le_refl _) (Nat.le_refl _)
  rw [lg_entry_eq]
  intro T hT X
  obtain ⟨t, st, oc, h1, h2, h3, Ls, h4, h5⟩ := w T hT X
  refine ⟨t, st, oc, h1, h2, h3.1.1, h4.1, h4.2.1, ?_⟩
  refine h4.2.2.weaken (fun y hy hlt => ?_) (by dsimp only; omega) (by dsimp only; omega)
  have h6 : o + 1 ≤ y.base := h5 y hy
  exact absurd hlt (Nat.not_lt.mpr (by rw [ho]; exact h6))
