/-! One step, the end: copying, calls, returns; then every method at once. -/
theorem qa_tb_s {U V : State} (hvm : U.vm = V.vm) (h : qa_Tb U) : qa_Tb V := ⟨fun q hq hk => va_Nw.same rfl hvm (h.1 q hq hk), va_AO.moved (by rw [hvm]; exact Vm.Alike.refl _) h.2.1, va_AO.moved (by rw [hvm]; exact Vm.Alike.refl _) h.2.2.1, va_AO.moved (by rw [hvm]; exact Vm.Alike.refl _) h.2.2.2⟩
theorem qa_tb_w {U V : State} (hW : U.WarmedH V.vm) (h : qa_Tb U) : qa_Tb V := ⟨fun q hq hk => va_Nw.warmM hW (h.1 q hq hk), va_AO.moved hW.alike h.2.1, va_AO.moved hW.alike h.2.2.1, va_AO.moved hW.alike h.2.2.2⟩
def qa_Qe (D : va_G) (cs : Nat → ClassId) (o b : Nat) (r : Option qa_V) (h' : qa_H) : Array Value → State → Outcome → State → Prop := fun _ st oc t => (oc = .returned (r.map (qa_tv o b)) ∧ qa_Rel D cs o b h' t t.heap) ∧ va_F (qa_Ar o) st t
def qa_Pe (D : va_G) (cs : Nat → ClassId) (o b : Nat) (as : List qa_V) (h : qa_H) : Array Value → State → Prop := va_Pc (as.map (qa_tv o b)) (fun U => qa_Rel D cs o b h U U.heap ∧ va_K D qa_cl (qa_tys cs) U ∧ qa_Tb U)
/-- what is proved of a method, at these arguments, over this heap -/
def qa_Ct (l : Launch) (D : va_G) (cs : Nat → ClassId) (o b d m : Nat) (as : List qa_V) (h : qa_H) (r : Option qa_V) (h' : qa_H) : Prop :=
  Met l (qa_mt m).2.1 (.code (qa_mt m).2.1 (qa_code m) (qa_mt m).2.2.2.1 (qa_mt m).2.2.2.2.1 :: qa_tb) { frames := d, cells := h'.2.2.2.1 - h.2.2.2.1, slots := h'.2.2.2.2 - h.2.2.2.2, locals := 80 * d } (qa_Pe D cs o b as h) (qa_Qe D cs o b r h') (h'.2.2.2.1 - h.2.2.2.1) (h'.2.2.2.2 - h.2.2.2.2) (qa_Ar o)
theorem qa_Rel_vm {D : va_G} {cs : Nat → ClassId} {o b : Nat} {h : qa_H} {U V : State} {H : Heap} (hvm : U.vm.Alike V.vm) (hR : qa_Rel D cs o b h U H) : qa_Rel D cs o b h V H := ⟨hR.1, hR.2.1, hR.2.2.1, hR.2.2.2.1.moved hvm, hR.2.2.2.2⟩
theorem qa_Pe_bl {D : va_G} {cs : Nat → ClassId} {o b : Nat} {as : List qa_V} {h : qa_H} : FrameBlind (qa_Pe D cs o b as h) := fun a U g mk q => by
  obtain ⟨e, hR, hK, hT⟩ := q
  exact ⟨e, qa_Rel_vm (U := U) (Vm.Alike.refl U.vm) hR, va_K.moved (u := U) (U := U.calling g mk a) (Vm.Alike.refl U.vm) hK, qa_tb_s (U := U) rfl hT⟩
theorem qa_m_in {c : Nat} (hc : c < qa_law) : qa_mt c ∈ qa_ms.take qa_law ∧ qa_mt c ∈ qa_ms := by
  have hl : qa_law < qa_ms.length := by decide +kernel
  have h0 : c < qa_ms.length := Nat.lt_trans hc hl
  have h1 : qa_ms[c]? = some (qa_mt c) := by
    unfold qa_mt
    rw [List.getD_eq_getElem?_getD, List.getElem?_eq_getElem h0]
    rfl
  refine ⟨List.mem_of_getElem? (i := c) ?_, List.mem_of_getElem? h1⟩
  rw [List.getElem?_take, if_pos hc]
  exact h1
theorem qa_m_code {c : Nat} (hc : c < qa_law) : (Jvm.Cond.code (qa_mt c).2.1 (qa_code c) (qa_mt c).2.2.2.1 (qa_mt c).2.2.2.2.1) ∈ qa_tb := qa_in (qa_mc_ok _ (qa_m_in hc).1) rfl
theorem qa_m_ini {c : Nat} (hc : c < qa_law) : (Jvm.Cond.initialized (qa_mt c).2.1.cls) ∈ qa_tb := by
  have h := qa_mw_ok _ (qa_m_in hc).1
  unfold qa_mw at h
  simp only [Bool.and_eq_true, decide_eq_true_eq] at h
  exact qa_in h.2 rfl
theorem qa_m_sel {c : Nat} (hc : c < qa_law) (hk : (qa_mt c).2.2.2.2.2.2.1 = 1) : (Jvm.Cond.selects (qa_mt c).2.1.cls (qa_mt c).2.1 (qa_mt c).2.1) ∈ qa_tb := by
  have h := qa_mw_ok _ (qa_m_in hc).1
  unfold qa_mw at h
  simp only [Bool.and_eq_true, if_pos hk, decide_eq_true_eq] at h
  exact qa_in h.1.2 rfl
theorem qa_m_sta {c : Nat} (hc : c < qa_law) (hk : (qa_mt c).2.2.2.2.2.2.1 = 0) : (Jvm.Cond.static (qa_mt c).2.1) ∈ qa_tb := by
  have h := qa_mw_ok _ (qa_m_in hc).1
  unfold qa_mw at h
  simp only [Bool.and_eq_true, if_pos hk, decide_eq_true_eq] at h
  exact qa_in h.1.1 rfl
theorem qa_m_ins {c : Nat} (hc : c < qa_law) (hk : (qa_mt c).2.2.2.2.2.2.1 ≠ 0) : (Jvm.Cond.instanceMethod (qa_mt c).2.1) ∈ qa_tb := by
  have h := qa_mw_ok _ (qa_m_in hc).1
  unfold qa_mw at h
  simp only [Bool.and_eq_true, if_neg hk, decide_eq_true_eq] at h
  exact qa_in h.1.1 rfl
theorem qa_ml_ok {own idx kd c : Nat} (h : qa_ml own idx = some (kd, c)) : c < qa_law ∧ (kd < 3 → (qa_mt c).2.2.2.2.2.2.1 = kd) ∧ (kd = 3 → (qa_mt c).2.2.2.2.2.2.1 = 2) ∧ (kd < 3 → (Jvm.Cond.methodLink (qa_on own) idx (qa_mt c).2.1) ∈ qa_tb) ∧ (kd = 4 → (Jvm.Cond.methodLink (qa_on own) idx objectInit) ∈ qa_tb) ∧ (kd = 5 → (Jvm.Cond.methodLink (qa_on own) idx arraycopyName) ∈ qa_tb) ∧ (kd = 3 → ∀ U, qa_Tb U → va_Nw (.methodLinkNest (qa_on own) idx (qa_mt c).2.1 "LearningAdvisor") U) := by
  unfold qa_ml at h
  cases hf : qa_mls.find? (fun q => q.1 == own && q.2.1 == idx) with
  | none => rw [hf] at h; cases h
  | some q =>
    rw [hf] at h
    have hk := Option.some.inj h
    have hp := List.find?_some hf
    simp only [Bool.and_eq_true, beq_iff_eq] at hp
    have hin := List.mem_of_find?_eq_some hf
    obtain ⟨g1, g2, g3, g4⟩ := qa_mls_ok q hin
    obtain ⟨e1, e2⟩ := hp
    obtain ⟨e3, e4⟩ := Prod.mk.inj hk
    rw [← e1, ← e2, ← e3, ← e4]
    refine ⟨g2, g3, g4, fun hk => ?_, fun hk => ?_, fun hk => ?_, fun hk U hU => hU.1 q hin hk⟩
    · unfold qa_mlw at g1
      split at g1
      · omega
      · omega
      · omega
      · exact qa_in g1 rfl
    · unfold qa_mlw at g1
      rw [hk] at g1
      exact qa_in g1 rfl
    · unfold qa_mlw at g1
      rw [hk] at g1
      exact qa_in g1 rfl
section QU
variable {p : Program} {l : Launch} {e : Env} {R : Room} {s : State} {mm : MethodId} {args : Array Value} {below : List Frame} {meth : Method} {co : Code} {Q : State → Prop} {D : va_G} {cs : Nat → ClassId} {o b n0 z0 m : Nat}
theorem qa_s_acp {pc idx : Nat} {L : List qa_V} {M : List (Option Int64)} {S : List qa_V} {h : qa_H} {c' : qa_C} (hC : qa_At p s mm meth co args D cs o b n0 m) (hd : decode (qa_code m) pc = .ok (.invokestatic idx, 3)) (hl : (Jvm.Cond.methodLink (qa_on (qa_own m)) idx arraycopyName) ∈ qa_tb)
    (hrf : 1 ≤ R.frames) (hrl : 80 ≤ R.locals) (ha : qa_acp (pc + 3) L M S h = some (.inl c')) (hG : qa_G p l e R s mm args below meth co Q D cs o b n0 z0 m c') : qa_G p l e R s mm args below meth co Q D cs o b n0 z0 m (pc, L, M, S, h) := by
  obtain ⟨hx, hb, hr, hml, hown, hts, hlk, hini, hK, hTb, hbo, hsz, hn0⟩ := hC
  unfold qa_acp at ha
  split at ha
  · rename_i n dp d sp a S'
    split at ha
    · rename_i hc
      obtain ⟨⟨k1, k2⟩, ⟨i1, i2, i3⟩, i4, i5, i6⟩ := hc
      rw [qa_nx_eq ha] at hG
      intro H locs ls hR hL hS h1 h2
      dsimp only at hR hL h1 h2 ⊢
      have hw1 := qa_wl_q hR (by omega) (by omega) (qa_ent_i (cs := cs) (o := o) (b := b) (f := h.2.1 a) (r := h.2.2.1 a) k1)
      have hw2 := qa_wl_q hR (by omega) (by omega) (qa_ent_i (cs := cs) (o := o) (b := b) (f := h.2.1 d) (r := h.2.2.1 d) k2)
      have hnf : nativeFrameWords "java/lang/System" "arraycopy" 5 = 7 := by decide
      refine va_copyi (A := qa_Ar o) (H0 := H) (rest := S'.map (qa_tv o b)) hx hb (by rw [hml]; exact hL.2.1.symm) hown (hts _ hl) (hts _ (List.mem_filter.mpr ⟨qa_w_ac1, rfl⟩)) (hts _ (List.mem_filter.mpr ⟨qa_w_ac2, rfl⟩)) (hts _ (List.mem_filter.mpr ⟨qa_w_ac3, rfl⟩)) hK hR.2.2.1 qa_wl_D (qa_S_rf hS) (a - 1) (d - 1) 0 0 hw1 hw2 rfl rfl (by decide) i1 i2 i3 i4 i5 (fun _ _ => rfl) hrf (by rw [hnf, qa_sum_tv]; omega) hd (fun H1 locs1 hP1 hD1 hS1 => ?_)
      refine qa_Wsz fun hb1 => ?_
      refine hG H1 locs1 ls (qa_Rel_set hR hbo (by omega) (by omega) rfl rfl ?_ (fun q hq => ⟨qa_up_n _ _ hq, rfl⟩) hP1 hS1 (by have := hR.1; omega)) hL (qa_S_tr hS hS1) h1 h2
      simp only [qa_up_s]
      exact qa_ent_i k2
    · cases ha
  · cases ha
/-- behind a call -/
theorem qa_callX {pc mc ms : Nat} {ls : Array Slot} {st0 rest : List Value} {H : Heap} {locs : List Loc} {cells slots : Nat} {a : Array Value} {r : Option qa_V} {h' : qa_H} (hr : va_Run p l e R s mm args below meth co H locs cells slots mc ms (F0 mm pc ls st0) rest (qa_Qe D cs o b r h' a) (qa_Ar o)) (hS : va_S (qa_Ar o) s.heap H locs)
    (kk : ∀ (H1 : Heap) (locs1 : List Loc), qa_Rel D cs o b h' s H1 → va_S (qa_Ar o) s.heap H1 locs1 → W p l e R s mm args below meth co H1 locs1 (cells + mc) (slots + ms) Q (F0 mm (pc + 3) ls ((r.map (qa_tv o b)).toList ++ rest))) : W p l e R s mm args below meth co H locs cells slots Q (F0 mm pc ls st0) := by
  intro T hT X
  obtain ⟨v, st₀, t, T', L, h0, X', hL, e1, e2, ⟨⟨hv, hR1⟩, hz, hk⟩, st⟩ := hr T hT X
  cases hv
  rw [h0] at hz hk
  have hal : s.vm.Alike t.vm := by rw [← e2]; exact X'.warmed.alike
  obtain ⟨t2, a1, b1⟩ := kk T'.heap (locs ++ L) (by rw [e1]; exact qa_Rel_vm hal.symm hR1)
    ⟨Nat.le_trans hS.1 (by rw [e1]; exact hz), fun q h1 h2 => by rw [e1, hk q (Nat.lt_of_lt_of_le h1 hS.1) h2]; exact hS.2.1 q h1 h2, fun q hq => by
      rcases List.mem_append.mp hq with h | h
      · exact hS.2.2 q h
      · exact hL q h⟩ T' rfl X'
  exact ⟨t2, st t2 a1, b1⟩
theorem qa_gin2 {w : Cond} (hb : w ∈ qa_tb) : GoodIn qa_tb (w :: qa_tb) := fun v hv => by
  have h : v ∈ qa_tb := by
    rcases List.mem_cons.mp hv with rfl | h
    · exact hb
    · exact h
  exact ⟨h, good_of_word (List.mem_filter.mp h).2⟩
theorem qa_s_cal {pc d kd kd0 c idx : Nat} {L : List qa_V} {M : List (Option Int64)} {S : List qa_V} {h h' : qa_H} {k : Nat} {as : List qa_V} {r : Option qa_V} {c' : qa_C} (hC : qa_At p s mm meth co args D cs o b n0 m) (hml : qa_ml (qa_own m) idx = some (kd, c)) (hkd : kd = kd0 ∨ (kd = 3 ∧ kd0 = 2)) (hd : decode (qa_code m) pc = .ok (if kd0 = 0 then .invokestatic idx else if kd0 = 1 then .invokevirtual idx else .invokespecial idx, 3))
    (hkl : kd0 < 3) (ha : qa_cal kd c (pc + 3) L M S h = some (.inr (.inr (k, as, c')))) (hct : qa_Ct l D cs o b d k as c'.2.2.2.2 r h') (hm1 : h.2.2.2.1 ≤ h'.2.2.2.1) (hm2 : h.2.2.2.2 ≤ h'.2.2.2.2) (hrf : d + 1 ≤ R.frames) (hrl : 80 * (d + 1) ≤ R.locals) (hrm : h'.2.2.2.1 - n0 ≤ R.cells ∧ h'.2.2.2.2 - z0 ≤ R.slots)
    (hG : qa_G p l e R s mm args below meth co Q D cs o b n0 z0 m (qa_push (r, h') c')) : qa_G p l e R s mm args below meth co Q D cs o b n0 z0 m (pc, L, M, S, h) := by
  obtain ⟨hx, hb, hr, hmlo, hown, hts, hlk, hini, hK, hTb, hbo, hsz, hn0⟩ := hC
  obtain ⟨m1, m2, m3, m4, -, -, m7⟩ := qa_ml_ok hml
  obtain ⟨i1, i2⟩ := qa_m_in m1
  unfold qa_cal at ha
  split at ha
  · rename_i hcd
    obtain ⟨c1, c2, c3, c4⟩ := hcd
    obtain ⟨rfl, hb2⟩ := Prod.mk.inj (Sum.inr.inj (Sum.inr.inj (Option.some.inj ha)))
    obtain ⟨rfl, rfl⟩ := Prod.mk.inj hb2
    clear ha hb2
    have hdm := qa_md2 _ i2
    have hmx := qa_md1 _ i2
    have hcl := qa_md8 _ i2
    have hn1 := qa_md4 _ i2
    intro H locs ls hR hL hS h1 h2
    dsimp only at hR hL h1 h2 ⊢
    dsimp only [qa_push] at hG
    have hRl : 8 + ((qa_mt c).2.2.2.1 + 11) + 80 * d ≤ R.locals := by omega
    have hfit : h.2.2.2.1 - n0 + (h'.2.2.2.1 - h.2.2.2.1) ≤ R.cells ∧ h.2.2.2.2 - z0 + (h'.2.2.2.2 - h.2.2.2.2) ≤ R.slots := ⟨by omega, by omega⟩
    have hsum : (((S.drop (qa_mt c).2.2.2.2.2.1).map (qa_tv o b)).map fun v => v.category).sum ≤ 8 := by rw [qa_sum_tv]; exact c2
    have hP : ∀ (As : List Value), ((S.take (qa_mt c).2.2.2.2.2.1).reverse).map (qa_tv o b) = As → ∀ U : State, U.heap = H → s.WarmedH U.vm → qa_Pe D cs o b (S.take (qa_mt c).2.2.2.2.2.1).reverse h As.toArray U := by
      intro As hAs U hU hW
      exact ⟨by rw [hAs], by rw [hU]; exact qa_Rel_vm hW.alike hR, va_K.moved hW.alike hK, qa_tb_w hW hTb⟩
    have fin : ∀ {a : Array Value}, va_Run p l e R s mm args below meth co H locs (h.2.2.2.1 - n0) (h.2.2.2.2 - z0) (h'.2.2.2.1 - h.2.2.2.1) (h'.2.2.2.2 - h.2.2.2.2) (F0 mm pc ls (S.map (qa_tv o b))) ((S.drop (qa_mt c).2.2.2.2.2.1).map (qa_tv o b)) (qa_Qe D cs o b r h' a) (qa_Ar o) → W p l e R s mm args below meth co H locs (h.2.2.2.1 - n0) (h.2.2.2.2 - z0) Q (F0 mm pc ls (S.map (qa_tv o b))) := by
      intro a hrun
      refine qa_callX hrun hS (fun H1 locs1 hR1 hS1 => ?_)
      have w := hG H1 locs1 ls hR1 hL hS1 (by dsimp only; omega) (by dsimp only; omega)
      dsimp only at w
      rw [show h.2.2.2.1 - n0 + (h'.2.2.2.1 - h.2.2.2.1) = h'.2.2.2.1 - n0 by omega, show h.2.2.2.2 - z0 + (h'.2.2.2.2 - h.2.2.2.2) = h'.2.2.2.2 - z0 by omega]
      have hst : (r.toList ++ S.drop (qa_mt c).2.2.2.2.2.1).map (qa_tv o b) = (r.map (qa_tv o b)).toList ++ (S.drop (qa_mt c).2.2.2.2.2.1).map (qa_tv o b) := by
        rw [List.map_append]
        cases r <;> rfl
      rw [hst] at w
      exact w
    have hS0 : S.map (qa_tv o b) = ((S.take (qa_mt c).2.2.2.2.2.1).reverse.map (qa_tv o b)).reverse ++ (S.drop (qa_mt c).2.2.2.2.2.1).map (qa_tv o b) := by
      rw [List.map_reverse, List.reverse_reverse, ← List.map_append, List.take_append_drop]
    have hlen : ((S.take (qa_mt c).2.2.2.2.2.1).reverse.map (qa_tv o b)).length = (qa_mt c).2.2.2.2.2.1 := by
      simp only [List.length_map, List.length_reverse, List.length_take]
      omega
    have hFix : CallFix p mm co (qa_code m) (qa_mt m).2.2.2.1 s args qa_tb (qa_on (qa_own m)) := ⟨hx, hb, hmlo, hown, hts⟩
    by_cases hk0 : kd0 = 0
    · subst hk0
      have hkd' : kd = 0 := by rcases hkd with q | ⟨-, q⟩; exact q; omega
      subst hkd'
      have hk := m2 (by omega)
      rw [if_pos hk] at hdm
      rw [if_pos rfl] at hd
      refine fin (a := ((S.take (qa_mt c).2.2.2.2.2.1).reverse.map (qa_tv o b)).toArray) (va_runS (As := (S.take (qa_mt c).2.2.2.2.2.1).reverse.map (qa_tv o b)) (n := (qa_mt c).2.2.2.2.2.1) hFix hct ⟨callB_of _ hts (qa_gin2 (qa_m_code m1)) rfl rfl rfl (hts _ (qa_m_ini m1)) (hts _ (m4 (by omega))) ⟨hcl.1, hcl.2.1, hdm⟩ ⟨hrf, hRl⟩, hts _ (qa_m_sta m1 hk)⟩ ⟨qa_Pe_bl, hP _ rfl⟩ rfl hlen hL.2.1 hS0 (lv_room hsum) hd hfit)
    · have hkn : (qa_mt c).2.2.2.2.2.2.1 ≠ 0 := by
        rcases hkd with q | ⟨q, -⟩
        · rw [m2 (by omega)]; omega
        · rw [m3 q]; omega
      have hkd0 : kd ≠ 0 := by rcases hkd with q | ⟨q, -⟩ <;> omega
      obtain ⟨a, tl, hsp⟩ : ∃ (a : Nat) (tl : List qa_V), (S.take (qa_mt c).2.2.2.2.2.1).reverse = qa_a (some a) :: tl := by
        unfold qa_rv at c4
        split at c4
        · rename_i a tl hq
          exact ⟨a, tl, hq⟩
        · rw [beq_iff_eq] at c4
          exact absurd c4 hkd0
      have hap : (h.1 a).1 ≠ 99 → 1 ≤ a := fun q => qa_pos hR q
      have hAs : (S.take (qa_mt c).2.2.2.2.2.1).reverse.map (qa_tv o b) = .ref (qa_ad o b a) :: tl.map (qa_tv o b) := by rw [hsp]; rfl
      rw [hAs] at hS0 hlen
      have hS1 : S.map (qa_tv o b) = (tl.map (qa_tv o b)).reverse ++ .ref (qa_ad o b a) :: (S.drop (qa_mt c).2.2.2.2.2.1).map (qa_tv o b) := by
        rw [hS0]
        simp
      have hln : (tl.map (qa_tv o b)).length = (qa_mt c).2.2.2.2.2.1 - 1 := by
        simp only [List.length_cons] at hlen
        omega
      rw [if_neg hkn] at hdm
      have hcar := hn1.resolve_left hkn
      by_cases hk1 : kd0 = 1
      · subst hk1
        have hkd' : kd = 1 := by rcases hkd with q | ⟨-, q⟩; exact q; omega
        subst hkd'
        rw [if_neg (by omega), if_pos rfl] at hd
        have hk := m2 (by omega)
        rw [hsp] at c4
        have hka : h.1 a = (qa_own c, 0) := by
          unfold qa_rv at c4
          simp at c4
          exact c4
        have hoc : qa_own c < 12 := hcar.2
        have hw := qa_wl_q hR (by rw [hka]; simp only; omega) (by rw [hka]; simp only; omega) (qa_ent_o (cs := cs) (o := o) (b := b) (k := h.1 a) (f := h.2.1 a) (r := h.2.2.1 a) (by rw [hka]; exact hoc))
        rw [hka] at hw
        have hrec := va_recv hK hR.2.2.1 (qa_cl_at _ hoc) hw
        have hcls : (qa_mt c).2.1.cls = qa_on (qa_own c) := qa_md0 _ i2
        refine fin (a := (Value.ref (qa_ad o b a) :: tl.map (qa_tv o b)).toArray) (va_runV (C := (qa_mt c).2.1.cls) (b := qa_ad o b a) (As := tl.map (qa_tv o b)) (n := (qa_mt c).2.2.2.2.2.1 - 1) hFix hct ⟨callB_of _ hts (qa_gin2 (qa_m_code m1)) rfl rfl rfl (hts _ (qa_m_ini m1)) (hts _ (m4 (by omega))) ⟨hcl.1, hcl.2.1, hdm⟩ ⟨hrf, hRl⟩, hts _ (qa_m_ins m1 hkn), hts _ (qa_m_sel m1 hk)⟩ ⟨qa_Pe_bl, by rw [hcls]; exact hrec, hP _ hAs⟩ rfl hln hL.2.1 hS1 (lv_room hsum) hd hfit)
      · have hk2 : kd0 = 2 := by omega
        subst hk2
        rw [if_neg (by omega), if_neg (by omega)] at hd
        have hk : (qa_mt c).2.2.2.2.2.2.1 = 2 := by
          rcases hkd with q | ⟨q, -⟩
          · rw [m2 (by omega)]; exact q
          · exact m3 q
        have hret := qa_md6 _ i2 hk
        have hnm := (qa_md5 _ i2).mpr hk
        have hcode := qa_m_code m1
        have hctx := hct
        unfold qa_Ct at hctx
        rw [hret] at hctx hcode
        rcases hkd with q | ⟨q, -⟩
        · exact fin (a := (Value.ref (qa_ad o b a) :: tl.map (qa_tv o b)).toArray) (va_runI (b := qa_ad o b a) (As := tl.map (qa_tv o b)) (n := (qa_mt c).2.2.2.2.2.1 - 1) hFix hctx ⟨callB_of _ hts (qa_gin2 hcode) rfl rfl rfl (hts _ (qa_m_ini m1)) (hts _ (m4 (by omega))) ⟨hcl.1, hcl.2.1, hdm⟩ ⟨hrf, hRl⟩, hnm, hts _ (qa_m_ins m1 hkn)⟩ ⟨qa_Pe_bl, hP _ hAs⟩ rfl hln hL.2.1 hS1 (lv_room hsum) hd hfit)
        · exact fin (a := (Value.ref (qa_ad o b a) :: tl.map (qa_tv o b)).toArray) (va_runIN (host := "LearningAdvisor") (b := qa_ad o b a) (As := tl.map (qa_tv o b)) (n := (qa_mt c).2.2.2.2.2.1 - 1) hFix hctx ⟨va_cnB _ hts (qa_gin2 hcode) rfl rfl rfl (m7 q s hTb) (hts _ (qa_m_ini m1)) ⟨hcl.1, hcl.2.1, hdm⟩ ⟨hrf, hRl⟩, hnm, hts _ (qa_m_ins m1 hkn)⟩ ⟨qa_Pe_bl, hP _ hAs⟩ rfl hln hL.2.1 hS1 (lv_room hsum) hd hfit)
  · cases ha
end QU
