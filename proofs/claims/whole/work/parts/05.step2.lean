/-! One step, continued: stores, arrays, what is made. -/
theorem qa_map_set {N k : Nat} {F F' : Nat → Value} {v : Value} (hk : k < N) (h1 : F' k = v) (h2 : ∀ j, j ≠ k → F' j = F j) : ((List.range N).map F).set k v = (List.range N).map F' := by
  apply List.ext_getElem?
  intro j
  by_cases hj : j = k
  · subst hj
    rw [List.getElem?_set_self (by simpa using hk), List.getElem?_map, List.getElem?_range hk, ← h1]
    rfl
  · rw [List.getElem?_set_ne (Ne.symm hj), List.getElem?_map, List.getElem?_map]
    by_cases hjN : j < N
    · rw [List.getElem?_range hjN]
      simp only [Option.map_some]
      rw [h2 j hj]
    · rw [List.getElem?_eq_none (by simp; omega)]
      rfl
theorem qa_vpV {N j : Nat} {F : Nat → Value} (h : j < N) : vp_V ((List.range N).map F) j = F j := by
  unfold vp_V
  rw [List.getD_eq_getElem?_getD, List.getElem?_map, List.getElem?_range h]
  rfl
theorem qa_up_s {α : Type} (f : Nat → α) (k : Nat) (v : α) : va_up f k v k = v := if_pos rfl
theorem qa_up_n {α : Type} (f : Nat → α) {k j : Nat} (v : α) (h : j ≠ k) : va_up f k v j = f j := if_neg h
theorem qa_sz_cl {ci : Nat} : qa_sz ci = (qa_fs.getD ci []).length := rfl
section QT
variable {p : Program} {l : Launch} {e : Env} {R : Room} {s : State} {mm : MethodId} {args : Array Value} {below : List Frame} {meth : Method} {co : Code} {Q : State → Prop} {D : va_G} {cs : Nat → ClassId} {o b n0 z0 m : Nat}
theorem qa_s_pfc {pc idx k a : Nat} {L : List qa_V} {M : List (Option Int64)} {S : List qa_V} {h h' : qa_H} {v : qa_V} (hC : qa_At p s mm meth co args D cs o b n0 m) (hd : decode (qa_code m) pc = .ok (.putfield idx, 3)) (hf : qa_fl (qa_own m) idx = some k) (hka : h.1 a = (qa_own m, 0)) (hfin : qa_fin (qa_own m) k = false ∨ (qa_mt m).2.2.2.2.2.2.1 = 2)
    (hnar : narrow ((qa_ft.getD (qa_own m) []).getD k .int) (qa_tv o b v) = qa_tv o b v) (hfit : fits ((qa_ft.getD (qa_own m) []).getD k .int) (qa_tv o b v) = true) (hh : h'.1 = h.1) (hn : h'.2.2.2 = h.2.2.2) (ho : ∀ q, q ≠ a → h'.2.1 q = h.2.1 q ∧ h'.2.2.1 q = h.2.2.1 q)
    (hv : qa_fv o b (qa_own m) (h'.2.1 a) (h'.2.2.1 a) k = qa_tv o b v) (hv2 : ∀ j, j ≠ k → qa_fv o b (qa_own m) (h'.2.1 a) (h'.2.2.1 a) j = qa_fv o b (qa_own m) (h.2.1 a) (h.2.2.1 a) j)
    (hG : qa_G p l e R s mm args below meth co Q D cs o b n0 z0 m (pc + 3, L, M, S, h')) : qa_G p l e R s mm args below meth co Q D cs o b n0 z0 m (pc, L, M, v :: qa_a (some a) :: S, h) := by
  obtain ⟨hx, hb, hr, hml, hown, hts, hlk, hini, hK, hTb, hbo, hsz, hn0⟩ := hC
  obtain ⟨f1, f2, f3⟩ := qa_fl_ok hf
  intro H locs ls hR hL hS h1 h2
  dsimp only at hR hL h1 h2 ⊢
  have n77 : (h.1 a).1 ≠ 77 := by rw [hka]; simp only; omega
  have n99 : (h.1 a).1 ≠ 99 := by rw [hka]; simp only; omega
  have hw := qa_wl_q hR n77 n99 (qa_ent_o (cs := cs) (o := o) (b := b) (k := h.1 a) (f := h.2.1 a) (r := h.2.2.1 a) (by rw [hka]; exact f1))
  rw [hka] at hw
  have hlen : k < ((List.range (qa_sz (qa_own m))).map (qa_fv o b (qa_own m) (h.2.1 a) (h.2.2.1 a))).length := by simpa using f2
  have hset := qa_map_set (F := qa_fv o b (qa_own m) (h.2.1 a) (h.2.2.1 a)) (F' := qa_fv o b (qa_own m) (h'.2.1 a) (h'.2.2.1 a)) f2 hv hv2
  have hent : qa_ent cs o b (h'.1 a) (h'.2.1 a) (h'.2.2.1 a) = .inr (qa_own m, (List.range (qa_sz (qa_own m))).map (qa_fv o b (qa_own m) (h'.2.1 a) (h'.2.2.1 a))) := by
    rw [hh, hka]
    exact qa_ent_o f1
  have fin : ∀ (H1 : Heap) (locs1 : List Loc), va_P D qa_cl ((qa_wl cs o b h).set (a - 1) (qa_ad o b a, .inr (qa_own m, ((List.range (qa_sz (qa_own m))).map (qa_fv o b (qa_own m) (h.2.1 a) (h.2.2.1 a))).set k (qa_tv o b v)))) H1 → va_S (qa_Ar o) H H1 locs1 → W p l e R s mm args below meth co H1 locs1 (h.2.2.2.1 - n0) (h.2.2.2.2 - z0) Q (F0 mm (pc + 3) ls (S.map (qa_tv o b))) := by
    intro H1 locs1 hP1 hS1
    refine qa_Wsz fun hb1 => ?_
    rw [hset] at hP1
    have hR1 := qa_Rel_set hR hbo n77 n99 hh hn hent ho hP1 hS1 (by have := hR.1; omega)
    have w := hG H1 locs1 ls hR1 hL (qa_S_tr hS hS1)
    simp only [hn] at w
    exact w h1 h2
  by_cases hq : qa_fin (qa_own m) k = false
  · refine va_put (A := qa_Ar o) (H0 := H) (rest := S.map (qa_tv o b)) hx hb (C := qa_on (qa_own m)) (T := qa_T (qa_fs.getD (qa_own m) [])) (N := qa_sz (qa_own m)) hts (qa_cl_in f1) (fun k => (qa_ft.getD (qa_own m) []).getD k .int) (qa_ty_ok _ f1) (qa_nm_ok _ f1) hown hK hR.2.2.1 qa_wl_D (qa_S_rf hS) (a - 1) hw (qa_cl_at _ f1) k f2 (hts _ f3) (fun x hq => ?_) hq (qa_ty_ok _ f1 k f2) hnar hfit hlen hd (fun H1 locs1 hP1 hD1 hS1 => fin H1 locs1 hP1 hS1)
    rw [qa_de_ok _ f1 k f2] at hq; exact hq
  · have hq1 : qa_fin (qa_own m) k = true := by simpa using hq
    have hi2 := hfin.resolve_left hq
    refine va_putF (A := qa_Ar o) (H0 := H) (rest := S.map (qa_tv o b)) hx hb (C := qa_on (qa_own m)) (T := qa_T (qa_fs.getD (qa_own m) [])) (N := qa_sz (qa_own m)) hts (qa_cl_in f1) (fun k => (qa_ft.getD (qa_own m) []).getD k .int) (qa_ty_ok _ f1) (qa_nm_ok _ f1) hown hK hR.2.2.1 qa_wl_D (qa_S_rf hS) (a - 1) hw (qa_cl_at _ f1) k f2 (hts _ f3) (fun x hq => ?_) hq1 (hini hi2) (qa_de_ok _ f1 k f2) (qa_ty_ok _ f1 k f2) hnar hfit hlen hd (fun H1 locs1 hP1 hD1 hS1 => fin H1 locs1 hP1 hS1)
    rw [qa_de_ok _ f1 k f2] at hq; exact hq
theorem qa_s_pf {pc idx : Nat} {L : List qa_V} {M : List (Option Int64)} {S : List qa_V} {h : qa_H} {c' : qa_C} (hC : qa_At p s mm meth co args D cs o b n0 m) (hd : decode (qa_code m) pc = .ok (.putfield idx, 3))
    (ha : qa_pf ((qa_mt m).2.2.2.2.2.2.1 == 2) (qa_own m) idx (pc + 3) L M S h = some (.inl c')) (hG : qa_G p l e R s mm args below meth co Q D cs o b n0 z0 m c') : qa_G p l e R s mm args below meth co Q D cs o b n0 z0 m (pc, L, M, S, h) := by
  unfold qa_pf at ha
  split at ha
  · rename_i x a S' k hf
    obtain ⟨f1, f2, f3⟩ := qa_fl_ok hf
    split at ha
    · rename_i hc
      obtain ⟨hka, hfin, hki⟩ := hc
      rw [beq_iff_eq] at hfin
      rw [qa_nx_eq ha] at hG
      have hkt := qa_kd_ok _ f1 k f2
      have hk2 : qa_ki (qa_own m) k ≠ 2 := by rcases hki with q | q <;> omega
      refine qa_s_pfc (v := qa_i x) (h' := (h.1, va_up h.2.1 a (va_up (h.2.1 a) k x), h.2.2.1, h.2.2.2)) hC hd hf hka hfin ?_ ?_ rfl rfl (fun q hq => ⟨qa_up_n _ _ hq, rfl⟩) ?_ ?_ hG
      · rcases hkt with ⟨g1, g2⟩ | ⟨g1, g2⟩ | ⟨g1, g2⟩
        · rw [g2]; rfl
        · rw [g2]
          rcases hki with q | ⟨-, rfl | rfl⟩
          · exact absurd (q.symm.trans g1) (by decide)
          · rfl
          · rfl
        · exact absurd g1 hk2
      · rcases hkt with ⟨g1, g2⟩ | ⟨g1, g2⟩ | ⟨g1, g2⟩
        · rw [g2]; rfl
        · rw [g2]
          rcases hki with q | ⟨-, rfl | rfl⟩
          · exact absurd (q.symm.trans g1) (by decide)
          · rfl
          · rfl
        · exact absurd g1 hk2
      · unfold qa_fv
        rw [if_neg hk2]
        simp only [qa_up_s]
        rfl
      · intro j hj
        unfold qa_fv
        simp only [qa_up_s, qa_up_n _ _ hj]
    · cases ha
  · rename_i r a S' k hf
    obtain ⟨f1, f2, f3⟩ := qa_fl_ok hf
    split at ha
    · rename_i hc
      obtain ⟨hka, hfin, hki⟩ := hc
      rw [beq_iff_eq] at hfin
      rw [qa_nx_eq ha] at hG
      have hkt := qa_kd_ok _ f1 k f2
      have hrf : ((qa_ft.getD (qa_own m) []).getD k .int).isReference = true := by
        rcases hkt with ⟨g1, g2⟩ | ⟨g1, g2⟩ | ⟨g1, g2⟩
        · exact absurd (hki.symm.trans g1) (by decide)
        · exact absurd (hki.symm.trans g1) (by decide)
        · exact g2
      refine qa_s_pfc (v := qa_a r) (h' := (h.1, h.2.1, va_up h.2.2.1 a (va_up (h.2.2.1 a) k r), h.2.2.2)) hC hd hf hka hfin ?_ ?_ rfl rfl (fun q hq => ⟨rfl, qa_up_n _ _ hq⟩) ?_ ?_ hG
      · generalize (qa_ft.getD (qa_own m) []).getD k .int = ty at hrf ⊢
        cases r <;> cases ty <;> first | rfl | cases hrf
      · generalize (qa_ft.getD (qa_own m) []).getD k .int = ty at hrf ⊢
        cases r <;> cases ty <;> first | rfl | cases hrf
      · unfold qa_fv
        rw [if_pos hki]
        simp only [qa_up_s]
        rfl
      · intro j hj
        unfold qa_fv
        simp only [qa_up_s, qa_up_n _ _ hj]
    · cases ha
  · cases ha
theorem qa_s_ald {pc : Nat} {L : List qa_V} {M : List (Option Int64)} {S : List qa_V} {h : qa_H} {c' : qa_C} (hC : qa_At p s mm meth co args D cs o b n0 m) (hd : decode (qa_code m) pc = .ok (.iaload, 1))
    (ha : qa_ald (pc + 1) L M S h = some (.inl c')) (hG : qa_G p l e R s mm args below meth co Q D cs o b n0 z0 m c') : qa_G p l e R s mm args below meth co Q D cs o b n0 z0 m (pc, L, M, S, h) := by
  obtain ⟨hx, hb, hr, hml, hown, hts, hlk, hini, hK, hTb, hbo, hsz, hn0⟩ := hC
  unfold qa_ald at ha
  split at ha
  · rename_i x a S'
    split at ha
    · rename_i hc
      obtain ⟨hka, hin⟩ := hc
      rw [qa_nx_eq ha] at hG
      intro H locs ls hR hL hS h1 h2
      dsimp only at hR hL h1 h2 ⊢
      by_cases h100 : (h.1 a).1 = 100
      · have hw := qa_wl_q hR (by omega) (by omega) (qa_ent_i (cs := cs) (o := o) (b := b) (f := h.2.1 a) (r := h.2.2.1 a) h100)
        exact va_iald hx hb hK hR.2.2.1 (a - 1) 0 hw rfl hin hd (hG H locs ls hR hL hS h1 h2)
      · have h0 := hka.resolve_left h100
        subst h0
        exact va_sld (b := b) (A := qa_Ar o) (H0 := H) hx hb hR.2.2.2.1 (by have := hR.1; have := hR.2.1; omega) (fun q => by unfold qa_Ar at q; omega) (qa_S_rf hS) hin hd (hG H locs ls hR hL hS h1 h2)
    · cases ha
  · cases ha
theorem qa_s_ast {pc : Nat} {L : List qa_V} {M : List (Option Int64)} {S : List qa_V} {h : qa_H} {c' : qa_C} (hC : qa_At p s mm meth co args D cs o b n0 m) (hd : decode (qa_code m) pc = .ok (.iastore, 1))
    (ha : qa_ast (pc + 1) L M S h = some (.inl c')) (hG : qa_G p l e R s mm args below meth co Q D cs o b n0 z0 m c') : qa_G p l e R s mm args below meth co Q D cs o b n0 z0 m (pc, L, M, S, h) := by
  obtain ⟨hx, hb, hr, hml, hown, hts, hlk, hini, hK, hTb, hbo, hsz, hn0⟩ := hC
  unfold qa_ast at ha
  split at ha
  · rename_i v x a S'
    split at ha
    · rename_i hc
      obtain ⟨h100, hin⟩ := hc
      rw [qa_nx_eq ha] at hG
      intro H locs ls hR hL hS h1 h2
      dsimp only at hR hL h1 h2 ⊢
      have hw := qa_wl_q hR (by omega) (by omega) (qa_ent_i (cs := cs) (o := o) (b := b) (f := h.2.1 a) (r := h.2.2.1 a) h100)
      refine va_iast (A := qa_Ar o) (H0 := H) hx hb hK hR.2.2.1 qa_wl_D (qa_S_rf hS) (a - 1) 0 hw rfl hin hd (fun H1 locs1 hP1 hD1 hS1 => ?_)
      refine qa_Wsz fun hb1 => ?_
      refine hG H1 locs1 ls (qa_Rel_set hR hbo (by omega) (by omega) rfl rfl ?_ (fun q hq => ⟨qa_up_n _ _ hq, rfl⟩) hP1 hS1 (by have := hR.1; omega)) hL (qa_S_tr hS hS1) h1 h2
      simp only [qa_up_s]
      exact qa_ent_i h100
    · cases ha
  · cases ha
theorem qa_tys_at {k : Nat} (h1 : 101 ≤ k) (h2 : k ≤ 103) : (qa_tys cs)[k - 100]? = some (cs (k - 100), .object (qa_on (qa_ec k))) ∧ qa_ec k < 12 := by
  rcases (show k = 101 ∨ k = 102 ∨ k = 103 by omega) with rfl | rfl | rfl <;> exact ⟨rfl, by decide⟩
theorem qa_s_rld {pc : Nat} {L : List qa_V} {M : List (Option Int64)} {S : List qa_V} {h : qa_H} {c' : qa_C} (hC : qa_At p s mm meth co args D cs o b n0 m) (hd : decode (qa_code m) pc = .ok (.aaload, 1))
    (ha : qa_rld (pc + 1) L M S h = some (.inl c')) (hG : qa_G p l e R s mm args below meth co Q D cs o b n0 z0 m c') : qa_G p l e R s mm args below meth co Q D cs o b n0 z0 m (pc, L, M, S, h) := by
  obtain ⟨hx, hb, hr, hml, hown, hts, hlk, hini, hK, hTb, hbo, hsz, hn0⟩ := hC
  unfold qa_rld at ha
  split at ha
  · rename_i x a S'
    split at ha
    · rename_i hc
      obtain ⟨⟨k1, k2⟩, hin⟩ := hc
      rw [qa_nx_eq ha] at hG
      intro H locs ls hR hL hS h1 h2
      dsimp only at hR hL h1 h2 ⊢
      have hw := qa_wl_q hR (by omega) (by omega) (qa_ent_r (cs := cs) (o := o) (b := b) (f := h.2.1 a) (r := h.2.2.1 a) k1)
      exact va_aldq hx hb hK hR.2.2.1 (a - 1) ((h.1 a).1 - 100) hw (qa_tys_at k1 k2).1 hin hd (hG H locs ls hR hL hS h1 h2)
    · cases ha
  · cases ha
theorem qa_s_rst {pc : Nat} {L : List qa_V} {M : List (Option Int64)} {S : List qa_V} {h : qa_H} {c' : qa_C} (hC : qa_At p s mm meth co args D cs o b n0 m) (hd : decode (qa_code m) pc = .ok (.aastore, 1))
    (ha : qa_rst (pc + 1) L M S h = some (.inl c')) (hG : qa_G p l e R s mm args below meth co Q D cs o b n0 z0 m c') : qa_G p l e R s mm args below meth co Q D cs o b n0 z0 m (pc, L, M, S, h) := by
  obtain ⟨hx, hb, hr, hml, hown, hts, hlk, hini, hK, hTb, hbo, hsz, hn0⟩ := hC
  unfold qa_rst at ha
  split at ha
  · rename_i r x a S'
    split at ha
    · rename_i hc
      obtain ⟨⟨k1, k2⟩, hin, hrk⟩ := hc
      rw [qa_nx_eq ha] at hG
      intro H locs ls hR hL hS h1 h2
      dsimp only at hR hL h1 h2 ⊢
      have hw := qa_wl_q hR (by omega) (by omega) (qa_ent_r (cs := cs) (o := o) (b := b) (f := h.2.1 a) (r := h.2.2.1 a) k1)
      obtain ⟨t1, t2⟩ := qa_tys_at (cs := cs) k1 k2
      have fin : ∀ (w : Nat → Option Nat) (H1 : Heap) (locs1 : List Loc), (fun j => (va_up (h.2.2.1 a) x.toNatClampNeg r j).map (qa_ad o b)) = w → va_P D qa_cl ((qa_wl cs o b h).set (a - 1) (qa_ad o b a, .inl (cs ((h.1 a).1 - 100), (h.1 a).2, .inr (.inr (.inr (.inr w)))))) H1 → va_S (qa_Ar o) H H1 locs1 → W p l e R s mm args below meth co H1 locs1 (h.2.2.2.1 - n0) (h.2.2.2.2 - z0) Q (F0 mm (pc + 1) ls (S'.map (qa_tv o b))) := by
        intro w H1 locs1 hwe hP1 hS1
        refine qa_Wsz fun hb1 => ?_
        refine hG H1 locs1 ls (qa_Rel_set hR hbo (by omega) (by omega) rfl rfl ?_ (fun q hq => ⟨rfl, qa_up_n _ _ hq⟩) hP1 hS1 (by have := hR.1; omega)) hL (qa_S_tr hS hS1) h1 h2
        simp only [qa_up_s]
        rw [qa_ent_r k1, hwe]
      cases r with
      | none =>
        refine va_astqN (A := qa_Ar o) (H0 := H) hx hb hK hR.2.2.1 qa_wl_D (qa_S_rf hS) (a - 1) ((h.1 a).1 - 100) hw t1 hin hd (fun H1 locs1 hP1 hD1 hS1 => fin _ H1 locs1 ?_ hP1 hS1)
        funext j
        unfold va_up
        split <;> rfl
      | some v =>
        have hkv : h.1 v = (qa_ec (h.1 a).1, 0) := of_decide_eq_true hrk
        have hwv := qa_wl_q hR (by rw [hkv]; simp only; omega) (by rw [hkv]; simp only; omega) (qa_ent_o (cs := cs) (o := o) (b := b) (k := h.1 v) (f := h.2.1 v) (r := h.2.2.1 v) (by rw [hkv]; exact t2))
        rw [hkv] at hwv
        refine va_astq (A := qa_Ar o) (H0 := H) (r := (qa_on (qa_ec (h.1 a).1), qa_T (qa_fs.getD (qa_ec (h.1 a).1) []), (qa_fs.getD (qa_ec (h.1 a).1) []).length)) hx hb hK hR.2.2.1 qa_wl_D (qa_S_rf hS) (a - 1) ((h.1 a).1 - 100) (v - 1) (qa_ec (h.1 a).1) hw t1 hwv (qa_cl_at _ t2) hin hd (fun H1 locs1 hP1 hD1 hS1 => fin _ H1 locs1 ?_ hP1 hS1)
        funext j
        unfold va_up
        split <;> rfl
    · cases ha
  · cases ha
theorem qa_s_aln {pc : Nat} {L : List qa_V} {M : List (Option Int64)} {S : List qa_V} {h : qa_H} {c' : qa_C} (hC : qa_At p s mm meth co args D cs o b n0 m) (hd : decode (qa_code m) pc = .ok (.arraylength, 1))
    (ha : qa_aln (pc + 1) L M S h = some (.inl c')) (hG : qa_G p l e R s mm args below meth co Q D cs o b n0 z0 m c') : qa_G p l e R s mm args below meth co Q D cs o b n0 z0 m (pc, L, M, S, h) := by
  obtain ⟨hx, hb, hr, hml, hown, hts, hlk, hini, hK, hTb, hbo, hsz, hn0⟩ := hC
  unfold qa_aln at ha
  split at ha
  · rename_i a S'
    split at ha
    · rename_i hc
      rw [qa_nx_eq ha] at hG
      intro H locs ls hR hL hS h1 h2
      dsimp only at hR hL h1 h2 ⊢
      by_cases h0 : a = 0
      · subst h0
        exact va_slen (b := b) (A := qa_Ar o) (H0 := H) hx hb hR.2.2.2.1 (by have := hR.1; have := hR.2.1; omega) (fun q => by unfold qa_Ar at q; omega) (qa_S_rf hS) hd (hG H locs ls hR hL hS h1 h2)
      · obtain ⟨k1, k2⟩ := hc.resolve_right h0
        by_cases h100 : (h.1 a).1 = 100
        · have hw := qa_wl_q hR (by omega) (by omega) (qa_ent_i (cs := cs) (o := o) (b := b) (f := h.2.1 a) (r := h.2.2.1 a) h100)
          exact va_alen hx hb hK hR.2.2.1 (a - 1) 0 hw (show (qa_tys cs)[0]? = some (cs 0, .int) from rfl) rfl hd (hG H locs ls hR hL hS h1 h2)
        · have hw := qa_wl_q hR (by omega) (by omega) (qa_ent_r (cs := cs) (o := o) (b := b) (f := h.2.1 a) (r := h.2.2.1 a) (by omega))
          exact va_alen hx hb hK hR.2.2.1 (a - 1) ((h.1 a).1 - 100) hw (qa_tys_at (by omega) k2).1 rfl hd (hG H locs ls hR hL hS h1 h2)
    · cases ha
  · cases ha
/-- behind a making: the relation again -/
theorem qa_Rel_mk {h : qa_H} {U : State} {H H1 : Heap} {k len sl q : Nat} {x : va_E} {locs1 : List Loc} (hR : qa_Rel D cs o b h U H) (hbo : b ≤ o) (he : qa_ent cs o b (k, len) (fun _ => 0) (fun _ => none) = x) (hP : va_P D qa_cl (qa_wl cs o b h ++ [(q, x)]) H1) (hD : va_D (qa_Ar o) (qa_wl cs o b h ++ [(q, x)])) (hS : va_S (qa_Ar o) H H1 locs1) (hsz : H1.size ≤ H.size + 1) : q = qa_ad o b h.2.2.2.1 ∧ qa_Rel D cs o b (qa_mk k len sl h) U H1 := by
  obtain ⟨r1, r2, r3, r4, r5, r6⟩ := hR
  have hlen : (qa_wl cs o b h).length = h.2.2.2.1 - 1 := by simp [qa_wl]
  have hq0 : (qa_wl cs o b h ++ [(q, x)])[h.2.2.2.1 - 1]? = some (q, x) := by
    rw [List.getElem?_append_right (by omega), hlen, Nat.sub_self]
    rfl
  have hql : q < H1.size := (hP _ _ hq0).lt
  have hqA : o + 1 ≤ q := hD.2 _ _ hq0
  have hqn : q = o + h.2.2.2.1 := by
    rcases Nat.lt_or_ge q (o + h.2.2.2.1) with z | z
    · have ha := qa_wl_at (cs := cs) (o := o) (b := b) (h := h) (a := q - o) (by omega) (by omega)
      have hl := (List.getElem?_eq_some_iff.mp ha).1
      have h1 := hD.1 (q - o - 1) (h.2.2.2.1 - 1) _ _ (by rw [List.getElem?_append_left hl]; exact ha) hq0 (by simp only; omega)
      omega
    · omega
  have hb : H1[b]? = H[b]? := hS.2.1 b (by omega) (fun q => by unfold qa_Ar at q; omega)
  have z0 : h.2.2.2.1 ≠ 0 := by omega
  refine ⟨by rw [qa_ad_s r2]; exact hqn, ?_, ?_, ?_, ?_, ?_, ?_⟩
  · show H1.size = o + (h.2.2.2.1 + 1)
    omega
  · show 1 ≤ h.2.2.2.1 + 1
    omega
  · rw [← qa_wl_push (h := h) (h' := qa_mk k len sl h) (e := x) rfl r2 (by simp only [qa_mk, qa_up_s]; exact he) (fun j hj => ⟨qa_up_n _ _ hj, qa_up_n _ _ hj, qa_up_n _ _ hj⟩), ← hqn]
    exact hP
  · show va_X b (va_up h.1 h.2.2.2.1 (k, len) 0).2 (va_up h.2.1 h.2.2.2.1 (fun _ => 0) 0) U H1
    rw [qa_up_n _ _ (Ne.symm z0), qa_up_n _ _ (Ne.symm z0)]
    exact r4.kept hb
  · show (va_up h.1 h.2.2.2.1 (k, len) 0).1 = 99
    rw [qa_up_n _ _ (Ne.symm z0)]
    exact r5
  · intro j hj
    have hj' : h.2.2.2.1 + 1 ≤ j := hj
    show (va_up h.1 h.2.2.2.1 (k, len) j).1 = 77
    rw [qa_up_n _ _ (by omega)]
    exact r6 j (by omega)
theorem qa_cf_ok {own idx ci : Nat} (h : qa_cf own idx = some ci) : ci < 12 ∧ (Jvm.Cond.classLink (qa_on own) idx (qa_on ci)) ∈ qa_tb := by
  unfold qa_cf at h
  cases hf : qa_cls.find? (fun q => q.1 == own && q.2.1 == idx) with
  | none => rw [hf] at h; cases h
  | some q =>
    rw [hf] at h
    have hk := Option.some.inj h
    have hp := List.find?_some hf
    simp only [Bool.and_eq_true, beq_iff_eq] at hp
    obtain ⟨g1, g2⟩ := qa_cls_ok q (List.mem_of_find?_eq_some hf)
    obtain ⟨e1, e2⟩ := hp
    simp only at hk
    rw [← e1, ← e2, ← hk]
    exact ⟨g2, qa_in g1 rfl⟩
theorem qa_ins_at : ∀ i, i < 12 → ∃ q ∈ qa_ins, q.1 = i := by decide +kernel
theorem qa_s_new {pc idx : Nat} {L : List qa_V} {M : List (Option Int64)} {S : List qa_V} {h : qa_H} {c' : qa_C} (hC : qa_At p s mm meth co args D cs o b n0 m) (hd : decode (qa_code m) pc = .ok (.new idx, 3))
    (hrm : c'.2.2.2.2.2.2.2.1 - n0 ≤ R.cells ∧ c'.2.2.2.2.2.2.2.2 - z0 ≤ R.slots) (ha : qa_new (qa_own m) idx (pc + 3) L M S h = some (.inl c')) (hG : qa_G p l e R s mm args below meth co Q D cs o b n0 z0 m c') : qa_G p l e R s mm args below meth co Q D cs o b n0 z0 m (pc, L, M, S, h) := by
  obtain ⟨hx, hb, hr, hml, hown, hts, hlk, hini, hK, hTb, hbo, hsz, hn0⟩ := hC
  unfold qa_new at ha
  split at ha
  · rename_i ci hci
    obtain ⟨f1, f2⟩ := qa_cf_ok hci
    rw [qa_nx_eq ha] at hG hrm
    obtain ⟨qi, hqi, hqe⟩ := qa_ins_at ci f1
    obtain ⟨i1, i2, i3⟩ := qa_ins_ok qi hqi
    rw [hqe] at i1 i2 i3
    rw [i3] at i1
    obtain ⟨m1, m2⟩ := hrm
    simp only [qa_mk] at m1 m2
    intro H locs ls hR hL hS h1 h2
    dsimp only at hR hL h1 h2 ⊢
    refine va_new (A := qa_Ar o) (H0 := H) (fs := (List.range (qa_sz ci)).map (qa_fv o b ci (fun _ => 0) (fun _ => none))) hx hb (C := qa_on ci) (T := qa_T (qa_fs.getD ci [])) (N := qa_sz ci) hts (qa_cl_in f1) (fun k => (qa_ft.getD ci []).getD k .int) (qa_ty_ok _ f1) hown (hts _ f2) (hts _ (qa_in i1 rfl)) (hts _ (qa_in i2 rfl)) hK hR.2.2.1 qa_wl_D (qa_S_rf hS) (fun q hq => by unfold qa_Ar; have := hR.1; have := hR.2.1; omega) (qa_cl_at _ f1) ?_ (by omega) (by omega) hd (fun q H1 hP1 hD1 hS1 => ?_)
    · intro j hj
      have hkt := qa_kd_ok _ f1 j hj
      rw [qa_vpV hj]
      unfold qa_fv
      rcases hkt with ⟨g1, g2⟩ | ⟨g1, g2⟩ | ⟨g1, g2⟩
      · rw [g2, if_neg (by unfold qa_ki; omega)]; rfl
      · rw [g2, if_neg (by unfold qa_ki; omega)]; rfl
      · rw [if_pos (by unfold qa_ki; exact g1)]
        generalize (qa_ft.getD ci []).getD j .int = ty at g2 ⊢
        cases ty <;> first | rfl | cases g2
    · refine qa_Wsz fun hb1 => ?_
      obtain ⟨rfl, hR1⟩ := qa_Rel_mk (k := ci) (len := 0) (sl := qa_sz ci) hR hbo (qa_ent_o f1) hP1 hD1 hS1 (by have := hR.1; omega)
      have w := hG H1 locs ls hR1 hL (qa_S_tr hS hS1) (by simp only [qa_mk]; omega) (by simp only [qa_mk]; omega)
      simp only [qa_mk] at w
      rw [show h.2.2.2.1 - n0 + 1 = h.2.2.2.1 + 1 - n0 by omega, show h.2.2.2.2 - z0 + qa_sz ci = h.2.2.2.2 + qa_sz ci - z0 by omega]
      exact w
  · cases ha
theorem qa_s_nai {pc : Nat} {L : List qa_V} {M : List (Option Int64)} {S : List qa_V} {h : qa_H} {c' : qa_C} (hC : qa_At p s mm meth co args D cs o b n0 m) (hd : decode (qa_code m) pc = .ok (.newarray .int, 2))
    (hrm : c'.2.2.2.2.2.2.2.1 - n0 ≤ R.cells ∧ c'.2.2.2.2.2.2.2.2 - z0 ≤ R.slots) (ha : qa_nai (pc + 2) L M S h = some (.inl c')) (hG : qa_G p l e R s mm args below meth co Q D cs o b n0 z0 m c') : qa_G p l e R s mm args below meth co Q D cs o b n0 z0 m (pc, L, M, S, h) := by
  obtain ⟨hx, hb, hr, hml, hown, hts, hlk, hini, hK, hTb, hbo, hsz, hn0⟩ := hC
  unfold qa_nai at ha
  split at ha
  · rename_i x S'
    split at ha
    · rename_i hc
      rw [qa_nx_eq ha] at hG hrm
      obtain ⟨m1, m2⟩ := hrm
      simp only [qa_mk] at m1 m2
      intro H locs ls hR hL hS h1 h2
      dsimp only at hR hL h1 h2 ⊢
      refine va_newa (A := qa_Ar o) (H0 := H) (atype := .int) (ty := .int) (N' := x.toNatClampNeg) (a0 := (x.toNatClampNeg, .inl (fun _ => 0))) hx hb (hts _ (List.mem_filter.mpr ⟨qa_w_ar0, rfl⟩)) rfl hK hR.2.2.1 qa_wl_D (qa_S_rf hS) (fun q hq => by unfold qa_Ar; have := hR.1; have := hR.2.1; omega) (fun _ => rfl) hc.1 rfl ?_ (by omega) (by omega) hd (fun q cA H1 hK1 hP1 hD1 hS1 => ?_)
      · have h4 : componentBytes FieldType.int = 4 := by decide
        rw [h4]
        omega
      · have e1 := (hK1.2 4 (cA, .int) rfl).2
        have e2 := (hK.2 0 (cs 0, .int) rfl).2
        have e3 : cA = cs 0 := Option.some.inj (e1.symm.trans e2)
        subst e3
        refine qa_Wsz fun hb1 => ?_
        obtain ⟨rfl, hR1⟩ := qa_Rel_mk (k := 100) (len := x.toNatClampNeg) (sl := x.toNatClampNeg) hR hbo (qa_ent_i rfl) hP1 hD1 hS1 (by have := hR.1; omega)
        have w := hG H1 locs ls hR1 hL (qa_S_tr hS hS1) (by simp only [qa_mk]; omega) (by simp only [qa_mk]; omega)
        simp only [qa_mk] at w
        rw [show h.2.2.2.1 - n0 + 1 = h.2.2.2.1 + 1 - n0 by omega, show h.2.2.2.2 - z0 + x.toNatClampNeg = h.2.2.2.2 + x.toNatClampNeg - z0 by omega]
        exact w
    · cases ha
  · cases ha
theorem qa_s_nar {pc idx : Nat} {L : List qa_V} {M : List (Option Int64)} {S : List qa_V} {h : qa_H} {c' : qa_C} (hC : qa_At p s mm meth co args D cs o b n0 m) (hd : decode (qa_code m) pc = .ok (.anewarray idx, 3))
    (hrm : c'.2.2.2.2.2.2.2.1 - n0 ≤ R.cells ∧ c'.2.2.2.2.2.2.2.2 - z0 ≤ R.slots) (ha : qa_nar (qa_own m) idx (pc + 3) L M S h = some (.inl c')) (hG : qa_G p l e R s mm args below meth co Q D cs o b n0 z0 m c') : qa_G p l e R s mm args below meth co Q D cs o b n0 z0 m (pc, L, M, S, h) := by
  obtain ⟨hx, hb, hr, hml, hown, hts, hlk, hini, hK, hTb, hbo, hsz, hn0⟩ := hC
  unfold qa_nar at ha
  split at ha
  · rename_i x S' ci hci
    obtain ⟨f1, f2⟩ := qa_cf_ok hci
    split at ha
    · rename_i hc
      rw [qa_nx_eq ha] at hG hrm
      obtain ⟨m1, m2⟩ := hrm
      simp only [qa_mk] at m1 m2
      intro H locs ls hR hL hS h1 h2
      dsimp only at hR hL h1 h2 ⊢
      have hov : va_AO (qa_on ci) s := by
        rcases hc.2 with rfl | rfl | rfl
        · exact hTb.2.2.1
        · exact hTb.2.1
        · exact hTb.2.2.2
      have hac : 101 ≤ qa_ac ci ∧ qa_ac ci ≤ 103 ∧ qa_ec (qa_ac ci) = ci := by
        rcases hc.2 with rfl | rfl | rfl <;> decide
      obtain ⟨t1, -⟩ := qa_tys_at (cs := cs) hac.1 hac.2.1
      rw [hac.2.2] at t1
      refine va_newq (A := qa_Ar o) (H0 := H) (N' := x.toNatClampNeg) hx hb hown (hts _ f2) hov hK hR.2.2.1 qa_wl_D (qa_S_rf hS) (fun q hq => by unfold qa_Ar; have := hR.1; have := hR.2.1; omega) hc.1.1 rfl (by have := hc.1.2; omega) (by omega) (by omega) hd (fun q cA H1 hK1 hP1 hD1 hS1 => ?_)
      have e1 := (hK1.2 4 (cA, .object (qa_on ci)) rfl).2
      have e2 := (hK.2 _ _ t1).2
      obtain ⟨_, _, _, _, _, e1⟩ := e1
      obtain ⟨_, _, _, _, _, e2⟩ := e2
      have e3 : cA = cs (qa_ac ci - 100) := Option.some.inj (e1.symm.trans e2)
      subst e3
      refine qa_Wsz fun hb1 => ?_
      obtain ⟨rfl, hR1⟩ := qa_Rel_mk (k := qa_ac ci) (len := x.toNatClampNeg) (sl := x.toNatClampNeg) hR hbo (qa_ent_r hac.1) hP1 hD1 hS1 (by have := hR.1; omega)
      have w := hG H1 locs ls hR1 hL (qa_S_tr hS hS1) (by simp only [qa_mk]; omega) (by simp only [qa_mk]; omega)
      simp only [qa_mk] at w
      rw [show h.2.2.2.1 - n0 + 1 = h.2.2.2.1 + 1 - n0 by omega, show h.2.2.2.2 - z0 + x.toNatClampNeg = h.2.2.2.2 + x.toNatClampNeg - z0 by omega]
      exact w
    · cases ha
  · cases ha
end QT
