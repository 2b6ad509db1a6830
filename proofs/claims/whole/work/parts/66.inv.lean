/-! What both sides hold between calls. -/
def qC0 (K : Nat → Nat × Nat) (R : Nat → Nat → Option Nat) (c : Nat) : Prop := K c = (4, 0) ∧ (K (c + 1)).1 = 100 ∧ (K (c + 1)).2 = 12 ∧ (K (c + 2)).1 = 100 ∧ (K (c + 2)).2 = 12 ∧ R c 0 = some (c + 1) ∧ R c 1 = some (c + 2)
def qLA (K : Nat → Nat × Nat) (R : Nat → Nat → Option Nat) : Prop := K 1 = (0, 0) ∧ R 1 0 = some 2 ∧ R 1 1 = some 4 ∧ R 1 2 = some 6 ∧ R 1 3 = some 7 ∧ R 1 4 = some 10 ∧ R 1 5 = some 17 ∧ R 1 6 = some 33 ∧ R 1 7 = some 49 ∧ R 1 8 = some 68 ∧ R 1 9 = some 166 ∧ R 1 10 = some 173
/-- the cells that are made once -/
def qS (K : Nat → Nat × Nat) (R : Nat → Nat → Option Nat) : Prop := qLA K R ∧ qp_T K R 2 ∧ qp_T K R 4 ∧ (K 6 = (2, 0) ∧ R 6 0 = some 2) ∧ qp_EX K R 7 ∧ qC0 K R 10 ∧ qp_PR K R 17 10 ∧ qp_PR K R 33 10 ∧ qp_LG K R 49 10 ∧ qp_HI K R 68 ∧ qC0 K R 166 ∧ qp_PR K R 173 166 ∧ qp_MO K R 189
theorem qp_T_cg {K K' : Nat → Nat × Nat} {R R' : Nat → Nat → Option Nat} {a : Nat} (h : qp_T K R a) (h1 : K' a = K a) (h2 : K' (a + 1) = K (a + 1)) (h3 : R' a = R a) : qp_T K' R' a := by
  obtain ⟨t1, t2, t3, t4⟩ := h
  exact ⟨by rw [h1]; exact t1, by rw [h2]; exact t2, by rw [h2]; exact t3, by rw [h3]; exact t4⟩
theorem qp_PR_cg {K K' : Nat → Nat × Nat} {R R' : Nat → Nat → Option Nat} {p c : Nat} (h : qp_PR K R p c) (h1 : ∀ a, p ≤ a → a < p + 16 → K' a = K a) (h2 : ∀ a, p ≤ a → a < p + 16 → R' a = R a) : qp_PR K' R' p c := by
  obtain ⟨p0, p1, p2, p3, p4, p5, p6, p7, p8, p9, r0, r1, r2, r3, r4, r5, hs⟩ := h
  have k0 := h1 p (by omega) (by omega)
  have k1 := h1 (p + 1) (by omega) (by omega)
  have k2 := h1 (p + 2) (by omega) (by omega)
  have k3 := h1 (p + 3) (by omega) (by omega)
  have k4 := h1 (p + 4) (by omega) (by omega)
  have k5 := h1 (p + 5) (by omega) (by omega)
  have g0 := h2 p (by omega) (by omega)
  have g1 := h2 (p + 1) (by omega) (by omega)
  refine ⟨by rw [k0]; exact p0, by rw [k1]; exact p1, by rw [k1]; exact p2, by rw [k2]; exact p3, by rw [k2]; exact p4, by rw [k3]; exact p5, by rw [k3]; exact p6, by rw [k4]; exact p7, by rw [k4]; exact p8, by rw [k5]; exact p9, by rw [g0]; exact r0, by rw [g0]; exact r1, by rw [g0]; exact r2, by rw [g0]; exact r3, by rw [g0]; exact r4, by rw [g0]; exact r5, fun k hk => ?_⟩
  rw [h1 (p + 6 + k) (by omega) (by omega), g1]
  exact hs k hk
theorem qp_LG_cg {K K' : Nat → Nat × Nat} {R R' : Nat → Nat → Option Nat} {p c : Nat} (h : qp_LG K R p c) (h1 : ∀ a, p ≤ a → a < p + 19 → K' a = K a) (h2 : ∀ a, p ≤ a → a < p + 19 → R' a = R a) : qp_LG K' R' p c := by
  obtain ⟨p0, p1, p2, p3, p4, r0, r1, r2, hp⟩ := h
  have k0 := h1 p (by omega) (by omega)
  have k1 := h1 (p + 1) (by omega) (by omega)
  have k2 := h1 (p + 2) (by omega) (by omega)
  have g0 := h2 p (by omega) (by omega)
  exact ⟨by rw [k0]; exact p0, by rw [k1]; exact p1, by rw [k1]; exact p2, by rw [k2]; exact p3, by rw [k2]; exact p4, by rw [g0]; exact r0, by rw [g0]; exact r1, by rw [g0]; exact r2, qp_PR_cg hp (fun a _ _ => h1 a (by omega) (by omega)) (fun a _ _ => h2 a (by omega) (by omega))⟩
theorem qp_HI_cg {K K' : Nat → Nat × Nat} {R R' : Nat → Nat → Option Nat} {p : Nat} (h : qp_HI K R p) (h1 : ∀ a, p ≤ a → a < p + 98 → K' a = K a) (h2 : ∀ a, p ≤ a → a < p + 98 → R' a = R a) : qp_HI K' R' p := by
  obtain ⟨p0, p1, p2, r0, hp⟩ := h
  have k0 := h1 p (by omega) (by omega)
  have k1 := h1 (p + 1) (by omega) (by omega)
  have g0 := h2 p (by omega) (by omega)
  have g1 := h2 (p + 1) (by omega) (by omega)
  refine ⟨by rw [k0]; exact p0, by rw [k1]; exact p1, by rw [k1]; exact p2, by rw [g0]; exact r0, fun j hj => ?_⟩
  obtain ⟨q1, c, q2⟩ := hp j hj
  exact ⟨by rw [g1]; exact q1, c, qp_PR_cg q2 (fun a _ _ => h1 a (by omega) (by omega)) (fun a _ _ => h2 a (by omega) (by omega))⟩
theorem qp_ar_cg {K K' : Nat → Nat × Nat} {R R' : Nat → Nat → Option Nat} {u f o l : Nat} (h : qp_ar K R u f o l) (h1 : K' (u + o) = K (u + o)) (h2 : R' u = R u) : qp_ar K' R' u f o l := by
  obtain ⟨a1, a2, a3⟩ := h
  exact ⟨by rw [h1]; exact a1, by rw [h1]; exact a2, by rw [h2]; exact a3⟩
theorem qp_MO_cg {K K' : Nat → Nat × Nat} {R R' : Nat → Nat → Option Nat} {u : Nat} (h : qp_MO K R u) (h1 : ∀ a, u ≤ a → a < u + 15 → K' a = K a) (h2 : R' u = R u) : qp_MO K' R' u := by
  obtain ⟨a0, a1, a2, a3, a4, a5, a6, a7, a8, a9, a10, a11, a12, a13, a14⟩ := h
  have hk := fun o (ho : o < 15) => h1 (u + o) (by omega) (by omega)
  exact ⟨by rw [h1 u (by omega) (by omega)]; exact a0, qp_ar_cg a1 (hk _ (by omega)) h2, qp_ar_cg a2 (hk _ (by omega)) h2, qp_ar_cg a3 (hk _ (by omega)) h2, qp_ar_cg a4 (hk _ (by omega)) h2, qp_ar_cg a5 (hk _ (by omega)) h2, qp_ar_cg a6 (hk _ (by omega)) h2, qp_ar_cg a7 (hk _ (by omega)) h2, qp_ar_cg a8 (hk _ (by omega)) h2, qp_ar_cg a9 (hk _ (by omega)) h2, qp_ar_cg a10 (hk _ (by omega)) h2, qp_ar_cg a11 (hk _ (by omega)) h2, qp_ar_cg a12 (hk _ (by omega)) h2, qp_ar_cg a13 (hk _ (by omega)) h2, qp_ar_cg a14 (hk _ (by omega)) h2⟩
theorem qp_EX_cg {K K' : Nat → Nat × Nat} {R R' : Nat → Nat → Option Nat} {e : Nat} (h : qp_EX K R e) (h1 : ∀ a, e ≤ a → a < e + 3 → K' a = K a) (h2 : R' e = R e) : qp_EX K' R' e := by
  obtain ⟨a0, a1, a2, a3, a4, a5, a6⟩ := h
  have k0 := h1 e (by omega) (by omega)
  have k1 := h1 (e + 1) (by omega) (by omega)
  have k2 := h1 (e + 2) (by omega) (by omega)
  exact ⟨by rw [k0]; exact a0, by rw [k1]; exact a1, by rw [k1]; exact a2, by rw [k2]; exact a3, by rw [k2]; exact a4, by rw [h2]; exact a5, by rw [h2]; exact a6⟩
theorem qC0_cg {K K' : Nat → Nat × Nat} {R R' : Nat → Nat → Option Nat} {e : Nat} (h : qC0 K R e) (h1 : ∀ a, e ≤ a → a < e + 3 → K' a = K a) (h2 : ∀ j, j ≠ 3 → R' e j = R e j) : qC0 K' R' e := by
  obtain ⟨a0, a1, a2, a3, a4, a5, a6⟩ := h
  have k0 := h1 e (by omega) (by omega)
  have k1 := h1 (e + 1) (by omega) (by omega)
  have k2 := h1 (e + 2) (by omega) (by omega)
  exact ⟨by rw [k0]; exact a0, by rw [k1]; exact a1, by rw [k1]; exact a2, by rw [k2]; exact a3, by rw [k2]; exact a4, by rw [h2 0 (by omega)]; exact a5, by rw [h2 1 (by omega)]; exact a6⟩
theorem qS_cg {K K' : Nat → Nat × Nat} {R R' : Nat → Nat → Option Nat} (h : qS K R) (h1 : ∀ a, a < 204 → K' a = K a) (h2 : ∀ a, a < 204 → a ≠ 10 → a ≠ 166 → R' a = R a) (h3 : ∀ j, j ≠ 3 → R' 10 j = R 10 j ∧ R' 166 j = R 166 j) : qS K' R' := by
  obtain ⟨⟨l0, l1, l2, l3, l4, l5, l6, l7, l8, l9, l10, l11⟩, t2, t4, ⟨c1, c2⟩, ex, co, p1, p2, lg, hi, sc, sp, mo⟩ := h
  have k1 := h1 1 (by omega)
  have r1 := h2 1 (by omega) (by omega) (by omega)
  have r6 := h2 6 (by omega) (by omega) (by omega)
  refine ⟨⟨by rw [k1]; exact l0, by rw [r1]; exact l1, by rw [r1]; exact l2, by rw [r1]; exact l3, by rw [r1]; exact l4, by rw [r1]; exact l5, by rw [r1]; exact l6, by rw [r1]; exact l7, by rw [r1]; exact l8, by rw [r1]; exact l9, by rw [r1]; exact l10, by rw [r1]; exact l11⟩, qp_T_cg t2 (h1 _ (by omega)) (h1 _ (by omega)) (h2 _ (by omega) (by omega) (by omega)), qp_T_cg t4 (h1 _ (by omega)) (h1 _ (by omega)) (h2 _ (by omega) (by omega) (by omega)), ⟨by rw [h1 6 (by omega)]; exact c1, by rw [r6]; exact c2⟩, qp_EX_cg ex (fun a _ _ => h1 a (by omega)) (h2 _ (by omega) (by omega) (by omega)), qC0_cg co (fun a _ _ => h1 a (by omega)) (fun j hj => (h3 j hj).1), qp_PR_cg p1 (fun a _ _ => h1 a (by omega)) (fun a _ _ => h2 a (by omega) (by omega) (by omega)), qp_PR_cg p2 (fun a _ _ => h1 a (by omega)) (fun a _ _ => h2 a (by omega) (by omega) (by omega)), qp_LG_cg lg (fun a _ _ => h1 a (by omega)) (fun a _ _ => h2 a (by omega) (by omega) (by omega)), qp_HI_cg hi (fun a _ _ => h1 a (by omega)) (fun a _ _ => h2 a (by omega) (by omega) (by omega)), qC0_cg sc (fun a _ _ => h1 a (by omega)) (fun j hj => (h3 j hj).2), qp_PR_cg sp (fun a _ _ => h1 a (by omega)) (fun a _ _ => h2 a (by omega) (by omega) (by omega)), qp_MO_cg mo (fun a _ _ => h1 a (by omega)) (h2 _ (by omega) (by omega) (by omega))⟩
theorem qp_HS_cg {I I' : Nat → Nat → Int32} {w nx sz : Nat} {P : Nat → Nat → Int32} (h : qp_HS I w nx sz P) (he : ∀ a, w ≤ a → a < w + 98 → I' a = I a) : qp_HS I' w nx sz P := by
  obtain ⟨h1, h2, h3, h4, h5⟩ := h
  have g0 := he w (by omega) (by omega)
  exact ⟨by rw [g0]; exact h1, h2, by rw [g0]; exact h3, h4, fun j hj => qp_PS_cg (h5 j hj) (fun a _ _ => he a (by omega) (by omega))⟩
theorem qp_L_cg {I I' : Nat → Nat → Int32} {a o f l : Nat} {tx : Nat → Nat} (h : qp_L I a o f l tx) (h1 : I' a f = I a f) (h2 : I' (a + o) = I (a + o)) : qp_L I' a o f l tx := ⟨by rw [h1]; exact h.1, fun j hj => by rw [h2]; exact h.2 j hj⟩
theorem qp_X_cg {I I' : Nat → Nat → Int32} {e o1 o2 f lv : Nat} {ec en : Nat → Int32} (h : qp_X I e o1 o2 f lv ec en) (h1 : I' e f = I e f) (h2 : I' (e + o1) = I (e + o1)) (h3 : I' (e + o2) = I (e + o2)) : qp_X I' e o1 o2 f lv ec en := ⟨by rw [h1]; exact h.1, fun j hj => by rw [h2, h3]; exact h.2 j hj⟩
def qZ_b (sn : Bool) : Nat := if sn = true then 1 else 0
def qZc (K : Nat → Nat × Nat) (I : Nat → Nat → Int32) (R : Nat → Nat → Option Nat) (n : Nat) (nk : Nat) (pm : Nat → Nat) (T : Nat → qt_T) (ni : Nat) (fs hd : Nat → Nat) (s b : Nat → Int32) (g : Nat) (el er : Nat → Nat) (nh : Nat) (P : Nat → Nat → Int32) (len : Nat) (tx : Nat → Nat) (wl : Nat) (wt : Nat → Nat) (lv : Nat) (ec en : Nat → Int32) (sn : Bool) (nk' : Nat) (pm' : Nat → Nat) (T' : Nat → qt_T) (ni' : Nat) (fs' hd' : Nat → Nat) (sv : Nat → Int32) : Prop := ∃ q q' nx f : Nat,
  qj_A K I R 10 q nk pm T ni fs hd ∧ (q = 13 ∨ 204 ≤ q) ∧ q + 4 ≤ n ∧ qp_PS I 17 s ∧ qp_LS I 49 f g el er b ∧ qp_HS I 68 nx nh P ∧ qp_L I 2 1 1 len tx ∧ qp_L I 4 1 1 wl wt ∧ qp_X I 7 1 2 2 lv ec en ∧ I 1 11 = nI (qZ_b sn) ∧ (sn = true → qj_A K I R 166 q' nk' pm' T' ni' fs' hd' ∧ (q' = 13 ∨ 204 ≤ q') ∧ q' + 4 ≤ n ∧ qp_PS I 173 sv)
def qZm (I : Nat → Nat → Int32) (nk : Nat) (pm : Nat → Nat) (T : Nat → qt_T) (ni : Nat) (fs hd : Nat → Nat) (s b : Nat → Int32) (g : Nat) (el er : Nat → Nat) (nh : Nat) (P : Nat → Nat → Int32) (len : Nat) (tx : Nat → Nat) (wl : Nat) (wt : Nat → Nat) (lv : Nat) (ec en : Nat → Int32) (sn : Bool) (nk' : Nat) (pm' : Nat → Nat) (T' : Nat → qt_T) (ni' : Nat) (fs' hd' : Nat → Nat) (sv : Nat → Int32) : Prop :=
  (I 190 = s ∧ qv_Z s) ∧ (I 191 = b ∧ qv_Z b) ∧ qv_Z (I 192) ∧ (I 189 4 = nI nh ∧ ∀ j, j < nh → ∀ i, i < 127 → I 193 (127 * j + i) = P j i) ∧ qp_MC (I 194) nk pm T ni fs hd ∧ (I 189 9 = nI (qZ_b sn) ∧ qv_Z (I 196) ∧ (sn = true → I 196 = sv ∧ qp_MC (I 197) nk' pm' T' ni' fs' hd')) ∧ (I 189 12 = nI g ∧ ∀ j, j < g → I 198 j = qe_v (el j) ∧ I 199 j = nI (er j)) ∧ qp_L I 189 11 14 len tx ∧ qp_X I 189 12 13 20 lv ec en ∧ qp_L I 189 14 22 wl wt
def qv_I (ni : Nat) (s : Nat → Int32) : Prop := ∀ i, ni ≤ i → i < 12 → s (91 + 3 * i) = nI 0 ∧ s (92 + 3 * i) = nI 0
def qZp (B : Nat) (nk : Nat) (pm : Nat → Nat) (T : Nat → qt_T) (ni : Nat) (fs hd : Nat → Nat) (s b : Nat → Int32) (g : Nat) (el er : Nat → Nat) (nh : Nat) (P : Nat → Nat → Int32) (len : Nat) (tx : Nat → Nat) (wl : Nat) (wt : Nat → Nat) (lv : Nat) (ec en : Nat → Int32) (sn : Bool) (nk' : Nat) (pm' : Nat → Nat) (T' : Nat → qt_T) (ni' : Nat) (fs' hd' : Nat → Nat) (sv : Nat → Int32) : Prop :=
  (qv_S B s ∧ qv_I ni s) ∧ qv_S B b ∧ (∀ j, j < nh → qv_S B (P j) ∧ qv_I ni (P j)) ∧ nh ≤ 6 ∧ g ≤ 60 ∧ (∀ j, j < g → el j ≤ ni ∧ (er j = 0 ∨ er j = 1)) ∧ len ≤ 80 ∧ (∀ j, j < len → tx j < 128) ∧ wl ≤ 80 ∧ lv ≤ 11 ∧ (qk_ws pm T nk).length ≤ 80 ∧ (sn = true → qv_S B sv ∧ qv_I ni' sv ∧ (qk_ws pm' T' nk').length ≤ 80)
def qJ (m : Nat) (h : qa_H) : Prop := qS h.1 h.2.2.1 ∧ (∀ a, h.2.2.2.1 ≤ a → h.1 a = (77, 0)) ∧ 204 ≤ h.2.2.2.1 ∧ h.2.2.2.1 ≤ 204 + 84 * m ∧ h.2.2.2.2 ≤ 20000 + 354 * m ∧ ∃ (nk : Nat) (pm : Nat → Nat) (T : Nat → qt_T) (ni : Nat) (fs hd : Nat → Nat) (s b : Nat → Int32) (g : Nat) (el er : Nat → Nat) (nh : Nat) (P : Nat → Nat → Int32) (len : Nat) (tx : Nat → Nat) (wl : Nat) (wt : Nat → Nat) (lv : Nat) (ec en : Nat → Int32) (sn : Bool) (nk' : Nat) (pm' : Nat → Nat) (T' : Nat → qt_T) (ni' : Nat) (fs' hd' : Nat → Nat) (sv : Nat → Int32), qZc h.1 h.2.1 h.2.2.1 h.2.2.2.1 nk pm T ni fs hd s b g el er nh P len tx wl wt lv ec en sn nk' pm' T' ni' fs' hd' sv ∧ qZm h.2.1 nk pm T ni fs hd s b g el er nh P len tx wl wt lv ec en sn nk' pm' T' ni' fs' hd' sv ∧ qZp (20000 + 100 * m) nk pm T ni fs hd s b g el er nh P len tx wl wt lv ec en sn nk' pm' T' ni' fs' hd' sv
def qJs (d c mo : Nat) (as : List qa_V) (m : Nat) (h : qa_H) : Prop := ∃ v h1 h2, qa_ex (d + 27) c (qa_a (some 1) :: as) h = some (some (qa_i v), h1) ∧ qa_ex (d + 27) mo (qa_a (some 189) :: as) h1 = some (some (qa_i v), h2) ∧ (h1.1 0 = h.1 0 ∧ h1.2.1 0 = h.2.1 0 ∧ h1.1 189 = h.1 189) ∧ h2.1 0 = h.1 0 ∧ h2.2.1 0 = h.2.1 0 ∧ qJ (m + 1) h2
section Q66
variable {K K1 : Nat → Nat × Nat} {I I' I1 I2 : Nat → Nat → Int32} {R R1 : Nat → Nat → Option Nat} {n n1 z z1 m d B B' : Nat} {nk : Nat} {pm : Nat → Nat} {T : Nat → qt_T} {ni : Nat} {fs hd : Nat → Nat} {s b : Nat → Int32} {g : Nat} {el er : Nat → Nat} {nh : Nat} {P : Nat → Nat → Int32} {len : Nat} {tx : Nat → Nat} {wl : Nat} {wt : Nat → Nat} {lv : Nat} {ec en : Nat → Int32} {sn : Bool} {nk' : Nat} {pm' : Nat → Nat} {T' : Nat → qt_T} {ni' : Nat} {fs' hd' : Nat → Nat} {sv : Nat → Int32}
theorem qZc_cg (hc : qZc K I R n nk pm T ni fs hd s b g el er nh P len tx wl wt lv ec en sn nk' pm' T' ni' fs' hd' sv) (hI : ∀ a, (a < 33 ∨ (49 ≤ a ∧ a < 189) ∨ 204 ≤ a) → I' a = I a) : qZc K I' R n nk pm T ni fs hd s b g el er nh P len tx wl wt lv ec en sn nk' pm' T' ni' fs' hd' sv := by
  obtain ⟨q, q', nx, f, zA, zq, zn, zP, zL, zH, zT, zW, zX, zS, zV⟩ := hc
  exact ⟨q, q', nx, f, qj_A_cg zA (fun a _ _ => hI a (by omega)) (fun a _ _ => hI a (by omega)) (fun a _ => hI a (by omega)), zq, zn, qp_PS_cg zP (fun a _ _ => hI a (by omega)), qp_LS_cg zL (fun a _ _ => hI a (by omega)), qp_HS_cg zH (fun a _ _ => hI a (by omega)), qp_L_cg zT (by rw [hI 2 (by omega)]) (hI _ (by omega)), qp_L_cg zW (by rw [hI 4 (by omega)]) (hI _ (by omega)), qp_X_cg zX (by rw [hI 7 (by omega)]) (hI _ (by omega)) (hI _ (by omega)), by rw [hI 1 (by omega)]; exact zS, fun hs => by
    obtain ⟨v1, v2, v3, v4⟩ := zV hs
    exact ⟨qj_A_cg v1 (fun a _ _ => hI a (by omega)) (fun a _ _ => hI a (by omega)) (fun a _ => hI a (by omega)), v2, v3, qp_PS_cg v4 (fun a _ _ => hI a (by omega))⟩⟩
theorem qZm_cg (hm : qZm I nk pm T ni fs hd s b g el er nh P len tx wl wt lv ec en sn nk' pm' T' ni' fs' hd' sv) (hI : ∀ a, 189 ≤ a → a < 204 → I' a = I a) : qZm I' nk pm T ni fs hd s b g el er nh P len tx wl wt lv ec en sn nk' pm' T' ni' fs' hd' sv := by
  obtain ⟨⟨a1, a2⟩, ⟨b1, b2⟩, c1, ⟨d1, d2⟩, e1, ⟨f1, f2, f3⟩, ⟨g1, g2⟩, h1, i1, j1⟩ := hm
  exact ⟨⟨by rw [hI 190 (by omega) (by omega)]; exact a1, a2⟩, ⟨by rw [hI 191 (by omega) (by omega)]; exact b1, b2⟩, by rw [hI 192 (by omega) (by omega)]; exact c1, ⟨by rw [hI 189 (by omega) (by omega)]; exact d1, fun j hj i hi => by rw [hI 193 (by omega) (by omega)]; exact d2 j hj i hi⟩, by rw [hI 194 (by omega) (by omega)]; exact e1, ⟨by rw [hI 189 (by omega) (by omega)]; exact f1, by rw [hI 196 (by omega) (by omega)]; exact f2, fun hs => by rw [hI 196 (by omega) (by omega), hI 197 (by omega) (by omega)]; exact f3 hs⟩, ⟨by rw [hI 189 (by omega) (by omega)]; exact g1, fun j hj => by rw [hI 198 (by omega) (by omega), hI 199 (by omega) (by omega)]; exact g2 j hj⟩, qp_L_cg h1 (by rw [hI 189 (by omega) (by omega)]) (hI 200 (by omega) (by omega)), qp_X_cg i1 (by rw [hI 189 (by omega) (by omega)]) (hI 201 (by omega) (by omega)) (hI 202 (by omega) (by omega)), qp_L_cg j1 (by rw [hI 189 (by omega) (by omega)]) (hI 203 (by omega) (by omega))⟩
theorem qZp_mono (hp : qZp B nk pm T ni fs hd s b g el er nh P len tx wl wt lv ec en sn nk' pm' T' ni' fs' hd' sv) (hB : B ≤ B') : qZp B' nk pm T ni fs hd s b g el er nh P len tx wl wt lv ec en sn nk' pm' T' ni' fs' hd' sv := by
  obtain ⟨⟨a1, a2⟩, b1, c1, d1, e1, f1, g1, h1, i1, j1, k1, l1⟩ := hp
  exact ⟨⟨qv_S_mono a1 hB, a2⟩, qv_S_mono b1 hB, fun j hj => ⟨qv_S_mono (c1 j hj).1 hB, (c1 j hj).2⟩, d1, e1, f1, g1, h1, i1, j1, k1, fun hs => ⟨qv_S_mono (l1 hs).1 hB, (l1 hs).2⟩⟩
/-- for methods that only read -/
theorem qZ_B (hS : qS K R) (hc : qZc K I R n nk pm T ni fs hd s b g el er nh P len tx wl wt lv ec en sn nk' pm' T' ni' fs' hd' sv) (hm : qZm I nk pm T ni fs hd s b g el er nh P len tx wl wt lv ec en sn nk' pm' T' ni' fs' hd' sv) (hp : qZp B nk pm T ni fs hd s b g el er nh P len tx wl wt lv ec en sn nk' pm' T' ni' fs' hd' sv) (hB : B < 1000000) : ∃ q, qj_B K I R 1 10 17 189 q nk pm T ni fs hd B := by
  obtain ⟨q, q', nx, f, zA, zq, zn, zP, zL, zH, zT, zW, zX, zS, zV⟩ := hc
  obtain ⟨⟨a1, a2⟩, -, -, -, e1, -⟩ := hm
  obtain ⟨⟨l0, l1, l2, l3, l4, l5, l6, -⟩, -, -, -, -, -, p1, -, -, -, -, -, mo⟩ := hS
  refine ⟨q, l0, l5, l6, zA.1, zA.2.1, p1, ?_, mo, e1, ?_, hB⟩
  · show qp_PS I 17 (I 190)
    rw [a1]; exact zP
  · show qv_S B (I 190)
    rw [a1]; exact hp.1.1
/-- nothing has changed -/
theorem qJ_ro {c mo : Nat} {as : List qa_V} {h : qa_H} (hJ : qJ m h) (hr : ∃ v, qa_ex (d + 27) c (qa_a (some 1) :: as) h = some (some (qa_i v), h) ∧ qa_ex (d + 27) mo (qa_a (some 189) :: as) h = some (some (qa_i v), h)) : qJs d c mo as m h := by
  obtain ⟨v, r1, r2⟩ := hr
  obtain ⟨j1, j2, j3, j4, j5, nk, pm, T, ni, fs, hd, s, b, g, el, er, nh, P, len, tx, wl, wt, lv, ec, en, sn, nk', pm', T', ni', fs', hd', sv, j6, j7, j8⟩ := hJ
  exact ⟨v, h, h, r1, r2, ⟨rfl, rfl, rfl⟩, rfl, rfl, j1, j2, j3, by omega, by omega, nk, pm, T, ni, fs, hd, s, b, g, el, er, nh, P, len, tx, wl, wt, lv, ec, en, sn, nk', pm', T', ni', fs', hd', sv, j6, j7, qZp_mono j8 (by omega)⟩
/-- something was tried -/
theorem qJ_try {c mo : Nat} {as : List qa_V} {v : Int32} (hJ : qJ m (K, I, R, n, z)) (r1 : qa_ex (d + 27) c (qa_a (some 1) :: as) (K, I, R, n, z) = some (some (qa_i v), (K, I1, R, n, z))) (hf : qz_fr 33 16 I I1) (r2 : qa_ex (d + 27) mo (qa_a (some 189) :: as) (K, I1, R, n, z) = some (some (qa_i v), (K, va_up I1 192 (I1 190), R, n, z))) : qJs d c mo as m (K, I, R, n, z) := by
  obtain ⟨j1, j2, j3, j4, j5, nk, pm, T, ni, fs, hd, s, b, g, el, er, nh, P, len, tx, wl, wt, lv, ec, en, sn, nk', pm', T', ni', fs', hd', sv, j6, j7, j8⟩ := hJ
  have j3 : 204 ≤ n := j3
  have j4 : n ≤ 204 + 84 * m := j4
  have j5 : z ≤ 20000 + 354 * m := j5
  have j6 := qZc_cg (I' := I1) j6 (fun a ha => hf a (by omega))
  have j7 := qZm_cg (I' := I1) j7 (fun a h1 h2 => hf a (by omega))
  have j9 : qZc K (va_up I1 192 (I1 190)) R n nk pm T ni fs hd s b g el er nh P len tx wl wt lv ec en sn nk' pm' T' ni' fs' hd' sv := qZc_cg j6 (fun a ha => qa_up_n _ _ (by omega))
  refine ⟨v, (K, I1, R, n, z), (K, va_up I1 192 (I1 190), R, n, z), r1, r2, ⟨rfl, hf 0 (by omega), rfl⟩, rfl, ?_, j1, j2, j3, by show n ≤ _; omega, by show z ≤ _; omega, nk, pm, T, ni, fs, hd, s, b, g, el, er, nh, P, len, tx, wl, wt, lv, ec, en, sn, nk', pm', T', ni', fs', hd', sv, j9, ?_, qZp_mono j8 (by omega)⟩
  · show va_up I1 192 (I1 190) 0 = I 0
    rw [qa_up_n _ _ (by omega)]; exact hf 0 (by omega)
  · obtain ⟨⟨a1, a2⟩, ⟨b1, b2⟩, c1, ⟨d1, d2⟩, e1, ⟨f1, f2, f3⟩, ⟨g1, g2⟩, h1, i1, k1⟩ := j7
    have hn : ∀ a, a ≠ 192 → va_up I1 192 (I1 190) a = I1 a := fun a ha => qa_up_n _ _ ha
    show qZm (va_up I1 192 (I1 190)) nk pm T ni fs hd s b g el er nh P len tx wl wt lv ec en sn nk' pm' T' ni' fs' hd' sv
    exact ⟨⟨by rw [hn 190 (by omega)]; exact a1, a2⟩, ⟨by rw [hn 191 (by omega)]; exact b1, b2⟩, by rw [qa_up_s, a1]; exact a2, ⟨by rw [hn 189 (by omega)]; exact d1, fun j hj i hi => by rw [hn 193 (by omega)]; exact d2 j hj i hi⟩, by rw [hn 194 (by omega)]; exact e1, ⟨by rw [hn 189 (by omega)]; exact f1, by rw [hn 196 (by omega)]; exact f2, fun hs => by rw [hn 196 (by omega), hn 197 (by omega)]; exact f3 hs⟩, ⟨by rw [hn 189 (by omega)]; exact g1, fun j hj => by rw [hn 198 (by omega), hn 199 (by omega)]; exact g2 j hj⟩, qp_L_cg h1 (by rw [hn 189 (by omega)]) (hn 200 (by omega)), qp_X_cg i1 (by rw [hn 189 (by omega)]) (hn 201 (by omega)) (hn 202 (by omega)), qp_L_cg k1 (by rw [hn 189 (by omega)]) (hn 203 (by omega))⟩
end Q66
