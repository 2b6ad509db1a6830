/-! The model's answers. -/
/-- evidence within its range -/
def qv_E (s : Nat → Int32) : Prop := ∀ k w, k < 10 → w < 2 → ∃ v, v ≤ 480 ∧ s (1 + 9 * k + w) = nI v
theorem qv_E_giv {s : Nat → Int32} {k w a : Nat} (h : qv_E s) (hk : k < 10) (hw : w < 2) (ha : a ≤ 16) : qv_E (qs_put s k (qf_giv w (qs_sk s k) (nI a))) := by
  intro k' w' hk' hw'
  by_cases e : k' = k
  · subst e
    rw [qs_put_at (by omega)]
    by_cases e2 : w' = w
    · subst e2
      obtain ⟨v, hv, hs⟩ := h k' w' hk' hw'
      have hq : qf_giv w' (qs_sk s k') (nI a) w' = qf_min (nI v + nI a) (nI 480) := by
        unfold qf_giv
        rw [qa_up_n _ _ (by omega), qa_up_n _ _ (by omega), qa_up_s]
        unfold qs_sk
        rw [hs]
      rw [hq, nI_add]
      unfold qf_min
      by_cases h2 : nI 480 < nI (v + a)
      · rw [if_pos h2]
        exact ⟨480, Nat.le_refl _, rfl⟩
      · rw [if_neg h2]
        rw [qn_lt (by omega) (by omega)] at h2
        exact ⟨v + a, by omega, rfl⟩
    · obtain ⟨v, hv, hs⟩ := h k' w' hk' hw'
      rw [qf_giv_n (by omega) (by omega) (by omega)]
      exact ⟨v, hv, hs⟩
  · rw [qs_put_ne (by omega)]
    exact h k' w' hk' hw'
theorem qF_an1_m {r o : Nat} {rq mb mk : Int32} {s : Nat → Int32} (hr : r = 0 ∨ r = 1) (hm : ((mk >>> (nI o &&& 31)) &&& nI 1 = nI 1) ↔ ((rq >>> (nI o &&& 31)) &&& nI 1 = nI 1 ∧ (r = 1 ∨ (mb >>> (nI o &&& 31)) &&& nI 1 = 0))) :
    qF_an1 r rq mb s o = if (mk >>> (nI o &&& 31)) &&& nI 1 = nI 1 then qs_put s o (qf_giv (1 - r) (qs_sk s o) (nI 4)) else s := by
  unfold qF_an1
  by_cases h1 : (rq >>> (nI o &&& 31)) &&& nI 1 = nI 1
  · rw [if_pos h1]
    rcases hr with rfl | rfl
    · rw [if_neg (by decide)]
      by_cases h2 : (mb >>> (nI o &&& 31)) &&& nI 1 = 0
      · rw [if_pos h2, if_pos (hm.mpr ⟨h1, Or.inr h2⟩)]
      · rw [if_neg h2, if_neg (fun q => (hm.mp q).2.elim (by decide) h2)]
    · rw [if_pos rfl, if_pos (hm.mpr ⟨h1, Or.inl rfl⟩)]
  · rw [if_neg h1, if_neg (fun q => h1 (hm.mp q).1)]
def qm_fin (r k i : Nat) (t : Nat → Int32) : Nat → Int32 :=
  va_up (va_up (va_up (va_up t (1 + 9 * k + 2) (if r = 1 then qf_min (nI 64) (nI 2 * t (1 + 9 * k + 2)) else nI 1)) (1 + 9 * k + 3) (t 0 + (if r = 1 then qf_min (nI 64) (nI 2 * t (1 + 9 * k + 2)) else nI 1))) (91 + 3 * i + (1 - r)) (t (91 + 3 * i + (1 - r)) + nI 1)) (91 + 3 * i + 2) (t 0)
section Q35
variable {d a b f : Nat} {K : Nat → Nat × Nat} {I : Nat → Nat → Int32} {R : Nat → Nat → Option Nat} {n z : Nat} {x y : Nat} {h : qa_H} {u nk ni k i j m B p q c : Nat} {l r : List Nat} {T : Nat → qt_T} {mb mk : Int32} {ps s : Nat → Int32} {fs hd : Nat → Nat}
theorem qs_MO_answers_loop (hM : qp_MO K R u) (hn : I (u + 5) 0 = nI nk) (h10 : nk ≤ 10) {r : Nat} (hr : r = 0 ∨ r = 1) (rq mb mk : Int32) (hk : k < 10) (hi : i < 12) (hm : ∀ o, o < nk → (((mk >>> (nI o &&& 31)) &&& nI 1 = nI 1) ↔ ((rq >>> (nI o &&& 31)) &&& nI 1 = nI 1 ∧ (r = 1 ∨ (mb >>> (nI o &&& 31)) &&& nI 1 = 0)))) :
    ∀ j o, o + j = nk → qv_E (qF_anl r rq mb s o) → qa_run (d + 14) 185 82 [qa_a (some u), qa_i (nI i), qa_i (nI r), qa_i (nI k), qa_i mk, qa_i (nI (1 - r)), qa_i (nI o)] [] [] (K, va_up I (u + 1) (qF_anl r rq mb s o), R, n, z) = some (none, (K, va_up I (u + 1) (qm_fin r k i (qF_anl r rq mb s nk)), R, n, z)) := by
  have hM' := hM
  obtain ⟨m0, ⟨s1, s2, s3⟩, -, -, -, ⟨c1, c2, c3⟩, -⟩ := hM
  intro j
  induction j with
  | zero =>
    intro o ho hE
    have ho : o = nk := by omega
    subst ho
    rw [qr_185_82]
    rcases hr with rfl | rfl
    · simp (disch := first | assumption | omega | exact Or.inl rfl | exact Or.inr rfl | exact qb_01) only [qr_185_0, qr_185_1, qr_185_4, qr_185_7, qr_185_8, qr_185_9, qr_185_10, qr_185_11, qr_185_12, qr_185_13, qr_185_16, qr_185_18, qr_185_19, qr_185_20, qr_185_21, qr_185_24, qr_185_25, qr_185_26, qr_185_29, qr_185_30, qr_185_33, qr_185_34, qr_185_37, qr_185_38, qr_185_39, qr_185_40, qr_185_42, qr_185_43, qr_185_44, qr_185_47, qr_185_48, qr_185_51, qr_185_52, qr_185_54, qr_185_55, qr_185_58, qr_185_59, qr_185_60, qr_185_63, qr_185_64, qr_185_67, qr_185_68, qr_185_69, qr_185_70, qr_185_71, qr_185_72, qr_185_74, qr_185_76, qr_185_79, qr_185_80, qr_185_84, qr_185_85, qr_185_88, qr_185_89, qr_185_90, qr_185_93, qr_185_95, qr_185_97, qr_185_98, qr_185_99, qr_185_100, qr_185_101, qr_185_104, qr_185_105, qr_185_107, qr_185_109, qr_185_110, qr_185_113, qr_185_116, qr_185_119, qr_185_120, qr_185_123, qr_185_124, qr_185_125, qr_185_128, qr_185_129, qr_185_130, qr_185_133, qr_185_135, qr_185_136, qr_185_137, qr_185_140, qr_185_141, qr_185_142, qr_185_145, qr_185_146, qr_185_147, qr_185_150, qr_185_153, qr_185_154, qr_185_155, qr_185_156, qr_185_159, qr_185_160, qr_185_161, qr_185_164, qr_185_165, qr_185_168, qr_185_169, qr_185_170, qr_185_171, qr_185_174, qr_185_175, qr_185_176, qr_185_179, qr_185_180, qr_185_181, qr_185_182, qr_185_183, qr_185_186, qr_185_187, qr_185_188, qr_185_189, qr_185_192, qr_185_193, qr_185_196, qr_185_197, qr_185_200, qr_185_201, qr_185_202, qr_185_203, qr_185_204, qr_185_205, qr_185_206, qr_185_209, qr_185_210, qr_185_211, qr_185_214, qr_185_215, qr_185_218, qr_185_219, qr_185_220, qr_185_221, true_and, and_true, false_and, and_false, Option.bind_some, Option.toList_some, Option.toList_none, List.nil_append, List.cons_append, if_true, if_false, ite_true, ite_false, not_true_eq_false, not_false_eq_true, qn_lt0, qn_ge0, qn_lt, qn_le, qn_eq, qn_e0, qn_gt0, qn_le0, qn_m1, nI_add, pk_mul, qb_e0, Classical.not_not, qa_up_s, qa_up_n, qa_uu, c3, s3, hn, Nat.le_refl, qs_MO_of, qs_MO_ofItem, qs_MA_min, show ¬ 0 = 1 by decide]
      rfl
    · simp (disch := first | assumption | omega | exact Or.inl rfl | exact Or.inr rfl | exact qb_01) only [qr_185_0, qr_185_1, qr_185_4, qr_185_7, qr_185_8, qr_185_9, qr_185_10, qr_185_11, qr_185_12, qr_185_13, qr_185_16, qr_185_18, qr_185_19, qr_185_20, qr_185_21, qr_185_24, qr_185_25, qr_185_26, qr_185_29, qr_185_30, qr_185_33, qr_185_34, qr_185_37, qr_185_38, qr_185_39, qr_185_40, qr_185_42, qr_185_43, qr_185_44, qr_185_47, qr_185_48, qr_185_51, qr_185_52, qr_185_54, qr_185_55, qr_185_58, qr_185_59, qr_185_60, qr_185_63, qr_185_64, qr_185_67, qr_185_68, qr_185_69, qr_185_70, qr_185_71, qr_185_72, qr_185_74, qr_185_76, qr_185_79, qr_185_80, qr_185_84, qr_185_85, qr_185_88, qr_185_89, qr_185_90, qr_185_93, qr_185_95, qr_185_97, qr_185_98, qr_185_99, qr_185_100, qr_185_101, qr_185_104, qr_185_105, qr_185_107, qr_185_109, qr_185_110, qr_185_113, qr_185_116, qr_185_119, qr_185_120, qr_185_123, qr_185_124, qr_185_125, qr_185_128, qr_185_129, qr_185_130, qr_185_133, qr_185_135, qr_185_136, qr_185_137, qr_185_140, qr_185_141, qr_185_142, qr_185_145, qr_185_146, qr_185_147, qr_185_150, qr_185_153, qr_185_154, qr_185_155, qr_185_156, qr_185_159, qr_185_160, qr_185_161, qr_185_164, qr_185_165, qr_185_168, qr_185_169, qr_185_170, qr_185_171, qr_185_174, qr_185_175, qr_185_176, qr_185_179, qr_185_180, qr_185_181, qr_185_182, qr_185_183, qr_185_186, qr_185_187, qr_185_188, qr_185_189, qr_185_192, qr_185_193, qr_185_196, qr_185_197, qr_185_200, qr_185_201, qr_185_202, qr_185_203, qr_185_204, qr_185_205, qr_185_206, qr_185_209, qr_185_210, qr_185_211, qr_185_214, qr_185_215, qr_185_218, qr_185_219, qr_185_220, qr_185_221, true_and, and_true, false_and, and_false, Option.bind_some, Option.toList_some, Option.toList_none, List.nil_append, List.cons_append, if_true, if_false, ite_true, ite_false, not_true_eq_false, not_false_eq_true, qn_lt0, qn_ge0, qn_lt, qn_le, qn_eq, qn_e0, qn_gt0, qn_le0, qn_m1, nI_add, pk_mul, qb_e0, Classical.not_not, qa_up_s, qa_up_n, qa_uu, c3, s3, hn, Nat.le_refl, qs_MO_of, qs_MO_ofItem, qs_MA_min]
      rfl
  | succ j ih =>
    intro o ho hE
    have e1 : ¬ nk ≤ o := by omega
    have hst : qF_anl r rq mb s (o + 1) = qF_an1 r rq mb (qF_anl r rq mb s o) o := rfl
    rw [qF_an1_m hr (hm o (by omega))] at hst
    have ho10 : o < 10 := by omega
    rw [qr_185_82]
    by_cases hq : (mk >>> (nI o &&& 31)) &&& nI 1 = nI 1
    · rw [if_pos hq] at hst
      have e2 := ih (o + 1) (by omega) (by rw [hst]; exact qv_E_giv hE ho10 (by omega) (by omega))
      obtain ⟨v, hv, hs⟩ := hE o (1 - r) ho10 (by omega)
      have hw : 1 - r < 2 := by omega
      have hs' : (va_up I (u + 1) (qF_anl r rq mb s o)) (u + 1) (1 + 9 * o + (1 - r)) = nI v := by rw [qa_up_s]; exact hs
      have hg := qs_MO_gives (d := d + 12) (n := n) (z := z) (a := 4) hM' ho10 hw hs' hv (by omega)
      simp only [qa_up_s, qa_uu] at hg
      rw [← hst] at hg
      simp (disch := first | assumption | omega | exact Or.inl rfl | exact Or.inr rfl | exact qb_01) only [qr_185_0, qr_185_1, qr_185_4, qr_185_7, qr_185_8, qr_185_9, qr_185_10, qr_185_11, qr_185_12, qr_185_13, qr_185_16, qr_185_18, qr_185_19, qr_185_20, qr_185_21, qr_185_24, qr_185_25, qr_185_26, qr_185_29, qr_185_30, qr_185_33, qr_185_34, qr_185_37, qr_185_38, qr_185_39, qr_185_40, qr_185_42, qr_185_43, qr_185_44, qr_185_47, qr_185_48, qr_185_51, qr_185_52, qr_185_54, qr_185_55, qr_185_58, qr_185_59, qr_185_60, qr_185_63, qr_185_64, qr_185_67, qr_185_68, qr_185_69, qr_185_70, qr_185_71, qr_185_72, qr_185_74, qr_185_76, qr_185_79, qr_185_80, qr_185_84, qr_185_85, qr_185_88, qr_185_89, qr_185_90, qr_185_93, qr_185_95, qr_185_97, qr_185_98, qr_185_99, qr_185_100, qr_185_101, qr_185_104, qr_185_105, qr_185_107, qr_185_109, qr_185_110, qr_185_113, qr_185_116, qr_185_119, qr_185_120, qr_185_123, qr_185_124, qr_185_125, qr_185_128, qr_185_129, qr_185_130, qr_185_133, qr_185_135, qr_185_136, qr_185_137, qr_185_140, qr_185_141, qr_185_142, qr_185_145, qr_185_146, qr_185_147, qr_185_150, qr_185_153, qr_185_154, qr_185_155, qr_185_156, qr_185_159, qr_185_160, qr_185_161, qr_185_164, qr_185_165, qr_185_168, qr_185_169, qr_185_170, qr_185_171, qr_185_174, qr_185_175, qr_185_176, qr_185_179, qr_185_180, qr_185_181, qr_185_182, qr_185_183, qr_185_186, qr_185_187, qr_185_188, qr_185_189, qr_185_192, qr_185_193, qr_185_196, qr_185_197, qr_185_200, qr_185_201, qr_185_202, qr_185_203, qr_185_204, qr_185_205, qr_185_206, qr_185_209, qr_185_210, qr_185_211, qr_185_214, qr_185_215, qr_185_218, qr_185_219, qr_185_220, qr_185_221, true_and, and_true, false_and, and_false, Option.bind_some, Option.toList_some, Option.toList_none, List.nil_append, List.cons_append, if_true, if_false, ite_true, ite_false, not_true_eq_false, not_false_eq_true, qn_lt0, qn_ge0, qn_lt, qn_le, qn_eq, qn_e0, qn_gt0, qn_le0, qn_m1, nI_add, pk_mul, qb_e0, Classical.not_not, qa_up_s, qa_up_n, qa_uu, c3, s3, hn, e1, hq, hg, e2]
    · rw [if_neg hq] at hst
      have e2 := ih (o + 1) (by omega) (by rw [hst]; exact hE)
      rw [hst] at e2
      simp (disch := first | assumption | omega | exact Or.inl rfl | exact Or.inr rfl | exact qb_01) only [qr_185_0, qr_185_1, qr_185_4, qr_185_7, qr_185_8, qr_185_9, qr_185_10, qr_185_11, qr_185_12, qr_185_13, qr_185_16, qr_185_18, qr_185_19, qr_185_20, qr_185_21, qr_185_24, qr_185_25, qr_185_26, qr_185_29, qr_185_30, qr_185_33, qr_185_34, qr_185_37, qr_185_38, qr_185_39, qr_185_40, qr_185_42, qr_185_43, qr_185_44, qr_185_47, qr_185_48, qr_185_51, qr_185_52, qr_185_54, qr_185_55, qr_185_58, qr_185_59, qr_185_60, qr_185_63, qr_185_64, qr_185_67, qr_185_68, qr_185_69, qr_185_70, qr_185_71, qr_185_72, qr_185_74, qr_185_76, qr_185_79, qr_185_80, qr_185_84, qr_185_85, qr_185_88, qr_185_89, qr_185_90, qr_185_93, qr_185_95, qr_185_97, qr_185_98, qr_185_99, qr_185_100, qr_185_101, qr_185_104, qr_185_105, qr_185_107, qr_185_109, qr_185_110, qr_185_113, qr_185_116, qr_185_119, qr_185_120, qr_185_123, qr_185_124, qr_185_125, qr_185_128, qr_185_129, qr_185_130, qr_185_133, qr_185_135, qr_185_136, qr_185_137, qr_185_140, qr_185_141, qr_185_142, qr_185_145, qr_185_146, qr_185_147, qr_185_150, qr_185_153, qr_185_154, qr_185_155, qr_185_156, qr_185_159, qr_185_160, qr_185_161, qr_185_164, qr_185_165, qr_185_168, qr_185_169, qr_185_170, qr_185_171, qr_185_174, qr_185_175, qr_185_176, qr_185_179, qr_185_180, qr_185_181, qr_185_182, qr_185_183, qr_185_186, qr_185_187, qr_185_188, qr_185_189, qr_185_192, qr_185_193, qr_185_196, qr_185_197, qr_185_200, qr_185_201, qr_185_202, qr_185_203, qr_185_204, qr_185_205, qr_185_206, qr_185_209, qr_185_210, qr_185_211, qr_185_214, qr_185_215, qr_185_218, qr_185_219, qr_185_220, qr_185_221, true_and, and_true, false_and, and_false, Option.bind_some, Option.toList_some, Option.toList_none, List.nil_append, List.cons_append, if_true, if_false, ite_true, ite_false, not_true_eq_false, not_false_eq_true, qn_lt0, qn_ge0, qn_lt, qn_le, qn_eq, qn_e0, qn_gt0, qn_le0, qn_m1, nI_add, pk_mul, qb_e0, Classical.not_not, qa_up_s, qa_up_n, qa_uu, c3, s3, hn, e1, hq, e2]
end Q35
