/-! The model's answers, whole. -/
theorem qn_and1 {x : Int32} : x &&& (-1) = x := Int32.and_neg_one
theorem qn_b1 {x : Int32} : x &&& nI 1 = if x.toBitVec.getLsbD 0 = true then nI 1 else 0 := by
  apply Int32.toBitVec_inj.1
  rw [Int32.toBitVec_and, show (nI 1).toBitVec = 1#32 from rfl, BitVec.and_one_eq_setWidth_ofBool_getLsbD]
  cases x.toBitVec.getLsbD 0 <;> rfl
theorem qn_sm1 : ∀ o, o < 10 → (-1 : Int32) >>> (nI o &&& 31) = (-1) := by decide +kernel
theorem qn_less {x y : Int32} {o : Nat} (ho : o < 10) : (((x &&& (y ^^^ (-1))) >>> (nI o &&& 31)) &&& nI 1 = nI 1) ↔ ((x >>> (nI o &&& 31)) &&& nI 1 = nI 1 ∧ (y >>> (nI o &&& 31)) &&& nI 1 = 0) := by
  rw [Int32.shiftRight_and, Int32.shiftRight_xor, qn_sm1 o ho]
  generalize x >>> (nI o &&& 31) = a
  generalize y >>> (nI o &&& 31) = b
  rw [qn_b1, qn_b1, qn_b1, Int32.toBitVec_and, Int32.toBitVec_xor, BitVec.getLsbD_and, BitVec.getLsbD_xor, show (-1 : Int32).toBitVec.getLsbD 0 = true by decide]
  cases a.toBitVec.getLsbD 0 <;> cases b.toBitVec.getLsbD 0 <;> decide
theorem qv_E_up {s : Nat → Int32} {a : Nat} {x : Int32} (h : qv_E s) (ha : ∀ k w, k < 10 → w < 2 → 1 + 9 * k + w ≠ a) : qv_E (va_up s a x) := by
  intro k w hk hw
  rw [qa_up_n _ _ (ha k w hk hw)]
  exact h k w hk hw
section Q37
variable {d a b f : Nat} {K : Nat → Nat × Nat} {I : Nat → Nat → Int32} {R : Nat → Nat → Option Nat} {n z : Nat} {x y : Nat} {h : qa_H} {u nk ni k i j m B p q c : Nat} {l r : List Nat} {T : Nat → qt_T} {mb mk : Int32} {ps s : Nat → Int32} {fs hd : Nat → Nat}
theorem qs_MO_skillsIn (hM : qp_MO K R u) {t : qt_T} {o : Int32} (h1 : qt_M (I (u + 5)) t o) (h2 : (qt_dp t).1 ≤ 13) : qa_ex (d + 14) 186 [qa_a (some u), qa_i o] (K, I, R, n, z) = some (some (qa_i (qt_rq t)), (K, I, R, n, z)) := by
  have m0 := hM.1
  unfold qt_rq
  rcases qt_M_o h1 with ⟨g1, rfl⟩ | ⟨g1, -⟩
  · simp (disch := first | assumption | omega | exact Or.inl rfl | exact Or.inr rfl | exact qb_01) only [qe_186, qr_186_0, qr_186_1, qr_186_4, qr_186_5, qr_186_6, qr_186_7, qr_186_10, qr_186_12, qr_186_13, qr_186_14, qr_186_15, qr_186_17, qr_186_20, qr_186_21, qr_186_22, qr_186_25, qr_186_27, qr_186_28, qr_186_29, qr_186_30, qr_186_31, qr_186_32, qr_186_33, qr_186_34, qr_186_35, qr_186_38, qr_186_41, qr_186_42, qr_186_43, qr_186_44, qr_186_46, qr_186_49, qr_186_50, qr_186_51, qr_186_52, qr_186_55, qr_186_56, qr_186_57, qr_186_58, qr_186_61, qr_186_64, qr_186_65, qr_186_66, qr_186_67, qr_186_68, qr_186_71, qr_186_72, true_and, and_true, false_and, and_false, Option.bind_some, Option.toList_some, Option.toList_none, List.nil_append, List.cons_append, if_true, if_false, ite_true, ite_false, not_true_eq_false, not_false_eq_true, g1, qn_m1z, Bool.false_eq_true]
  · rw [if_pos g1]
    exact (qs_MO_skillsIn_all hM t o h1).1 g1 _ (by omega)
theorem qs_MO_answers (hM : qp_MO K R u) (hn : I (u + 5) 0 = nI nk) (h10 : nk ≤ 10) (hT : qt_MT (I (u + 5)) nk T) {r : Nat} (hr : r = 0 ∨ r = 1) (hi : i < 12) (hf : I (u + 5) (532 + i) = nI k) (hk : k < nk) (hE : qv_E (I (u + 1))) {v : Nat} (hv : v ≤ 64) (hs2 : I (u + 1) (1 + 9 * k + 2) = nI v) :
    qa_ex (d + 15) 185 [qa_a (some u), qa_i (nI i), qa_i (nI r)] (K, I, R, n, z) = some (none, (K, va_up I (u + 1) (qF_ans nk (fun k => I (u + 5) (2 + k)) (fun k => qt_rq (T k)) r k i (I (u + 1))), R, n, z)) := by
  have hM' := hM
  have hk10 : k < 10 := by omega
  obtain ⟨t1, t2, t3⟩ := hT k hk
  have hfin := qm_fin_ans (nk := nk) (r := r) (i := i) (ps := fun k => I (u + 5) (2 + k)) (rq := fun k => qt_rq (T k)) hr hk10 h10 hv hs2
  rw [← hfin]
  have e1 := qs_MO_skillsIn (d := d) (n := n) (z := z) hM' t1 t3
  have e2 := qs_MO_mastered (d := d + 11) (R := R) (n := n) (z := z) hM' hn h10
  have hmb : qf_ms (fun k => qf_mst (I (u + 1) (1 + 9 * k + 0)) (I (u + 1) (1 + 9 * k + 1)) (I (u + 5) (2 + k))) nk = qF_mb nk (fun k => I (u + 5) (2 + k)) (I (u + 1)) := rfl
  rw [hmb] at e2
  generalize hmbg : qF_mb nk (fun k => I (u + 5) (2 + k)) (I (u + 1)) = mb at e2
  generalize hs : I (u + 1) = s at hE hs2
  generalize hs1 : va_up s (1 + 9 * k + 4) (s 0) = s1
  have hE1 : qv_E s1 := by rw [← hs1]; exact qv_E_up hE (fun k' w' h1 h2 => by omega)
  obtain ⟨v2, hv2, hw2⟩ := hE1 k (1 - r) hk10 (by omega)
  have hsI : (va_up I (u + 1) s1) (u + 1) (1 + 9 * k + (1 - r)) = nI v2 := by rw [qa_up_s]; exact hw2
  have e3 := qs_MO_gives (d := d + 12) (n := n) (z := z) (a := 16) hM' hk10 (show 1 - r < 2 by omega) hsI hv2 (by omega)
  simp only [qa_up_s, qa_uu] at e3
  generalize hG : qs_put s1 k (qf_giv (1 - r) (qs_sk s1 k) (nI 16)) = G at e3
  have hGE : qv_E G := by rw [← hG]; exact qv_E_giv hE1 hk10 (by omega) (by omega)
  have loop := fun (mk : Int32) hm => qs_MO_answers_loop (d := d) (I := I) (s := G) (n := n) (z := z) hM' hn h10 hr (qt_rq (T k)) mb mk hk10 hi hm nk 0 (by omega) hGE
  have hz : ∀ rq mb, qF_anl r rq mb G 0 = G := fun _ _ => rfl
  simp only [hz] at loop
  obtain ⟨m0, ⟨s1', s2', s3'⟩, -, -, -, ⟨c1, c2, c3⟩, -⟩ := hM
  rcases hr with rfl | rfl
  · have l0 := loop (qt_rq (T k) &&& (mb ^^^ (-1))) ?_
    · simp (disch := first | assumption | omega | exact Or.inl rfl | exact Or.inr rfl | exact qb_01) only [qe_185, qr_185_0, qr_185_1, qr_185_4, qr_185_7, qr_185_8, qr_185_9, qr_185_10, qr_185_11, qr_185_12, qr_185_13, qr_185_16, qr_185_18, qr_185_19, qr_185_20, qr_185_21, qr_185_24, qr_185_25, qr_185_26, qr_185_29, qr_185_30, qr_185_33, qr_185_34, qr_185_37, qr_185_38, qr_185_39, qr_185_40, qr_185_42, qr_185_43, qr_185_44, qr_185_47, qr_185_48, qr_185_51, qr_185_52, qr_185_54, qr_185_55, qr_185_58, qr_185_59, qr_185_60, qr_185_63, qr_185_64, qr_185_67, qr_185_68, qr_185_69, qr_185_70, qr_185_71, qr_185_72, qr_185_74, qr_185_76, qr_185_79, qr_185_80, qr_185_84, qr_185_85, qr_185_88, qr_185_89, qr_185_90, qr_185_93, qr_185_95, qr_185_97, qr_185_98, qr_185_99, qr_185_100, qr_185_101, qr_185_104, qr_185_105, qr_185_107, qr_185_109, qr_185_110, qr_185_113, qr_185_116, qr_185_119, qr_185_120, qr_185_123, qr_185_124, qr_185_125, qr_185_128, qr_185_129, qr_185_130, qr_185_133, qr_185_135, qr_185_136, qr_185_137, qr_185_140, qr_185_141, qr_185_142, qr_185_145, qr_185_146, qr_185_147, qr_185_150, qr_185_153, qr_185_154, qr_185_155, qr_185_156, qr_185_159, qr_185_160, qr_185_161, qr_185_164, qr_185_165, qr_185_168, qr_185_169, qr_185_170, qr_185_171, qr_185_174, qr_185_175, qr_185_176, qr_185_179, qr_185_180, qr_185_181, qr_185_182, qr_185_183, qr_185_186, qr_185_187, qr_185_188, qr_185_189, qr_185_192, qr_185_193, qr_185_196, qr_185_197, qr_185_200, qr_185_201, qr_185_202, qr_185_203, qr_185_204, qr_185_205, qr_185_206, qr_185_209, qr_185_210, qr_185_211, qr_185_214, qr_185_215, qr_185_218, qr_185_219, qr_185_220, qr_185_221, true_and, and_true, false_and, and_false, Option.bind_some, Option.toList_some, Option.toList_none, List.nil_append, List.cons_append, if_true, if_false, ite_true, ite_false, not_true_eq_false, not_false_eq_true, qn_lt0, qn_ge0, qn_lt, qn_le, qn_eq, qn_e0, qn_gt0, qn_le0, qn_m1, nI_add, pk_mul, qb_e0, Classical.not_not, qa_up_s, qa_up_n, qa_uu, c3, s3', hf, hs, hs1, e1, e2, e3, qs_MO_of, show ¬ 0 = 1 by decide]
      exact l0
    · intro o ho
      rw [qn_less (by omega)]
      exact ⟨fun q => ⟨q.1, Or.inr q.2⟩, fun q => ⟨q.1, q.2.elim (fun e => absurd e (by decide)) id⟩⟩
  · have l0 := loop (qt_rq (T k)) ?_
    · simp (disch := first | assumption | omega | exact Or.inl rfl | exact Or.inr rfl | exact qb_01) only [qe_185, qr_185_0, qr_185_1, qr_185_4, qr_185_7, qr_185_8, qr_185_9, qr_185_10, qr_185_11, qr_185_12, qr_185_13, qr_185_16, qr_185_18, qr_185_19, qr_185_20, qr_185_21, qr_185_24, qr_185_25, qr_185_26, qr_185_29, qr_185_30, qr_185_33, qr_185_34, qr_185_37, qr_185_38, qr_185_39, qr_185_40, qr_185_42, qr_185_43, qr_185_44, qr_185_47, qr_185_48, qr_185_51, qr_185_52, qr_185_54, qr_185_55, qr_185_58, qr_185_59, qr_185_60, qr_185_63, qr_185_64, qr_185_67, qr_185_68, qr_185_69, qr_185_70, qr_185_71, qr_185_72, qr_185_74, qr_185_76, qr_185_79, qr_185_80, qr_185_84, qr_185_85, qr_185_88, qr_185_89, qr_185_90, qr_185_93, qr_185_95, qr_185_97, qr_185_98, qr_185_99, qr_185_100, qr_185_101, qr_185_104, qr_185_105, qr_185_107, qr_185_109, qr_185_110, qr_185_113, qr_185_116, qr_185_119, qr_185_120, qr_185_123, qr_185_124, qr_185_125, qr_185_128, qr_185_129, qr_185_130, qr_185_133, qr_185_135, qr_185_136, qr_185_137, qr_185_140, qr_185_141, qr_185_142, qr_185_145, qr_185_146, qr_185_147, qr_185_150, qr_185_153, qr_185_154, qr_185_155, qr_185_156, qr_185_159, qr_185_160, qr_185_161, qr_185_164, qr_185_165, qr_185_168, qr_185_169, qr_185_170, qr_185_171, qr_185_174, qr_185_175, qr_185_176, qr_185_179, qr_185_180, qr_185_181, qr_185_182, qr_185_183, qr_185_186, qr_185_187, qr_185_188, qr_185_189, qr_185_192, qr_185_193, qr_185_196, qr_185_197, qr_185_200, qr_185_201, qr_185_202, qr_185_203, qr_185_204, qr_185_205, qr_185_206, qr_185_209, qr_185_210, qr_185_211, qr_185_214, qr_185_215, qr_185_218, qr_185_219, qr_185_220, qr_185_221, true_and, and_true, false_and, and_false, Option.bind_some, Option.toList_some, Option.toList_none, List.nil_append, List.cons_append, if_true, if_false, ite_true, ite_false, not_true_eq_false, not_false_eq_true, qn_lt0, qn_ge0, qn_lt, qn_le, qn_eq, qn_e0, qn_gt0, qn_le0, qn_m1, nI_add, pk_mul, qb_e0, Classical.not_not, qa_up_s, qa_up_n, qa_uu, c3, s3', hf, hs, hs1, e1, e2, e3, qs_MO_of, qn_and1]
      exact l0
    · intro o ho
      exact ⟨fun q => ⟨q, Or.inl rfl⟩, fun q => q.1⟩
end Q37
