/-! The model's log when it is full. -/
section Q43
variable {d a b f : Nat} {K : Nat → Nat × Nat} {I : Nat → Nat → Int32} {R : Nat → Nat → Option Nat} {n z : Nat} {x y : Int32} {h : qa_H} {u nk ni k i j m B p q c e g : Nat} {l r : List Nat} {T : Nat → qt_T} {pm fs hd : Nat → Nat}
theorem qs_MO_logs60 (hM : qp_MO K R u) (hg : I u 12 = nI 60) (hC : qp_MC (I (u + 5)) nk pm T ni fs hd) (hB : B < 1000000) (hv : qv_S B (I (u + 2))) (hZs : qv_Z (I (u + 1))) (hZb : qv_Z (I (u + 2))) (hZa : qv_Z (I (u + 3))) (he : e ≤ ni) {r : Nat} (hr : r = 0 ∨ r = 1) (hl : I (u + 9) 0 = qe_v e) (hlr : I (u + 10) 0 = nI r) :
    ∃ I', qa_ex (d + 17) 181 [qa_a (some u), qa_i x, qa_i y] (K, I, R, n, z) = some (none, (K, I', R, n, z)) ∧ I' (u + 1) = I (u + 1) ∧ I' (u + 2) = qF_step nk pm T fs e r (I (u + 2)) ∧ I' (u + 3) = I (u + 1) ∧ I' (u + 9) = va_up (qf_s1 60 (I (u + 9))) 59 x ∧ I' (u + 10) = va_up (qf_s1 60 (I (u + 10))) 59 y ∧ I' u = va_up (I u) 12 (nI 60) ∧ ∀ a, a ≠ u → a ≠ u + 1 → a ≠ u + 2 → a ≠ u + 3 → a ≠ u + 9 → a ≠ u + 10 → I' a = I a := by
  have hM' := hM
  have hC' := hC
  obtain ⟨-, -, k10, -, i12, -, -, -, hfi⟩ := hC'
  have hZt : qv_Z (qF_step nk pm T fs e r (I (u + 2))) := qv_Z_step hZb k10 i12 he (fun i hi => (hfi i hi).2.2.1)
  obtain ⟨m0, ⟨s1, s2, s3⟩, ⟨b1, b2, b3⟩, ⟨a1, a2, a3⟩, -, ⟨c1, c2, c3⟩, -, -, -, ⟨l1, l2, l3⟩, ⟨r1, r2, r3⟩, -⟩ := hM
  have e1 := qs_MO_copies (d := d + 15) (I := I) (R := R) (n := n) (z := z) (m := 127) (show u + 1 ≠ u + 3 by omega) s1 a1 (by omega) (by omega) (by omega)
  rw [qf_cpy_Z hZs hZa] at e1
  generalize hI1 : va_up I (u + 3) (I (u + 1)) = I1 at e1
  have g1 : ∀ a, a ≠ u + 3 → I1 a = I a := fun a ha => by rw [← hI1, qa_up_n _ _ ha]
  have g13 : I1 (u + 3) = I (u + 1) := by rw [← hI1, qa_up_s]
  have e2 := qs_MO_copies (d := d + 15) (I := I1) (R := R) (n := n) (z := z) (m := 127) (show u + 2 ≠ u + 1 by omega) b1 s1 (by omega) (by omega) (by omega)
  rw [g1 (u + 2) (by omega), g1 (u + 1) (by omega), qf_cpy_Z hZb hZs] at e2
  generalize hI2 : va_up I1 (u + 1) (I (u + 2)) = I2 at e2
  have g2 : ∀ a, a ≠ u + 1 → I2 a = I1 a := fun a ha => by rw [← hI2, qa_up_n _ _ ha]
  have g21 : I2 (u + 1) = I (u + 2) := by rw [← hI2, qa_up_s]
  have g25 : I2 (u + 5) = I (u + 5) := by rw [g2 _ (by omega), g1 _ (by omega)]
  have g29 : I2 (u + 9) 0 = qe_v e := by rw [g2 _ (by omega), g1 _ (by omega), hl]
  have g20 : I2 (u + 10) 0 = nI r := by rw [g2 _ (by omega), g1 _ (by omega), hlr]
  have e3 := qs_MO_applies (d := d) (I := I2) (n := n) (z := z) (nk := nk) (pm := pm) (T := T) (ni := ni) (fs := fs) (hd := hd) (B := B) hM' (by rw [g25]; exact hC) hB (by rw [g21]; exact hv) he hr
  rw [g21] at e3
  generalize qF_step nk pm T fs e r (I (u + 2)) = t at e3 hZt ⊢
  generalize hI3 : va_up I2 (u + 1) t = I3 at e3
  have g3 : ∀ a, a ≠ u + 1 → I3 a = I2 a := fun a ha => by rw [← hI3, qa_up_n _ _ ha]
  have g31 : I3 (u + 1) = t := by rw [← hI3, qa_up_s]
  have g32 : I3 (u + 2) = I (u + 2) := by rw [g3 _ (by omega), g2 _ (by omega), g1 _ (by omega)]
  have e4 := qs_MO_copies (d := d + 15) (I := I3) (R := R) (n := n) (z := z) (m := 127) (show u + 1 ≠ u + 2 by omega) s1 b1 (by omega) (by omega) (by omega)
  rw [g31, g32, qf_cpy_Z hZt hZb] at e4
  generalize hI4 : va_up I3 (u + 2) t = I4 at e4
  have g4 : ∀ a, a ≠ u + 2 → I4 a = I3 a := fun a ha => by rw [← hI4, qa_up_n _ _ ha]
  have g42 : I4 (u + 2) = t := by rw [← hI4, qa_up_s]
  have g41 : I4 (u + 1) = t := by rw [g4 _ (by omega), g31]
  have g43 : I4 (u + 3) = I (u + 1) := by rw [g4 _ (by omega), g3 _ (by omega), g2 _ (by omega), g13]
  have e5 := qs_MO_copies (d := d + 15) (I := I4) (R := R) (n := n) (z := z) (m := 127) (show u + 3 ≠ u + 1 by omega) a1 s1 (by omega) (by omega) (by omega)
  rw [g43, g41, qf_cpy_Z hZs hZt] at e5
  generalize hI5 : va_up I4 (u + 1) (I (u + 1)) = I5 at e5
  have g5 : ∀ a, a ≠ u + 1 → I5 a = I4 a := fun a ha => by rw [← hI5, qa_up_n _ _ ha]
  have g51 : I5 (u + 1) = I (u + 1) := by rw [← hI5, qa_up_s]
  have g5o : ∀ a, a ≠ u + 1 → a ≠ u + 2 → a ≠ u + 3 → I5 a = I a := fun a h1 h2 h3 => by rw [g5 a h1, g4 a h2, g3 a h1, g2 a h1, g1 a h3]
  obtain ⟨I9, hI9⟩ : ∃ I9, I9 = va_up (va_up (va_up I5 (u + 9) (va_up (qf_s1 60 (I5 (u + 9))) 59 x)) (u + 10) (va_up (qf_s1 60 (I5 (u + 10))) 59 y)) u (va_up (I5 u) 12 (nI 60)) := ⟨_, rfl⟩
  have e6 := qm_log2 (d := d) (x := x) (y := y) (n := n) (z := z) (lg := I5 (u + 9)) (lr := I5 (u + 10)) hM' (I := I5) (by rw [g5o u (by omega) (by omega) (by omega)]; exact hg) hI9 59 1 (by omega) (by omega)
  rw [qf_s1_1, qf_s1_1, qa_uI, qa_uI] at e6
  refine ⟨I9, ?_, ?_, ?_, ?_, ?_, ?_, ?_, ?_⟩
  · simp (disch := first | assumption | omega | exact Or.inl rfl | exact Or.inr rfl | exact qb_01) only [qe_181, qr_181_0, qr_181_1, qr_181_4, qr_181_6, qr_181_9, qr_181_10, qr_181_13, qr_181_14, qr_181_17, qr_181_19, qr_181_22, qr_181_23, qr_181_26, qr_181_27, qr_181_30, qr_181_32, qr_181_35, qr_181_36, qr_181_37, qr_181_40, qr_181_41, qr_181_42, qr_181_43, qr_181_46, qr_181_47, qr_181_48, qr_181_51, qr_181_52, qr_181_55, qr_181_56, qr_181_59, qr_181_61, qr_181_64, qr_181_65, qr_181_68, qr_181_69, qr_181_72, qr_181_74, qr_181_77, qr_181_78, qr_181_80, qr_181_82, qr_181_85, qr_181_86, qr_181_89, qr_181_90, qr_181_91, qr_181_92, qr_181_93, qr_181_96, qr_181_97, qr_181_98, qr_181_99, qr_181_100, qr_181_103, qr_181_104, qr_181_105, qr_181_106, qr_181_107, qr_181_110, qr_181_111, qr_181_112, qr_181_113, qr_181_116, qr_181_119, qr_181_120, qr_181_121, qr_181_124, qr_181_125, qr_181_126, qr_181_129, qr_181_130, qr_181_133, qr_181_134, qr_181_137, qr_181_138, qr_181_139, qr_181_140, qr_181_143, qr_181_144, qr_181_147, qr_181_148, qr_181_149, qr_181_150, qr_181_151, qr_181_154, qr_181_155, qr_181_156, qr_181_159, true_and, and_true, false_and, and_false, Option.bind_some, Option.toList_some, Option.toList_none, List.nil_append, List.cons_append, if_true, if_false, ite_true, ite_false, not_true_eq_false, not_false_eq_true, qn_lt0, qn_ge0, qn_lt, qn_le, qn_eq, qn_e0, qn_gt0, qn_le0, qn_m1, nI_add, pk_mul, qb_e0, Classical.not_not, hg, s3, b3, a3, l3, r3, g29, g20, e1, e2, e3, e4, e5]
    exact e6
  · rw [hI9, qa_up_n _ _ (by omega), qa_up_n _ _ (by omega), qa_up_n _ _ (by omega), g51]
  · rw [hI9, qa_up_n _ _ (by omega), qa_up_n _ _ (by omega), qa_up_n _ _ (by omega), g5 _ (by omega), g42]
  · rw [hI9, qa_up_n _ _ (by omega), qa_up_n _ _ (by omega), qa_up_n _ _ (by omega), g5 _ (by omega), g43]
  · rw [hI9, qa_up_n _ _ (by omega), qa_up_n _ _ (by omega), qa_up_s, g5o _ (by omega) (by omega) (by omega)]
  · rw [hI9, qa_up_n _ _ (by omega), qa_up_s, g5o _ (by omega) (by omega) (by omega)]
  · rw [hI9, qa_up_s, g5o _ (by omega) (by omega) (by omega)]
  · intro a h0 h1 h2 h3 h4 h5
    rw [hI9, qa_up_n _ _ h0, qa_up_n _ _ h5, qa_up_n _ _ h4, g5o _ h1 h2 h3]
end Q43
