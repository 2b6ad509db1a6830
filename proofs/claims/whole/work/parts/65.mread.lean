/-! The model reads a whole curriculum. -/
/-- the first k skills stand in the row that was read -/
def qV_S (cc : Nat → Int32) (nd k : Nat) (pm : Nat → Nat) (T : Nat → qt_T) : Prop := ∀ i, i < k → cc (2 + i) = nI (pm i) ∧ qt_MB 0 nd 1000 cc (T i) (cc (12 + i))
def qM_T (nd k : Nat) (c c' : Nat → Int32) : Prop := (∀ x, x < 22 → x ≠ 2 + k → x ≠ 12 + k → c' x = c x) ∧ ∀ j, j < nd → c' (22 + j) = c (22 + j) ∧ c' (192 + j) = c (192 + j) ∧ c' (362 + j) = c (362 + j)
theorem qV_s {cc cc' : Nat → Int32} {nd nd' k mk : Nat} {pm : Nat → Nat} {T : Nat → qt_T} {t : qt_T} (hV : qV_S cc nd k pm T) (hT : qM_T nd k cc cc') (hn : nd ≤ nd') (hk : k < 10) (h1 : cc' (2 + k) = nI mk) (h2 : qt_MB nd nd' 1000 cc' t (cc' (12 + k))) : qV_S cc' nd' (k + 1) (va_up pm k mk) (va_up T k t) := by
  intro i hi
  by_cases he : i = k
  · subst he
    rw [qa_up_s, qa_up_s]
    exact ⟨h1, qt_MB_cg (fun _ _ _ _ => ⟨rfl, rfl, rfl⟩) (Nat.zero_le _) (Nat.le_refl _) (fun _ _ _ q => q) h2⟩
  · obtain ⟨g1, g2⟩ := hV i (by omega)
    rw [qa_up_n _ _ he, qa_up_n _ _ he, hT.1 _ (by omega) (by omega) (by omega), hT.1 _ (by omega) (by omega) (by omega)]
    exact ⟨g1, qt_MB_cg (fun j _ j2 _ => hT.2 j j2) (Nat.le_refl _) hn (fun _ _ _ q => q) g2⟩
def qP_ct (c : Nat → Nat) (L f n j : Nat) (pm : Nat → Nat) (T : Nat → qt_T) : Option (Nat × (Nat → Nat) × (Nat → qt_T)) × Nat := if L ≤ j then (some (n, pm, T), j) else if n = 10 ∨ ¬ c j = 59 then (none, j) else qP_al c L f n (j + 1) pm T
theorem qP_al_n {c : Nat → Nat} {L f k i : Nat} {pm : Nat → Nat} {T : Nat → qt_T} (h : (qP_sk c k i).1 = none) : qP_al c L (f + 1) k i pm T = (none, (qP_sk c k i).2) := by
  show qP_a1 c L k pm T (qP_sk c k i) _ = _
  unfold qP_a1
  rw [h]
theorem qP_al_s {c : Nat → Nat} {L f k i : Nat} {pm : Nat → Nat} {T : Nat → qt_T} {s : Nat × qt_T} (h : (qP_sk c k i).1 = some s) : qP_al c L (f + 1) k i pm T = qP_ct c L f (k + 1) (qP_sk c k i).2 (va_up pm k s.1) (va_up T k s.2) := by
  show qP_a1 c L k pm T (qP_sk c k i) _ = _
  unfold qP_a1 qP_ct
  rw [h]
  simp only [Nat.reduceEqDiff]
section Q65
variable {d a b f : Nat} {K : Nat → Nat × Nat} {I : Nat → Nat → Int32} {R : Nat → Nat → Option Nat} {n z : Nat} {x y : Int32} {h : qa_H} {u i j m p q g w v r k e nd L F : Nat} {c : Nat → Nat} {pm : Nat → Nat} {T : Nat → qt_T}
theorem qs_MO_readsSkill (hM : qp_MO K R u) (hX : qM_x I u L c i nd e) (hnd : nd ≤ i) (hk : k < 10) : ∃ v I' nd' e', qa_ex (d + 25) 168 [qa_a (some u), qa_i (nI k)] (K, I, R, n, z) = some (some (qa_i v), (K, I', R, n, z)) ∧ qM_F u I I' ∧ qM_T nd k (I (u + 6)) (I' (u + 6)) ∧ I' u 15 = nI (qP_sk c k i).2 ∧ I' u 16 = nI nd' ∧ nd ≤ nd' ∧ nd' + i ≤ nd + (qP_sk c k i).2 ∧ ((qP_sk c k i).1 = none → v = nI 0) ∧ ∀ s, (qP_sk c k i).1 = some s → v = nI 1 ∧ I' u 17 = nI e' ∧ I' (u + 6) (2 + k) = nI s.1 ∧ qt_MB nd nd' 1000 (I' (u + 6)) s.2 (I' (u + 6) (12 + k)) := by
  have hM' := hM
  have hdg := qs_MO_isDigit (d := d + 22) (n := n) (z := z) (w := 1) hM hX (by omega)
  have hhe := qs_MO_here (d := d + 23) (n := n) (z := z) hM hX
  obtain ⟨x1, x2, x3, x4, x5, x6, x7, x8, x9⟩ := id hX
  obtain ⟨m0, -, -, -, -, -, ⟨r1, r2, r3⟩, -⟩ := hM
  have hlt : ∀ j, ¬ c j = 200 → j < L := fun j hj => Decidable.byContradiction fun h => hj (x8 j (by omega))
  have hok := qP_mk_ok x8 x5
  unfold qP_sk
  by_cases h1 : 49 ≤ c i ∧ c i ≤ 57
  · have hi := hlt i (by omega)
    have hv : qR_v c L i = nI (c i) := if_pos hi
    rw [hv] at hhe
    obtain ⟨I1, hI1⟩ : ∃ I1, I1 = va_up I u (va_up (I u) 15 (nI (i + 1))) := ⟨_, rfl⟩
    have i0 : I1 u = va_up (I u) 15 (nI (i + 1)) := by rw [hI1, qa_up_s]
    have in0 : ∀ a, a ≠ u → I1 a = I a := fun a ha => by rw [hI1, qa_up_n _ _ ha]
    have hF1 : qM_F u I I1 := ⟨fun a h1 _ => in0 a h1, fun f h1 h2 h3 => by rw [i0, qa_up_n _ _ h1]⟩
    have hX1 : qM_x I1 u L c (i + 1) nd e := qM_x_F hX hF1 (by rw [i0, qa_up_s]) (by rw [i0, qa_up_n _ _ (by omega)]; exact x3) (by rw [i0, qa_up_n _ _ (by omega)]; exact x4) (by omega)
    have hdg1 := qs_MO_isDigit (d := d + 22) (n := n) (z := z) (w := 0) hM' hX1 (by omega)
    have hhe1 := qs_MO_here (d := d + 23) (n := n) (z := z) hM' hX1
    have e1 : nI (c i) - nI 48 = nI (c i - 48) := qn_sub (by omega)
    -- the mark, and where it ends
    obtain ⟨mk, j, I2, hmk, g1, g2, g3, g4, g5, g6⟩ : ∃ mk j I2, qP_mk c i = (some mk, j) ∧ i < j ∧ j ≤ L ∧ qM_F u I I2 ∧ I2 (u + 6) = I (u + 6) ∧ qM_x I2 u L c j nd e ∧ ∀ v I', qa_run (d + 24) 168 67 [qa_a (some u), qa_i (nI k), qa_i (nI mk)] [] [qa_i (nI mk), qa_i (nI (2 + k)), qa_a (R u 6)] (K, I2, R, n, z) = some (some (qa_i v), (K, I', R, n, z)) → qa_ex (d + 25) 168 [qa_a (some u), qa_i (nI k)] (K, I, R, n, z) = some (some (qa_i v), (K, I', R, n, z)) := by
      have t1 : (49 ≤ c i ∧ c i ≤ 57) = True := eq_true h1
      have hdT : qa_bi (48 + 1 ≤ c i ∧ c i ≤ 57) = nI 1 := qb_t h1
      rw [hdT] at hdg
      by_cases h2 : 48 ≤ c (i + 1) ∧ c (i + 1) ≤ 57
      · have hi1 := hlt (i + 1) (by omega)
        have hv1 : qR_v c L (i + 1) = nI (c (i + 1)) := if_pos hi1
        have hdT1 : qa_bi (48 + 0 ≤ c (i + 1) ∧ c (i + 1) ≤ 57) = nI 1 := qb_t h2
        rw [hdT1] at hdg1
        rw [hv1] at hhe1
        obtain ⟨I2, hI2⟩ : ∃ I2, I2 = va_up I1 u (va_up (va_up (I u) 15 (nI (i + 1))) 15 (nI (i + 1 + 1))) := ⟨_, rfl⟩
        have j0 : I2 u = va_up (va_up (I u) 15 (nI (i + 1))) 15 (nI (i + 1 + 1)) := by rw [hI2, qa_up_s]
        have jn0 : ∀ a, a ≠ u → I2 a = I1 a := fun a ha => by rw [hI2, qa_up_n _ _ ha]
        have hF2 : qM_F u I1 I2 := ⟨fun a h1 _ => jn0 a h1, fun f h1 h2 h3 => by rw [j0, i0, qa_up_n _ _ h1]⟩
        have e2 : nI (10 * (c i - 48) + c (i + 1)) - nI 48 = nI (10 * (c i - 48) + (c (i + 1) - 48)) := by rw [qn_sub (by omega)]; congr 1; omega
        refine ⟨10 * (c i - 48) + (c (i + 1) - 48), i + 2, I2, ?_, by omega, by omega, qM_F_t hF1 hF2, by rw [jn0 _ (by omega), in0 _ (by omega)], qM_x_F hX1 hF2 (by rw [j0, qa_up_s]) (by rw [j0, qa_up_n _ _ (by omega), qa_up_n _ _ (by omega)]; exact x3) (by rw [j0, qa_up_n _ _ (by omega), qa_up_n _ _ (by omega)]; exact x4) (by omega), fun v I' hrun => ?_⟩
        · unfold qP_mk
          rw [if_pos h1, if_pos h2]
        · simp (disch := first | assumption | omega | exact Or.inl rfl | exact Or.inr rfl | exact qb_01) only [qe_168, qr_168_0, qr_168_1, qr_168_2, qr_168_5, qr_168_8, qr_168_9, qr_168_10, qr_168_11, qr_168_14, qr_168_16, qr_168_17, qr_168_18, qr_168_19, qr_168_20, qr_168_23, qr_168_24, qr_168_25, qr_168_28, qr_168_29, qr_168_30, qr_168_33, qr_168_36, qr_168_38, qr_168_39, qr_168_40, qr_168_41, qr_168_44, qr_168_45, qr_168_47, qr_168_48, qr_168_49, qr_168_50, qr_168_51, qr_168_54, qr_168_55, qr_168_56, qr_168_59, qr_168_60, qr_168_63, qr_168_64, qr_168_65, qr_168_66, qr_168_67, qr_168_68, qr_168_69, qr_168_72, qr_168_74, qr_168_75, qr_168_76, qr_168_77, qr_168_78, qr_168_79, qr_168_82, qr_168_84, qr_168_87, qr_168_88, qr_168_89, qr_168_92, qr_168_93, qr_168_94, qr_168_97, qr_168_98, qr_168_99, qr_168_102, qr_168_103, qr_168_106, qr_168_108, qr_168_109, qr_168_110, qr_168_111, qr_168_113, qr_168_114, qr_168_117, qr_168_118, qr_168_119, qr_168_122, qr_168_124, qr_168_125, qr_168_126, qr_168_127, qr_168_130, qr_168_131, qr_168_134, qr_168_135, qr_168_136, qr_168_137, true_and, and_true, false_and, and_false, Option.bind_some, Option.toList_some, Option.toList_none, List.nil_append, List.cons_append, if_true, if_false, ite_true, ite_false, not_true_eq_false, not_false_eq_true, qn_lt0, qn_ge0, qn_lt, qn_le, qn_eq, qn_e0, qn_gt0, qn_le0, qn_m1, nI_add, pk_mul, qb_e0, Classical.not_not, qa_up_s, qa_up_n, qa_uu, hdg, hhe, e1, x2, ← hI1, hdg1, hhe1, e2, i0, Nat.one_ne_zero]
          rw [← qa_uu (I u) 15 (nI (i + 1)) (nI (i + 1 + 1)), ← hI2]
          exact hrun
      · have hdF1 : qa_bi (48 + 0 ≤ c (i + 1) ∧ c (i + 1) ≤ 57) = nI 0 := qb_f h2
        rw [hdF1] at hdg1
        refine ⟨c i - 48, i + 1, I1, ?_, by omega, by omega, hF1, in0 _ (by omega), hX1, fun v I' hrun => ?_⟩
        · unfold qP_mk
          rw [if_pos h1, if_neg h2]
        · simp (disch := first | assumption | omega | exact Or.inl rfl | exact Or.inr rfl | exact qb_01) only [qe_168, qr_168_0, qr_168_1, qr_168_2, qr_168_5, qr_168_8, qr_168_9, qr_168_10, qr_168_11, qr_168_14, qr_168_16, qr_168_17, qr_168_18, qr_168_19, qr_168_20, qr_168_23, qr_168_24, qr_168_25, qr_168_28, qr_168_29, qr_168_30, qr_168_33, qr_168_36, qr_168_38, qr_168_39, qr_168_40, qr_168_41, qr_168_44, qr_168_45, qr_168_47, qr_168_48, qr_168_49, qr_168_50, qr_168_51, qr_168_54, qr_168_55, qr_168_56, qr_168_59, qr_168_60, qr_168_63, qr_168_64, qr_168_65, qr_168_66, qr_168_67, qr_168_68, qr_168_69, qr_168_72, qr_168_74, qr_168_75, qr_168_76, qr_168_77, qr_168_78, qr_168_79, qr_168_82, qr_168_84, qr_168_87, qr_168_88, qr_168_89, qr_168_92, qr_168_93, qr_168_94, qr_168_97, qr_168_98, qr_168_99, qr_168_102, qr_168_103, qr_168_106, qr_168_108, qr_168_109, qr_168_110, qr_168_111, qr_168_113, qr_168_114, qr_168_117, qr_168_118, qr_168_119, qr_168_122, qr_168_124, qr_168_125, qr_168_126, qr_168_127, qr_168_130, qr_168_131, qr_168_134, qr_168_135, qr_168_136, qr_168_137, true_and, and_true, false_and, and_false, Option.bind_some, Option.toList_some, Option.toList_none, List.nil_append, List.cons_append, if_true, if_false, ite_true, ite_false, not_true_eq_false, not_false_eq_true, qn_lt0, qn_ge0, qn_lt, qn_le, qn_eq, qn_e0, qn_gt0, qn_le0, qn_m1, nI_add, pk_mul, qb_e0, Classical.not_not, qa_up_s, qa_up_n, qa_uu, hdg, hhe, e1, x2, ← hI1, hdg1, Nat.one_ne_zero]
          exact hrun
    rw [hmk] at hok ⊢
    obtain ⟨k1, k2, k3⟩ := hok
    obtain ⟨k4, k5, k6, k7⟩ := k3 mk rfl
    rw [show qP_sk1 c k (some mk, j) = if c j = 61 then qP_sk2 mk (qP c k 400 2 0 (j + 1)) else (some (mk, .num 0), j) from rfl]
    obtain ⟨y1, y2, y3, y4, y5, y6, y7, y8, y9⟩ := id g5
    obtain ⟨I3, hI3⟩ : ∃ I3, I3 = va_up I2 (u + 6) (va_up (va_up (I (u + 6)) (2 + k) (nI mk)) (12 + k) (-1)) := ⟨_, rfl⟩
    have j6 : I3 (u + 6) = va_up (va_up (I (u + 6)) (2 + k) (nI mk)) (12 + k) (-1) := by rw [hI3, qa_up_s]
    have jn : ∀ a, a ≠ u + 6 → I3 a = I2 a := fun a ha => by rw [hI3, qa_up_n _ _ ha]
    have hF3 : qM_F u I2 I3 := ⟨fun a _ h2 => jn a h2, fun f _ _ _ => by rw [jn u (by omega)]⟩
    have hX3 : qM_x I3 u L c j nd e := qM_x_F g5 hF3 (by rw [jn u (by omega)]; exact y2) (by rw [jn u (by omega)]; exact y3) (by rw [jn u (by omega)]; exact y4) y5
    have hhe3 := qs_MO_here (d := d + 23) (n := n) (z := z) hM' hX3
    have gv := qR_v_eq (c := c) (L := L) (i := j) (w := 61) (by omega) x8 x9
    have hT3 : qM_T nd k (I (u + 6)) (I3 (u + 6)) := by
      rw [j6]
      exact ⟨fun x h1 h2 h3 => by rw [qa_up_n _ _ h3, qa_up_n _ _ h2], fun j hj => ⟨by rw [qa_up_n _ _ (by omega), qa_up_n _ _ (by omega)], by rw [qa_up_n _ _ (by omega), qa_up_n _ _ (by omega)], by rw [qa_up_n _ _ (by omega), qa_up_n _ _ (by omega)]⟩⟩
    by_cases h2 : c j = 61
    · rw [if_pos h2]
      have hj := hlt j (by omega)
      obtain ⟨I4, hI4⟩ : ∃ I4, I4 = va_up I3 u (va_up (va_up (I2 u) 15 (nI (j + 1))) 17 (nI 0)) := ⟨_, rfl⟩
      have l0 : I4 u = va_up (va_up (I2 u) 15 (nI (j + 1))) 17 (nI 0) := by rw [hI4, qa_up_s]
      have ln : ∀ a, a ≠ u → I4 a = I3 a := fun a ha => by rw [hI4, qa_up_n _ _ ha]
      have hF4 : qM_F u I3 I4 := ⟨fun a h1 _ => ln a h1, fun f h1 h2 h3 => by rw [l0, qa_up_n _ _ h3, qa_up_n _ _ h1, jn u (by omega)]⟩
      have hX4 : qM_x I4 u L c (j + 1) nd 0 := qM_x_F hX3 hF4 (by rw [l0, qa_up_n _ _ (by omega), qa_up_s]) (by rw [l0, qa_up_n _ _ (by omega), qa_up_n _ _ (by omega)]; exact y3) (by rw [l0, qa_up_s]) (by omega)
      obtain ⟨v, I5, nd', a1, a2, a3, a4, a5, a6, a7, a8, a9⟩ := (qM_all (K := K) (R := R) (n := n) (z := z) (m := k) hM' (by omega) x8 400).2.2.1 0 (j + 1) (d + 24) nd I4 (by omega) (by omega) (by omega) hX4 (by omega)
      rw [if_neg (by omega), if_neg (by omega)] at a1
      have hok2 := qP_ok (m := k) x8 400 2 0 (j + 1) (by omega) (by omega) (by omega)
      generalize qP c k 400 2 0 (j + 1) = p at a4 a7 a8 a9 hok2 ⊢
      obtain ⟨m1, m2, m3⟩ := hok2
      have l6 : I4 (u + 6) = I3 (u + 6) := ln _ (by omega)
      rw [l6] at a3
      obtain ⟨I6, hI6⟩ : ∃ I6, I6 = va_up I5 (u + 6) (va_up (I5 (u + 6)) (12 + k) v) := ⟨_, rfl⟩
      have p6 : I6 (u + 6) = va_up (I5 (u + 6)) (12 + k) v := by rw [hI6, qa_up_s]
      have pn : ∀ a, a ≠ u + 6 → I6 a = I5 a := fun a ha => by rw [hI6, qa_up_n _ _ ha]
      have hF6 : qM_F u I I6 := qM_F_t (qM_F_t (qM_F_t (qM_F_t g3 hF3) hF4) a2) ⟨fun a _ h2 => pn a h2, fun f _ _ _ => by rw [pn u (by omega)]⟩
      have hT6 : qM_T nd k (I (u + 6)) (I6 (u + 6)) := by
        rw [p6]
        refine ⟨fun x h1 h2 h3 => ?_, fun j hj => ?_⟩
        · rw [qa_up_n _ _ h3, a3.1 x h1, hT3.1 x h1 h2 h3]
        · obtain ⟨q1, q2, q3⟩ := a3.2 j hj
          obtain ⟨q4, q5, q6⟩ := hT3.2 j hj
          rw [qa_up_n _ _ (by omega), qa_up_n _ _ (by omega), qa_up_n _ _ (by omega), q1, q2, q3 (by omega), q4, q5, q6]
          exact ⟨rfl, rfl, rfl⟩
      have hrun : ∀ w, (if v < 0 then nI 0 else nI 1) = w → qa_ex (d + 25) 168 [qa_a (some u), qa_i (nI k)] (K, I, R, n, z) = some (some (qa_i w), (K, I6, R, n, z)) := by
        intro w hw
        apply g6
        simp (disch := first | assumption | omega | exact Or.inl rfl | exact Or.inr rfl | exact qb_01) only [qr_168_0, qr_168_1, qr_168_2, qr_168_5, qr_168_8, qr_168_9, qr_168_10, qr_168_11, qr_168_14, qr_168_16, qr_168_17, qr_168_18, qr_168_19, qr_168_20, qr_168_23, qr_168_24, qr_168_25, qr_168_28, qr_168_29, qr_168_30, qr_168_33, qr_168_36, qr_168_38, qr_168_39, qr_168_40, qr_168_41, qr_168_44, qr_168_45, qr_168_47, qr_168_48, qr_168_49, qr_168_50, qr_168_51, qr_168_54, qr_168_55, qr_168_56, qr_168_59, qr_168_60, qr_168_63, qr_168_64, qr_168_65, qr_168_66, qr_168_67, qr_168_68, qr_168_69, qr_168_72, qr_168_74, qr_168_75, qr_168_76, qr_168_77, qr_168_78, qr_168_79, qr_168_82, qr_168_84, qr_168_87, qr_168_88, qr_168_89, qr_168_92, qr_168_93, qr_168_94, qr_168_97, qr_168_98, qr_168_99, qr_168_102, qr_168_103, qr_168_106, qr_168_108, qr_168_109, qr_168_110, qr_168_111, qr_168_113, qr_168_114, qr_168_117, qr_168_118, qr_168_119, qr_168_122, qr_168_124, qr_168_125, qr_168_126, qr_168_127, qr_168_130, qr_168_131, qr_168_134, qr_168_135, qr_168_136, qr_168_137, true_and, and_true, false_and, and_false, Option.bind_some, Option.toList_some, Option.toList_none, List.nil_append, List.cons_append, if_true, if_false, ite_true, ite_false, not_true_eq_false, not_false_eq_true, qn_lt0, qn_ge0, qn_lt, qn_le, qn_eq, qn_e0, qn_gt0, qn_le0, qn_m1, nI_add, pk_mul, qb_e0, Classical.not_not, qa_up_s, qa_up_n, qa_uu, r3, g4, ← hI3, hhe3, gv, eq_true h2, jn, y2, ← hI4, a1, ← hI6, p6, Nat.reduceAdd]
        by_cases hv : v < 0
        · rw [if_pos hv] at hw ⊢
          rw [← hw]
        · rw [if_neg hv] at hw ⊢
          rw [← hw]
      cases hp : p.1 with
      | none =>
        have hv := a8 hp
        subst hv
        rw [show qP_sk2 mk p = (none, p.2) by unfold qP_sk2; rw [hp]]
        exact ⟨nI 0, I6, nd', 0, hrun _ (if_pos (by decide)), hF6, hT6, by rw [pn u (by omega)]; exact a4, by rw [pn u (by omega)]; exact a5, a6, by show nd' + i ≤ nd + p.2; omega, fun _ => rfl, fun s hs => absurd hs (by simp)⟩
      | some t =>
        obtain ⟨b1, b, b2, b3, b4, b5, b6⟩ := a9 t hp
        subst b2
        rw [show qP_sk2 mk p = (some (mk, t), p.2) by unfold qP_sk2; rw [hp]]
        obtain ⟨m4, m5, -⟩ := m3 t hp
        obtain ⟨m6, m7, m8, -⟩ := m5 (by omega)
        refine ⟨nI 1, I6, nd', 0, hrun _ (if_neg (nI_pos (by omega))), hF6, hT6, by rw [pn u (by omega)]; exact a4, by rw [pn u (by omega)]; exact a5, a6, by show nd' + i ≤ nd + p.2; omega, fun h => absurd h (by simp), fun s hs => ?_⟩
        cases hs
        refine ⟨rfl, by rw [pn u (by omega)]; exact b1, by rw [p6, qa_up_n _ _ (by omega), a3.1 _ (by omega), j6, qa_up_n _ _ (by omega), qa_up_s], ?_⟩
        rw [p6, qa_up_s]
        have hh := qt_RM_M (lo := nd) (hi := nd') (lo' := nd) (hi' := nd') (ex := 1000) (r := .num 0) (qt_RM_cg (c' := va_up (I5 (u + 6)) (12 + k) (nI b)) (fun j _ _ _ => ⟨qa_up_n _ _ (by omega), qa_up_n _ _ (by omega), qa_up_n _ _ (by omega)⟩) (qa_up_n _ _ (by omega)) (qa_up_n _ _ (by omega)) b5) b3 b4 (by omega) (Nat.le_refl _) (Nat.le_refl _) (by omega) (show _ = (-1 : Int32) by rw [qa_up_n _ _ (by omega)]; exact b6)
        rw [m8] at hh
        exact hh
    · rw [if_neg h2]
      refine ⟨nI 1, I3, nd, e, ?_, qM_F_t g3 hF3, hT3, by rw [jn u (by omega)]; exact y2, by rw [jn u (by omega)]; exact y3, Nat.le_refl _, by show nd + i ≤ nd + j; omega, fun h => absurd h (by simp), fun s hs => ?_⟩
      · apply g6
        simp (disch := first | assumption | omega | exact Or.inl rfl | exact Or.inr rfl | exact qb_01) only [qr_168_0, qr_168_1, qr_168_2, qr_168_5, qr_168_8, qr_168_9, qr_168_10, qr_168_11, qr_168_14, qr_168_16, qr_168_17, qr_168_18, qr_168_19, qr_168_20, qr_168_23, qr_168_24, qr_168_25, qr_168_28, qr_168_29, qr_168_30, qr_168_33, qr_168_36, qr_168_38, qr_168_39, qr_168_40, qr_168_41, qr_168_44, qr_168_45, qr_168_47, qr_168_48, qr_168_49, qr_168_50, qr_168_51, qr_168_54, qr_168_55, qr_168_56, qr_168_59, qr_168_60, qr_168_63, qr_168_64, qr_168_65, qr_168_66, qr_168_67, qr_168_68, qr_168_69, qr_168_72, qr_168_74, qr_168_75, qr_168_76, qr_168_77, qr_168_78, qr_168_79, qr_168_82, qr_168_84, qr_168_87, qr_168_88, qr_168_89, qr_168_92, qr_168_93, qr_168_94, qr_168_97, qr_168_98, qr_168_99, qr_168_102, qr_168_103, qr_168_106, qr_168_108, qr_168_109, qr_168_110, qr_168_111, qr_168_113, qr_168_114, qr_168_117, qr_168_118, qr_168_119, qr_168_122, qr_168_124, qr_168_125, qr_168_126, qr_168_127, qr_168_130, qr_168_131, qr_168_134, qr_168_135, qr_168_136, qr_168_137, true_and, and_true, false_and, and_false, Option.bind_some, Option.toList_some, Option.toList_none, List.nil_append, List.cons_append, if_true, if_false, ite_true, ite_false, not_true_eq_false, not_false_eq_true, qn_lt0, qn_ge0, qn_lt, qn_le, qn_eq, qn_e0, qn_gt0, qn_le0, qn_m1, nI_add, pk_mul, qb_e0, Classical.not_not, qa_up_s, qa_up_n, qa_uu, r3, g4, ← hI3, hhe3, gv, eq_false h2]
      · cases hs
        exact ⟨rfl, by rw [jn u (by omega)]; exact y4, by rw [j6, qa_up_n _ _ (by omega), qa_up_s], by rw [j6, qa_up_s]; rfl⟩
  · have hmk : qP_mk c i = (none, i) := if_neg h1
    rw [hmk, show qP_sk1 c k (none, i) = (none, i) from rfl]
    have hdF : qa_bi (48 + 1 ≤ c i ∧ c i ≤ 57) = nI 0 := qb_f h1
    rw [hdF] at hdg
    refine ⟨nI 0, I, nd, e, ?_, ⟨fun _ _ _ => rfl, fun _ _ _ _ => rfl⟩, ⟨fun _ _ _ _ => rfl, fun _ _ => ⟨rfl, rfl, rfl⟩⟩, x2, x3, Nat.le_refl _, Nat.le_refl _, fun _ => rfl, fun s hs => absurd hs (by simp)⟩
    simp (disch := first | assumption | omega | exact Or.inl rfl | exact Or.inr rfl | exact qb_01) only [qe_168, qr_168_0, qr_168_1, qr_168_2, qr_168_5, qr_168_8, qr_168_9, qr_168_10, qr_168_11, qr_168_14, qr_168_16, qr_168_17, qr_168_18, qr_168_19, qr_168_20, qr_168_23, qr_168_24, qr_168_25, qr_168_28, qr_168_29, qr_168_30, qr_168_33, qr_168_36, qr_168_38, qr_168_39, qr_168_40, qr_168_41, qr_168_44, qr_168_45, qr_168_47, qr_168_48, qr_168_49, qr_168_50, qr_168_51, qr_168_54, qr_168_55, qr_168_56, qr_168_59, qr_168_60, qr_168_63, qr_168_64, qr_168_65, qr_168_66, qr_168_67, qr_168_68, qr_168_69, qr_168_72, qr_168_74, qr_168_75, qr_168_76, qr_168_77, qr_168_78, qr_168_79, qr_168_82, qr_168_84, qr_168_87, qr_168_88, qr_168_89, qr_168_92, qr_168_93, qr_168_94, qr_168_97, qr_168_98, qr_168_99, qr_168_102, qr_168_103, qr_168_106, qr_168_108, qr_168_109, qr_168_110, qr_168_111, qr_168_113, qr_168_114, qr_168_117, qr_168_118, qr_168_119, qr_168_122, qr_168_124, qr_168_125, qr_168_126, qr_168_127, qr_168_130, qr_168_131, qr_168_134, qr_168_135, qr_168_136, qr_168_137, true_and, and_true, false_and, and_false, Option.bind_some, Option.toList_some, Option.toList_none, List.nil_append, List.cons_append, if_true, if_false, ite_true, ite_false, not_true_eq_false, not_false_eq_true, qn_lt0, qn_ge0, qn_lt, qn_le, qn_eq, qn_e0, qn_gt0, qn_le0, qn_m1, nI_add, pk_mul, qb_e0, Classical.not_not, qa_up_s, qa_up_n, qa_uu, hdg]
theorem qs_MO_readsAll (hM : qp_MO K R u) (hX : qM_x (va_up I u (va_up (va_up (I u) 15 (nI 0)) 16 (nI 0))) u L c 0 0 e) : ∃ v I' nd', qa_ex (d + 26) 167 [qa_a (some u)] (K, I, R, n, z) = some (some (qa_i v), (K, I', R, n, z)) ∧ qM_F u I I' ∧ I' u 15 = nI (qP_al c L 10 0 0 (fun _ => 0) (fun _ => .num 0)).2 ∧ ((qP_al c L 10 0 0 (fun _ => 0) (fun _ => .num 0)).1 = none → v = -1) ∧ ∀ s, (qP_al c L 10 0 0 (fun _ => 0) (fun _ => .num 0)).1 = some s → v = nI s.1 ∧ qV_S (I' (u + 6)) nd' s.1 s.2.1 s.2.2 := by
  have hM' := hM
  have m0 := hM.1
  have x8 := hX.2.2.2.2.2.2.2.1
  have x9 := hX.2.2.2.2.2.2.2.2
  have hlt : ∀ j, ¬ c j = 200 → j < L := fun j hj => Decidable.byContradiction fun h => hj (x8 j (by omega))
  have loop : ∀ f k j pm T I nd e, k + f = 10 → 1 ≤ k → qM_x I u L c j nd e → nd ≤ j → qV_S (I (u + 6)) nd k pm T → ∃ v I' nd', qa_run (d + 25) 167 25 [qa_a (some u), qa_i (nI k)] [] [] (K, I, R, n, z) = some (some (qa_i v), (K, I', R, n, z)) ∧ qM_F u I I' ∧ I' u 15 = nI (qP_ct c L f k j pm T).2 ∧ ((qP_ct c L f k j pm T).1 = none → v = -1) ∧ ∀ s, (qP_ct c L f k j pm T).1 = some s → v = nI s.1 ∧ qV_S (I' (u + 6)) nd' s.1 s.2.1 s.2.2 := by
    intro f
    induction f with
    | zero =>
      intro k j pm T I nd e hk hk1 hX hnd hV
      have hk : k = 10 := by omega
      subst hk
      have hhe := qs_MO_here (d := d + 24) (n := n) (z := z) hM' hX
      have gv := qR_v_eq (c := c) (L := L) (i := j) (w := 59) (by omega) x8 x9
      obtain ⟨x1, x2, x3, x4, x5, x6, -⟩ := id hX
      unfold qP_ct
      by_cases h1 : L ≤ j
      · have hjL : j = L := by omega
        have h2 : ¬ c j = 59 := by have := x8 j h1; omega
        rw [if_pos h1]
        refine ⟨nI 10, I, nd, ?_, ⟨fun _ _ _ => rfl, fun _ _ _ _ => rfl⟩, x2, fun h => absurd h (by simp), fun s hs => ?_⟩
        · rw [qr_167_25]
          have x2' : I u 15 = nI L := by rw [x2, hjL]
          simp (disch := first | assumption | omega | exact Or.inl rfl | exact Or.inr rfl | exact qb_01) only [qr_167_0, qr_167_1, qr_167_2, qr_167_5, qr_167_6, qr_167_7, qr_167_10, qr_167_11, qr_167_12, qr_167_13, qr_167_14, qr_167_17, qr_167_20, qr_167_21, qr_167_22, qr_167_26, qr_167_29, qr_167_31, qr_167_34, qr_167_35, qr_167_37, qr_167_40, qr_167_41, qr_167_42, qr_167_45, qr_167_46, qr_167_47, qr_167_50, qr_167_51, qr_167_52, qr_167_55, qr_167_58, qr_167_59, qr_167_60, qr_167_63, qr_167_66, qr_167_67, qr_167_70, qr_167_71, qr_167_74, qr_167_77, qr_167_78, qr_167_81, qr_167_82, true_and, and_true, false_and, and_false, Option.bind_some, Option.toList_some, Option.toList_none, List.nil_append, List.cons_append, if_true, if_false, ite_true, ite_false, not_true_eq_false, not_false_eq_true, qn_lt0, qn_ge0, qn_lt, qn_le, qn_eq, qn_e0, qn_gt0, qn_le0, qn_m1, nI_add, pk_mul, qb_e0, Classical.not_not, hhe, gv, eq_false h2, x1, x2']
        · cases hs
          exact ⟨rfl, hV⟩
      · have hjL : ¬ j = L := by omega
        rw [if_neg h1, if_pos (Or.inl rfl)]
        refine ⟨-1, I, nd, ?_, ⟨fun _ _ _ => rfl, fun _ _ _ _ => rfl⟩, x2, fun _ => rfl, fun s hs => absurd hs (by simp)⟩
        rw [qr_167_25]
        by_cases h2 : c j = 59
        · simp (disch := first | assumption | omega | exact Or.inl rfl | exact Or.inr rfl | exact qb_01) only [qr_167_0, qr_167_1, qr_167_2, qr_167_5, qr_167_6, qr_167_7, qr_167_10, qr_167_11, qr_167_12, qr_167_13, qr_167_14, qr_167_17, qr_167_20, qr_167_21, qr_167_22, qr_167_26, qr_167_29, qr_167_31, qr_167_34, qr_167_35, qr_167_37, qr_167_40, qr_167_41, qr_167_42, qr_167_45, qr_167_46, qr_167_47, qr_167_50, qr_167_51, qr_167_52, qr_167_55, qr_167_58, qr_167_59, qr_167_60, qr_167_63, qr_167_66, qr_167_67, qr_167_70, qr_167_71, qr_167_74, qr_167_77, qr_167_78, qr_167_81, qr_167_82, true_and, and_true, false_and, and_false, Option.bind_some, Option.toList_some, Option.toList_none, List.nil_append, List.cons_append, if_true, if_false, ite_true, ite_false, not_true_eq_false, not_false_eq_true, qn_lt0, qn_ge0, qn_lt, qn_le, qn_eq, qn_e0, qn_gt0, qn_le0, qn_m1, nI_add, pk_mul, qb_e0, Classical.not_not, hhe, gv, eq_true h2, x1, x2, hjL, Nat.le_refl]
        · simp (disch := first | assumption | omega | exact Or.inl rfl | exact Or.inr rfl | exact qb_01) only [qr_167_0, qr_167_1, qr_167_2, qr_167_5, qr_167_6, qr_167_7, qr_167_10, qr_167_11, qr_167_12, qr_167_13, qr_167_14, qr_167_17, qr_167_20, qr_167_21, qr_167_22, qr_167_26, qr_167_29, qr_167_31, qr_167_34, qr_167_35, qr_167_37, qr_167_40, qr_167_41, qr_167_42, qr_167_45, qr_167_46, qr_167_47, qr_167_50, qr_167_51, qr_167_52, qr_167_55, qr_167_58, qr_167_59, qr_167_60, qr_167_63, qr_167_66, qr_167_67, qr_167_70, qr_167_71, qr_167_74, qr_167_77, qr_167_78, qr_167_81, qr_167_82, true_and, and_true, false_and, and_false, Option.bind_some, Option.toList_some, Option.toList_none, List.nil_append, List.cons_append, if_true, if_false, ite_true, ite_false, not_true_eq_false, not_false_eq_true, qn_lt0, qn_ge0, qn_lt, qn_le, qn_eq, qn_e0, qn_gt0, qn_le0, qn_m1, nI_add, pk_mul, qb_e0, Classical.not_not, hhe, gv, eq_false h2, x1, x2, hjL]
    | succ f ih =>
      intro k j pm T I nd e hk hk1 hX hnd hV
      have hhe := qs_MO_here (d := d + 24) (n := n) (z := z) hM' hX
      have gv := qR_v_eq (c := c) (L := L) (i := j) (w := 59) (by omega) x8 x9
      obtain ⟨x1, x2, x3, x4, x5, x6, -⟩ := id hX
      have e10 : ¬ 10 ≤ k := by omega
      unfold qP_ct
      by_cases h1 : L ≤ j
      · have hjL : j = L := by omega
        have h2 : ¬ c j = 59 := by have := x8 j h1; omega
        rw [if_pos h1]
        refine ⟨nI k, I, nd, ?_, ⟨fun _ _ _ => rfl, fun _ _ _ _ => rfl⟩, x2, fun h => absurd h (by simp), fun s hs => ?_⟩
        · rw [qr_167_25]
          have x2' : I u 15 = nI L := by rw [x2, hjL]
          simp (disch := first | assumption | omega | exact Or.inl rfl | exact Or.inr rfl | exact qb_01) only [qr_167_0, qr_167_1, qr_167_2, qr_167_5, qr_167_6, qr_167_7, qr_167_10, qr_167_11, qr_167_12, qr_167_13, qr_167_14, qr_167_17, qr_167_20, qr_167_21, qr_167_22, qr_167_26, qr_167_29, qr_167_31, qr_167_34, qr_167_35, qr_167_37, qr_167_40, qr_167_41, qr_167_42, qr_167_45, qr_167_46, qr_167_47, qr_167_50, qr_167_51, qr_167_52, qr_167_55, qr_167_58, qr_167_59, qr_167_60, qr_167_63, qr_167_66, qr_167_67, qr_167_70, qr_167_71, qr_167_74, qr_167_77, qr_167_78, qr_167_81, qr_167_82, true_and, and_true, false_and, and_false, Option.bind_some, Option.toList_some, Option.toList_none, List.nil_append, List.cons_append, if_true, if_false, ite_true, ite_false, not_true_eq_false, not_false_eq_true, qn_lt0, qn_ge0, qn_lt, qn_le, qn_eq, qn_e0, qn_gt0, qn_le0, qn_m1, nI_add, pk_mul, qb_e0, Classical.not_not, hhe, gv, eq_false h2, x1, x2']
        · cases hs
          exact ⟨rfl, hV⟩
      · have hjL : ¬ j = L := by omega
        rw [if_neg h1]
        by_cases h2 : c j = 59
        · rw [if_neg (fun q => q.elim (fun q => by omega) (fun q => q h2))]
          obtain ⟨I1, hI1⟩ : ∃ I1, I1 = va_up I u (va_up (I u) 15 (nI (j + 1))) := ⟨_, rfl⟩
          have i0 : I1 u = va_up (I u) 15 (nI (j + 1)) := by rw [hI1, qa_up_s]
          have in0 : ∀ a, a ≠ u → I1 a = I a := fun a ha => by rw [hI1, qa_up_n _ _ ha]
          have hF1 : qM_F u I I1 := ⟨fun a h1 _ => in0 a h1, fun f h1 h2 h3 => by rw [i0, qa_up_n _ _ h1]⟩
          have hX1 : qM_x I1 u L c (j + 1) nd e := qM_x_F hX hF1 (by rw [i0, qa_up_s]) (by rw [i0, qa_up_n _ _ (by omega)]; exact x3) (by rw [i0, qa_up_n _ _ (by omega)]; exact x4) (by omega)
          obtain ⟨v, I2, nd2, e2, a1, a2, a3, a4, a5, a6, a7, a8, a9⟩ := qs_MO_readsSkill (d := d) (n := n) (z := z) (k := k) hM' hX1 (by omega) (by omega)
          have hsk := qP_sk_ok (k := k) x8 (show j + 1 ≤ L by omega)
          rw [in0 _ (by omega)] at a3
          cases hp : (qP_sk c k (j + 1)).1 with
          | none =>
            have hv := a8 hp
            subst hv
            rw [qP_al_n hp]
            refine ⟨-1, I2, nd2, ?_, qM_F_t hF1 a2, a4, fun _ => rfl, fun s hs => absurd hs (by simp)⟩
            rw [qr_167_25]
            simp (disch := first | assumption | omega | exact Or.inl rfl | exact Or.inr rfl | exact qb_01) only [qr_167_0, qr_167_1, qr_167_2, qr_167_5, qr_167_6, qr_167_7, qr_167_10, qr_167_11, qr_167_12, qr_167_13, qr_167_14, qr_167_17, qr_167_20, qr_167_21, qr_167_22, qr_167_26, qr_167_29, qr_167_31, qr_167_34, qr_167_35, qr_167_37, qr_167_40, qr_167_41, qr_167_42, qr_167_45, qr_167_46, qr_167_47, qr_167_50, qr_167_51, qr_167_52, qr_167_55, qr_167_58, qr_167_59, qr_167_60, qr_167_63, qr_167_66, qr_167_67, qr_167_70, qr_167_71, qr_167_74, qr_167_77, qr_167_78, qr_167_81, qr_167_82, true_and, and_true, false_and, and_false, Option.bind_some, Option.toList_some, Option.toList_none, List.nil_append, List.cons_append, if_true, if_false, ite_true, ite_false, not_true_eq_false, not_false_eq_true, qn_lt0, qn_ge0, qn_lt, qn_le, qn_eq, qn_e0, qn_gt0, qn_le0, qn_m1, nI_add, pk_mul, qb_e0, Classical.not_not, hhe, gv, eq_true h2, e10, x2, ← hI1, a1]
          | some s0 =>
            obtain ⟨hv, b1, b2, b3⟩ := a9 s0 hp
            subst hv
            rw [qP_al_s hp]
            have hX2 : qM_x I2 u L c (qP_sk c k (j + 1)).2 nd2 e2 := qM_x_F hX1 a2 a4 a5 b1 hsk.2.1
            have hV2 := qV_s hV a3 a6 (by omega) b2 b3
            obtain ⟨v, I3, nd3, c1, c2, c3, c4, c5⟩ := ih (k + 1) (qP_sk c k (j + 1)).2 _ _ I2 nd2 e2 (by omega) (by omega) hX2 (by omega) hV2
            refine ⟨v, I3, nd3, ?_, qM_F_t (qM_F_t hF1 a2) c2, c3, c4, c5⟩
            rw [qr_167_25]
            simp (disch := first | assumption | omega | exact Or.inl rfl | exact Or.inr rfl | exact qb_01) only [qr_167_0, qr_167_1, qr_167_2, qr_167_5, qr_167_6, qr_167_7, qr_167_10, qr_167_11, qr_167_12, qr_167_13, qr_167_14, qr_167_17, qr_167_20, qr_167_21, qr_167_22, qr_167_26, qr_167_29, qr_167_31, qr_167_34, qr_167_35, qr_167_37, qr_167_40, qr_167_41, qr_167_42, qr_167_45, qr_167_46, qr_167_47, qr_167_50, qr_167_51, qr_167_52, qr_167_55, qr_167_58, qr_167_59, qr_167_60, qr_167_63, qr_167_66, qr_167_67, qr_167_70, qr_167_71, qr_167_74, qr_167_77, qr_167_78, qr_167_81, qr_167_82, true_and, and_true, false_and, and_false, Option.bind_some, Option.toList_some, Option.toList_none, List.nil_append, List.cons_append, if_true, if_false, ite_true, ite_false, not_true_eq_false, not_false_eq_true, qn_lt0, qn_ge0, qn_lt, qn_le, qn_eq, qn_e0, qn_gt0, qn_le0, qn_m1, nI_add, pk_mul, qb_e0, Classical.not_not, hhe, gv, eq_true h2, e10, x2, ← hI1, a1, Nat.one_ne_zero]
            exact c1
        · rw [if_pos (Or.inr h2)]
          refine ⟨-1, I, nd, ?_, ⟨fun _ _ _ => rfl, fun _ _ _ _ => rfl⟩, x2, fun _ => rfl, fun s hs => absurd hs (by simp)⟩
          rw [qr_167_25]
          simp (disch := first | assumption | omega | exact Or.inl rfl | exact Or.inr rfl | exact qb_01) only [qr_167_0, qr_167_1, qr_167_2, qr_167_5, qr_167_6, qr_167_7, qr_167_10, qr_167_11, qr_167_12, qr_167_13, qr_167_14, qr_167_17, qr_167_20, qr_167_21, qr_167_22, qr_167_26, qr_167_29, qr_167_31, qr_167_34, qr_167_35, qr_167_37, qr_167_40, qr_167_41, qr_167_42, qr_167_45, qr_167_46, qr_167_47, qr_167_50, qr_167_51, qr_167_52, qr_167_55, qr_167_58, qr_167_59, qr_167_60, qr_167_63, qr_167_66, qr_167_67, qr_167_70, qr_167_71, qr_167_74, qr_167_77, qr_167_78, qr_167_81, qr_167_82, true_and, and_true, false_and, and_false, Option.bind_some, Option.toList_some, Option.toList_none, List.nil_append, List.cons_append, if_true, if_false, ite_true, ite_false, not_true_eq_false, not_false_eq_true, qn_lt0, qn_ge0, qn_lt, qn_le, qn_eq, qn_e0, qn_gt0, qn_le0, qn_m1, nI_add, pk_mul, qb_e0, Classical.not_not, hhe, gv, eq_false h2, x1, x2, hjL]
  obtain ⟨I0, hI0⟩ : ∃ I0, I0 = va_up I u (va_up (va_up (I u) 15 (nI 0)) 16 (nI 0)) := ⟨_, rfl⟩
  rw [← hI0] at hX
  have hF0 : qM_F u I I0 := ⟨fun a h1 _ => by rw [hI0, qa_up_n _ _ h1], fun f h1 h2 h3 => by rw [hI0, qa_up_s, qa_up_n _ _ h2, qa_up_n _ _ h1]⟩
  obtain ⟨v, I2, nd2, e2, a1, a2, a3, a4, a5, a6, a7, a8, a9⟩ := qs_MO_readsSkill (d := d) (n := n) (z := z) (k := 0) hM' hX (Nat.le_refl _) (by omega)
  have hsk := qP_sk_ok (k := 0) x8 (Nat.zero_le L)
  cases hp : (qP_sk c 0 0).1 with
  | none =>
    have hv := a8 hp
    subst hv
    rw [qP_al_n hp]
    refine ⟨-1, I2, nd2, ?_, qM_F_t hF0 a2, a4, fun _ => rfl, fun s hs => absurd hs (by simp)⟩
    simp (disch := first | assumption | omega | exact Or.inl rfl | exact Or.inr rfl | exact qb_01) only [qe_167, qr_167_0, qr_167_1, qr_167_2, qr_167_5, qr_167_6, qr_167_7, qr_167_10, qr_167_11, qr_167_12, qr_167_13, qr_167_14, qr_167_17, qr_167_20, qr_167_21, qr_167_22, qr_167_26, qr_167_29, qr_167_31, qr_167_34, qr_167_35, qr_167_37, qr_167_40, qr_167_41, qr_167_42, qr_167_45, qr_167_46, qr_167_47, qr_167_50, qr_167_51, qr_167_52, qr_167_55, qr_167_58, qr_167_59, qr_167_60, qr_167_63, qr_167_66, qr_167_67, qr_167_70, qr_167_71, qr_167_74, qr_167_77, qr_167_78, qr_167_81, qr_167_82, true_and, and_true, false_and, and_false, Option.bind_some, Option.toList_some, Option.toList_none, List.nil_append, List.cons_append, if_true, if_false, ite_true, ite_false, not_true_eq_false, not_false_eq_true, qn_lt0, qn_ge0, qn_lt, qn_le, qn_eq, qn_e0, qn_gt0, qn_le0, qn_m1, nI_add, pk_mul, qb_e0, Classical.not_not, qa_up_s, qa_up_n, qa_uu, ← hI0, a1]
  | some s0 =>
    obtain ⟨hv, b1, b2, b3⟩ := a9 s0 hp
    subst hv
    rw [qP_al_s hp]
    have hX2 : qM_x I2 u L c (qP_sk c 0 0).2 nd2 e2 := qM_x_F hX a2 a4 a5 b1 hsk.2.1
    have hV2 := qV_s (pm := fun _ => 0) (T := fun _ => .num 0) (fun i hi => absurd hi (by omega)) a3 a6 (by omega) b2 b3
    obtain ⟨v, I3, nd3, c1, c2, c3, c4, c5⟩ := loop 9 1 (qP_sk c 0 0).2 _ _ I2 nd2 e2 (by omega) (by omega) hX2 (by omega) hV2
    refine ⟨v, I3, nd3, ?_, qM_F_t (qM_F_t hF0 a2) c2, c3, c4, c5⟩
    simp (disch := first | assumption | omega | exact Or.inl rfl | exact Or.inr rfl | exact qb_01) only [qe_167, qr_167_0, qr_167_1, qr_167_2, qr_167_5, qr_167_6, qr_167_7, qr_167_10, qr_167_11, qr_167_12, qr_167_13, qr_167_14, qr_167_17, qr_167_20, qr_167_21, qr_167_22, qr_167_26, qr_167_29, qr_167_31, qr_167_34, qr_167_35, qr_167_37, qr_167_40, qr_167_41, qr_167_42, qr_167_45, qr_167_46, qr_167_47, qr_167_50, qr_167_51, qr_167_52, qr_167_55, qr_167_58, qr_167_59, qr_167_60, qr_167_63, qr_167_66, qr_167_67, qr_167_70, qr_167_71, qr_167_74, qr_167_77, qr_167_78, qr_167_81, qr_167_82, true_and, and_true, false_and, and_false, Option.bind_some, Option.toList_some, Option.toList_none, List.nil_append, List.cons_append, if_true, if_false, ite_true, ite_false, not_true_eq_false, not_false_eq_true, qn_lt0, qn_ge0, qn_lt, qn_le, qn_eq, qn_e0, qn_gt0, qn_le0, qn_m1, nI_add, pk_mul, qb_e0, Classical.not_not, qa_up_s, qa_up_n, qa_uu, ← hI0, a1, Nat.one_ne_zero, Nat.zero_add]
    exact c1
end Q65
