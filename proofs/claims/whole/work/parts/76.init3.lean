/-! The two main constructors. -/
section Q76
variable {d a b f : Nat} {K : Nat → Nat × Nat} {I : Nat → Nat → Int32} {R : Nat → Nat → Option Nat} {n z : Nat} {x y : Int32} {h : qa_H} {m c p w u : Nat}
theorem qs_LA_init (hk : K 1 = (0, 0)) : ∃ K' I' R' z', qa_ex (d + 18) 0 [qa_a (some 1)] (K, I, R, 2, z) = some (none, (K', I', R', 189, z')) ∧ z' ≤ z + 3000 ∧ (qLA K' R' ∧ qp_T K' R' 2 ∧ qp_T K' R' 4 ∧ (K' 6 = (2, 0) ∧ R' 6 0 = some 2) ∧ qp_EX K' R' 7 ∧ qC0 K' R' 10 ∧ qp_PR K' R' 17 10 ∧ qp_PR K' R' 33 10 ∧ qp_LG K' R' 49 10 ∧ qp_HI K' R' 68 ∧ qC0 K' R' 166 ∧ qp_PR K' R' 173 166) ∧ ((∀ a, 189 ≤ a → K a ≠ (10, 0)) → ∀ fs hd, qj_A K' I' R' 10 13 1 (fun _ => 70) (fun _ => .num 0) 0 fs hd) ∧ qp_PS I' 17 qF_zer ∧ (∀ el er, qp_LS I' 49 0 0 el er qF_zer) ∧ (∀ P, qp_HS I' 68 0 0 P) ∧ I' 2 1 = nI 0 ∧ I' 4 1 = nI 0 ∧ I' 7 2 = nI 0 ∧ I' 1 11 = nI 0 ∧ ∀ b, (b < 1 ∨ 189 ≤ b) → K' b = K b ∧ I' b = I b ∧ R' b = R b := by
  have h0k : (va_up K 2 (1, 0)) 2 = (1, 0) := qa_up_s _ _ _
  obtain ⟨K0, I0, R0, z0, a0, hz0, p0, q0, f0⟩ := qs_TR_init (d := d + 16) (I := va_up I 2 (fun _ => 0)) (R := va_up R 2 (fun _ => none)) (z := z + 2) h0k
  simp only [Nat.add_assoc, Nat.reduceAdd] at a0
  have g0 : ∀ b, (b < 2 ∨ 4 ≤ b) → K0 b = K b ∧ I0 b = I b ∧ (b ≠ 1 → R0 b = R b) := fun b hb => by
    obtain ⟨t1, t2, t3⟩ := f0 b hb
    exact ⟨by rw [t1, qa_up_n _ _ (by omega)], by rw [t2, qa_up_n _ _ (by omega)], fun h1 => by rw [t3, qa_up_n _ _ (by omega)]⟩
  have r0 : R0 1 = R 1 := by rw [(f0 1 (by omega)).2.2, qa_up_n _ _ (by omega)]
  have k0 : K0 1 = (0, 0) := by rw [(g0 1 (by omega)).1]; exact hk
  have h1k : (va_up K0 4 (1, 0)) 4 = (1, 0) := qa_up_s _ _ _
  obtain ⟨K1, I1, R1, z1, a1, hz1, p1, q1, f1⟩ := qs_TR_init (d := d + 16) (I := va_up I0 4 (fun _ => 0)) (R := va_up (va_up R0 1 (va_up (R0 1) 0 (some 2))) 4 (fun _ => none)) (z := z0 + 2) h1k
  simp only [Nat.add_assoc, Nat.reduceAdd] at a1
  have g1 : ∀ b, (b < 4 ∨ 6 ≤ b) → K1 b = K0 b ∧ I1 b = I0 b ∧ (b ≠ 1 → R1 b = R0 b) := fun b hb => by
    obtain ⟨t1, t2, t3⟩ := f1 b hb
    exact ⟨by rw [t1, qa_up_n _ _ (by omega)], by rw [t2, qa_up_n _ _ (by omega)], fun h1 => by rw [t3, qa_up_n _ _ (by omega), qa_up_n _ _ h1]⟩
  have r1 : R1 1 = va_up (R0 1) 0 (some 2) := by rw [(f1 1 (by omega)).2.2, qa_up_n _ _ (by omega), qa_up_s]
  have k1 : K1 1 = (0, 0) := by rw [(g1 1 (by omega)).1]; exact k0
  have x1 : R1 1 0 = some 2 := by rw [r1, qa_up_s]
  have h2k : (va_up K1 6 (2, 0)) 6 = (2, 0) := qa_up_s _ _ _
  obtain ⟨I2, R2, a2, b2, w2⟩ := qs_CR_init (d := d + 16) (o := some 2) (I := va_up I1 6 (fun _ => 0)) (R := va_up (va_up R1 1 (va_up (R1 1) 1 (some 4))) 6 (fun _ => none)) (n := 7) (z := z1 + 2) h2k
  obtain ⟨K2, hK2⟩ : ∃ K2, K2 = va_up K1 6 (2, 0) := ⟨_, rfl⟩
  rw [← hK2] at a2
  obtain ⟨z2, hz2⟩ : ∃ z2, z2 = z1 + 2 := ⟨_, rfl⟩
  rw [← hz2] at a2
  have f2 : qC_f 6 7 (va_up K1 6 (2, 0)) (va_up I1 6 (fun _ => 0)) (va_up (va_up R1 1 (va_up (R1 1) 1 (some 4))) 6 (fun _ => none)) K2 I2 R2 := fun b hb => ⟨by rw [hK2], w2 b (by omega)⟩
  have g2 : ∀ b, (b < 6 ∨ 7 ≤ b) → K2 b = K1 b ∧ I2 b = I1 b ∧ (b ≠ 1 → R2 b = R1 b) := fun b hb => by
    obtain ⟨t1, t2, t3⟩ := f2 b hb
    exact ⟨by rw [t1, qa_up_n _ _ (by omega)], by rw [t2, qa_up_n _ _ (by omega)], fun h1 => by rw [t3, qa_up_n _ _ (by omega), qa_up_n _ _ h1]⟩
  have r2 : R2 1 = va_up (R1 1) 1 (some 4) := by rw [(f2 1 (by omega)).2.2, qa_up_n _ _ (by omega), qa_up_s]
  have k2 : K2 1 = (0, 0) := by rw [(g2 1 (by omega)).1]; exact k1
  have h3k : (va_up K2 7 (3, 0)) 7 = (3, 0) := qa_up_s _ _ _
  obtain ⟨K3, I3, R3, z3, a3, hz3, p3, q3, f3⟩ := qs_EX_init (d := d + 16) (I := va_up I2 7 (fun _ => 0)) (R := va_up (va_up R2 1 (va_up (R2 1) 2 (some 6))) 7 (fun _ => none)) (z := z2 + 3) h3k
  simp only [Nat.add_assoc, Nat.reduceAdd] at a3
  have g3 : ∀ b, (b < 7 ∨ 10 ≤ b) → K3 b = K2 b ∧ I3 b = I2 b ∧ (b ≠ 1 → R3 b = R2 b) := fun b hb => by
    obtain ⟨t1, t2, t3⟩ := f3 b hb
    exact ⟨by rw [t1, qa_up_n _ _ (by omega)], by rw [t2, qa_up_n _ _ (by omega)], fun h1 => by rw [t3, qa_up_n _ _ (by omega), qa_up_n _ _ h1]⟩
  have r3 : R3 1 = va_up (R2 1) 2 (some 6) := by rw [(f3 1 (by omega)).2.2, qa_up_n _ _ (by omega), qa_up_s]
  have k3 : K3 1 = (0, 0) := by rw [(g3 1 (by omega)).1]; exact k2
  have h4k : (va_up K3 10 (4, 0)) 10 = (4, 0) := qa_up_s _ _ _
  obtain ⟨K4, I4, R4, z4, a4, hz4, b4, f4⟩ := qs_CO_init (d := d) (I := va_up I3 10 (fun _ => 0)) (R := va_up (va_up R3 1 (va_up (R3 1) 3 (some 7))) 10 (fun _ => none)) (z := z3 + 4) h4k
  simp only [Nat.add_assoc, Nat.reduceAdd] at a4
  have g4 : ∀ b, (b < 10 ∨ 17 ≤ b) → K4 b = K3 b ∧ I4 b = I3 b ∧ (b ≠ 1 → R4 b = R3 b) := fun b hb => by
    obtain ⟨t1, t2, t3⟩ := f4 b hb
    exact ⟨by rw [t1, qa_up_n _ _ (by omega)], by rw [t2, qa_up_n _ _ (by omega)], fun h1 => by rw [t3, qa_up_n _ _ (by omega), qa_up_n _ _ h1]⟩
  have r4 : R4 1 = va_up (R3 1) 3 (some 7) := by rw [(f4 1 (by omega)).2.2, qa_up_n _ _ (by omega), qa_up_s]
  have k4 : K4 1 = (0, 0) := by rw [(g4 1 (by omega)).1]; exact k3
  have h5k : (va_up K4 17 (6, 0)) 17 = (6, 0) := qa_up_s _ _ _
  obtain ⟨K5, I5, R5, z5, a5, hz5, p5, q5, f5⟩ := qs_PR_init (d := d + 14) (c := 10) (I := va_up I4 17 (fun _ => 0)) (R := va_up (va_up R4 1 (va_up (R4 1) 4 (some 10))) 17 (fun _ => none)) (z := z4 + 7) h5k
  simp only [Nat.add_assoc, Nat.reduceAdd] at a5
  have g5 : ∀ b, (b < 17 ∨ 33 ≤ b) → K5 b = K4 b ∧ I5 b = I4 b ∧ (b ≠ 1 → R5 b = R4 b) := fun b hb => by
    obtain ⟨t1, t2, t3⟩ := f5 b hb
    exact ⟨by rw [t1, qa_up_n _ _ (by omega)], by rw [t2, qa_up_n _ _ (by omega)], fun h1 => by rw [t3, qa_up_n _ _ (by omega), qa_up_n _ _ h1]⟩
  have r5 : R5 1 = va_up (R4 1) 4 (some 10) := by rw [(f5 1 (by omega)).2.2, qa_up_n _ _ (by omega), qa_up_s]
  have k5 : K5 1 = (0, 0) := by rw [(g5 1 (by omega)).1]; exact k4
  have x5 : R5 1 4 = some 10 := by rw [r5, qa_up_s]
  have h6k : (va_up K5 33 (6, 0)) 33 = (6, 0) := qa_up_s _ _ _
  obtain ⟨K6, I6, R6, z6, a6, hz6, p6, q6, f6⟩ := qs_PR_init (d := d + 14) (c := 10) (I := va_up I5 33 (fun _ => 0)) (R := va_up (va_up R5 1 (va_up (R5 1) 5 (some 17))) 33 (fun _ => none)) (z := z5 + 7) h6k
  simp only [Nat.add_assoc, Nat.reduceAdd] at a6
  have g6 : ∀ b, (b < 33 ∨ 49 ≤ b) → K6 b = K5 b ∧ I6 b = I5 b ∧ (b ≠ 1 → R6 b = R5 b) := fun b hb => by
    obtain ⟨t1, t2, t3⟩ := f6 b hb
    exact ⟨by rw [t1, qa_up_n _ _ (by omega)], by rw [t2, qa_up_n _ _ (by omega)], fun h1 => by rw [t3, qa_up_n _ _ (by omega), qa_up_n _ _ h1]⟩
  have r6 : R6 1 = va_up (R5 1) 5 (some 17) := by rw [(f6 1 (by omega)).2.2, qa_up_n _ _ (by omega), qa_up_s]
  have k6 : K6 1 = (0, 0) := by rw [(g6 1 (by omega)).1]; exact k5
  have x6 : R6 1 4 = some 10 := by rw [r6, qa_up_n _ _ (by omega)]; exact x5
  have h7k : (va_up K6 49 (8, 0)) 49 = (8, 0) := qa_up_s _ _ _
  obtain ⟨K7, I7, R7, z7, a7, hz7, b7, f7⟩ := qs_LG_init (d := d + 13) (c := 10) (I := va_up I6 49 (fun _ => 0)) (R := va_up (va_up R6 1 (va_up (R6 1) 6 (some 33))) 49 (fun _ => none)) (z := z6 + 5) h7k
  simp only [Nat.add_assoc, Nat.reduceAdd] at a7
  have g7 : ∀ b, (b < 49 ∨ 68 ≤ b) → K7 b = K6 b ∧ I7 b = I6 b ∧ (b ≠ 1 → R7 b = R6 b) := fun b hb => by
    obtain ⟨t1, t2, t3⟩ := f7 b hb
    exact ⟨by rw [t1, qa_up_n _ _ (by omega)], by rw [t2, qa_up_n _ _ (by omega)], fun h1 => by rw [t3, qa_up_n _ _ (by omega), qa_up_n _ _ h1]⟩
  have r7 : R7 1 = va_up (R6 1) 6 (some 33) := by rw [(f7 1 (by omega)).2.2, qa_up_n _ _ (by omega), qa_up_s]
  have k7 : K7 1 = (0, 0) := by rw [(g7 1 (by omega)).1]; exact k6
  have x7 : R7 1 4 = some 10 := by rw [r7, qa_up_n _ _ (by omega)]; exact x6
  have h8k : (va_up K7 68 (9, 0)) 68 = (9, 0) := qa_up_s _ _ _
  obtain ⟨K8, I8, R8, z8, a8, hz8, b8, f8⟩ := qs_HI_init (d := d + 13) (c := 10) (I := va_up I7 68 (fun _ => 0)) (R := va_up (va_up R7 1 (va_up (R7 1) 7 (some 49))) 68 (fun _ => none)) (z := z7 + 3) h8k
  simp only [Nat.add_assoc, Nat.reduceAdd] at a8
  have g8 : ∀ b, (b < 68 ∨ 166 ≤ b) → K8 b = K7 b ∧ I8 b = I7 b ∧ (b ≠ 1 → R8 b = R7 b) := fun b hb => by
    obtain ⟨t1, t2, t3⟩ := f8 b hb
    exact ⟨by rw [t1, qa_up_n _ _ (by omega)], by rw [t2, qa_up_n _ _ (by omega)], fun h1 => by rw [t3, qa_up_n _ _ (by omega), qa_up_n _ _ h1]⟩
  have r8 : R8 1 = va_up (R7 1) 7 (some 49) := by rw [(f8 1 (by omega)).2.2, qa_up_n _ _ (by omega), qa_up_s]
  have k8 : K8 1 = (0, 0) := by rw [(g8 1 (by omega)).1]; exact k7
  have h9k : (va_up K8 166 (4, 0)) 166 = (4, 0) := qa_up_s _ _ _
  obtain ⟨K9, I9, R9, z9, a9, hz9, b9, f9⟩ := qs_CO_init (d := d) (I := va_up I8 166 (fun _ => 0)) (R := va_up (va_up R8 1 (va_up (R8 1) 8 (some 68))) 166 (fun _ => none)) (z := z8 + 4) h9k
  simp only [Nat.add_assoc, Nat.reduceAdd] at a9
  have g9 : ∀ b, (b < 166 ∨ 173 ≤ b) → K9 b = K8 b ∧ I9 b = I8 b ∧ (b ≠ 1 → R9 b = R8 b) := fun b hb => by
    obtain ⟨t1, t2, t3⟩ := f9 b hb
    exact ⟨by rw [t1, qa_up_n _ _ (by omega)], by rw [t2, qa_up_n _ _ (by omega)], fun h1 => by rw [t3, qa_up_n _ _ (by omega), qa_up_n _ _ h1]⟩
  have r9 : R9 1 = va_up (R8 1) 8 (some 68) := by rw [(f9 1 (by omega)).2.2, qa_up_n _ _ (by omega), qa_up_s]
  have k9 : K9 1 = (0, 0) := by rw [(g9 1 (by omega)).1]; exact k8
  have h10k : (va_up K9 173 (6, 0)) 173 = (6, 0) := qa_up_s _ _ _
  obtain ⟨K10, I10, R10, z10, a10, hz10, p10, q10, f10⟩ := qs_PR_init (d := d + 14) (c := 166) (I := va_up I9 173 (fun _ => 0)) (R := va_up (va_up R9 1 (va_up (R9 1) 9 (some 166))) 173 (fun _ => none)) (z := z9 + 7) h10k
  simp only [Nat.add_assoc, Nat.reduceAdd] at a10
  have g10 : ∀ b, (b < 173 ∨ 189 ≤ b) → K10 b = K9 b ∧ I10 b = I9 b ∧ (b ≠ 1 → R10 b = R9 b) := fun b hb => by
    obtain ⟨t1, t2, t3⟩ := f10 b hb
    exact ⟨by rw [t1, qa_up_n _ _ (by omega)], by rw [t2, qa_up_n _ _ (by omega)], fun h1 => by rw [t3, qa_up_n _ _ (by omega), qa_up_n _ _ h1]⟩
  have r10 : R10 1 = va_up (R9 1) 9 (some 166) := by rw [(f10 1 (by omega)).2.2, qa_up_n _ _ (by omega), qa_up_s]
  have k10 : K10 1 = (0, 0) := by rw [(g10 1 (by omega)).1]; exact k9
  obtain ⟨RF, hRF⟩ : ∃ RF, RF = va_up R10 1 (va_up (R10 1) 10 (some 173)) := ⟨_, rfl⟩
  obtain ⟨IF, hIF⟩ : ∃ IF, IF = va_up I10 1 (va_up (I10 1) 11 (nI 0)) := ⟨_, rfl⟩
  have G10 : ∀ b, b < 189 → b ≠ 1 → K10 b = K10 b ∧ IF b = I10 b ∧ RF b = R10 b := fun b h1 h2 => ⟨rfl, by rw [hIF]; exact qa_up_n _ _ h2, by rw [hRF]; exact qa_up_n _ _ h2⟩
  have G9 : ∀ b, b < 173 → b ≠ 1 → K10 b = K9 b ∧ IF b = I9 b ∧ RF b = R9 b := fun b h1 h2 => by
    obtain ⟨t1, t2, t3⟩ := G10 b (by omega) h2
    obtain ⟨v1, v2, v3⟩ := g10 b (Or.inl h1)
    exact ⟨t1.trans v1, t2.trans v2, t3.trans (v3 h2)⟩
  have G8 : ∀ b, b < 166 → b ≠ 1 → K10 b = K8 b ∧ IF b = I8 b ∧ RF b = R8 b := fun b h1 h2 => by
    obtain ⟨t1, t2, t3⟩ := G9 b (by omega) h2
    obtain ⟨v1, v2, v3⟩ := g9 b (Or.inl h1)
    exact ⟨t1.trans v1, t2.trans v2, t3.trans (v3 h2)⟩
  have G7 : ∀ b, b < 68 → b ≠ 1 → K10 b = K7 b ∧ IF b = I7 b ∧ RF b = R7 b := fun b h1 h2 => by
    obtain ⟨t1, t2, t3⟩ := G8 b (by omega) h2
    obtain ⟨v1, v2, v3⟩ := g8 b (Or.inl h1)
    exact ⟨t1.trans v1, t2.trans v2, t3.trans (v3 h2)⟩
  have G6 : ∀ b, b < 49 → b ≠ 1 → K10 b = K6 b ∧ IF b = I6 b ∧ RF b = R6 b := fun b h1 h2 => by
    obtain ⟨t1, t2, t3⟩ := G7 b (by omega) h2
    obtain ⟨v1, v2, v3⟩ := g7 b (Or.inl h1)
    exact ⟨t1.trans v1, t2.trans v2, t3.trans (v3 h2)⟩
  have G5 : ∀ b, b < 33 → b ≠ 1 → K10 b = K5 b ∧ IF b = I5 b ∧ RF b = R5 b := fun b h1 h2 => by
    obtain ⟨t1, t2, t3⟩ := G6 b (by omega) h2
    obtain ⟨v1, v2, v3⟩ := g6 b (Or.inl h1)
    exact ⟨t1.trans v1, t2.trans v2, t3.trans (v3 h2)⟩
  have G4 : ∀ b, b < 17 → b ≠ 1 → K10 b = K4 b ∧ IF b = I4 b ∧ RF b = R4 b := fun b h1 h2 => by
    obtain ⟨t1, t2, t3⟩ := G5 b (by omega) h2
    obtain ⟨v1, v2, v3⟩ := g5 b (Or.inl h1)
    exact ⟨t1.trans v1, t2.trans v2, t3.trans (v3 h2)⟩
  have G3 : ∀ b, b < 10 → b ≠ 1 → K10 b = K3 b ∧ IF b = I3 b ∧ RF b = R3 b := fun b h1 h2 => by
    obtain ⟨t1, t2, t3⟩ := G4 b (by omega) h2
    obtain ⟨v1, v2, v3⟩ := g4 b (Or.inl h1)
    exact ⟨t1.trans v1, t2.trans v2, t3.trans (v3 h2)⟩
  have G2 : ∀ b, b < 7 → b ≠ 1 → K10 b = K2 b ∧ IF b = I2 b ∧ RF b = R2 b := fun b h1 h2 => by
    obtain ⟨t1, t2, t3⟩ := G3 b (by omega) h2
    obtain ⟨v1, v2, v3⟩ := g3 b (Or.inl h1)
    exact ⟨t1.trans v1, t2.trans v2, t3.trans (v3 h2)⟩
  have G1 : ∀ b, b < 6 → b ≠ 1 → K10 b = K1 b ∧ IF b = I1 b ∧ RF b = R1 b := fun b h1 h2 => by
    obtain ⟨t1, t2, t3⟩ := G2 b (by omega) h2
    obtain ⟨v1, v2, v3⟩ := g2 b (Or.inl h1)
    exact ⟨t1.trans v1, t2.trans v2, t3.trans (v3 h2)⟩
  have G0 : ∀ b, b < 4 → b ≠ 1 → K10 b = K0 b ∧ IF b = I0 b ∧ RF b = R0 b := fun b h1 h2 => by
    obtain ⟨t1, t2, t3⟩ := G1 b (by omega) h2
    obtain ⟨v1, v2, v3⟩ := g1 b (Or.inl h1)
    exact ⟨t1.trans v1, t2.trans v2, t3.trans (v3 h2)⟩
  have L0 : ∀ b, (b < 1 ∨ 189 ≤ b) → K0 b = K b ∧ I0 b = I b ∧ R0 b = R b := fun b hb => by
    obtain ⟨v1, v2, v3⟩ := g0 b (by omega)
    exact ⟨v1, v2, v3 (by omega)⟩
  have L1 : ∀ b, (b < 1 ∨ 189 ≤ b) → K1 b = K b ∧ I1 b = I b ∧ R1 b = R b := fun b hb => by
    obtain ⟨t1, t2, t3⟩ := L0 b hb
    obtain ⟨v1, v2, v3⟩ := g1 b (by omega)
    exact ⟨v1.trans t1, v2.trans t2, (v3 (by omega)).trans t3⟩
  have L2 : ∀ b, (b < 1 ∨ 189 ≤ b) → K2 b = K b ∧ I2 b = I b ∧ R2 b = R b := fun b hb => by
    obtain ⟨t1, t2, t3⟩ := L1 b hb
    obtain ⟨v1, v2, v3⟩ := g2 b (by omega)
    exact ⟨v1.trans t1, v2.trans t2, (v3 (by omega)).trans t3⟩
  have L3 : ∀ b, (b < 1 ∨ 189 ≤ b) → K3 b = K b ∧ I3 b = I b ∧ R3 b = R b := fun b hb => by
    obtain ⟨t1, t2, t3⟩ := L2 b hb
    obtain ⟨v1, v2, v3⟩ := g3 b (by omega)
    exact ⟨v1.trans t1, v2.trans t2, (v3 (by omega)).trans t3⟩
  have L4 : ∀ b, (b < 1 ∨ 189 ≤ b) → K4 b = K b ∧ I4 b = I b ∧ R4 b = R b := fun b hb => by
    obtain ⟨t1, t2, t3⟩ := L3 b hb
    obtain ⟨v1, v2, v3⟩ := g4 b (by omega)
    exact ⟨v1.trans t1, v2.trans t2, (v3 (by omega)).trans t3⟩
  have L5 : ∀ b, (b < 1 ∨ 189 ≤ b) → K5 b = K b ∧ I5 b = I b ∧ R5 b = R b := fun b hb => by
    obtain ⟨t1, t2, t3⟩ := L4 b hb
    obtain ⟨v1, v2, v3⟩ := g5 b (by omega)
    exact ⟨v1.trans t1, v2.trans t2, (v3 (by omega)).trans t3⟩
  have L6 : ∀ b, (b < 1 ∨ 189 ≤ b) → K6 b = K b ∧ I6 b = I b ∧ R6 b = R b := fun b hb => by
    obtain ⟨t1, t2, t3⟩ := L5 b hb
    obtain ⟨v1, v2, v3⟩ := g6 b (by omega)
    exact ⟨v1.trans t1, v2.trans t2, (v3 (by omega)).trans t3⟩
  have L7 : ∀ b, (b < 1 ∨ 189 ≤ b) → K7 b = K b ∧ I7 b = I b ∧ R7 b = R b := fun b hb => by
    obtain ⟨t1, t2, t3⟩ := L6 b hb
    obtain ⟨v1, v2, v3⟩ := g7 b (by omega)
    exact ⟨v1.trans t1, v2.trans t2, (v3 (by omega)).trans t3⟩
  have L8 : ∀ b, (b < 1 ∨ 189 ≤ b) → K8 b = K b ∧ I8 b = I b ∧ R8 b = R b := fun b hb => by
    obtain ⟨t1, t2, t3⟩ := L7 b hb
    obtain ⟨v1, v2, v3⟩ := g8 b (by omega)
    exact ⟨v1.trans t1, v2.trans t2, (v3 (by omega)).trans t3⟩
  have L9 : ∀ b, (b < 1 ∨ 189 ≤ b) → K9 b = K b ∧ I9 b = I b ∧ R9 b = R b := fun b hb => by
    obtain ⟨t1, t2, t3⟩ := L8 b hb
    obtain ⟨v1, v2, v3⟩ := g9 b (by omega)
    exact ⟨v1.trans t1, v2.trans t2, (v3 (by omega)).trans t3⟩
  have L10 : ∀ b, (b < 1 ∨ 189 ≤ b) → K10 b = K b ∧ I10 b = I b ∧ R10 b = R b := fun b hb => by
    obtain ⟨t1, t2, t3⟩ := L9 b hb
    obtain ⟨v1, v2, v3⟩ := g10 b (by omega)
    exact ⟨v1.trans t1, v2.trans t2, (v3 (by omega)).trans t3⟩
  have LF : ∀ b, (b < 1 ∨ 189 ≤ b) → K10 b = K b ∧ IF b = I b ∧ RF b = R b := fun b hb => by
    obtain ⟨t1, t2, t3⟩ := L10 b hb
    exact ⟨t1, by rw [hIF, qa_up_n _ _ (by omega)]; exact t2, by rw [hRF, qa_up_n _ _ (by omega)]; exact t3⟩
  have RF1 : RF 1 = va_up (va_up (va_up (va_up (va_up (va_up (va_up (va_up (va_up (va_up (va_up (R 1) 0 (some 2)) 1 (some 4)) 2 (some 6)) 3 (some 7)) 4 (some 10)) 5 (some 17)) 6 (some 33)) 7 (some 49)) 8 (some 68)) 9 (some 166)) 10 (some 173) := by rw [hRF, qa_up_s, r10, r9, r8, r7, r6, r5, r4, r3, r2, r1, r0]
  have hLA : qLA K10 RF := by
    refine ⟨k10, ?_, ?_, ?_, ?_, ?_, ?_, ?_, ?_, ?_, ?_, ?_⟩
    all_goals (rw [RF1]; simp (disch := omega) only [qa_up_s, qa_up_n])
  refine ⟨K10, IF, RF, z10, ?_, by omega, ⟨hLA, qp_T_cg p0 (G0 _ (by omega) (by omega)).1 (G0 _ (by omega) (by omega)).1 (G0 _ (by omega) (by omega)).2.2, qp_T_cg p1 (G1 _ (by omega) (by omega)).1 (G1 _ (by omega) (by omega)).1 (G1 _ (by omega) (by omega)).2.2, ⟨by rw [(G2 _ (by omega) (by omega)).1, hK2, qa_up_s], by rw [(G2 _ (by omega) (by omega)).2.2]; exact b2⟩, qp_EX_cg p3 (fun a _ _ => (G3 _ (by omega) (by omega)).1) (G3 _ (by omega) (by omega)).2.2, qC0_cg b4.1 (fun a _ _ => (G4 _ (by omega) (by omega)).1) (fun j _ => by rw [(G4 _ (by omega) (by omega)).2.2]), qp_PR_cg p5 (fun a _ _ => (G5 _ (by omega) (by omega)).1) (fun a _ _ => (G5 _ (by omega) (by omega)).2.2), qp_PR_cg p6 (fun a _ _ => (G6 _ (by omega) (by omega)).1) (fun a _ _ => (G6 _ (by omega) (by omega)).2.2), qp_LG_cg b7.1 (fun a _ _ => (G7 _ (by omega) (by omega)).1) (fun a _ _ => (G7 _ (by omega) (by omega)).2.2), qp_HI_cg b8.1 (fun a _ _ => (G8 _ (by omega) (by omega)).1) (fun a _ _ => (G8 _ (by omega) (by omega)).2.2), qC0_cg b9.1 (fun a _ _ => (G9 _ (by omega) (by omega)).1) (fun j _ => by rw [(G9 _ (by omega) (by omega)).2.2]), qp_PR_cg p10 (fun a _ _ => rfl) (fun a _ _ => (G10 _ (by omega) (by omega)).2.2)⟩, fun hx fs hd => qj_A_g (b4.2 fs hd) (fun a _ _ => G4 a (by omega) (by omega)) (fun a _ _ => G4 a (by omega) (by omega)) (fun a ha hk => absurd ((L4 a (by omega)).1.symm.trans hk) (hx a (by omega))), qp_PS_cg q5 (fun a _ _ => (G5 _ (by omega) (by omega)).2.1), fun el er => qp_LS_cg (b7.2 el er) (fun a _ _ => (G7 _ (by omega) (by omega)).2.1), fun P => qp_HS_cg (b8.2 P) (fun a _ _ => (G8 _ (by omega) (by omega)).2.1), by rw [(G0 _ (by omega) (by omega)).2.1]; exact q0, by rw [(G1 _ (by omega) (by omega)).2.1]; exact q1, by rw [(G3 _ (by omega) (by omega)).2.1]; exact q3, by rw [hIF, qa_up_s, qa_up_s], LF⟩
  simp (disch := first | assumption | omega | exact qa_up_s _ _ _ | exact Or.inl rfl | exact Or.inr rfl | exact qb_01 | (simp (disch := omega) only [qa_up_n, qa_up_s]; done) | (simp (disch := omega) only [qa_up_n, qa_up_s]; assumption)) only [qe_0, qr_0_0, qr_0_1, qr_0_4, qr_0_5, qr_0_8, qr_0_9, qr_0_12, qr_0_15, qr_0_16, qr_0_19, qr_0_20, qr_0_23, qr_0_26, qr_0_27, qr_0_30, qr_0_31, qr_0_32, qr_0_35, qr_0_38, qr_0_41, qr_0_42, qr_0_45, qr_0_46, qr_0_49, qr_0_52, qr_0_53, qr_0_56, qr_0_57, qr_0_60, qr_0_63, qr_0_64, qr_0_67, qr_0_68, qr_0_69, qr_0_72, qr_0_75, qr_0_78, qr_0_79, qr_0_82, qr_0_83, qr_0_84, qr_0_87, qr_0_90, qr_0_93, qr_0_94, qr_0_97, qr_0_98, qr_0_99, qr_0_102, qr_0_105, qr_0_108, qr_0_109, qr_0_112, qr_0_113, qr_0_114, qr_0_117, qr_0_120, qr_0_123, qr_0_124, qr_0_127, qr_0_128, qr_0_131, qr_0_134, qr_0_135, qr_0_138, qr_0_139, qr_0_140, qr_0_143, qr_0_146, qr_0_149, qr_0_150, qr_0_151, qr_0_154, true_and, and_true, false_and, and_false, Option.bind_some, Option.toList_some, Option.toList_none, List.nil_append, List.cons_append, if_true, if_false, ite_true, ite_false, not_true_eq_false, not_false_eq_true, qa_up_s, qa_up_n, qa_uu, Nat.add_assoc, Nat.reduceAdd, a0, a1, a2, ← hz2, a3, a4, a5, a6, a7, a8, a9, a10, x1, x5, x6, x7, ← hK2, ← hRF, ← hIF]
theorem qs_MO_init (hk : K u = (11, 0)) (hI : I u = fun _ => 0) : ∃ K' I' R' z' t, qa_ex (d + 4) 158 [qa_a (some u)] (K, I, R, u + 1, z) = some (none, (K', I', R', u + 15, z')) ∧ z' ≤ z + 4000 ∧ qp_MO K' R' u ∧ (qv_Z t ∧ ∀ i, i < 127 → t i = qF_zer i) ∧ I' (u + 1) = t ∧ I' (u + 2) = t ∧ I' (u + 3) = (fun _ => 0) ∧ I' (u + 7) = (fun _ => 0) ∧ (I' (u + 5) 0 = nI 1 ∧ I' (u + 5) 1 = nI 0 ∧ I' (u + 5) 2 = nI 70 ∧ I' (u + 5) 12 = (-1)) ∧ (I' u 4 = nI 0 ∧ I' u 9 = nI 0 ∧ I' u 12 = nI 0 ∧ I' u 14 = nI 0 ∧ I' u 20 = nI 0 ∧ I' u 22 = nI 0) ∧ qC_f u (u + 15) K I R K' I' R' := by
  have pre : ∃ K1 I1 R1 z1, (∀ h', qa_ex (d + 3) 159 [qa_a (some u)] (K1, I1, R1, u + 15, z1) = some (none, h') → qa_ex (d + 4) 158 [qa_a (some u)] (K, I, R, u + 1, z) = some (none, h')) ∧ z1 ≤ z + 4000 ∧ qp_MO K1 R1 u ∧ I1 (u + 1) = (fun _ => 0) ∧ I1 (u + 2) = (fun _ => 0) ∧ I1 (u + 3) = (fun _ => 0) ∧ I1 (u + 7) = (fun _ => 0) ∧ (I1 (u + 5) 0 = nI 1 ∧ I1 (u + 5) 2 = nI 70 ∧ I1 (u + 5) 12 = (-1)) ∧ I1 u = (fun _ => 0) ∧ qC_f u (u + 15) K I R K1 I1 R1 := by
    apply Exists.intro
    apply Exists.intro
    apply Exists.intro
    apply Exists.intro
    apply And.intro
    · intro h' hb
      simp (disch := first | assumption | omega | exact qa_up_s _ _ _ | exact Or.inl rfl | exact Or.inr rfl | exact qb_01 | (simp (disch := omega) only [qa_up_n, qa_up_s]; done) | (simp (disch := omega) only [qa_up_n, qa_up_s]; assumption) | (simp (disch := omega) only [qa_up_n, qa_up_s]; omega) | (refine Or.inl ?_; simp (disch := omega) only [qa_up_n, qa_up_s]; done)) only [qe_158, qr_158_0, qr_158_1, qr_158_4, qr_158_5, qr_158_7, qr_158_9, qr_158_12, qr_158_13, qr_158_15, qr_158_17, qr_158_20, qr_158_21, qr_158_23, qr_158_25, qr_158_28, qr_158_29, qr_158_32, qr_158_34, qr_158_37, qr_158_38, qr_158_41, qr_158_43, qr_158_46, qr_158_47, qr_158_50, qr_158_52, qr_158_55, qr_158_56, qr_158_58, qr_158_60, qr_158_63, qr_158_64, qr_158_67, qr_158_69, qr_158_72, qr_158_73, qr_158_75, qr_158_77, qr_158_80, qr_158_81, qr_158_83, qr_158_85, qr_158_88, qr_158_89, qr_158_91, qr_158_93, qr_158_96, qr_158_97, qr_158_99, qr_158_101, qr_158_104, qr_158_105, qr_158_107, qr_158_109, qr_158_112, qr_158_113, qr_158_116, qr_158_118, qr_158_121, qr_158_122, qr_158_125, qr_158_126, qr_158_127, qr_158_128, qr_158_129, qr_158_132, qr_158_133, qr_158_135, qr_158_136, qr_158_137, qr_158_140, qr_158_142, qr_158_143, qr_158_144, qr_158_145, qr_158_148, true_and, and_true, false_and, and_false, Option.bind_some, Option.toList_some, Option.toList_none, List.nil_append, List.cons_append, if_true, if_false, ite_true, ite_false, not_true_eq_false, not_false_eq_true, qa_up_s, qa_up_n, qa_uu, Nat.add_assoc, Nat.reduceAdd]
      rw [hb]
      simp only [true_and, and_true, false_and, and_false, Option.bind_some, Option.toList_some, Option.toList_none, List.nil_append, List.cons_append, if_true, if_false, ite_true, ite_false, not_true_eq_false, not_false_eq_true, qe_158, qr_158_0, qr_158_1, qr_158_4, qr_158_5, qr_158_7, qr_158_9, qr_158_12, qr_158_13, qr_158_15, qr_158_17, qr_158_20, qr_158_21, qr_158_23, qr_158_25, qr_158_28, qr_158_29, qr_158_32, qr_158_34, qr_158_37, qr_158_38, qr_158_41, qr_158_43, qr_158_46, qr_158_47, qr_158_50, qr_158_52, qr_158_55, qr_158_56, qr_158_58, qr_158_60, qr_158_63, qr_158_64, qr_158_67, qr_158_69, qr_158_72, qr_158_73, qr_158_75, qr_158_77, qr_158_80, qr_158_81, qr_158_83, qr_158_85, qr_158_88, qr_158_89, qr_158_91, qr_158_93, qr_158_96, qr_158_97, qr_158_99, qr_158_101, qr_158_104, qr_158_105, qr_158_107, qr_158_109, qr_158_112, qr_158_113, qr_158_116, qr_158_118, qr_158_121, qr_158_122, qr_158_125, qr_158_126, qr_158_127, qr_158_128, qr_158_129, qr_158_132, qr_158_133, qr_158_135, qr_158_136, qr_158_137, qr_158_140, qr_158_142, qr_158_143, qr_158_144, qr_158_145, qr_158_148]
    · refine ⟨by omega, ⟨?_, ⟨?_, ?_, ?_⟩, ⟨?_, ?_, ?_⟩, ⟨?_, ?_, ?_⟩, ⟨?_, ?_, ?_⟩, ⟨?_, ?_, ?_⟩, ⟨?_, ?_, ?_⟩, ⟨?_, ?_, ?_⟩, ⟨?_, ?_, ?_⟩, ⟨?_, ?_, ?_⟩, ⟨?_, ?_, ?_⟩, ⟨?_, ?_, ?_⟩, ⟨?_, ?_, ?_⟩, ⟨?_, ?_, ?_⟩, ⟨?_, ?_, ?_⟩⟩, ?_, ?_, ?_, ?_, ⟨?_, ?_, ?_⟩, ?_, fun b hb => ⟨?_, ?_, ?_⟩⟩
      all_goals first | ((simp (disch := omega) only [qa_up_s, qa_up_n]; try assumption); done) | (simp (disch := omega) only [qa_up_s, qa_up_n, qn_m1]; done)
  obtain ⟨K1, I1, R1, z1, h1, h2, h3, h4, h5, h6, h7, h8, h9, h10⟩ := pre
  obtain ⟨t, tZ, tz, hb⟩ := qs_MO_begins (d := d) (I := I1) (n := u + 15) (z := z1) h3 (by rw [h4]; exact fun _ _ => rfl) (by rw [h5]; exact fun _ _ => rfl)
  refine ⟨K1, _, R1, z1, t, h1 _ hb, h2, h3, ⟨tZ, tz⟩, ?_, ?_, ?_, ?_, ⟨?_, ?_, ?_, ?_⟩, ⟨?_, ?_, ?_, ?_, ?_, ?_⟩, fun b hb => ⟨(h10 b hb).1, ?_, (h10 b hb).2.2⟩⟩
  · (simp (disch := omega) only [qa_up_s, qa_up_n]; try assumption)
  · (simp (disch := omega) only [qa_up_s, qa_up_n]; try assumption)
  · (simp (disch := omega) only [qa_up_s, qa_up_n]; try assumption)
  · (simp (disch := omega) only [qa_up_s, qa_up_n]; try assumption)
  · simp (disch := omega) only [qa_up_s, qa_up_n]; exact h8.1
  · (simp (disch := omega) only [qa_up_s, qa_up_n]; try assumption)
  · simp (disch := omega) only [qa_up_s, qa_up_n]; exact h8.2.1
  · simp (disch := omega) only [qa_up_s, qa_up_n]; exact h8.2.2
  · (simp (disch := omega) only [qa_up_s, qa_up_n]; try assumption)
  · simp (disch := omega) only [qa_up_s, qa_up_n, h9]; rfl
  · (simp (disch := omega) only [qa_up_s, qa_up_n]; try assumption)
  · simp (disch := omega) only [qa_up_s, qa_up_n, h9]; rfl
  · simp (disch := omega) only [qa_up_s, qa_up_n, h9]; rfl
  · simp (disch := omega) only [qa_up_s, qa_up_n, h9]; rfl
  · rw [qa_up_n _ _ (by omega), qa_up_n _ _ (by omega), qa_up_n _ _ (by omega), qa_up_n _ _ (by omega)]
    exact (h10 b hb).2.1
theorem qk_ws70 : (qk_ws (fun _ => 70) (fun _ => .num 0) 1).length = 2 := rfl
/-- the two objects, new -/
theorem qJ_start (hK : ∀ a, 1 ≤ a → K a = (77, 0)) (hz : z ≤ 100) : ∃ K' I' R' z' K'' I'' R'' z'', qa_ex (d + 27) 0 [qa_a (some 1)] (va_up K 1 (0, 0), va_up I 1 (fun _ => 0), va_up R 1 (fun _ => none), 2, z) = some (none, (K', I', R', 189, z')) ∧ qa_ex (d + 27) 158 [qa_a (some 189)] (va_up K' 189 (11, 0), va_up I' 189 (fun _ => 0), va_up R' 189 (fun _ => none), 190, z' + 23) = some (none, (K'', I'', R'', 204, z'')) ∧ K'' 0 = K 0 ∧ I'' 0 = I 0 ∧ qJ 0 (K'', I'', R'', 204, z'') := by
  have k1 : va_up K 1 (0, 0) 1 = (0, 0) := qa_up_s _ _ _
  obtain ⟨K', I', R', z', r1, b1, ⟨s1, s2, s3, s4, s5, s6, s7, s8, s9, s10, s11, s12⟩, b2, b3, b4, b5, b6, b7, b8, b9, b10⟩ := qs_LA_init (d := d + 9) (I := va_up I 1 (fun _ => 0)) (R := va_up R 1 (fun _ => none)) (z := z) k1
  have k2 : va_up K' 189 (11, 0) 189 = (11, 0) := qa_up_s _ _ _
  obtain ⟨K'', I'', R'', z'', t, r2, c1, c2, ⟨c3, c4⟩, c5, c6, c7, c8, ⟨c9, c10, c11, c12⟩, ⟨e1, e2, e3, e4, e5, e6⟩, c13⟩ := qs_MO_init (d := d + 23) (I := va_up I' 189 (fun _ => 0)) (R := va_up R' 189 (fun _ => none)) (z := z' + 23) k2 (qa_up_s _ _ _)
  simp only [Nat.add_assoc, Nat.reduceAdd] at r2
  have c6 : I'' 191 = t := c6
  have c5 : I'' 190 = t := c5
  have c7 : I'' 192 = (fun _ => 0) := c7
  have c8 : I'' 196 = (fun _ => 0) := c8
  have c9 : I'' 194 0 = nI 1 := c9
  have c10 : I'' 194 1 = nI 0 := c10
  have c11 : I'' 194 2 = nI 70 := c11
  have c12 : I'' 194 12 = (-1) := c12
  have fr : ∀ b, (b < 189 ∨ 204 ≤ b) → K'' b = K' b ∧ I'' b = I' b ∧ R'' b = R' b := fun b hb => by
    obtain ⟨g1, g2, g3⟩ := c13 b hb
    exact ⟨by rw [g1, qa_up_n _ _ (by omega)], by rw [g2, qa_up_n _ _ (by omega)], by rw [g3, qa_up_n _ _ (by omega)]⟩
  have hI0 : I'' 0 = I 0 := by rw [(fr 0 (by omega)).2.1, (b10 0 (by omega)).2.1, qa_up_n _ _ (by omega)]
  have hK0 : K'' 0 = K 0 := by rw [(fr 0 (by omega)).1, (b10 0 (by omega)).1, qa_up_n _ _ (by omega)]
  have h77 : ∀ a, 189 ≤ a → K' a = (77, 0) := fun a ha => by rw [(b10 a (by omega)).1, qa_up_n _ _ (by omega)]; exact hK a (by omega)
  have hx : ∀ a, 189 ≤ a → va_up K 1 (0, 0) a ≠ (10, 0) := fun a ha => by rw [qa_up_n _ _ (by omega), hK a (by omega)]; decide
  have fk : ∀ a, a < 189 → K'' a = K' a := fun a ha => (fr a (by omega)).1
  have fR : ∀ a, a < 189 → R'' a = R' a := fun a ha => (fr a (by omega)).2.2
  have fI : ∀ a, a < 189 → I'' a = I' a := fun a ha => (fr a (by omega)).2.1
  have hS : qS K'' R'' := by
    obtain ⟨l0, l1, l2, l3, l4, l5, l6, l7, l8, l9, l10, l11⟩ := s1
    have q1 := fR 1 (by omega)
    exact ⟨⟨by rw [fk 1 (by omega)]; exact l0, by rw [q1]; exact l1, by rw [q1]; exact l2, by rw [q1]; exact l3, by rw [q1]; exact l4, by rw [q1]; exact l5, by rw [q1]; exact l6, by rw [q1]; exact l7, by rw [q1]; exact l8, by rw [q1]; exact l9, by rw [q1]; exact l10, by rw [q1]; exact l11⟩, qp_T_cg s2 (fk _ (by omega)) (fk _ (by omega)) (fR _ (by omega)), qp_T_cg s3 (fk _ (by omega)) (fk _ (by omega)) (fR _ (by omega)), ⟨by rw [fk 6 (by omega)]; exact s4.1, by rw [fR 6 (by omega)]; exact s4.2⟩, qp_EX_cg s5 (fun a _ _ => fk a (by omega)) (fR _ (by omega)), qC0_cg s6 (fun a _ _ => fk a (by omega)) (fun j _ => by rw [fR 10 (by omega)]), qp_PR_cg s7 (fun a _ _ => fk a (by omega)) (fun a _ _ => fR a (by omega)), qp_PR_cg s8 (fun a _ _ => fk a (by omega)) (fun a _ _ => fR a (by omega)), qp_LG_cg s9 (fun a _ _ => fk a (by omega)) (fun a _ _ => fR a (by omega)), qp_HI_cg s10 (fun a _ _ => fk a (by omega)) (fun a _ _ => fR a (by omega)), qC0_cg s11 (fun a _ _ => fk a (by omega)) (fun j _ => by rw [fR 166 (by omega)]), qp_PR_cg s12 (fun a _ _ => fk a (by omega)) (fun a _ _ => fR a (by omega)), c2⟩
  have zz : nI (qZ_b false) = nI 0 := rfl
  have tP : qp_PS I'' 17 t := qp_PS_eq (qp_PS_cg b3 (fun a _ _ => fI a (by omega))) (fun i hi => (c4 i hi).symm)
  have tL : qp_LS I'' 49 0 0 (fun _ => 0) (fun _ => 0) t := by
    obtain ⟨z1, z2, z3, z4, z5, z6⟩ := qp_LS_cg (b4 (fun _ => 0) (fun _ => 0)) (fun a _ _ => fI a (by omega))
    exact ⟨z1, z2, z3, z4, z5, qp_PS_eq z6 (fun i hi => (c4 i hi).symm)⟩
  have hA : qj_A K'' I'' R'' 10 13 1 (fun _ => 70) (fun _ => .num 0) 0 (fun _ => 0) (fun _ => 0) := qj_A_g (b2 hx _ _) (fun a _ _ => fr a (by omega)) (fun a _ _ => fr a (by omega)) (fun a ha hk => absurd (h77 a (by omega)) (by rw [hk]; decide))
  have hc : qZc K'' I'' R'' 204 1 (fun _ => 70) (fun _ => .num 0) 0 (fun _ => 0) (fun _ => 0) t t 0 (fun _ => 0) (fun _ => 0) 0 (fun _ _ => 0) 0 (fun _ => 0) 0 (fun _ => 0) 0 (fun _ => 0) (fun _ => 0) false 0 (fun _ => 0) (fun _ => .num 0) 0 (fun _ => 0) (fun _ => 0) t := ⟨13, 13, 0, 0, hA, Or.inl rfl, by omega, tP, tL, qp_HS_cg (b5 _) (fun a _ _ => fI a (by omega)), ⟨by rw [fI 2 (by omega)]; exact b6, fun j hj => absurd hj (by omega)⟩, ⟨by rw [fI 4 (by omega)]; exact b7, fun j hj => absurd hj (by omega)⟩, ⟨by rw [fI 7 (by omega)]; exact b8, fun j hj => absurd hj (by omega)⟩, by rw [fI 1 (by omega)]; exact b9, fun hs => absurd hs (by decide)⟩
  have mc : qp_MC (I'' 194) 1 (fun _ => 70) (fun _ => .num 0) 0 (fun _ => 0) (fun _ => 0) := by
    refine ⟨c9, by omega, by omega, c10, by omega, fun k hk => ?_, fun k hk => ⟨?_, trivial, by show (0 : Nat) ≤ 13; omega⟩, fun k hk => trivial, fun i hi => absurd hi (by omega)⟩
    · have hk : k = 0 := by omega
      subst hk
      exact ⟨c11, by show (70 : Nat) < 101; omega⟩
    · have hk : k = 0 := by omega
      subst hk
      exact c12
  have hm : qZm I'' 1 (fun _ => 70) (fun _ => .num 0) 0 (fun _ => 0) (fun _ => 0) t t 0 (fun _ => 0) (fun _ => 0) 0 (fun _ _ => 0) 0 (fun _ => 0) 0 (fun _ => 0) 0 (fun _ => 0) (fun _ => 0) false 0 (fun _ => 0) (fun _ => .num 0) 0 (fun _ => 0) (fun _ => 0) t := ⟨⟨c5, c3⟩, ⟨c6, c3⟩, by rw [c7]; exact fun _ _ => rfl, ⟨e1, fun j hj => absurd hj (by omega)⟩, mc, ⟨e2, by rw [c8]; exact fun _ _ => rfl, fun hs => absurd hs (by decide)⟩, ⟨e3, fun j hj => absurd hj (by omega)⟩, ⟨e4, fun j hj => absurd hj (by omega)⟩, ⟨e5, fun j hj => absurd hj (by omega)⟩, ⟨e6, fun j hj => absurd hj (by omega)⟩⟩
  have nS : qv_S (20000 + 100 * 0) t := qv_S_eq qv_S_zer (fun i hi => (c4 i hi).symm)
  have nI' : qv_I 0 t := qv_I_eq qv_I_zer (fun i hi => (c4 i hi).symm)
  refine ⟨K', I', R', z', K'', I'', R'', z'', r1, r2, hK0, hI0, hS, fun a ha => ?_, Nat.le_refl _, Nat.le_refl _, by show z'' ≤ 20000 + 354 * 0; omega, _, _, _, _, _, _, _, _, _, _, _, _, _, _, _, _, _, _, _, _, _, _, _, _, _, _, _, _, hc, hm, ⟨⟨nS, nI'⟩, nS, fun j hj => absurd hj (by omega), by omega, by omega, fun j hj => absurd hj (by omega), by omega, fun j hj => absurd hj (by omega), by omega, by omega, by rw [qk_ws70]; omega, fun hs => absurd hs (by decide)⟩⟩
  have ha : 204 ≤ a := ha
  show K'' a = (77, 0)
  rw [(fr a (by omega)).1]
  exact h77 a (by omega)
end Q76
