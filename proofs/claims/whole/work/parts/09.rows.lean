/-! What one instruction does to the small machine, as equations. -/
theorem qa_act_eq {m pc len : Nat} {ins : Instr} {L : List qa_V} {M : List (Option Int64)} {S : List qa_V} {h : qa_H} (hd : decode (qa_code m) pc = .ok (ins, len)) : qa_act m (pc, L, M, S, h) = qa_op m pc len ins L M S h := by
  unfold qa_act
  dsimp only
  rw [hd]
section QR
variable {d m pc : Nat} {L : List qa_V} {M : List (Option Int64)} {S : List qa_V} {h : qa_H} {K : Nat → Nat × Nat} {I : Nat → Nat → Int32} {R : Nat → Nat → Option Nat} {n z : Nat}
theorem qa_r_ldi {ins : Instr} {len i : Nat} {x : Int32} (hd : decode (qa_code m) pc = .ok (ins, len)) (ho : ∀ L M S h, qa_op m pc len ins L M S h = qa_ldi (pc + len) i L M S h) (hL : L[i]? = some (qa_i x)) : qa_run d m pc L M S h = qa_run d m (pc + len) L M (qa_i x :: S) h :=
  qa_run_nx ((qa_act_eq hd).trans ((ho L M S h).trans (by unfold qa_ldi; rw [hL]; rfl)))
theorem qa_r_lda {ins : Instr} {len i : Nat} {x : Option Nat} (hd : decode (qa_code m) pc = .ok (ins, len)) (ho : ∀ L M S h, qa_op m pc len ins L M S h = qa_lda (pc + len) i L M S h) (hL : L[i]? = some (qa_a x)) : qa_run d m pc L M S h = qa_run d m (pc + len) L M (qa_a x :: S) h :=
  qa_run_nx ((qa_act_eq hd).trans ((ho L M S h).trans (by unfold qa_lda; rw [hL]; rfl)))
theorem qa_r_ldl {ins : Instr} {len i : Nat} {x : Int64} (hd : decode (qa_code m) pc = .ok (ins, len)) (ho : ∀ L M S h, qa_op m pc len ins L M S h = qa_ldl (pc + len) i L M S h) (hL : M[i]? = some (some x)) : qa_run d m pc L M S h = qa_run d m (pc + len) L M (qa_l x :: S) h :=
  qa_run_nx ((qa_act_eq hd).trans ((ho L M S h).trans (by unfold qa_ldl; rw [hL]; rfl)))
theorem qa_r_sti {ins : Instr} {len i : Nat} {x : Int32} (hd : decode (qa_code m) pc = .ok (ins, len)) (ho : ∀ L M S h, qa_op m pc len ins L M S h = qa_sti (pc + len) i L M S h) (hL : Nat.ble (i + 1) L.length = true) (hM : qa_fr M i = true) : qa_run d m pc L M (qa_i x :: S) h = qa_run d m (pc + len) (L.set i (qa_i x)) M S h :=
  qa_run_nx ((qa_act_eq hd).trans ((ho L M _ h).trans (if_pos ⟨Nat.le_of_ble_eq_true hL, hM⟩)))
theorem qa_r_sta {ins : Instr} {len i : Nat} {x : Option Nat} (hd : decode (qa_code m) pc = .ok (ins, len)) (ho : ∀ L M S h, qa_op m pc len ins L M S h = qa_sta (pc + len) i L M S h) (hL : Nat.ble (i + 1) L.length = true) (hM : qa_fr M i = true) : qa_run d m pc L M (qa_a x :: S) h = qa_run d m (pc + len) (L.set i (qa_a x)) M S h :=
  qa_run_nx ((qa_act_eq hd).trans ((ho L M _ h).trans (if_pos ⟨Nat.le_of_ble_eq_true hL, hM⟩)))
theorem qa_r_stl {ins : Instr} {len i : Nat} {x : Int64} (hd : decode (qa_code m) pc = .ok (ins, len)) (ho : ∀ L M S h, qa_op m pc len ins L M S h = qa_stl (pc + len) i L M S h) (hL : Nat.ble (i + 2) L.length = true) (hM : qa_fr M i = true) (hM1 : qa_fr M (i + 1) = true) : qa_run d m pc L M (qa_l x :: S) h = qa_run d m (pc + len) ((L.set i qa_u).set (i + 1) qa_u) (M.set i (some x)) S h :=
  qa_run_nx ((qa_act_eq hd).trans ((ho L M _ h).trans (if_pos ⟨Nat.le_of_ble_eq_true hL, hM, hM1⟩)))
theorem qa_r_iin {i : Nat} {c : Int} {x v : Int32} (hd : decode (qa_code m) pc = .ok (.iinc i c, 3)) (hL0 : L[i]? = some (qa_i x)) (hv : Int32.ofInt c = v) (hL : Nat.ble (i + 1) L.length = true) (hM : qa_fr M i = true) : qa_run d m pc L M S h = qa_run d m (pc + 3) (L.set i (qa_i (x + v))) M S h :=
  qa_run_nx ((qa_act_eq hd).trans (show (match L[i]? with | some (.inl x) => qa_sti (pc + 3) i L M (qa_i (x + Int32.ofInt c) :: S) h | _ => none) = _ by rw [hL0, hv]; exact if_pos ⟨Nat.le_of_ble_eq_true hL, hM⟩))
theorem qa_r_k {ins : Instr} {len : Nat} {v : qa_V} (hd : decode (qa_code m) pc = .ok (ins, len)) (ho : ∀ L M S h, qa_op m pc len ins L M S h = qa_nx (pc + len) L M (v :: S) h) : qa_run d m pc L M S h = qa_run d m (pc + len) L M (v :: S) h :=
  qa_run_nx ((qa_act_eq hd).trans (ho L M S h))
theorem qa_r_ic {i : Int} {v : Int32} (hd : decode (qa_code m) pc = .ok (.iconst i, 1)) (hv : Int32.ofInt i = v) : qa_run d m pc L M S h = qa_run d m (pc + 1) L M (qa_i v :: S) h := qa_r_k hd (fun _ _ _ _ => by rw [← hv]; rfl)
theorem qa_r_bp {i : Int} {v : Int32} (hd : decode (qa_code m) pc = .ok (.bipush i, 2)) (hv : (Int8.ofInt i).toInt32 = v) : qa_run d m pc L M S h = qa_run d m (pc + 2) L M (qa_i v :: S) h := qa_r_k hd (fun _ _ _ _ => by rw [← hv]; rfl)
theorem qa_r_sp {i : Int} {v : Int32} (hd : decode (qa_code m) pc = .ok (.sipush i, 3)) (hv : (Int16.ofInt i).toInt32 = v) : qa_run d m pc L M S h = qa_run d m (pc + 3) L M (qa_i v :: S) h := qa_r_k hd (fun _ _ _ _ => by rw [← hv]; rfl)
theorem qa_r_ldc {i : Nat} {v : Int32} (hs : decode (qa_code m) pc = .ok (.ldc_w i, 3) ∧ qa_co (qa_own m) i = some v) : qa_run d m pc L M S h = qa_run d m (pc + 3) L M (qa_i v :: S) h :=
  qa_run_nx ((qa_act_eq hs.1).trans (show (match qa_co (qa_own m) i with | some v => qa_nx (pc + 3) L M (qa_i v :: S) h | none => none) = _ by rw [hs.2]; rfl))
theorem qa_r_nul (hd : decode (qa_code m) pc = .ok (.aconst_null, 1)) : qa_run d m pc L M S h = qa_run d m (pc + 1) L M (qa_a none :: S) h := qa_r_k hd (fun _ _ _ _ => rfl)
theorem qa_r_b2 {ins : Instr} {f : Int32 → Int32 → Int32} {x y : Int32} (hd : decode (qa_code m) pc = .ok (ins, 1)) (ho : ∀ L M S h, qa_op m pc 1 ins L M S h = qa_b2 f (pc + 1) L M S h) : qa_run d m pc L M (qa_i y :: qa_i x :: S) h = qa_run d m (pc + 1) L M (qa_i (f x y) :: S) h :=
  qa_run_nx ((qa_act_eq hd).trans (ho L M _ h))
theorem qa_r_d2 {ins : Instr} {f : Int32 → Int32 → Int32} {x y : Int32} (hd : decode (qa_code m) pc = .ok (ins, 1)) (ho : ∀ L M S h, qa_op m pc 1 ins L M S h = qa_d2 f (pc + 1) L M S h) (hy : ¬ y = 0) : qa_run d m pc L M (qa_i y :: qa_i x :: S) h = qa_run d m (pc + 1) L M (qa_i (f x y) :: S) h :=
  qa_run_nx ((qa_act_eq hd).trans ((ho L M _ h).trans (if_neg hy)))
theorem qa_r_l2 {ins : Instr} {f : Int64 → Int64 → Int64} {x y : Int64} (hd : decode (qa_code m) pc = .ok (ins, 1)) (ho : ∀ L M S h, qa_op m pc 1 ins L M S h = qa_l2 f (pc + 1) L M S h) : qa_run d m pc L M (qa_l y :: qa_l x :: S) h = qa_run d m (pc + 1) L M (qa_l (f x y) :: S) h :=
  qa_run_nx ((qa_act_eq hd).trans (ho L M _ h))
theorem qa_r_lcmp {x y : Int64} (hd : decode (qa_code m) pc = .ok (.lcmp, 1)) : qa_run d m pc L M (qa_l y :: qa_l x :: S) h = qa_run d m (pc + 1) L M (qa_i (lg_cmp x y) :: S) h := qa_run_nx ((qa_act_eq hd).trans rfl)
theorem qa_r_i2l {x : Int32} (hd : decode (qa_code m) pc = .ok (.i2l, 1)) : qa_run d m pc L M (qa_i x :: S) h = qa_run d m (pc + 1) L M (qa_l x.toInt64 :: S) h := qa_run_nx ((qa_act_eq hd).trans rfl)
theorem qa_r_dup {v : qa_V} (hd : decode (qa_code m) pc = .ok (.dup, 1)) (hv : qa_ia v = true) : qa_run d m pc L M (v :: S) h = qa_run d m (pc + 1) L M (v :: v :: S) h := qa_run_nx ((qa_act_eq hd).trans (if_pos hv))
theorem qa_r_dup2 {v w : qa_V} (hd : decode (qa_code m) pc = .ok (.dup2, 1)) (hv : qa_ia v = true) (hw : qa_ia w = true) : qa_run d m pc L M (v :: w :: S) h = qa_run d m (pc + 1) L M (v :: w :: v :: w :: S) h := qa_run_nx ((qa_act_eq hd).trans (if_pos ⟨hv, hw⟩))
theorem qa_r_pop {v : qa_V} (hd : decode (qa_code m) pc = .ok (.pop, 1)) (hv : qa_ia v = true) : qa_run d m pc L M (v :: S) h = qa_run d m (pc + 1) L M S h := qa_run_nx ((qa_act_eq hd).trans (if_pos hv))
theorem qa_run_br {P : Prop} [Decidable P] {B : Bool} {t pc3 : Nat} {S' : List qa_V} (hB : B = true ↔ P) (ha : qa_act m (pc, L, M, S, h) = qa_br B (some t) pc3 L M S' h) : qa_run d m pc L M S h = if P then qa_run d m t L M S' h else qa_run d m pc3 L M S' h := by
  by_cases hp : P
  · rw [if_pos hp]
    have h1 := hB.mpr hp
    subst h1
    exact qa_run_nx (ha.trans rfl)
  · rw [if_neg hp]
    have h1 : B = false := by
      cases B with
      | true => exact absurd (hB.mp rfl) hp
      | false => rfl
    subst h1
    exact qa_run_nx (ha.trans rfl)
theorem qa_r_if {cd : ClassFile.Cond} {off : Int} {t : Nat} {x : Int32} {P : Prop} [Decidable P] (hs : decode (qa_code m) pc = .ok (.ifCond cd off, 3) ∧ qa_tg pc off = some t) (hP : qa_cnd cd x 0 = true ↔ P) : qa_run d m pc L M (qa_i x :: S) h = if P then qa_run d m t L M S h else qa_run d m (pc + 3) L M S h :=
  qa_run_br hP ((qa_act_eq hs.1).trans (by rw [← hs.2]; rfl))
theorem qa_r_ic2 {cd : ClassFile.Cond} {off : Int} {t : Nat} {x y : Int32} {P : Prop} [Decidable P] (hs : decode (qa_code m) pc = .ok (.if_icmp cd off, 3) ∧ qa_tg pc off = some t) (hP : qa_cnd cd x y = true ↔ P) : qa_run d m pc L M (qa_i y :: qa_i x :: S) h = if P then qa_run d m t L M S h else qa_run d m (pc + 3) L M S h :=
  qa_run_br hP ((qa_act_eq hs.1).trans (by rw [← hs.2]; rfl))
theorem qa_r_acm {off : Int} {t : Nat} {x y : Option Nat} (hs : decode (qa_code m) pc = .ok (.if_acmp .eq off, 3) ∧ qa_tg pc off = some t) : qa_run d m pc L M (qa_a y :: qa_a x :: S) h = if x = y then qa_run d m t L M S h else qa_run d m (pc + 3) L M S h :=
  qa_run_br decide_eq_true_iff ((qa_act_eq hs.1).trans (by rw [← hs.2]; rfl))
theorem qa_r_nu0 {off : Int} {t : Nat} (hs : decode (qa_code m) pc = .ok (.ifnull off, 3) ∧ qa_tg pc off = some t) : qa_run d m pc L M (qa_a none :: S) h = qa_run d m t L M S h := qa_run_nx ((qa_act_eq hs.1).trans (show qa_jp (qa_tg pc off) L M S h = _ by rw [hs.2]; rfl))
theorem qa_r_nu1 {off : Int} {a : Nat} (hd : decode (qa_code m) pc = .ok (.ifnull off, 3)) : qa_run d m pc L M (qa_a (some a) :: S) h = qa_run d m (pc + 3) L M S h := qa_run_nx ((qa_act_eq hd).trans rfl)
theorem qa_r_nn1 {off : Int} {t a : Nat} (hs : decode (qa_code m) pc = .ok (.ifnonnull off, 3) ∧ qa_tg pc off = some t) : qa_run d m pc L M (qa_a (some a) :: S) h = qa_run d m t L M S h := qa_run_nx ((qa_act_eq hs.1).trans (show qa_jp (qa_tg pc off) L M S h = _ by rw [hs.2]; rfl))
theorem qa_r_nn0 {off : Int} (hd : decode (qa_code m) pc = .ok (.ifnonnull off, 3)) : qa_run d m pc L M (qa_a none :: S) h = qa_run d m (pc + 3) L M S h := qa_run_nx ((qa_act_eq hd).trans rfl)
theorem qa_r_go {off : Int} {t : Nat} (hs : decode (qa_code m) pc = .ok (.goto off, 3) ∧ qa_tg pc off = some t) : qa_run d m pc L M S h = qa_run d m t L M S h := qa_run_nx ((qa_act_eq hs.1).trans (show qa_jp (qa_tg pc off) L M S h = _ by rw [hs.2]; rfl))
theorem qa_r_ts {df lo hi off : Int} {offs : Array Int} {len t : Nat} {x : Int32} (hs : decode (qa_code m) pc = .ok (.tableswitch df lo hi offs, len) ∧ ¬ (x.toInt < lo ∨ hi < x.toInt) ∧ offs[(x.toInt - lo).toNat]? = some off ∧ qa_tg pc off = some t) : qa_run d m pc L M (qa_i x :: S) h = qa_run d m t L M S h :=
  qa_run_nx ((qa_act_eq hs.1).trans (show (if x.toInt < lo ∨ hi < x.toInt then qa_jp (qa_tg pc df) L M S h else match offs[(x.toInt - lo).toNat]? with | some off => qa_jp (qa_tg pc off) L M S h | none => none) = _ by rw [if_neg hs.2.1, hs.2.2.1]; dsimp only; rw [hs.2.2.2]; rfl))
theorem qa_r_td {df lo hi : Int} {offs : Array Int} {len t : Nat} {x : Int32} (hs : decode (qa_code m) pc = .ok (.tableswitch df lo hi offs, len) ∧ qa_tg pc df = some t) (hx : x.toInt < lo ∨ hi < x.toInt) : qa_run d m pc L M (qa_i x :: S) h = qa_run d m t L M S h :=
  qa_run_nx ((qa_act_eq hs.1).trans (show (if x.toInt < lo ∨ hi < x.toInt then qa_jp (qa_tg pc df) L M S h else match offs[(x.toInt - lo).toNat]? with | some off => qa_jp (qa_tg pc off) L M S h | none => none) = _ by rw [if_pos hx, hs.2]; rfl))
theorem qa_r_ls {df off : Int} {ps : Array (Int × Int)} {len t : Nat} {x : Int32} (hs : decode (qa_code m) pc = .ok (.lookupswitch df ps, len) ∧ (ps.toList.zip (ps.toList.drop 1)).all (fun (a, next) => a.1 < next.1) = true ∧ qa_tg pc off = some t) (hx : Op.lookupswitch.offset ps.toList df x.toInt = off) : qa_run d m pc L M (qa_i x :: S) h = qa_run d m t L M S h :=
  qa_run_nx ((qa_act_eq hs.1).trans (show (if (ps.toList.zip (ps.toList.drop 1)).all (fun (a, next) => a.1 < next.1) = true then qa_jp (qa_tg pc (Op.lookupswitch.offset ps.toList df x.toInt)) L M S h else none) = _ by rw [if_pos hs.2.1, hx, hs.2.2]; rfl))
theorem qa_r_gfi {idx k a ci : Nat} (hs : decode (qa_code m) pc = .ok (.getfield idx, 3) ∧ qa_fl (qa_own m) idx = some k ∧ qa_own m = ci ∧ ¬ qa_ki ci k = 2) (hk : K a = (ci, 0)) : qa_run d m pc L M (qa_a (some a) :: S) (K, I, R, n, z) = qa_run d m (pc + 3) L M (qa_i (I a k) :: S) (K, I, R, n, z) := by
  obtain ⟨h1, h2, rfl, h4⟩ := hs
  exact qa_run_nx ((qa_act_eq h1).trans (show qa_gf _ _ _ _ _ _ _ = _ by unfold qa_gf; rw [h2]; dsimp only; rw [if_pos hk, if_neg h4]; rfl))
theorem qa_r_gfr {idx k a ci : Nat} (hs : decode (qa_code m) pc = .ok (.getfield idx, 3) ∧ qa_fl (qa_own m) idx = some k ∧ qa_own m = ci ∧ qa_ki ci k = 2) (hk : K a = (ci, 0)) : qa_run d m pc L M (qa_a (some a) :: S) (K, I, R, n, z) = qa_run d m (pc + 3) L M (qa_a (R a k) :: S) (K, I, R, n, z) := by
  obtain ⟨h1, h2, rfl, h4⟩ := hs
  exact qa_run_nx ((qa_act_eq h1).trans (show qa_gf _ _ _ _ _ _ _ = _ by unfold qa_gf; rw [h2]; dsimp only; rw [if_pos hk, if_pos h4]; rfl))
theorem qa_r_pfi {idx k a ci : Nat} {x : Int32} (hs : decode (qa_code m) pc = .ok (.putfield idx, 3) ∧ qa_fl (qa_own m) idx = some k ∧ qa_own m = ci ∧ qa_ki ci k = 0 ∧ (qa_fin ci k = false ∨ ((qa_mt m).2.2.2.2.2.2.1 == 2) = true)) (hk : K a = (ci, 0)) : qa_run d m pc L M (qa_i x :: qa_a (some a) :: S) (K, I, R, n, z) = qa_run d m (pc + 3) L M S (K, va_up I a (va_up (I a) k x), R, n, z) := by
  obtain ⟨h1, h2, rfl, h4, h5⟩ := hs
  exact qa_run_nx ((qa_act_eq h1).trans (show qa_pf _ _ _ _ _ _ _ _ = _ by unfold qa_pf; rw [h2]; dsimp only; rw [if_pos ⟨hk, h5, Or.inl h4⟩]; rfl))
theorem qa_r_pfz {idx k a ci : Nat} {x : Int32} (hs : decode (qa_code m) pc = .ok (.putfield idx, 3) ∧ qa_fl (qa_own m) idx = some k ∧ qa_own m = ci ∧ qa_ki ci k = 1 ∧ (qa_fin ci k = false ∨ ((qa_mt m).2.2.2.2.2.2.1 == 2) = true)) (hk : K a = (ci, 0)) (hx : x = 0 ∨ x = 1) : qa_run d m pc L M (qa_i x :: qa_a (some a) :: S) (K, I, R, n, z) = qa_run d m (pc + 3) L M S (K, va_up I a (va_up (I a) k x), R, n, z) := by
  obtain ⟨h1, h2, rfl, h4, h5⟩ := hs
  exact qa_run_nx ((qa_act_eq h1).trans (show qa_pf _ _ _ _ _ _ _ _ = _ by unfold qa_pf; rw [h2]; dsimp only; rw [if_pos ⟨hk, h5, Or.inr ⟨h4, hx⟩⟩]; rfl))
theorem qa_r_pfr {idx k a ci : Nat} {x : Option Nat} (hs : decode (qa_code m) pc = .ok (.putfield idx, 3) ∧ qa_fl (qa_own m) idx = some k ∧ qa_own m = ci ∧ qa_ki ci k = 2 ∧ (qa_fin ci k = false ∨ ((qa_mt m).2.2.2.2.2.2.1 == 2) = true)) (hk : K a = (ci, 0)) : qa_run d m pc L M (qa_a x :: qa_a (some a) :: S) (K, I, R, n, z) = qa_run d m (pc + 3) L M S (K, I, va_up R a (va_up (R a) k x), n, z) := by
  obtain ⟨h1, h2, rfl, h4, h5⟩ := hs
  exact qa_run_nx ((qa_act_eq h1).trans (show qa_pf _ _ _ _ _ _ _ _ = _ by unfold qa_pf; rw [h2]; dsimp only; rw [if_pos ⟨hk, h5, h4⟩]; rfl))
theorem qa_r_ald {a : Nat} {x : Int32} (hd : decode (qa_code m) pc = .ok (.iaload, 1)) (hk : (K a).1 = 100 ∨ a = 0) (hx : ¬ (x < 0 ∨ (K a).2 ≤ x.toNatClampNeg)) : qa_run d m pc L M (qa_i x :: qa_a (some a) :: S) (K, I, R, n, z) = qa_run d m (pc + 1) L M (qa_i (I a x.toNatClampNeg) :: S) (K, I, R, n, z) :=
  qa_run_nx ((qa_act_eq hd).trans (if_pos ⟨hk, hx⟩))
theorem qa_r_ast {a : Nat} {x v : Int32} (hd : decode (qa_code m) pc = .ok (.iastore, 1)) (hk : (K a).1 = 100) (hx : ¬ (x < 0 ∨ (K a).2 ≤ x.toNatClampNeg)) : qa_run d m pc L M (qa_i v :: qa_i x :: qa_a (some a) :: S) (K, I, R, n, z) = qa_run d m (pc + 1) L M S (K, va_up I a (va_up (I a) x.toNatClampNeg v), R, n, z) :=
  qa_run_nx ((qa_act_eq hd).trans (if_pos ⟨hk, hx⟩))
theorem qa_r_rld {a : Nat} {x : Int32} (hd : decode (qa_code m) pc = .ok (.aaload, 1)) (hk : 101 ≤ (K a).1 ∧ (K a).1 ≤ 103) (hx : ¬ (x < 0 ∨ (K a).2 ≤ x.toNatClampNeg)) : qa_run d m pc L M (qa_i x :: qa_a (some a) :: S) (K, I, R, n, z) = qa_run d m (pc + 1) L M (qa_a (R a x.toNatClampNeg) :: S) (K, I, R, n, z) :=
  qa_run_nx ((qa_act_eq hd).trans (if_pos ⟨hk, hx⟩))
theorem qa_r_rst {a : Nat} {x : Int32} {r : Option Nat} (hd : decode (qa_code m) pc = .ok (.aastore, 1)) (hk : 101 ≤ (K a).1 ∧ (K a).1 ≤ 103) (hx : ¬ (x < 0 ∨ (K a).2 ≤ x.toNatClampNeg)) (hr : qa_rk K (qa_ec (K a).1) r = true) : qa_run d m pc L M (qa_a r :: qa_i x :: qa_a (some a) :: S) (K, I, R, n, z) = qa_run d m (pc + 1) L M S (K, I, va_up R a (va_up (R a) x.toNatClampNeg r), n, z) :=
  qa_run_nx ((qa_act_eq hd).trans (if_pos ⟨hk, hx, hr⟩))
theorem qa_r_aln {a : Nat} (hd : decode (qa_code m) pc = .ok (.arraylength, 1)) (hk : (100 ≤ (K a).1 ∧ (K a).1 ≤ 103) ∨ a = 0) : qa_run d m pc L M (qa_a (some a) :: S) (K, I, R, n, z) = qa_run d m (pc + 1) L M (qa_i (nI (K a).2) :: S) (K, I, R, n, z) :=
  qa_run_nx ((qa_act_eq hd).trans (if_pos hk))
theorem qa_r_new {idx ci sz : Nat} (hs : decode (qa_code m) pc = .ok (.new idx, 3) ∧ qa_cf (qa_own m) idx = some ci ∧ qa_sz ci = sz) : qa_run d m pc L M S (K, I, R, n, z) = qa_run d m (pc + 3) L M (qa_a (some n) :: S) (va_up K n (ci, 0), va_up I n (fun _ => 0), va_up R n (fun _ => none), n + 1, z + sz) := by
  obtain ⟨h1, h2, rfl⟩ := hs
  exact qa_run_nx ((qa_act_eq h1).trans (show qa_new _ _ _ _ _ _ _ = _ by unfold qa_new; rw [h2]; rfl))
theorem qa_r_nai {x : Int32} (hd : decode (qa_code m) pc = .ok (.newarray .int, 2)) (hx : ¬ x < 0 ∧ x.toNatClampNeg ≤ 100000) : qa_run d m pc L M (qa_i x :: S) (K, I, R, n, z) = qa_run d m (pc + 2) L M (qa_a (some n) :: S) (va_up K n (100, x.toNatClampNeg), va_up I n (fun _ => 0), va_up R n (fun _ => none), n + 1, z + x.toNatClampNeg) :=
  qa_run_nx ((qa_act_eq hd).trans (if_pos hx))
theorem qa_r_nar {idx ci ac : Nat} {x : Int32} (hs : decode (qa_code m) pc = .ok (.anewarray idx, 3) ∧ qa_cf (qa_own m) idx = some ci ∧ (ci = 6 ∨ ci = 7 ∨ ci = 10) ∧ qa_ac ci = ac) (hx : ¬ x < 0 ∧ x.toNatClampNeg ≤ 100000) : qa_run d m pc L M (qa_i x :: S) (K, I, R, n, z) = qa_run d m (pc + 3) L M (qa_a (some n) :: S) (va_up K n (ac, x.toNatClampNeg), va_up I n (fun _ => 0), va_up R n (fun _ => none), n + 1, z + x.toNatClampNeg) := by
  obtain ⟨h1, h2, h3, rfl⟩ := hs
  exact qa_run_nx ((qa_act_eq h1).trans (show qa_nar _ _ _ _ _ _ _ = _ by unfold qa_nar; rw [h2]; dsimp only; rw [if_pos ⟨hx, h3⟩]; rfl))
theorem qa_r_oi {idx a : Nat} {rest : List qa_V} (hs : decode (qa_code m) pc = .ok (.invokespecial idx, 3) ∧ qa_ml (qa_own m) idx = some (4, 0)) (hr : Nat.ble (qa_sum rest) 8 = true) : qa_run d m pc L M (qa_a (some a) :: rest) h = qa_run d m (pc + 3) L M rest h :=
  qa_run_nx ((qa_act_eq hs.1).trans (show qa_inv _ _ _ _ _ _ _ _ = _ by unfold qa_inv; rw [hs.2]; exact if_pos (Nat.le_of_ble_eq_true hr)))
theorem qa_r_acp {idx a e : Nat} {sp dp k : Int32} {rest : List qa_V} (hs : decode (qa_code m) pc = .ok (.invokestatic idx, 3) ∧ qa_ml (qa_own m) idx = some (5, 0)) (hr : Nat.ble (qa_sum rest) 8 = true) (hk : (K a).1 = 100 ∧ (K e).1 = 100) (hx : (¬ sp < 0 ∧ ¬ dp < 0 ∧ ¬ k < 0) ∧ sp.toNatClampNeg + k.toNatClampNeg ≤ (K a).2 ∧ dp.toNatClampNeg + k.toNatClampNeg ≤ (K e).2) :
    qa_run d m pc L M (qa_i k :: qa_i dp :: qa_a (some e) :: qa_i sp :: qa_a (some a) :: rest) (K, I, R, n, z) = qa_run d m (pc + 3) L M rest (K, va_up I e (va_cpy (I a) (I e) sp.toNatClampNeg dp.toNatClampNeg k.toNatClampNeg), R, n, z) :=
  qa_run_nx ((qa_act_eq hs.1).trans (show qa_inv _ _ _ _ _ _ _ _ = _ by unfold qa_inv; rw [hs.2]; dsimp only; rw [if_neg (by decide), if_pos (by decide)]; unfold qa_acp; exact (if_pos ⟨hk, hx.1, hx.2.1, hx.2.2, Nat.le_of_ble_eq_true hr⟩ : (if ((K a).1 = 100 ∧ (K e).1 = 100) ∧ (¬ sp < 0 ∧ ¬ dp < 0 ∧ ¬ k < 0) ∧ sp.toNatClampNeg + k.toNatClampNeg ≤ (K a).2 ∧ dp.toNatClampNeg + k.toNatClampNeg ≤ (K e).2 ∧ qa_sum rest ≤ 8 then (qa_nx (pc + 3) L M rest (K, va_up I e (va_cpy (I a) (I e) sp.toNatClampNeg dp.toNatClampNeg k.toNatClampNeg), R, n, z)) else none) = _)))
theorem qa_r_cal {ins : Instr} {idx kd kd0 c k : Nat} {as rest : List qa_V} (hs : decode (qa_code m) pc = .ok (ins, 3) ∧ qa_ml (qa_own m) idx = some (kd, c) ∧ (qa_mt c).2.2.2.2.2.1 = k) (ho : ∀ L M S h, qa_op m pc 3 ins L M S h = qa_inv kd0 (qa_own m) idx (pc + 3) L M S h) (hkd : (kd = kd0 ∧ kd < 3) ∨ (kd = 3 ∧ kd0 = 2)) (h1 : S = as.reverse ++ rest) (h2 : as.length = k) (h3 : Nat.ble (qa_sum rest) 8 = true) (h4 : as.all qa_ia = true) (h5 : qa_rv kd c h.1 as = true) :
    qa_run d m pc L M S h = (qa_ex d c as h).bind fun q => qa_run d m (pc + 3) L M (q.1.toList ++ rest) q.2 := by
  obtain ⟨g1, g2, g3⟩ := hs
  have hrl : as.reverse.length = k := by rw [List.length_reverse]; exact h2
  refine qa_run_cl ((qa_act_eq g1).trans ((ho L M S h).trans ?_))
  unfold qa_inv
  rw [g2]
  dsimp only
  have n4 : ¬ (kd = 4 ∧ kd0 = 2) := by omega
  have n5 : ¬ (kd = 5 ∧ kd0 = 0) := by omega
  rw [if_neg n4, if_neg n5, if_pos (by omega)]
  unfold qa_cal
  rw [g3]
  have ht : S.take k = as.reverse := by rw [h1]; exact List.take_left' hrl
  have hdr : S.drop k = rest := by rw [h1]; exact List.drop_left' hrl
  rw [ht, hdr, List.reverse_reverse]
  have hle : k ≤ S.length := by rw [h1]; simp; omega
  rw [if_pos ⟨hle, Nat.le_of_ble_eq_true h3, by rw [List.all_reverse]; exact h4, h5⟩]
theorem qa_r_cs {idx c k : Nat} {as rest : List qa_V} (hs : decode (qa_code m) pc = .ok (.invokestatic idx, 3) ∧ qa_ml (qa_own m) idx = some (0, c) ∧ (qa_mt c).2.2.2.2.2.1 = k) (h1 : S = as.reverse ++ rest) (h2 : as.length = k) (h3 : Nat.ble (qa_sum rest) 8 = true) (h4 : as.all qa_ia = true) :
    qa_run d m pc L M S h = (qa_ex d c as h).bind fun q => qa_run d m (pc + 3) L M (q.1.toList ++ rest) q.2 :=
  qa_r_cal (kd0 := 0) hs (fun _ _ _ _ => rfl) (Or.inl ⟨rfl, by decide⟩) h1 h2 h3 h4 (by unfold qa_rv; split <;> rfl)
theorem qa_r_cv {idx c k a ci : Nat} {tl rest : List qa_V} (hs : decode (qa_code m) pc = .ok (.invokevirtual idx, 3) ∧ qa_ml (qa_own m) idx = some (1, c) ∧ (qa_mt c).2.2.2.2.2.1 = k) (hc : qa_own c = ci) (h1 : S = (qa_a (some a) :: tl).reverse ++ rest) (h2 : (qa_a (some a) :: tl).length = k) (h3 : Nat.ble (qa_sum rest) 8 = true) (h4 : (qa_a (some a) :: tl).all qa_ia = true) (hk : K a = (ci, 0)) :
    qa_run d m pc L M S (K, I, R, n, z) = (qa_ex d c (qa_a (some a) :: tl) (K, I, R, n, z)).bind fun q => qa_run d m (pc + 3) L M (q.1.toList ++ rest) q.2 :=
  qa_r_cal (kd0 := 1) hs (fun _ _ _ _ => rfl) (Or.inl ⟨rfl, by decide⟩) h1 h2 h3 h4 (by unfold qa_rv; dsimp only; rw [hc]; simp [hk])
theorem qa_r_ci {idx kd c k a : Nat} {tl rest : List qa_V} (hs : decode (qa_code m) pc = .ok (.invokespecial idx, 3) ∧ qa_ml (qa_own m) idx = some (kd, c) ∧ (qa_mt c).2.2.2.2.2.1 = k) (hkd : kd = 2 ∨ kd = 3) (h1 : S = (qa_a (some a) :: tl).reverse ++ rest) (h2 : (qa_a (some a) :: tl).length = k) (h3 : Nat.ble (qa_sum rest) 8 = true) (h4 : (qa_a (some a) :: tl).all qa_ia = true) :
    qa_run d m pc L M S h = (qa_ex d c (qa_a (some a) :: tl) h).bind fun q => qa_run d m (pc + 3) L M (q.1.toList ++ rest) q.2 :=
  qa_r_cal (kd0 := 2) hs (fun _ _ _ _ => rfl) (by omega) h1 h2 h3 h4 (by rcases hkd with rfl | rfl <;> rfl)
theorem qa_r_ret {x : Int32} (hs : decode (qa_code m) pc = .ok (.ireturn, 1) ∧ (qa_mt m).2.2.2.2.1 = some .int) : qa_run d m pc L M [qa_i x] h = some (some (qa_i x), h) :=
  qa_run_rt ((qa_act_eq hs.1).trans (if_pos (Or.inl hs.2)))
theorem qa_r_rez {x : Int32} (hs : decode (qa_code m) pc = .ok (.ireturn, 1) ∧ (qa_mt m).2.2.2.2.1 = some .boolean) (hx : x = 0 ∨ x = 1) : qa_run d m pc L M [qa_i x] h = some (some (qa_i x), h) :=
  qa_run_rt ((qa_act_eq hs.1).trans (if_pos (Or.inr ⟨hs.2, hx⟩)))
theorem qa_r_rea {x : Option Nat} {C : String} (hs : decode (qa_code m) pc = .ok (.areturn, 1) ∧ (qa_mt m).2.2.2.2.1 = some (.object C)) : qa_run d m pc L M [qa_a x] h = some (some (qa_a x), h) :=
  qa_run_rt ((qa_act_eq hs.1).trans (show qa_rea _ _ _ = _ by unfold qa_rea; rw [hs.2]))
theorem qa_r_rel {x : Int64} (hs : decode (qa_code m) pc = .ok (.lreturn, 1) ∧ (qa_mt m).2.2.2.2.1 = some .long) : qa_run d m pc L M [qa_l x] h = some (some (qa_l x), h) :=
  qa_run_rt ((qa_act_eq hs.1).trans (if_pos hs.2))
theorem qa_r_rev (hs : decode (qa_code m) pc = .ok (.return_, 1) ∧ (qa_mt m).2.2.2.2.1 = none) : qa_run d m pc L M [] h = some (none, h) :=
  qa_run_rt ((qa_act_eq hs.1).trans (if_pos hs.2))
theorem qa_r_en {as : List qa_V} {k nL ml : Nat} (hs : (qa_mt m).2.2.2.2.2.1 = k ∧ (qa_mt m).2.2.2.1 = nL ∧ (qa_mt m).2.2.2.2.2.2.2.1 = ml) (ha : as.length = k) {L : List qa_V} {M : List (Option Int64)} (hL : as ++ List.replicate (nL - k) qa_u = L) (hM : List.replicate ml none = M) : qa_ex (d + 1) m as h = qa_run d m 0 L M [] h := by
  obtain ⟨rfl, rfl, rfl⟩ := hs
  subst hL
  subst hM
  show (if _ then _ else _) = _
  rw [if_pos ha, ha]
  rfl
end QR
section QN
variable {d m pc : Nat} {L : List qa_V} {M : List (Option Int64)} {S : List qa_V} {K : Nat → Nat × Nat} {I : Nat → Nat → Int32} {R : Nat → Nat → Option Nat} {n z : Nat}
theorem qn_ok {j l : Nat} (h1 : j < l) (h2 : j < 2147483648) : ¬ (nI j < 0 ∨ l ≤ (nI j).toNatClampNeg) := by
  rw [nI_clamp h2]
  rintro (q | q)
  · exact nI_pos h2 q
  · omega
theorem qa_n_ald {a j : Nat} (hd : decode (qa_code m) pc = .ok (.iaload, 1)) (hk : (K a).1 = 100 ∨ a = 0) (hj : j < (K a).2) (h31 : j < 2147483648) : qa_run d m pc L M (qa_i (nI j) :: qa_a (some a) :: S) (K, I, R, n, z) = qa_run d m (pc + 1) L M (qa_i (I a j) :: S) (K, I, R, n, z) := by
  rw [qa_r_ald hd hk (qn_ok hj h31), nI_clamp h31]
theorem qa_n_ast {a j : Nat} {v : Int32} (hd : decode (qa_code m) pc = .ok (.iastore, 1)) (hk : (K a).1 = 100) (hj : j < (K a).2) (h31 : j < 2147483648) : qa_run d m pc L M (qa_i v :: qa_i (nI j) :: qa_a (some a) :: S) (K, I, R, n, z) = qa_run d m (pc + 1) L M S (K, va_up I a (va_up (I a) j v), R, n, z) := by
  rw [qa_r_ast hd hk (qn_ok hj h31), nI_clamp h31]
theorem qa_n_rld {a j : Nat} (hd : decode (qa_code m) pc = .ok (.aaload, 1)) (hk : 101 ≤ (K a).1 ∧ (K a).1 ≤ 103) (hj : j < (K a).2) (h31 : j < 2147483648) : qa_run d m pc L M (qa_i (nI j) :: qa_a (some a) :: S) (K, I, R, n, z) = qa_run d m (pc + 1) L M (qa_a (R a j) :: S) (K, I, R, n, z) := by
  rw [qa_r_rld hd hk (qn_ok hj h31), nI_clamp h31]
theorem qa_n_rst {a j v ac : Nat} (hd : decode (qa_code m) pc = .ok (.aastore, 1)) (hac : 101 ≤ ac ∧ ac ≤ 103) (hk : (K a).1 = ac) (hj : j < (K a).2) (h31 : j < 2147483648) (hr : K v = (qa_ec ac, 0)) : qa_run d m pc L M (qa_a (some v) :: qa_i (nI j) :: qa_a (some a) :: S) (K, I, R, n, z) = qa_run d m (pc + 1) L M S (K, I, va_up R a (va_up (R a) j (some v)), n, z) := by
  rw [qa_r_rst hd (by rw [hk]; exact hac) (qn_ok hj h31) (by rw [hk]; exact decide_eq_true hr), nI_clamp h31]
theorem qa_n_rsn {a j ac : Nat} (hd : decode (qa_code m) pc = .ok (.aastore, 1)) (hac : 101 ≤ ac ∧ ac ≤ 103) (hk : (K a).1 = ac) (hj : j < (K a).2) (h31 : j < 2147483648) : qa_run d m pc L M (qa_a none :: qa_i (nI j) :: qa_a (some a) :: S) (K, I, R, n, z) = qa_run d m (pc + 1) L M S (K, I, va_up R a (va_up (R a) j none), n, z) := by
  rw [qa_r_rst hd (by rw [hk]; exact hac) (qn_ok hj h31) rfl, nI_clamp h31]
theorem qa_n_nai {j : Nat} (hd : decode (qa_code m) pc = .ok (.newarray .int, 2)) (hx : j ≤ 100000) : qa_run d m pc L M (qa_i (nI j) :: S) (K, I, R, n, z) = qa_run d m (pc + 2) L M (qa_a (some n) :: S) (va_up K n (100, j), va_up I n (fun _ => 0), va_up R n (fun _ => none), n + 1, z + j) := by
  have h31 : j < 2147483648 := by omega
  rw [qa_r_nai hd ⟨nI_pos h31, by rw [nI_clamp h31]; exact hx⟩, nI_clamp h31]
theorem qa_n_nar {idx ci ac j : Nat} (hs : decode (qa_code m) pc = .ok (.anewarray idx, 3) ∧ qa_cf (qa_own m) idx = some ci ∧ (ci = 6 ∨ ci = 7 ∨ ci = 10) ∧ qa_ac ci = ac) (hx : j ≤ 100000) : qa_run d m pc L M (qa_i (nI j) :: S) (K, I, R, n, z) = qa_run d m (pc + 3) L M (qa_a (some n) :: S) (va_up K n (ac, j), va_up I n (fun _ => 0), va_up R n (fun _ => none), n + 1, z + j) := by
  have h31 : j < 2147483648 := by omega
  rw [qa_r_nar hs ⟨nI_pos h31, by rw [nI_clamp h31]; exact hx⟩, nI_clamp h31]
theorem qa_n_acp {idx a e sp dp k : Nat} {rest : List qa_V} (hs : decode (qa_code m) pc = .ok (.invokestatic idx, 3) ∧ qa_ml (qa_own m) idx = some (5, 0)) (hr : Nat.ble (qa_sum rest) 8 = true) (hk1 : (K a).1 = 100) (hk2 : (K e).1 = 100) (h1 : sp + k ≤ (K a).2) (h2 : dp + k ≤ (K e).2) (h3 : sp < 2147483648) (h4 : dp < 2147483648) (h5 : k < 2147483648) :
    qa_run d m pc L M (qa_i (nI k) :: qa_i (nI dp) :: qa_a (some e) :: qa_i (nI sp) :: qa_a (some a) :: rest) (K, I, R, n, z) = qa_run d m (pc + 3) L M rest (K, va_up I e (va_cpy (I a) (I e) sp dp k), R, n, z) := by
  rw [qa_r_acp hs hr ⟨hk1, hk2⟩ ⟨⟨nI_pos h3, nI_pos h4, nI_pos h5⟩, by rw [nI_clamp h3, nI_clamp h5]; exact h1, by rw [nI_clamp h4, nI_clamp h5]; exact h2⟩, nI_clamp h3, nI_clamp h4, nI_clamp h5]
end QN
