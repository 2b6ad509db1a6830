/-! A small machine over plain values: what the bytes do to numbers and references. Its answers are the machine's own (part 03). -/
abbrev qa_V : Type := Int32 ⊕ (Option Nat ⊕ (Int64 ⊕ Unit))
abbrev qa_i (x : Int32) : qa_V := Sum.inl x
abbrev qa_a (r : Option Nat) : qa_V := Sum.inr (Sum.inl r)
abbrev qa_l (x : Int64) : qa_V := Sum.inr (Sum.inr (Sum.inl x))
abbrev qa_u : qa_V := Sum.inr (Sum.inr (Sum.inr ()))
/-- the heap: of each cell its kind (a class's number and 0; 99 the script, 100 ints, 101.. references, and how many), its ints, its references; the next free cell; the slots made so far -/
abbrev qa_H : Type := (Nat → Nat × Nat) × (Nat → Nat → Int32) × (Nat → Nat → Option Nat) × Nat × Nat
/-- where a method stands: its place, its locals, its locals that are longs, its stack, the heap -/
abbrev qa_C : Type := Nat × List qa_V × List (Option Int64) × List qa_V × qa_H
abbrev qa_Rs : Type := Option qa_V × qa_H
abbrev qa_Act : Type := Option (qa_C ⊕ (qa_Rs ⊕ (Nat × List qa_V × qa_C)))
def qa_ct : qa_V → Nat
  | .inr (.inr (.inl _)) => 2
  | _ => 1
def qa_ia : qa_V → Bool
  | .inl _ => true
  | .inr (.inl _) => true
  | _ => false
def qa_il : qa_V → Bool
  | .inr (.inr (.inr _)) => false
  | _ => true
def qa_sum (S : List qa_V) : Nat := (S.map qa_ct).sum
def qa_tg (pc : Nat) (off : Int) : Option Nat := if 0 ≤ (pc : Int) + off then some ((pc : Int) + off).toNat else none
def qa_fr (M : List (Option Int64)) (i : Nat) : Bool := ((M[i]?).getD none).isNone && ((M[i - 1]?).getD none).isNone
def qa_cnd : ClassFile.Cond → Int32 → Int32 → Bool
  | .eq, x, y => decide (x = y)
  | .ne, x, y => decide (¬ x = y)
  | .lt, x, y => decide (x < y)
  | .ge, x, y => decide (y ≤ x)
  | .gt, x, y => decide (y < x)
  | .le, x, y => decide (x ≤ y)
def qa_nx (pc : Nat) (L : List qa_V) (M : List (Option Int64)) (S : List qa_V) (h : qa_H) : qa_Act := some (.inl (pc, L, M, S, h))
def qa_jp (o : Option Nat) (L : List qa_V) (M : List (Option Int64)) (S : List qa_V) (h : qa_H) : qa_Act := match o with
  | some t => qa_nx t L M S h
  | none => none
def qa_br (P : Bool) (o : Option Nat) (pc3 : Nat) (L : List qa_V) (M : List (Option Int64)) (S : List qa_V) (h : qa_H) : qa_Act := match o with
  | some t => if P = true then qa_nx t L M S h else qa_nx pc3 L M S h
  | none => none
def qa_ldi (pc i : Nat) (L : List qa_V) (M : List (Option Int64)) (S : List qa_V) (h : qa_H) : qa_Act := match L[i]? with
  | some (.inl x) => qa_nx pc L M (qa_i x :: S) h
  | _ => none
def qa_lda (pc i : Nat) (L : List qa_V) (M : List (Option Int64)) (S : List qa_V) (h : qa_H) : qa_Act := match L[i]? with
  | some (.inr (.inl r)) => qa_nx pc L M (qa_a r :: S) h
  | _ => none
def qa_ldl (pc i : Nat) (L : List qa_V) (M : List (Option Int64)) (S : List qa_V) (h : qa_H) : qa_Act := match M[i]? with
  | some (some x) => qa_nx pc L M (qa_l x :: S) h
  | _ => none
def qa_sti (pc i : Nat) (L : List qa_V) (M : List (Option Int64)) (S : List qa_V) (h : qa_H) : qa_Act := match S with
  | .inl x :: S => if i < L.length ∧ qa_fr M i = true then qa_nx pc (L.set i (qa_i x)) M S h else none
  | _ => none
def qa_sta (pc i : Nat) (L : List qa_V) (M : List (Option Int64)) (S : List qa_V) (h : qa_H) : qa_Act := match S with
  | .inr (.inl r) :: S => if i < L.length ∧ qa_fr M i = true then qa_nx pc (L.set i (qa_a r)) M S h else none
  | _ => none
def qa_stl (pc i : Nat) (L : List qa_V) (M : List (Option Int64)) (S : List qa_V) (h : qa_H) : qa_Act := match S with
  | .inr (.inr (.inl x)) :: S => if i + 1 < L.length ∧ qa_fr M i = true ∧ qa_fr M (i + 1) = true then qa_nx pc ((L.set i qa_u).set (i + 1) qa_u) (M.set i (some x)) S h else none
  | _ => none
def qa_b2 (f : Int32 → Int32 → Int32) (pc : Nat) (L : List qa_V) (M : List (Option Int64)) (S : List qa_V) (h : qa_H) : qa_Act := match S with
  | .inl y :: .inl x :: S => qa_nx pc L M (qa_i (f x y) :: S) h
  | _ => none
def qa_d2 (f : Int32 → Int32 → Int32) (pc : Nat) (L : List qa_V) (M : List (Option Int64)) (S : List qa_V) (h : qa_H) : qa_Act := match S with
  | .inl y :: .inl x :: S => if y = 0 then none else qa_nx pc L M (qa_i (f x y) :: S) h
  | _ => none
def qa_l2 (f : Int64 → Int64 → Int64) (pc : Nat) (L : List qa_V) (M : List (Option Int64)) (S : List qa_V) (h : qa_H) : qa_Act := match S with
  | .inr (.inr (.inl y)) :: .inr (.inr (.inl x)) :: S => qa_nx pc L M (qa_l (f x y) :: S) h
  | _ => none
/-- what an instruction names -/
def qa_fl (own idx : Nat) : Option Nat := (qa_fls.find? (fun q => q.1 == own && q.2.1 == idx)).map (fun q => q.2.2.1)
def qa_ml (own idx : Nat) : Option (Nat × Nat) := (qa_mls.find? (fun q => q.1 == own && q.2.1 == idx)).map (fun q => (q.2.2.1, q.2.2.2.1))
def qa_cf (own idx : Nat) : Option Nat := (qa_cls.find? (fun q => q.1 == own && q.2.1 == idx)).map (fun q => q.2.2.1)
def qa_co (own idx : Nat) : Option Int32 := (qa_cst.find? (fun q => q.1 == own && q.2.1 == idx)).map (fun q => q.2.2.1)
def qa_own (m : Nat) : Nat := (qa_mt m).1
def qa_ki (ci k : Nat) : Nat := (qa_kd.getD ci []).getD k 0
def qa_sz (ci : Nat) : Nat := (qa_fs.getD ci []).length
def qa_fin (ci k : Nat) : Bool := (qa_T (qa_fs.getD ci []) k).2.2.2
/-- arrays of references: the class of what stands in them -/
def qa_ec : Nat → Nat
  | 101 => 7
  | 102 => 6
  | 103 => 10
  | _ => 77
def qa_ac : Nat → Nat
  | 7 => 101
  | 6 => 102
  | 10 => 103
  | _ => 77
def qa_gf (own idx pc : Nat) (L : List qa_V) (M : List (Option Int64)) (S : List qa_V) (h : qa_H) : qa_Act := match S, qa_fl own idx with
  | .inr (.inl (some a)) :: S, some k => if h.1 a = (own, 0) then (if qa_ki own k = 2 then qa_nx pc L M (qa_a (h.2.2.1 a k) :: S) h else qa_nx pc L M (qa_i (h.2.1 a k) :: S) h) else none
  | _, _ => none
def qa_pf (ini : Bool) (own idx pc : Nat) (L : List qa_V) (M : List (Option Int64)) (S : List qa_V) (h : qa_H) : qa_Act := match S, qa_fl own idx with
  | .inl x :: .inr (.inl (some a)) :: S, some k => if h.1 a = (own, 0) ∧ (qa_fin own k = false ∨ ini = true) ∧ (qa_ki own k = 0 ∨ (qa_ki own k = 1 ∧ (x = 0 ∨ x = 1))) then qa_nx pc L M S (h.1, va_up h.2.1 a (va_up (h.2.1 a) k x), h.2.2.1, h.2.2.2) else none
  | .inr (.inl r) :: .inr (.inl (some a)) :: S, some k => if h.1 a = (own, 0) ∧ (qa_fin own k = false ∨ ini = true) ∧ qa_ki own k = 2 then qa_nx pc L M S (h.1, h.2.1, va_up h.2.2.1 a (va_up (h.2.2.1 a) k r), h.2.2.2) else none
  | _, _ => none
def qa_ald (pc : Nat) (L : List qa_V) (M : List (Option Int64)) (S : List qa_V) (h : qa_H) : qa_Act := match S with
  | .inl x :: .inr (.inl (some a)) :: S => if ((h.1 a).1 = 100 ∨ a = 0) ∧ ¬ (x < 0 ∨ (h.1 a).2 ≤ x.toNatClampNeg) then qa_nx pc L M (qa_i (h.2.1 a x.toNatClampNeg) :: S) h else none
  | _ => none
def qa_ast (pc : Nat) (L : List qa_V) (M : List (Option Int64)) (S : List qa_V) (h : qa_H) : qa_Act := match S with
  | .inl v :: .inl x :: .inr (.inl (some a)) :: S => if (h.1 a).1 = 100 ∧ ¬ (x < 0 ∨ (h.1 a).2 ≤ x.toNatClampNeg) then qa_nx pc L M S (h.1, va_up h.2.1 a (va_up (h.2.1 a) x.toNatClampNeg v), h.2.2.1, h.2.2.2) else none
  | _ => none
def qa_rld (pc : Nat) (L : List qa_V) (M : List (Option Int64)) (S : List qa_V) (h : qa_H) : qa_Act := match S with
  | .inl x :: .inr (.inl (some a)) :: S => if (101 ≤ (h.1 a).1 ∧ (h.1 a).1 ≤ 103) ∧ ¬ (x < 0 ∨ (h.1 a).2 ≤ x.toNatClampNeg) then qa_nx pc L M (qa_a (h.2.2.1 a x.toNatClampNeg) :: S) h else none
  | _ => none
def qa_rk (K : Nat → Nat × Nat) (e : Nat) : Option Nat → Bool
  | none => true
  | some v => decide (K v = (e, 0))
def qa_rv (kd c : Nat) (K : Nat → Nat × Nat) : List qa_V → Bool
  | .inr (.inl (some a)) :: _ => kd != 1 || decide (K a = (qa_own c, 0))
  | _ => kd == 0
def qa_rst (pc : Nat) (L : List qa_V) (M : List (Option Int64)) (S : List qa_V) (h : qa_H) : qa_Act := match S with
  | .inr (.inl r) :: .inl x :: .inr (.inl (some a)) :: S => if (101 ≤ (h.1 a).1 ∧ (h.1 a).1 ≤ 103) ∧ ¬ (x < 0 ∨ (h.1 a).2 ≤ x.toNatClampNeg) ∧ qa_rk h.1 (qa_ec (h.1 a).1) r = true then qa_nx pc L M S (h.1, h.2.1, va_up h.2.2.1 a (va_up (h.2.2.1 a) x.toNatClampNeg r), h.2.2.2) else none
  | _ => none
def qa_aln (pc : Nat) (L : List qa_V) (M : List (Option Int64)) (S : List qa_V) (h : qa_H) : qa_Act := match S with
  | .inr (.inl (some a)) :: S => if (100 ≤ (h.1 a).1 ∧ (h.1 a).1 ≤ 103) ∨ a = 0 then qa_nx pc L M (qa_i (Int32.ofNat (h.1 a).2) :: S) h else none
  | _ => none
def qa_mk (k len sl : Nat) (h : qa_H) : qa_H := (va_up h.1 h.2.2.2.1 (k, len), va_up h.2.1 h.2.2.2.1 (fun _ => 0), va_up h.2.2.1 h.2.2.2.1 (fun _ => none), h.2.2.2.1 + 1, h.2.2.2.2 + sl)
def qa_new (own idx pc : Nat) (L : List qa_V) (M : List (Option Int64)) (S : List qa_V) (h : qa_H) : qa_Act := match qa_cf own idx with
  | some ci => qa_nx pc L M (qa_a (some h.2.2.2.1) :: S) (qa_mk ci 0 (qa_sz ci) h)
  | none => none
def qa_nai (pc : Nat) (L : List qa_V) (M : List (Option Int64)) (S : List qa_V) (h : qa_H) : qa_Act := match S with
  | .inl x :: S => if ¬ x < 0 ∧ x.toNatClampNeg ≤ 100000 then qa_nx pc L M (qa_a (some h.2.2.2.1) :: S) (qa_mk 100 x.toNatClampNeg x.toNatClampNeg h) else none
  | _ => none
def qa_nar (own idx pc : Nat) (L : List qa_V) (M : List (Option Int64)) (S : List qa_V) (h : qa_H) : qa_Act := match S, qa_cf own idx with
  | .inl x :: S, some ci => if (¬ x < 0 ∧ x.toNatClampNeg ≤ 100000) ∧ (ci = 6 ∨ ci = 7 ∨ ci = 10) then qa_nx pc L M (qa_a (some h.2.2.2.1) :: S) (qa_mk (qa_ac ci) x.toNatClampNeg x.toNatClampNeg h) else none
  | _, _ => none
def qa_acp (pc : Nat) (L : List qa_V) (M : List (Option Int64)) (S : List qa_V) (h : qa_H) : qa_Act := match S with
  | .inl n :: .inl dp :: .inr (.inl (some d)) :: .inl sp :: .inr (.inl (some a)) :: S =>
    if ((h.1 a).1 = 100 ∧ (h.1 d).1 = 100) ∧ (¬ sp < 0 ∧ ¬ dp < 0 ∧ ¬ n < 0) ∧ sp.toNatClampNeg + n.toNatClampNeg ≤ (h.1 a).2 ∧ dp.toNatClampNeg + n.toNatClampNeg ≤ (h.1 d).2 ∧ qa_sum S ≤ 8
    then qa_nx pc L M S (h.1, va_up h.2.1 d (va_cpy (h.2.1 a) (h.2.1 d) sp.toNatClampNeg dp.toNatClampNeg n.toNatClampNeg), h.2.2.1, h.2.2.2) else none
  | _ => none
/-- a call: its arguments are the top of the stack; what it is called on isn't null -/
def qa_cal (kd c pc : Nat) (L : List qa_V) (M : List (Option Int64)) (S : List qa_V) (h : qa_H) : qa_Act :=
  if (qa_mt c).2.2.2.2.2.1 ≤ S.length ∧ qa_sum (S.drop (qa_mt c).2.2.2.2.2.1) ≤ 8 ∧ (S.take (qa_mt c).2.2.2.2.2.1).all qa_ia = true ∧ qa_rv kd c h.1 (S.take (qa_mt c).2.2.2.2.2.1).reverse = true
  then some (.inr (.inr (c, (S.take (qa_mt c).2.2.2.2.2.1).reverse, (pc, L, M, S.drop (qa_mt c).2.2.2.2.2.1, h)))) else none
def qa_inv (kd0 own idx pc : Nat) (L : List qa_V) (M : List (Option Int64)) (S : List qa_V) (h : qa_H) : qa_Act := match qa_ml own idx with
  | some (kd, c) =>
    if kd = 4 ∧ kd0 = 2 then (match S with
      | .inr (.inl (some _)) :: S => if qa_sum S ≤ 8 then qa_nx pc L M S h else none
      | _ => none)
    else if kd = 5 ∧ kd0 = 0 then qa_acp pc L M S h
    else if kd = kd0 ∨ (kd = 3 ∧ kd0 = 2) then qa_cal kd c pc L M S h else none
  | none => none
def qa_ret (rt : Option FieldType) (S : List qa_V) (h : qa_H) : qa_Act := match S with
  | [.inl x] => if rt = some .int ∨ (rt = some .boolean ∧ (x = 0 ∨ x = 1)) then some (.inr (.inl (some (qa_i x), h))) else none
  | _ => none
def qa_rea (rt : Option FieldType) (S : List qa_V) (h : qa_H) : qa_Act := match S, rt with
  | [.inr (.inl r)], some (.object _) => some (.inr (.inl (some (qa_a r), h)))
  | _, _ => none
def qa_rel (rt : Option FieldType) (S : List qa_V) (h : qa_H) : qa_Act := match S with
  | [.inr (.inr (.inl x))] => if rt = some .long then some (.inr (.inl (some (qa_l x), h))) else none
  | _ => none
def qa_rev (rt : Option FieldType) (S : List qa_V) (h : qa_H) : qa_Act := match S with
  | [] => if rt = none then some (.inr (.inl (none, h))) else none
  | _ => none
def qa_op (m pc len : Nat) (ins : Instr) (L : List qa_V) (M : List (Option Int64)) (S : List qa_V) (h : qa_H) : qa_Act := match ins, len with
  | .iload_n k, 1 => qa_ldi (pc + 1) k.val L M S h
  | .iload k, 2 => qa_ldi (pc + 2) k L M S h
  | .aload_n k, 1 => qa_lda (pc + 1) k.val L M S h
  | .aload k, 2 => qa_lda (pc + 2) k L M S h
  | .lload_n k, 1 => qa_ldl (pc + 1) k.val L M S h
  | .lload k, 2 => qa_ldl (pc + 2) k L M S h
  | .istore_n k, 1 => qa_sti (pc + 1) k.val L M S h
  | .istore k, 2 => qa_sti (pc + 2) k L M S h
  | .astore_n k, 1 => qa_sta (pc + 1) k.val L M S h
  | .astore k, 2 => qa_sta (pc + 2) k L M S h
  | .lstore_n k, 1 => qa_stl (pc + 1) k.val L M S h
  | .lstore k, 2 => qa_stl (pc + 2) k L M S h
  | .iinc k n, 3 => match L[k]? with
    | some (.inl x) => qa_sti (pc + 3) k L M (qa_i (x + Int32.ofInt n) :: S) h
    | _ => none
  | .iconst n, 1 => qa_nx (pc + 1) L M (qa_i (Int32.ofInt n) :: S) h
  | .bipush n, 2 => qa_nx (pc + 2) L M (qa_i (Int8.ofInt n).toInt32 :: S) h
  | .sipush n, 3 => qa_nx (pc + 3) L M (qa_i (Int16.ofInt n).toInt32 :: S) h
  | .ldc_w n, 3 => match qa_co (qa_own m) n with
    | some v => qa_nx (pc + 3) L M (qa_i v :: S) h
    | none => none
  | .aconst_null, 1 => qa_nx (pc + 1) L M (qa_a none :: S) h
  | .iadd, 1 => qa_b2 (fun x y => x + y) (pc + 1) L M S h
  | .isub, 1 => qa_b2 (fun x y => x - y) (pc + 1) L M S h
  | .imul, 1 => qa_b2 (fun x y => x * y) (pc + 1) L M S h
  | .iand, 1 => qa_b2 (fun x y => x &&& y) (pc + 1) L M S h
  | .ior, 1 => qa_b2 (fun x y => x ||| y) (pc + 1) L M S h
  | .ixor, 1 => qa_b2 (fun x y => x ^^^ y) (pc + 1) L M S h
  | .ishl, 1 => qa_b2 (fun x y => x <<< (y &&& 31)) (pc + 1) L M S h
  | .ishr, 1 => qa_b2 (fun x y => x >>> (y &&& 31)) (pc + 1) L M S h
  | .iushr, 1 => qa_b2 (fun x y => (x.toUInt32 >>> (y.toUInt32 &&& Int32.toUInt32 31)).toInt32) (pc + 1) L M S h
  | .idiv, 1 => qa_d2 (fun x y => x / y) (pc + 1) L M S h
  | .irem, 1 => qa_d2 (fun x y => x - x / y * y) (pc + 1) L M S h
  | .ladd, 1 => qa_l2 (fun x y => x + y) (pc + 1) L M S h
  | .lsub, 1 => qa_l2 (fun x y => x - y) (pc + 1) L M S h
  | .lmul, 1 => qa_l2 (fun x y => x * y) (pc + 1) L M S h
  | .lcmp, 1 => match S with
    | .inr (.inr (.inl y)) :: .inr (.inr (.inl x)) :: S => qa_nx (pc + 1) L M (qa_i (lg_cmp x y) :: S) h
    | _ => none
  | .i2l, 1 => match S with
    | .inl x :: S => qa_nx (pc + 1) L M (qa_l x.toInt64 :: S) h
    | _ => none
  | .dup, 1 => match S with
    | v :: S => if qa_ia v = true then qa_nx (pc + 1) L M (v :: v :: S) h else none
    | _ => none
  | .dup2, 1 => match S with
    | v :: w :: S => if qa_ia v = true ∧ qa_ia w = true then qa_nx (pc + 1) L M (v :: w :: v :: w :: S) h else none
    | _ => none
  | .pop, 1 => match S with
    | v :: S => if qa_ia v = true then qa_nx (pc + 1) L M S h else none
    | _ => none
  | .ifCond c off, 3 => match S with
    | .inl x :: S => qa_br (qa_cnd c x 0) (qa_tg pc off) (pc + 3) L M S h
    | _ => none
  | .if_icmp c off, 3 => match S with
    | .inl y :: .inl x :: S => qa_br (qa_cnd c x y) (qa_tg pc off) (pc + 3) L M S h
    | _ => none
  | .if_acmp .eq off, 3 => match S with
    | .inr (.inl y) :: .inr (.inl x) :: S => qa_br (decide (x = y)) (qa_tg pc off) (pc + 3) L M S h
    | _ => none
  | .ifnull off, 3 => match S with
    | .inr (.inl none) :: S => qa_jp (qa_tg pc off) L M S h
    | .inr (.inl (some _)) :: S => qa_nx (pc + 3) L M S h
    | _ => none
  | .ifnonnull off, 3 => match S with
    | .inr (.inl (some _)) :: S => qa_jp (qa_tg pc off) L M S h
    | .inr (.inl none) :: S => qa_nx (pc + 3) L M S h
    | _ => none
  | .goto off, 3 => qa_jp (qa_tg pc off) L M S h
  | .tableswitch df lo hi offs, _ => match S with
    | .inl x :: S => if x.toInt < lo ∨ hi < x.toInt then qa_jp (qa_tg pc df) L M S h else match offs[(x.toInt - lo).toNat]? with
      | some off => qa_jp (qa_tg pc off) L M S h
      | none => none
    | _ => none
  | .lookupswitch df ps, _ => match S with
    | .inl x :: S => if (ps.toList.zip (ps.toList.drop 1)).all (fun (a, next) => a.1 < next.1) = true then qa_jp (qa_tg pc (Op.lookupswitch.offset ps.toList df x.toInt)) L M S h else none
    | _ => none
  | .getfield i, 3 => qa_gf (qa_own m) i (pc + 3) L M S h
  | .putfield i, 3 => qa_pf ((qa_mt m).2.2.2.2.2.2.1 == 2) (qa_own m) i (pc + 3) L M S h
  | .iaload, 1 => qa_ald (pc + 1) L M S h
  | .iastore, 1 => qa_ast (pc + 1) L M S h
  | .aaload, 1 => qa_rld (pc + 1) L M S h
  | .aastore, 1 => qa_rst (pc + 1) L M S h
  | .arraylength, 1 => qa_aln (pc + 1) L M S h
  | .new i, 3 => qa_new (qa_own m) i (pc + 3) L M S h
  | .newarray .int, 2 => qa_nai (pc + 2) L M S h
  | .anewarray i, 3 => qa_nar (qa_own m) i (pc + 3) L M S h
  | .invokestatic i, 3 => qa_inv 0 (qa_own m) i (pc + 3) L M S h
  | .invokevirtual i, 3 => qa_inv 1 (qa_own m) i (pc + 3) L M S h
  | .invokespecial i, 3 => qa_inv 2 (qa_own m) i (pc + 3) L M S h
  | .ireturn, 1 => qa_ret (qa_mt m).2.2.2.2.1 S h
  | .areturn, 1 => qa_rea (qa_mt m).2.2.2.2.1 S h
  | .lreturn, 1 => qa_rel (qa_mt m).2.2.2.2.1 S h
  | .return_, 1 => qa_rev (qa_mt m).2.2.2.2.1 S h
  | _, _ => none
def qa_act (m : Nat) (c : qa_C) : qa_Act := match decode (qa_code m) c.1 with
  | .ok (ins, len) => qa_op m c.1 len ins c.2.1 c.2.2.1 c.2.2.2.1 c.2.2.2.2
  | .error _ => none
def qa_push (q : qa_Rs) (c : qa_C) : qa_C := (c.1, c.2.1, c.2.2.1, q.1.toList ++ c.2.2.2.1, q.2)
/-- n steps at most, the calls by ex -/
def qa_loop (ex : Nat → List qa_V → qa_H → Option qa_Rs) (m : Nat) : Nat → qa_C → Option qa_Rs
  | 0, _ => none
  | f + 1, c => match qa_act m c with
    | none => none
    | some (.inl c') => qa_loop ex m f c'
    | some (.inr (.inl r)) => some r
    | some (.inr (.inr (k, as, c'))) => (ex k as c'.2.2.2.2).bind fun q => qa_loop ex m f (qa_push q c')
theorem qa_loop_s (ex : Nat → List qa_V → qa_H → Option qa_Rs) (m : Nat) : ∀ (f : Nat) (c : qa_C) (r : qa_Rs), qa_loop ex m f c = some r → qa_loop ex m (f + 1) c = some r := by
  intro f
  induction f with
  | zero => intro c r h; simp [qa_loop] at h
  | succ f ih =>
    intro c r h
    unfold qa_loop at h ⊢
    split at h
    · cases h
    · exact ih _ _ h
    · exact h
    · rename_i k as c' _
      cases hq : ex k as c'.2.2.2.2 with
      | none => rw [hq] at h; simp at h
      | some q => rw [hq] at h; simp only [Option.bind_some] at h ⊢; exact ih _ _ h
theorem qa_loop_m (ex : Nat → List qa_V → qa_H → Option qa_Rs) (m : Nat) (c : qa_C) (r : qa_Rs) (k : Nat) : ∀ (f : Nat), qa_loop ex m f c = some r → qa_loop ex m (f + k) c = some r := by
  intro f h
  induction k with
  | zero => exact h
  | succ k ih => exact qa_loop_s ex m _ c r ih
noncomputable def qa_lim {α : Type} (g : Nat → Option α) : Option α := @dite _ (∃ f, (g f).isSome = true) (Classical.propDecidable _) (fun h => g (Classical.choose h)) (fun _ => none)
theorem qa_lim_iff {α : Type} {g : Nat → Option α} (mono : ∀ (r : α) (k f : Nat), g f = some r → g (f + k) = some r) (r : α) : qa_lim g = some r ↔ ∃ f, g f = some r := by
  constructor
  · intro h
    unfold qa_lim at h
    by_cases hx : ∃ f, (g f).isSome = true
    · rw [dif_pos hx] at h
      exact ⟨_, h⟩
    · rw [dif_neg hx] at h
      cases h
  · intro ⟨f, hf⟩
    have hx : ∃ f, (g f).isSome = true := ⟨f, by rw [hf]; rfl⟩
    unfold qa_lim
    rw [dif_pos hx]
    have h0 := Classical.choose_spec hx
    obtain ⟨r0, hr0⟩ := Option.isSome_iff_exists.mp h0
    have h1 := mono r0 f _ hr0
    have h2 := mono r (Classical.choose hx) f hf
    rw [Nat.add_comm] at h2
    rw [hr0]
    exact h1.symm.trans h2
noncomputable def qa_ex : Nat → Nat → List qa_V → qa_H → Option qa_Rs
  | 0 => fun _ _ _ => none
  | d + 1 => fun m as h => if as.length = (qa_mt m).2.2.2.2.2.1 then qa_lim (fun f => qa_loop (qa_ex d) m f (0, as ++ List.replicate ((qa_mt m).2.2.2.1 - as.length) qa_u, List.replicate (qa_mt m).2.2.2.2.2.2.2.1 none, [], h)) else none
noncomputable def qa_run (d m : Nat) (pc : Nat) (L : List qa_V) (M : List (Option Int64)) (S : List qa_V) (h : qa_H) : Option qa_Rs := qa_lim (fun f => qa_loop (qa_ex d) m f (pc, L, M, S, h))
theorem qa_run_iff (d m pc : Nat) (L : List qa_V) (M : List (Option Int64)) (S : List qa_V) (h : qa_H) (r : qa_Rs) : qa_run d m pc L M S h = some r ↔ ∃ f, qa_loop (qa_ex d) m f (pc, L, M, S, h) = some r :=
  qa_lim_iff (fun r k f hf => qa_loop_m _ _ _ r k f hf) r
theorem qa_run_nx {d m pc : Nat} {L : List qa_V} {M : List (Option Int64)} {S : List qa_V} {h : qa_H} {pc' : Nat} {L' : List qa_V} {M' : List (Option Int64)} {S' : List qa_V} {h' : qa_H} (ha : qa_act m (pc, L, M, S, h) = some (.inl (pc', L', M', S', h'))) :
    qa_run d m pc L M S h = qa_run d m pc' L' M' S' h' := by
  apply Option.ext
  intro r
  rw [qa_run_iff, qa_run_iff]
  constructor
  · rintro ⟨f, hf⟩
    cases f with
    | zero => simp [qa_loop] at hf
    | succ f => refine ⟨f, ?_⟩; unfold qa_loop at hf; rw [ha] at hf; exact hf
  · rintro ⟨f, hf⟩
    refine ⟨f + 1, ?_⟩
    unfold qa_loop
    rw [ha]
    exact hf
theorem qa_run_rt {d m pc : Nat} {L : List qa_V} {M : List (Option Int64)} {S : List qa_V} {h : qa_H} {q : qa_Rs} (ha : qa_act m (pc, L, M, S, h) = some (.inr (.inl q))) : qa_run d m pc L M S h = some q := by
  rw [qa_run_iff]
  refine ⟨1, ?_⟩
  unfold qa_loop
  rw [ha]
theorem qa_run_cl {d m pc : Nat} {L : List qa_V} {M : List (Option Int64)} {S : List qa_V} {h : qa_H} {k : Nat} {as : List qa_V} {pc' : Nat} {L' : List qa_V} {M' : List (Option Int64)} {S' : List qa_V} {h' : qa_H} (ha : qa_act m (pc, L, M, S, h) = some (.inr (.inr (k, as, (pc', L', M', S', h'))))) :
    qa_run d m pc L M S h = (qa_ex d k as h').bind fun q => qa_run d m pc' L' M' (q.1.toList ++ S') q.2 := by
  apply Option.ext
  intro r
  cases hq : qa_ex d k as h' with
  | none =>
    rw [qa_run_iff]
    constructor
    · rintro ⟨f, hf⟩
      cases f with
      | zero => simp [qa_loop] at hf
      | succ f => unfold qa_loop at hf; rw [ha] at hf; simp [hq] at hf
    · intro h; cases h
  | some q =>
    simp only [Option.bind_some]
    rw [qa_run_iff, qa_run_iff]
    constructor
    · rintro ⟨f, hf⟩
      cases f with
      | zero => simp [qa_loop] at hf
      | succ f => refine ⟨f, ?_⟩; unfold qa_loop at hf; rw [ha] at hf; simp only [hq, Option.bind_some] at hf; exact hf
    · rintro ⟨f, hf⟩
      refine ⟨f + 1, ?_⟩
      unfold qa_loop
      rw [ha]
      simp only [hq, Option.bind_some]
      exact hf
