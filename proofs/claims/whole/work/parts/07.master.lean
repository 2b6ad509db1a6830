/-! Every method at once: what the small machine answers, the machine answers. -/
def qa_okA (h : qa_H) : qa_Act → Prop
  | some (.inl c) => h.2.2.2.1 ≤ c.2.2.2.2.2.2.2.1 ∧ h.2.2.2.2 ≤ c.2.2.2.2.2.2.2.2
  | some (.inr (.inl r)) => h = r.2
  | some (.inr (.inr (_, _, c))) => h = c.2.2.2.2
  | none => True
theorem qa_ok_nx {pc : Nat} {L : List qa_V} {M : List (Option Int64)} {S : List qa_V} {h : qa_H} : qa_okA h (qa_nx pc L M S h) := ⟨Nat.le_refl _, Nat.le_refl _⟩
theorem qa_ok_jp {x : Option Nat} {L : List qa_V} {M : List (Option Int64)} {S : List qa_V} {h : qa_H} : qa_okA h (qa_jp x L M S h) := by
  unfold qa_jp; split <;> first | exact qa_ok_nx | trivial
theorem qa_ok_br {P : Bool} {x : Option Nat} {pc : Nat} {L : List qa_V} {M : List (Option Int64)} {S : List qa_V} {h : qa_H} : qa_okA h (qa_br P x pc L M S h) := by
  unfold qa_br; split <;> (try split) <;> first | exact qa_ok_nx | trivial
theorem qa_ok_ldi {i pc : Nat} {L : List qa_V} {M : List (Option Int64)} {S : List qa_V} {h : qa_H} : qa_okA h (qa_ldi pc i L M S h) := by
  unfold qa_ldi; split <;> first | exact qa_ok_nx | trivial
theorem qa_ok_lda {i pc : Nat} {L : List qa_V} {M : List (Option Int64)} {S : List qa_V} {h : qa_H} : qa_okA h (qa_lda pc i L M S h) := by
  unfold qa_lda; split <;> first | exact qa_ok_nx | trivial
theorem qa_ok_ldl {i pc : Nat} {L : List qa_V} {M : List (Option Int64)} {S : List qa_V} {h : qa_H} : qa_okA h (qa_ldl pc i L M S h) := by
  unfold qa_ldl; split <;> first | exact qa_ok_nx | trivial
theorem qa_ok_sti {i pc : Nat} {L : List qa_V} {M : List (Option Int64)} {S : List qa_V} {h : qa_H} : qa_okA h (qa_sti pc i L M S h) := by
  unfold qa_sti; split <;> (try split) <;> first | exact qa_ok_nx | trivial
theorem qa_ok_sta {i pc : Nat} {L : List qa_V} {M : List (Option Int64)} {S : List qa_V} {h : qa_H} : qa_okA h (qa_sta pc i L M S h) := by
  unfold qa_sta; split <;> (try split) <;> first | exact qa_ok_nx | trivial
theorem qa_ok_stl {i pc : Nat} {L : List qa_V} {M : List (Option Int64)} {S : List qa_V} {h : qa_H} : qa_okA h (qa_stl pc i L M S h) := by
  unfold qa_stl; split <;> (try split) <;> first | exact qa_ok_nx | trivial
theorem qa_ok_b2 {f : Int32 → Int32 → Int32} {pc : Nat} {L : List qa_V} {M : List (Option Int64)} {S : List qa_V} {h : qa_H} : qa_okA h (qa_b2 f pc L M S h) := by
  unfold qa_b2; split <;> first | exact qa_ok_nx | trivial
theorem qa_ok_d2 {f : Int32 → Int32 → Int32} {pc : Nat} {L : List qa_V} {M : List (Option Int64)} {S : List qa_V} {h : qa_H} : qa_okA h (qa_d2 f pc L M S h) := by
  unfold qa_d2; split <;> (try split) <;> first | exact qa_ok_nx | trivial
theorem qa_ok_l2 {f : Int64 → Int64 → Int64} {pc : Nat} {L : List qa_V} {M : List (Option Int64)} {S : List qa_V} {h : qa_H} : qa_okA h (qa_l2 f pc L M S h) := by
  unfold qa_l2; split <;> first | exact qa_ok_nx | trivial
theorem qa_ok_gf {own idx pc : Nat} {L : List qa_V} {M : List (Option Int64)} {S : List qa_V} {h : qa_H} : qa_okA h (qa_gf own idx pc L M S h) := by
  unfold qa_gf; split <;> (try split) <;> (try split) <;> first | exact qa_ok_nx | trivial
theorem qa_ok_pf {i : Bool} {own idx pc : Nat} {L : List qa_V} {M : List (Option Int64)} {S : List qa_V} {h : qa_H} : qa_okA h (qa_pf i own idx pc L M S h) := by
  unfold qa_pf; split <;> (try split) <;> first | exact ⟨Nat.le_refl _, Nat.le_refl _⟩ | trivial
theorem qa_ok_ald {pc : Nat} {L : List qa_V} {M : List (Option Int64)} {S : List qa_V} {h : qa_H} : qa_okA h (qa_ald pc L M S h) := by
  unfold qa_ald; split <;> (try split) <;> first | exact qa_ok_nx | trivial
theorem qa_ok_ast {pc : Nat} {L : List qa_V} {M : List (Option Int64)} {S : List qa_V} {h : qa_H} : qa_okA h (qa_ast pc L M S h) := by
  unfold qa_ast; split <;> (try split) <;> first | exact ⟨Nat.le_refl _, Nat.le_refl _⟩ | trivial
theorem qa_ok_rld {pc : Nat} {L : List qa_V} {M : List (Option Int64)} {S : List qa_V} {h : qa_H} : qa_okA h (qa_rld pc L M S h) := by
  unfold qa_rld; split <;> (try split) <;> first | exact qa_ok_nx | trivial
theorem qa_ok_rst {pc : Nat} {L : List qa_V} {M : List (Option Int64)} {S : List qa_V} {h : qa_H} : qa_okA h (qa_rst pc L M S h) := by
  unfold qa_rst; split <;> (try split) <;> first | exact ⟨Nat.le_refl _, Nat.le_refl _⟩ | trivial
theorem qa_ok_aln {pc : Nat} {L : List qa_V} {M : List (Option Int64)} {S : List qa_V} {h : qa_H} : qa_okA h (qa_aln pc L M S h) := by
  unfold qa_aln; split <;> (try split) <;> first | exact qa_ok_nx | trivial
theorem qa_ok_new {own idx pc : Nat} {L : List qa_V} {M : List (Option Int64)} {S : List qa_V} {h : qa_H} : qa_okA h (qa_new own idx pc L M S h) := by
  unfold qa_new; split <;> first | exact ⟨Nat.le_succ _, Nat.le_add_right _ _⟩ | trivial
theorem qa_ok_nai {pc : Nat} {L : List qa_V} {M : List (Option Int64)} {S : List qa_V} {h : qa_H} : qa_okA h (qa_nai pc L M S h) := by
  unfold qa_nai; split <;> (try split) <;> first | exact ⟨Nat.le_succ _, Nat.le_add_right _ _⟩ | trivial
theorem qa_ok_nar {own idx pc : Nat} {L : List qa_V} {M : List (Option Int64)} {S : List qa_V} {h : qa_H} : qa_okA h (qa_nar own idx pc L M S h) := by
  unfold qa_nar; split <;> (try split) <;> first | exact ⟨Nat.le_succ _, Nat.le_add_right _ _⟩ | trivial
theorem qa_ok_acp {pc : Nat} {L : List qa_V} {M : List (Option Int64)} {S : List qa_V} {h : qa_H} : qa_okA h (qa_acp pc L M S h) := by
  unfold qa_acp; split <;> (try split) <;> first | exact ⟨Nat.le_refl _, Nat.le_refl _⟩ | trivial
theorem qa_ok_cal {kd c pc : Nat} {L : List qa_V} {M : List (Option Int64)} {S : List qa_V} {h : qa_H} : qa_okA h (qa_cal kd c pc L M S h) := by
  unfold qa_cal; split <;> first | rfl | trivial
theorem qa_ok_inv {k own idx pc : Nat} {L : List qa_V} {M : List (Option Int64)} {S : List qa_V} {h : qa_H} : qa_okA h (qa_inv k own idx pc L M S h) := by
  unfold qa_inv
  split
  · split
    · split
      · split <;> first | exact qa_ok_nx | trivial
      · trivial
    · split
      · exact qa_ok_acp
      · split <;> first | exact qa_ok_cal | trivial
  · trivial
def qa_nrA : qa_Act → Prop
  | some (.inr (.inl _)) => False
  | _ => True
theorem qa_nr_nx {pc : Nat} {L : List qa_V} {M : List (Option Int64)} {S : List qa_V} {h : qa_H} : qa_nrA (qa_nx pc L M S h) := trivial
theorem qa_nr_jp {x : Option Nat} {L : List qa_V} {M : List (Option Int64)} {S : List qa_V} {h : qa_H} : qa_nrA (qa_jp x L M S h) := by
  unfold qa_jp; split <;> first | exact qa_nr_nx | trivial
theorem qa_nr_br {P : Bool} {x : Option Nat} {pc : Nat} {L : List qa_V} {M : List (Option Int64)} {S : List qa_V} {h : qa_H} : qa_nrA (qa_br P x pc L M S h) := by
  unfold qa_br; split <;> (try split) <;> first | exact qa_nr_nx | trivial
theorem qa_nr_ldi {i pc : Nat} {L : List qa_V} {M : List (Option Int64)} {S : List qa_V} {h : qa_H} : qa_nrA (qa_ldi pc i L M S h) := by
  unfold qa_ldi; split <;> first | exact qa_nr_nx | trivial
theorem qa_nr_lda {i pc : Nat} {L : List qa_V} {M : List (Option Int64)} {S : List qa_V} {h : qa_H} : qa_nrA (qa_lda pc i L M S h) := by
  unfold qa_lda; split <;> first | exact qa_nr_nx | trivial
theorem qa_nr_ldl {i pc : Nat} {L : List qa_V} {M : List (Option Int64)} {S : List qa_V} {h : qa_H} : qa_nrA (qa_ldl pc i L M S h) := by
  unfold qa_ldl; split <;> first | exact qa_nr_nx | trivial
theorem qa_nr_sti {i pc : Nat} {L : List qa_V} {M : List (Option Int64)} {S : List qa_V} {h : qa_H} : qa_nrA (qa_sti pc i L M S h) := by
  unfold qa_sti; split <;> (try split) <;> first | exact qa_nr_nx | trivial
theorem qa_nr_sta {i pc : Nat} {L : List qa_V} {M : List (Option Int64)} {S : List qa_V} {h : qa_H} : qa_nrA (qa_sta pc i L M S h) := by
  unfold qa_sta; split <;> (try split) <;> first | exact qa_nr_nx | trivial
theorem qa_nr_stl {i pc : Nat} {L : List qa_V} {M : List (Option Int64)} {S : List qa_V} {h : qa_H} : qa_nrA (qa_stl pc i L M S h) := by
  unfold qa_stl; split <;> (try split) <;> first | exact qa_nr_nx | trivial
theorem qa_nr_b2 {f : Int32 → Int32 → Int32} {pc : Nat} {L : List qa_V} {M : List (Option Int64)} {S : List qa_V} {h : qa_H} : qa_nrA (qa_b2 f pc L M S h) := by
  unfold qa_b2; split <;> first | exact qa_nr_nx | trivial
theorem qa_nr_d2 {f : Int32 → Int32 → Int32} {pc : Nat} {L : List qa_V} {M : List (Option Int64)} {S : List qa_V} {h : qa_H} : qa_nrA (qa_d2 f pc L M S h) := by
  unfold qa_d2; split <;> (try split) <;> first | exact qa_nr_nx | trivial
theorem qa_nr_l2 {f : Int64 → Int64 → Int64} {pc : Nat} {L : List qa_V} {M : List (Option Int64)} {S : List qa_V} {h : qa_H} : qa_nrA (qa_l2 f pc L M S h) := by
  unfold qa_l2; split <;> first | exact qa_nr_nx | trivial
theorem qa_nr_gf {own idx pc : Nat} {L : List qa_V} {M : List (Option Int64)} {S : List qa_V} {h : qa_H} : qa_nrA (qa_gf own idx pc L M S h) := by
  unfold qa_gf; split <;> (try split) <;> (try split) <;> first | exact qa_nr_nx | trivial
theorem qa_nr_pf {i : Bool} {own idx pc : Nat} {L : List qa_V} {M : List (Option Int64)} {S : List qa_V} {h : qa_H} : qa_nrA (qa_pf i own idx pc L M S h) := by
  unfold qa_pf; split <;> (try split) <;> first | exact trivial | trivial
theorem qa_nr_ald {pc : Nat} {L : List qa_V} {M : List (Option Int64)} {S : List qa_V} {h : qa_H} : qa_nrA (qa_ald pc L M S h) := by
  unfold qa_ald; split <;> (try split) <;> first | exact qa_nr_nx | trivial
theorem qa_nr_ast {pc : Nat} {L : List qa_V} {M : List (Option Int64)} {S : List qa_V} {h : qa_H} : qa_nrA (qa_ast pc L M S h) := by
  unfold qa_ast; split <;> (try split) <;> first | exact trivial | trivial
theorem qa_nr_rld {pc : Nat} {L : List qa_V} {M : List (Option Int64)} {S : List qa_V} {h : qa_H} : qa_nrA (qa_rld pc L M S h) := by
  unfold qa_rld; split <;> (try split) <;> first | exact qa_nr_nx | trivial
theorem qa_nr_rst {pc : Nat} {L : List qa_V} {M : List (Option Int64)} {S : List qa_V} {h : qa_H} : qa_nrA (qa_rst pc L M S h) := by
  unfold qa_rst; split <;> (try split) <;> first | exact trivial | trivial
theorem qa_nr_aln {pc : Nat} {L : List qa_V} {M : List (Option Int64)} {S : List qa_V} {h : qa_H} : qa_nrA (qa_aln pc L M S h) := by
  unfold qa_aln; split <;> (try split) <;> first | exact qa_nr_nx | trivial
theorem qa_nr_new {own idx pc : Nat} {L : List qa_V} {M : List (Option Int64)} {S : List qa_V} {h : qa_H} : qa_nrA (qa_new own idx pc L M S h) := by
  unfold qa_new; split <;> first | exact trivial | trivial
theorem qa_nr_nai {pc : Nat} {L : List qa_V} {M : List (Option Int64)} {S : List qa_V} {h : qa_H} : qa_nrA (qa_nai pc L M S h) := by
  unfold qa_nai; split <;> (try split) <;> first | exact trivial | trivial
theorem qa_nr_nar {own idx pc : Nat} {L : List qa_V} {M : List (Option Int64)} {S : List qa_V} {h : qa_H} : qa_nrA (qa_nar own idx pc L M S h) := by
  unfold qa_nar; split <;> (try split) <;> first | exact trivial | trivial
theorem qa_nr_acp {pc : Nat} {L : List qa_V} {M : List (Option Int64)} {S : List qa_V} {h : qa_H} : qa_nrA (qa_acp pc L M S h) := by
  unfold qa_acp; split <;> (try split) <;> first | exact trivial | trivial
theorem qa_nr_cal {kd c pc : Nat} {L : List qa_V} {M : List (Option Int64)} {S : List qa_V} {h : qa_H} : qa_nrA (qa_cal kd c pc L M S h) := by
  unfold qa_cal; split <;> trivial
theorem qa_nr_inv {k own idx pc : Nat} {L : List qa_V} {M : List (Option Int64)} {S : List qa_V} {h : qa_H} : qa_nrA (qa_inv k own idx pc L M S h) := by
  unfold qa_inv
  split
  · split
    · split
      · split <;> first | exact qa_nr_nx | trivial
      · trivial
    · split
      · exact qa_nr_acp
      · split <;> first | exact qa_nr_cal | trivial
  · trivial
theorem qa_nr_op {m pc len : Nat} {ins : Instr} {L : List qa_V} {M : List (Option Int64)} {S : List qa_V} {h : qa_H} : qa_nrA (qa_op m pc len ins L M S h) ∨ (len = 1 ∧ (ins = .ireturn ∨ ins = .areturn ∨ ins = .lreturn ∨ ins = .return_)) := by
  unfold qa_op
  split <;> first | (refine Or.inr ⟨rfl, ?_⟩; simp; done) | (refine Or.inl ?_; first | exact qa_nr_ldi | exact qa_nr_lda | exact qa_nr_ldl | exact qa_nr_sti | exact qa_nr_sta | exact qa_nr_stl | exact qa_nr_b2 | exact qa_nr_d2 | exact qa_nr_l2 | exact qa_nr_nx | exact qa_nr_jp | exact qa_nr_gf | exact qa_nr_pf | exact qa_nr_ald | exact qa_nr_ast | exact qa_nr_rld | exact qa_nr_rst | exact qa_nr_aln | exact qa_nr_new | exact qa_nr_nai | exact qa_nr_nar | exact qa_nr_inv | (split <;> first | exact qa_nr_nx | exact qa_nr_jp | exact qa_nr_br | exact qa_nr_sti | trivial | (split <;> first | exact qa_nr_nx | exact qa_nr_jp | trivial | (split <;> first | exact qa_nr_jp | trivial))) | trivial)
def qa_ncA : qa_Act → Prop
  | some (.inr (.inr _)) => False
  | _ => True
theorem qa_nc_t {x : qa_Act} {y : Nat × List qa_V × qa_C} (h : qa_ncA x) : x = some (.inr (.inr y)) → False := fun q => by
  rw [q] at h
  exact h
theorem qa_nc_nx {pc : Nat} {L : List qa_V} {M : List (Option Int64)} {S : List qa_V} {h : qa_H} : qa_ncA (qa_nx pc L M S h) := trivial
theorem qa_nc_jp {x : Option Nat} {L : List qa_V} {M : List (Option Int64)} {S : List qa_V} {h : qa_H} : qa_ncA (qa_jp x L M S h) := by
  unfold qa_jp; split <;> first | exact qa_nc_nx | trivial
theorem qa_nc_br {P : Bool} {x : Option Nat} {pc : Nat} {L : List qa_V} {M : List (Option Int64)} {S : List qa_V} {h : qa_H} : qa_ncA (qa_br P x pc L M S h) := by
  unfold qa_br; split <;> (try split) <;> first | exact qa_nc_nx | trivial
theorem qa_nc_ldi {i pc : Nat} {L : List qa_V} {M : List (Option Int64)} {S : List qa_V} {h : qa_H} : qa_ncA (qa_ldi pc i L M S h) := by
  unfold qa_ldi; split <;> first | exact qa_nc_nx | trivial
theorem qa_nc_lda {i pc : Nat} {L : List qa_V} {M : List (Option Int64)} {S : List qa_V} {h : qa_H} : qa_ncA (qa_lda pc i L M S h) := by
  unfold qa_lda; split <;> first | exact qa_nc_nx | trivial
theorem qa_nc_ldl {i pc : Nat} {L : List qa_V} {M : List (Option Int64)} {S : List qa_V} {h : qa_H} : qa_ncA (qa_ldl pc i L M S h) := by
  unfold qa_ldl; split <;> first | exact qa_nc_nx | trivial
theorem qa_nc_sti {i pc : Nat} {L : List qa_V} {M : List (Option Int64)} {S : List qa_V} {h : qa_H} : qa_ncA (qa_sti pc i L M S h) := by
  unfold qa_sti; split <;> (try split) <;> first | exact qa_nc_nx | trivial
theorem qa_nc_sta {i pc : Nat} {L : List qa_V} {M : List (Option Int64)} {S : List qa_V} {h : qa_H} : qa_ncA (qa_sta pc i L M S h) := by
  unfold qa_sta; split <;> (try split) <;> first | exact qa_nc_nx | trivial
theorem qa_nc_stl {i pc : Nat} {L : List qa_V} {M : List (Option Int64)} {S : List qa_V} {h : qa_H} : qa_ncA (qa_stl pc i L M S h) := by
  unfold qa_stl; split <;> (try split) <;> first | exact qa_nc_nx | trivial
theorem qa_nc_b2 {f : Int32 → Int32 → Int32} {pc : Nat} {L : List qa_V} {M : List (Option Int64)} {S : List qa_V} {h : qa_H} : qa_ncA (qa_b2 f pc L M S h) := by
  unfold qa_b2; split <;> first | exact qa_nc_nx | trivial
theorem qa_nc_d2 {f : Int32 → Int32 → Int32} {pc : Nat} {L : List qa_V} {M : List (Option Int64)} {S : List qa_V} {h : qa_H} : qa_ncA (qa_d2 f pc L M S h) := by
  unfold qa_d2; split <;> (try split) <;> first | exact qa_nc_nx | trivial
theorem qa_nc_l2 {f : Int64 → Int64 → Int64} {pc : Nat} {L : List qa_V} {M : List (Option Int64)} {S : List qa_V} {h : qa_H} : qa_ncA (qa_l2 f pc L M S h) := by
  unfold qa_l2; split <;> first | exact qa_nc_nx | trivial
theorem qa_nc_gf {own idx pc : Nat} {L : List qa_V} {M : List (Option Int64)} {S : List qa_V} {h : qa_H} : qa_ncA (qa_gf own idx pc L M S h) := by
  unfold qa_gf; split <;> (try split) <;> (try split) <;> first | exact qa_nc_nx | trivial
theorem qa_nc_pf {i : Bool} {own idx pc : Nat} {L : List qa_V} {M : List (Option Int64)} {S : List qa_V} {h : qa_H} : qa_ncA (qa_pf i own idx pc L M S h) := by
  unfold qa_pf; split <;> (try split) <;> first | exact trivial | trivial
theorem qa_nc_ald {pc : Nat} {L : List qa_V} {M : List (Option Int64)} {S : List qa_V} {h : qa_H} : qa_ncA (qa_ald pc L M S h) := by
  unfold qa_ald; split <;> (try split) <;> first | exact qa_nc_nx | trivial
theorem qa_nc_ast {pc : Nat} {L : List qa_V} {M : List (Option Int64)} {S : List qa_V} {h : qa_H} : qa_ncA (qa_ast pc L M S h) := by
  unfold qa_ast; split <;> (try split) <;> first | exact trivial | trivial
theorem qa_nc_rld {pc : Nat} {L : List qa_V} {M : List (Option Int64)} {S : List qa_V} {h : qa_H} : qa_ncA (qa_rld pc L M S h) := by
  unfold qa_rld; split <;> (try split) <;> first | exact qa_nc_nx | trivial
theorem qa_nc_rst {pc : Nat} {L : List qa_V} {M : List (Option Int64)} {S : List qa_V} {h : qa_H} : qa_ncA (qa_rst pc L M S h) := by
  unfold qa_rst; split <;> (try split) <;> first | exact trivial | trivial
theorem qa_nc_aln {pc : Nat} {L : List qa_V} {M : List (Option Int64)} {S : List qa_V} {h : qa_H} : qa_ncA (qa_aln pc L M S h) := by
  unfold qa_aln; split <;> (try split) <;> first | exact qa_nc_nx | trivial
theorem qa_nc_new {own idx pc : Nat} {L : List qa_V} {M : List (Option Int64)} {S : List qa_V} {h : qa_H} : qa_ncA (qa_new own idx pc L M S h) := by
  unfold qa_new; split <;> first | exact trivial | trivial
theorem qa_nc_nai {pc : Nat} {L : List qa_V} {M : List (Option Int64)} {S : List qa_V} {h : qa_H} : qa_ncA (qa_nai pc L M S h) := by
  unfold qa_nai; split <;> (try split) <;> first | exact trivial | trivial
theorem qa_nc_nar {own idx pc : Nat} {L : List qa_V} {M : List (Option Int64)} {S : List qa_V} {h : qa_H} : qa_ncA (qa_nar own idx pc L M S h) := by
  unfold qa_nar; split <;> (try split) <;> first | exact trivial | trivial
theorem qa_nc_acp {pc : Nat} {L : List qa_V} {M : List (Option Int64)} {S : List qa_V} {h : qa_H} : qa_ncA (qa_acp pc L M S h) := by
  unfold qa_acp; split <;> (try split) <;> first | exact trivial | trivial
theorem qa_ok_op {m pc len : Nat} {ins : Instr} {L : List qa_V} {M : List (Option Int64)} {S : List qa_V} {h : qa_H} : qa_okA h (qa_op m pc len ins L M S h) := by
  unfold qa_op
  split <;> first | exact qa_ok_ldi | exact qa_ok_lda | exact qa_ok_ldl | exact qa_ok_sti | exact qa_ok_sta | exact qa_ok_stl | exact qa_ok_b2 | exact qa_ok_d2 | exact qa_ok_l2 | exact qa_ok_nx | exact qa_ok_jp | exact qa_ok_gf | exact qa_ok_pf | exact qa_ok_ald | exact qa_ok_ast | exact qa_ok_rld | exact qa_ok_rst | exact qa_ok_aln | exact qa_ok_new | exact qa_ok_nai | exact qa_ok_nar | exact qa_ok_inv | (split <;> first | exact qa_ok_nx | exact qa_ok_jp | exact qa_ok_br | exact qa_ok_sti | trivial | (split <;> first | exact qa_ok_nx | exact qa_ok_jp | trivial | (split <;> first | exact qa_ok_jp | trivial))) | (unfold qa_ret; split <;> (try split) <;> first | rfl | trivial) | (unfold qa_rea; split <;> first | rfl | trivial) | (unfold qa_rel; split <;> (try split) <;> first | rfl | trivial) | (unfold qa_rev; split <;> (try split) <;> first | rfl | trivial) | trivial
theorem qa_ok_act {m : Nat} {c : qa_C} : qa_okA c.2.2.2.2 (qa_act m c) := by
  unfold qa_act
  split
  · exact qa_ok_op
  · trivial
theorem qa_mono_loop {ex : Nat → List qa_V → qa_H → Option qa_Rs} {m : Nat} (hex : ∀ k as h q, ex k as h = some q → h.2.2.2.1 ≤ q.2.2.2.2.1 ∧ h.2.2.2.2 ≤ q.2.2.2.2.2) : ∀ (f : Nat) (c : qa_C) (q : qa_Rs), qa_loop ex m f c = some q → c.2.2.2.2.2.2.2.1 ≤ q.2.2.2.2.1 ∧ c.2.2.2.2.2.2.2.2 ≤ q.2.2.2.2.2 := by
  intro f
  induction f with
  | zero => intro c q h; cases h
  | succ f ih =>
    intro c q h
    unfold qa_loop at h
    have hok := qa_ok_act (m := m) (c := c)
    split at h
    · cases h
    · rename_i c' ha
      rw [ha] at hok
      obtain ⟨g1, g2⟩ := ih _ _ h
      exact ⟨Nat.le_trans hok.1 g1, Nat.le_trans hok.2 g2⟩
    · rename_i r ha
      rw [ha] at hok
      have hq := Option.some.inj h
      have hok : c.2.2.2.2 = r.2 := hok
      rw [← hq, hok]
      exact ⟨Nat.le_refl _, Nat.le_refl _⟩
    · rename_i k as c' ha
      rw [ha] at hok
      have hok : c.2.2.2.2 = c'.2.2.2.2 := hok
      cases hx : ex k as c'.2.2.2.2 with
      | none => rw [hx] at h; cases h
      | some r =>
        rw [hx] at h
        obtain ⟨g1, g2⟩ := ih _ _ h
        obtain ⟨e1, e2⟩ := hex _ _ _ _ hx
        rw [hok]
        exact ⟨Nat.le_trans e1 g1, Nat.le_trans e2 g2⟩
theorem qa_ex_loop {d m : Nat} {as : List qa_V} {h : qa_H} {q : qa_Rs} (hx : qa_ex (d + 1) m as h = some q) : as.length = (qa_mt m).2.2.2.2.2.1 ∧ ∃ f, qa_loop (qa_ex d) m f (0, as ++ List.replicate ((qa_mt m).2.2.2.1 - as.length) qa_u, List.replicate (qa_mt m).2.2.2.2.2.2.2.1 none, [], h) = some q := by
  unfold qa_ex at hx
  split at hx
  · rename_i hl
    exact ⟨hl, (qa_lim_iff (fun r k f hf => qa_loop_m _ _ _ r k f hf) q).mp hx⟩
  · cases hx
theorem qa_mono_ex : ∀ (d m : Nat) (as : List qa_V) (h : qa_H) (q : qa_Rs), qa_ex d m as h = some q → h.2.2.2.1 ≤ q.2.2.2.2.1 ∧ h.2.2.2.2 ≤ q.2.2.2.2.2 := by
  intro d
  induction d with
  | zero => intro m as h q hx; cases hx
  | succ d ih =>
    intro m as h q hx
    obtain ⟨-, f, hf⟩ := qa_ex_loop hx
    exact qa_mono_loop ih f _ q hf
section QX
variable {p : Program} {l : Launch} {e : Env} {R : Room} {s : State} {mm : MethodId} {args : Array Value} {below : List Frame} {meth : Method} {co : Code} {Q : State → Prop} {D : va_G} {cs : Nat → ClassId} {o b n0 z0 m : Nat}
theorem qa_s_iin {pc i : Nat} {n : Int} {L : List qa_V} {M : List (Option Int64)} {S : List qa_V} {h : qa_H} {x : Int32} {c' : qa_C} (hC : qa_At p s mm meth co args D cs o b n0 m) (hd : decode (qa_code m) pc = .ok (.iinc i n, 3)) (hL0 : L[i]? = some (.inl x))
    (ha : qa_sti (pc + 3) i L M (qa_i (x + Int32.ofInt n) :: S) h = some (.inl c')) (hG : qa_G p l e R s mm args below meth co Q D cs o b n0 z0 m c') : qa_G p l e R s mm args below meth co Q D cs o b n0 z0 m (pc, L, M, S, h) := by
  obtain ⟨hx, hb, -⟩ := hC
  have ha : (if i < L.length ∧ qa_fr M i = true then qa_nx (pc + 3) (L.set i (qa_i (x + Int32.ofInt n))) M S h else none) = some (.inl c') := ha
  by_cases hc : i < L.length ∧ qa_fr M i = true
  · rw [if_pos hc] at ha
    rw [qa_nx_eq ha] at hG
    intro H locs ls hR hL hS h1 h2
    dsimp only at hR hL h1 h2 ⊢
    obtain ⟨j, hj⟩ := List.getElem?_of_mem (qa_lp_in (o := o) (b := b) (M := M).mpr (Or.inl ⟨(Sum.inl x : qa_V), hL0, rfl, rfl⟩) : (i, Value.int x) ∈ qa_lp o b L M)
    exact lv_iinc (v := x + Int32.ofInt n) hx hb hd (qa_Lc_has hL) hj rfl (by rw [← hL.1]; exact hc.1) rfl (fun ls' hl => hG H locs ls' hR (qa_Lc_s1 (v := qa_i (x + Int32.ofInt n)) hL hc.1 hc.2 rfl hl) hS h1 h2)
  · rw [if_neg hc] at ha
    cases ha
theorem qa_co_ok {own idx : Nat} {v : Int32} (h : qa_co own idx = some v) : (Jvm.Cond.constant (qa_on own) idx v) ∈ qa_tb := by
  unfold qa_co at h
  cases hf : qa_cst.find? (fun q => q.1 == own && q.2.1 == idx) with
  | none => rw [hf] at h; cases h
  | some q =>
    rw [hf] at h
    have hk := Option.some.inj h
    have hp := List.find?_some hf
    simp only [Bool.and_eq_true, beq_iff_eq] at hp
    have g1 := qa_cst_ok q (List.mem_of_find?_eq_some hf)
    obtain ⟨e1, e2⟩ := hp
    simp only at hk
    rw [← e1, ← e2, ← hk]
    exact qa_in g1 rfl
theorem qa_s_one {pc pc' : Nat} {L : List qa_V} {M : List (Option Int64)} {S S' : List qa_V} {h : qa_H} {c' : qa_C} (hk : ∀ {H : Heap} {locs : List Loc} {cells slots : Nat} {ls : Array Slot}, W p l e R s mm args below meth co H locs cells slots Q (F0 mm pc' ls (S'.map (qa_tv o b))) → W p l e R s mm args below meth co H locs cells slots Q (F0 mm pc ls (S.map (qa_tv o b))))
    (ha : qa_nx pc' L M S' h = some (.inl c')) (hG : qa_G p l e R s mm args below meth co Q D cs o b n0 z0 m c') : qa_G p l e R s mm args below meth co Q D cs o b n0 z0 m (pc, L, M, S, h) := by
  rw [qa_nx_eq ha] at hG
  intro H locs ls hR hL hS h1 h2
  exact hk (hG H locs ls hR hL hS h1 h2)
theorem qa_s_jmp {pc : Nat} {x : Option Nat} {L : List qa_V} {M : List (Option Int64)} {S S' : List qa_V} {h : qa_H} {c' : qa_C} (hk : ∀ {t : Nat} {H : Heap} {locs : List Loc} {cells slots : Nat} {ls : Array Slot}, x = some t → W p l e R s mm args below meth co H locs cells slots Q (F0 mm t ls (S'.map (qa_tv o b))) → W p l e R s mm args below meth co H locs cells slots Q (F0 mm pc ls (S.map (qa_tv o b))))
    (ha : qa_jp x L M S' h = some (.inl c')) (hG : qa_G p l e R s mm args below meth co Q D cs o b n0 z0 m c') : qa_G p l e R s mm args below meth co Q D cs o b n0 z0 m (pc, L, M, S, h) := by
  obtain ⟨t, ht, hc⟩ := qa_jp_eq ha
  rw [hc] at hG
  intro H locs ls hR hL hS h1 h2
  exact hk ht (hG H locs ls hR hL hS h1 h2)
theorem qa_s_inv {pc kd0 idx : Nat} {L : List qa_V} {M : List (Option Int64)} {S : List qa_V} {h : qa_H} {c' : qa_C} (hC : qa_At p s mm meth co args D cs o b n0 m) (hd : decode (qa_code m) pc = .ok (if kd0 = 0 then .invokestatic idx else if kd0 = 1 then .invokevirtual idx else .invokespecial idx, 3)) (hkl : kd0 < 3)
    (hrf : 1 ≤ R.frames) (hrl : 80 ≤ R.locals) (ha : qa_inv kd0 (qa_own m) idx (pc + 3) L M S h = some (.inl c')) (hG : qa_G p l e R s mm args below meth co Q D cs o b n0 z0 m c') : qa_G p l e R s mm args below meth co Q D cs o b n0 z0 m (pc, L, M, S, h) := by
  obtain ⟨hx, hb, hr, hml, hown, hts, hlk, hini, hK, hTb, hbo, hsz, hn0⟩ := id hC
  unfold qa_inv at ha
  split at ha
  · rename_i kd c hmk
    obtain ⟨-, -, -, -, l4, l5, -⟩ := qa_ml_ok hmk
    split at ha
    · rename_i hk4
      obtain ⟨k4, rfl⟩ := hk4
      split at ha
      · rename_i a S'
        split at ha
        · rename_i hs8
          rw [qa_nx_eq ha] at hG
          rw [if_neg (by decide), if_neg (by decide)] at hd
          intro H locs ls hR hL hS h1 h2
          dsimp only at hR hL h1 h2 ⊢
          refine W.objInit (g := F0 mm pc ls (.ref (qa_ad o b a) :: S'.map (qa_tv o b))) hx hb hown (hts _ (l4 k4)) (hts _ (List.mem_filter.mpr ⟨qa_w_oi1, rfl⟩)) (hts _ (List.mem_filter.mpr ⟨qa_w_oi2, rfl⟩)) rfl (by rw [hml]; exact hL.2.1) rfl hd hrf ?_ ?_
          · show 2 * 0 + _ + 12 ≤ _
            rw [qa_sum_tv]
            omega
          · exact hG H locs ls hR hL hS h1 h2
        · cases ha
      · cases ha
    · split at ha
      · rename_i hk5
        obtain ⟨k5, rfl⟩ := hk5
        exact qa_s_acp hC hd (l5 k5) hrf hrl ha hG
      · split at ha
        · unfold qa_cal at ha
          split at ha <;> cases ha
        · cases ha
  · cases ha
theorem qa_s_act {c c' : qa_C} (hC : qa_At p s mm meth co args D cs o b n0 m) (hrf : 1 ≤ R.frames) (hrl : 80 ≤ R.locals) (hrm : c'.2.2.2.2.2.2.2.1 - n0 ≤ R.cells ∧ c'.2.2.2.2.2.2.2.2 - z0 ≤ R.slots)
    (ha : qa_act m c = some (.inl c')) (hG : qa_G p l e R s mm args below meth co Q D cs o b n0 z0 m c') : qa_G p l e R s mm args below meth co Q D cs o b n0 z0 m c := by
  obtain ⟨pc, L, M, S, h⟩ := c
  unfold qa_act at ha
  split at ha
  · rename_i ins len hd
    dsimp only at hd ha
    obtain ⟨hx, hb, hr, hml, hown, hts, hlk, hini, hK, hTb, hbo, hsz, hn0⟩ := id hC
    unfold qa_op at ha
    split at ha
    · exact qa_s_ldi (fun h1 w => lv_iload_n hx hb hd rfl h1 w) ha hG
    · exact qa_s_ldi (fun h1 w => lv_iload hx hb hd h1 w) ha hG
    · exact qa_s_lda (fun h1 w => lv_aload_n hx hb hd rfl h1 w) (fun h1 w => lv_aload_nN hx hb hd rfl h1 w) ha hG
    · exact qa_s_lda (fun h1 w => lv_aload hx hb hd h1 w) (fun h1 w => lv_aloadN hx hb hd h1 w) ha hG
    · exact qa_s_ldl (fun h1 w => lv_lload_n hx hb hd rfl h1 w) ha hG
    · exact qa_s_ldl (fun h1 w => lv_lload hx hb hd h1 w) ha hG
    · exact qa_s_sti (fun h1 h2 w => lv_istore_n hx hb hd rfl h1 h2 rfl w) ha hG
    · exact qa_s_sti (fun h1 h2 w => lv_istore hx hb hd h1 h2 rfl w) ha hG
    · exact qa_s_sta (fun h1 h2 w => lv_astore_n hx hb hd rfl h1 h2 rfl w) (fun h1 h2 w => lv_astore_nN hx hb hd rfl h1 h2 rfl w) ha hG
    · exact qa_s_sta (fun h1 h2 w => lv_astore hx hb hd h1 h2 rfl w) (fun h1 h2 w => lv_astoreN hx hb hd h1 h2 rfl w) ha hG
    · exact qa_s_stl (fun h1 h2 w => lv_lstore_n hx hb hd rfl h1 h2 rfl w) ha hG
    · exact qa_s_stl (fun h1 h2 w => lv_lstore hx hb hd h1 h2 rfl w) ha hG
    · split at ha
      · rename_i x hx0
        exact qa_s_iin hC hd hx0 ha hG
      · cases ha
    · exact qa_s_k (fun w => lv_iconst hx hb hd rfl w) ha hG
    · exact qa_s_k (fun w => lv_bipush hx hb hd rfl w) ha hG
    · exact qa_s_k (fun w => lv_sipush hx hb hd rfl w) ha hG
    · split at ha
      · rename_i v hv
        exact qa_s_k (fun w => lv_ldcw hx hb hown (hts _ (qa_co_ok hv)) hd w) ha hG
      · cases ha
    · exact qa_s_k (fun w => lv_null hx hb hd w) ha hG
    · exact qa_s_b2 (fun w => lv_iadd hx hb hd w) ha hG
    · exact qa_s_b2 (fun w => lv_isub hx hb hd w) ha hG
    · exact qa_s_b2 (fun w => lv_imul hx hb hd w) ha hG
    · exact qa_s_b2 (fun w => lv_iand hx hb hd w) ha hG
    · exact qa_s_b2 (fun w => lv_ior hx hb hd w) ha hG
    · exact qa_s_b2 (fun w => lv_ixor hx hb hd w) ha hG
    · exact qa_s_b2 (fun w => lv_ishl hx hb hd w) ha hG
    · exact qa_s_b2 (fun w => lv_ishr hx hb hd w) ha hG
    · exact qa_s_b2 (fun w => lv_iushr hx hb hd rfl w) ha hG
    · exact qa_s_d2 (fun h1 w => lv_idiv hx hb hd h1 w) ha hG
    · exact qa_s_d2 (fun h1 w => lv_irem hx hb hd h1 w) ha hG
    · exact qa_s_l2 (fun w => lv_ladd hx hb hd w) ha hG
    · exact qa_s_l2 (fun w => lv_lsub hx hb hd w) ha hG
    · exact qa_s_l2 (fun w => lv_lmul hx hb hd w) ha hG
    · split at ha
      · exact qa_s_one (fun w => W.lcmp hx hb hd w) ha hG
      · cases ha
    · split at ha
      · exact qa_s_one (fun w => lv_i2l hx hb hd rfl w) ha hG
      · cases ha
    · split at ha
      · split at ha
        · rename_i hv
          exact qa_s_one (fun w => lv_dup hx hb hd (qa_ct_ia hv) w) ha hG
        · cases ha
      · cases ha
    · split at ha
      · split at ha
        · rename_i hv
          exact qa_s_one (fun w => lv_dup2_11 hx hb hd (qa_ct_ia hv.1) (qa_ct_ia hv.2) w) ha hG
        · cases ha
      · cases ha
    · split at ha
      · split at ha
        · rename_i hv
          exact qa_s_one (fun w => lv_pop hx hb hd (qa_ct_ia hv) w) ha hG
        · cases ha
      · cases ha
    · split at ha
      · exact qa_s_if1 hC hd ha hG
      · cases ha
    · split at ha
      · exact qa_s_if2 hC hd ha hG
      · cases ha
    · split at ha
      · exact qa_s_acm hC hd ha hG
      · cases ha
    · split at ha
      · exact qa_s_jmp (fun ht w => lv_ifnullN hx hb hd (qa_tg_eq ht) w) ha hG
      · exact qa_s_one (fun w => lv_ifnull hx hb hd w) ha hG
      · cases ha
    · split at ha
      · exact qa_s_jmp (fun ht w => lv_ifnonnull hx hb hd (qa_tg_eq ht) w) ha hG
      · exact qa_s_one (fun w => lv_ifnonnullN hx hb hd w) ha hG
      · cases ha
    · exact qa_s_jmp (fun ht w => lv_goto hx hb hd (qa_tg_eq ht) w) ha hG
    · split at ha
      · split at ha
        · rename_i hq
          exact qa_s_jmp (fun ht w => lv_tableOut hx hb hd hq (qa_tg_eq ht) w) ha hG
        · rename_i hq
          split at ha
          · rename_i off ho
            exact qa_s_jmp (fun ht w => lv_tableIn hx hb hd (fun q => hq (Or.inl q)) (fun q => hq (Or.inr q)) ho (qa_tg_eq ht) w) ha hG
          · cases ha
      · cases ha
    · split at ha
      · split at ha
        · rename_i hq
          exact qa_s_jmp (fun ht w => lv_lookup hx hb hd hq rfl (qa_tg_eq ht) w) ha hG
        · cases ha
      · cases ha
    · exact qa_s_gf hC hd ha hG
    · exact qa_s_pf hC hd ha hG
    · exact qa_s_ald hC hd ha hG
    · exact qa_s_ast hC hd ha hG
    · exact qa_s_rld hC hd ha hG
    · exact qa_s_rst hC hd ha hG
    · exact qa_s_aln hC hd ha hG
    · exact qa_s_new hC hd hrm ha hG
    · exact qa_s_nai hC hd hrm ha hG
    · exact qa_s_nar hC hd hrm ha hG
    · exact qa_s_inv (kd0 := 0) hC hd (by omega) hrf hrl ha hG
    · exact qa_s_inv (kd0 := 1) hC hd (by omega) hrf hrl ha hG
    · exact qa_s_inv (kd0 := 2) hC hd (by omega) hrf hrl ha hG
    · unfold qa_ret at ha; split at ha
      · split at ha <;> cases ha
      · cases ha
    · unfold qa_rea at ha; split at ha <;> cases ha
    · unfold qa_rel at ha; split at ha
      · split at ha <;> cases ha
      · cases ha
    · unfold qa_rev at ha; split at ha
      · split at ha <;> cases ha
      · cases ha
    · cases ha
  · cases ha
/-- the end of a method -/
theorem qa_s_ret {c : qa_C} {r : Option qa_V} {h' : qa_H} (hC : qa_At p s mm meth co args D cs o b n0 m) (ha : qa_act m c = some (.inr (.inl (r, h')))) :
    qa_G p l e R s mm args below meth co (MQ below (qa_Qe D cs o b r h') args s (h'.2.2.2.1 - n0) (h'.2.2.2.2 - z0) (qa_Ar o)) D cs o b n0 z0 m c := by
  obtain ⟨pc, L, M, S, h⟩ := c
  have hok := qa_ok_act (m := m) (c := (pc, L, M, S, h))
  rw [ha] at hok
  have hok : h = h' := hok
  subst hok
  unfold qa_act at ha
  split at ha
  · rename_i ins len hd
    dsimp only at hd ha
    obtain ⟨hx, hb, hr, hml, hown, hts, hlk, hini, hK, hTb, hbo, hsz, hn0⟩ := id hC
    have fin : ∀ {H : Heap} {locs : List Loc}, qa_Rel D cs o b h s H → va_S (qa_Ar o) s.heap H locs → ∀ t : State, t.heap = H → s.WarmedH t.vm → qa_Qe D cs o b r h args s (.returned (r.map (qa_tv o b))) t := by
      intro H locs hR hS t ht hW
      exact ⟨⟨rfl, by rw [ht]; exact qa_Rel_vm hW.alike hR⟩, hS.F ht⟩
    rcases qa_nr_op (m := m) (pc := pc) (len := len) (ins := ins) (L := L) (M := M) (S := S) (h := h) with hn | ⟨rfl, hi⟩
    · rw [ha] at hn
      exact hn.elim
    · intro H locs ls hR hL hS h1 h2
      dsimp only at hR hL h1 h2 ⊢
      rcases hi with rfl | rfl | rfl | rfl
      · replace ha : qa_ret (qa_mt m).2.2.2.2.1 S h = some (.inr (.inl (r, h))) := ha
        unfold qa_ret at ha
        split at ha
        · rename_i x
          split at ha
          · rename_i hc
            have hrr := (Prod.mk.inj (Sum.inl.inj (Sum.inr.inj (Option.some.inj ha)))).1
            rw [← hrr] at fin ⊢
            rcases hc with q | ⟨q, q2⟩
            · exact W.zret (v := x) hx hb (hr.trans q) rfl (fin hR hS) hS.2.2 hd hlk
            · exact W.zret (v := x) hx hb (hr.trans q) (by rcases q2 with rfl | rfl <;> rfl) (fin hR hS) hS.2.2 hd hlk
          · cases ha
        · cases ha
      · replace ha : qa_rea (qa_mt m).2.2.2.2.1 S h = some (.inr (.inl (r, h))) := ha
        unfold qa_rea at ha
        split at ha
        · rename_i x C hrt
          have hrr := (Prod.mk.inj (Sum.inl.inj (Sum.inr.inj (Option.some.inj ha)))).1
          rw [← hrr] at fin ⊢
          refine W.aret (v := qa_tv o b (qa_a x)) hx hb (hr.trans hrt) (Or.inl ⟨_, rfl⟩) ?_ (fin hR hS) hS.2.2 hd hlk
          cases x with
          | none => exact Or.inl rfl
          | some a => exact Or.inr ⟨_, rfl⟩
        · cases ha
      · replace ha : qa_rel (qa_mt m).2.2.2.2.1 S h = some (.inr (.inl (r, h))) := ha
        unfold qa_rel at ha
        split at ha
        · rename_i x
          split at ha
          · rename_i hc
            have hrr := (Prod.mk.inj (Sum.inl.inj (Sum.inr.inj (Option.some.inj ha)))).1
            rw [← hrr] at fin ⊢
            exact W.lret (v := x) hx hb (hr.trans hc) (fin hR hS) hS.2.2 hd hlk
          · cases ha
        · cases ha
      · replace ha : qa_rev (qa_mt m).2.2.2.2.1 S h = some (.inr (.inl (r, h))) := ha
        unfold qa_rev at ha
        split at ha
        · split at ha
          · rename_i hc
            have hrr := (Prod.mk.inj (Sum.inl.inj (Sum.inr.inj (Option.some.inj ha)))).1
            rw [← hrr] at fin ⊢
            exact W.vret hx hb (hr.trans hc) (fin hR hS) hS.2.2 hd hlk
          · cases ha
        · cases ha
  · cases ha
theorem qa_s_calA {d k : Nat} {c c' : qa_C} {as : List qa_V} {r : Option qa_V} {h' : qa_H} (hC : qa_At p s mm meth co args D cs o b n0 m) (ha : qa_act m c = some (.inr (.inr (k, as, c')))) (hct : k < qa_law → as.all qa_ia = true → qa_Ct l D cs o b d k as c'.2.2.2.2 r h') (hm1 : c'.2.2.2.2.2.2.2.1 ≤ h'.2.2.2.1) (hm2 : c'.2.2.2.2.2.2.2.2 ≤ h'.2.2.2.2) (hrf : d + 1 ≤ R.frames) (hrl : 80 * (d + 1) ≤ R.locals) (hrm : h'.2.2.2.1 - n0 ≤ R.cells ∧ h'.2.2.2.2 - z0 ≤ R.slots)
    (hG : qa_G p l e R s mm args below meth co Q D cs o b n0 z0 m (qa_push (r, h') c')) : qa_G p l e R s mm args below meth co Q D cs o b n0 z0 m c := by
  obtain ⟨pc, L, M, S, h⟩ := c
  have hok := qa_ok_act (m := m) (c := (pc, L, M, S, h))
  rw [ha] at hok
  have hok : h = c'.2.2.2.2 := hok
  unfold qa_act at ha
  split at ha
  · rename_i ins len hd
    dsimp only at hd ha
    have key : ∀ (kd0 idx : Nat), kd0 < 3 → decode (qa_code m) pc = .ok (if kd0 = 0 then .invokestatic idx else if kd0 = 1 then .invokevirtual idx else .invokespecial idx, 3) → qa_inv kd0 (qa_own m) idx (pc + 3) L M S h = some (.inr (.inr (k, as, c'))) → qa_G p l e R s mm args below meth co Q D cs o b n0 z0 m (pc, L, M, S, h) := by
      intro kd0 idx hkl hd ha
      unfold qa_inv at ha
      split at ha
      · rename_i kd c hmk
        split at ha
        · split at ha
          · split at ha <;> cases ha
          · cases ha
        · split at ha
          · unfold qa_acp at ha
            split at ha
            · split at ha <;> cases ha
            · cases ha
          · split at ha
            · rename_i hkd
              have hkc : k = c ∧ as.all qa_ia = true := by
                unfold qa_cal at ha
                split at ha
                · rename_i hcd
                  obtain ⟨q1, q2⟩ := Prod.mk.inj (Sum.inr.inj (Sum.inr.inj (Option.some.inj ha)))
                  obtain ⟨q3, -⟩ := Prod.mk.inj q2
                  refine ⟨q1.symm, ?_⟩
                  rw [← q3, List.all_reverse]
                  exact hcd.2.2.1
                · cases ha
              have hct' := hct (by rw [hkc.1]; exact (qa_ml_ok hmk).1) hkc.2
              exact qa_s_cal hC hmk hkd hd hkl ha hct' (by rw [hok]; exact hm1) (by rw [hok]; exact hm2) hrf hrl hrm hG
            · cases ha
      · cases ha
    unfold qa_op at ha
    split at ha
    all_goals first
      | exact key 0 _ (by omega) hd ha
      | exact key 1 _ (by omega) hd ha
      | exact key 2 _ (by omega) hd ha
      | (exfalso; revert ha; refine qa_nc_t ?_; first | exact qa_nc_ldi | exact qa_nc_lda | exact qa_nc_ldl | exact qa_nc_sti | exact qa_nc_sta | exact qa_nc_stl | exact qa_nc_b2 | exact qa_nc_d2 | exact qa_nc_l2 | exact qa_nc_nx | exact qa_nc_jp | exact qa_nc_gf | exact qa_nc_pf | exact qa_nc_ald | exact qa_nc_ast | exact qa_nc_rld | exact qa_nc_rst | exact qa_nc_aln | exact qa_nc_new | exact qa_nc_nai | exact qa_nc_nar | (split <;> first | exact qa_nc_nx | exact qa_nc_jp | exact qa_nc_br | exact qa_nc_sti | trivial | (split <;> first | exact qa_nc_nx | exact qa_nc_jp | trivial | (split <;> first | exact qa_nc_jp | trivial))) | (unfold qa_ret; split <;> (try split) <;> trivial) | (unfold qa_rea; split <;> trivial) | (unfold qa_rel; split <;> (try split) <;> trivial) | (unfold qa_rev; split <;> (try split) <;> trivial) | trivial)
  · cases ha
end QX
section QY
variable {p : Program} {l : Launch} {e : Env} {R : Room} {s : State} {mm : MethodId} {args : Array Value} {below : List Frame} {meth : Method} {co : Code} {D : va_G} {cs : Nat → ClassId} {o b n0 z0 m : Nat}
theorem qa_s_loop {d : Nat} (IH : ∀ (k : Nat) (as : List qa_V) (h : qa_H) (q : qa_Rs), qa_ex d k as h = some q → k < qa_law → as.all qa_ia = true → qa_Ct l D cs o b d k as h q.1 q.2) (hC : qa_At p s mm meth co args D cs o b n0 m) (hrf : d + 1 ≤ R.frames) (hrl : 80 * (d + 1) ≤ R.locals) :
    ∀ (f : Nat) (c : qa_C) (q : qa_Rs), qa_loop (qa_ex d) m f c = some q → q.2.2.2.2.1 - n0 ≤ R.cells ∧ q.2.2.2.2.2 - z0 ≤ R.slots →
      qa_G p l e R s mm args below meth co (MQ below (qa_Qe D cs o b q.1 q.2) args s (q.2.2.2.2.1 - n0) (q.2.2.2.2.2 - z0) (qa_Ar o)) D cs o b n0 z0 m c := by
  intro f
  induction f with
  | zero => intro c q h; cases h
  | succ f ih =>
    intro c q h hrm
    unfold qa_loop at h
    split at h
    · cases h
    · rename_i c' ha
      have hmn := qa_mono_loop (qa_mono_ex d) f c' q h
      exact qa_s_act hC (by omega) (by omega) ⟨by omega, by omega⟩ ha (ih c' q h hrm)
    · rename_i r ha
      have hq := Option.some.inj h
      subst hq
      exact qa_s_ret hC ha
    · rename_i k as c' ha
      cases hx : qa_ex d k as c'.2.2.2.2 with
      | none => rw [hx] at h; cases h
      | some r =>
        rw [hx] at h
        have h : qa_loop (qa_ex d) m f (qa_push r c') = some q := h
        have hmn := qa_mono_loop (qa_mono_ex d) f _ q h
        obtain ⟨e1, e2⟩ := qa_mono_ex d _ _ _ _ hx
        simp only [qa_push] at hmn
        exact qa_s_calA (r := r.1) (h' := r.2) hC ha (fun hk hia => IH _ _ _ _ hx hk hia) e1 e2 hrf hrl ⟨by omega, by omega⟩ (ih _ q h hrm)
end QY
theorem qa_ofW {l : Launch} {y : MethodName} {ws ws' : List Jvm.Cond} {rm : Room} {Pc : Array Value → State → Prop} {Qc : Array Value → State → Outcome → State → Prop} {mc ms : Nat} {free : Addr → Prop} {cc : ByteArray} {maxL : Nat} {ret : Option FieldType}
    (hy : plainFor y = true) (hw : ws = Jvm.Cond.code y cc maxL ret :: ws')
    (body : ∀ p e s m args below meth c s₁, BodyLoose p l y (headSpec ws rm) cc maxL ret e s m args below meth c s₁ → c.maxLocals = maxL → Pc args s →
      W p l e (headSpec ws rm).room s m args below meth c s.heap [] 0 0 (MQ below Qc args s mc ms free) (entryFrame m args maxL)) : Met l y ws rm Pc Qc mc ms free := by
  refine MetFree.of_bodySF (code := cc) (maxLocals := maxL) (ret := ret) hy ?_ ?_
  · intro args s m h hn
    obtain ⟨meth, c, h1, h2, h3, h4, h5, h6, -, -⟩ := Cond.code_spec hn (atoms_spec (ws := ws) h _ (by rw [hw]; exact List.mem_cons_self))
    exact ⟨meth, c, h1, h2, h3, h4, h5, h6⟩
  · intro p e s m args below meth c s₁ B hml hP _
    have hh0 : s₁.heap = s.heap := by rw [B.state]; rfl
    obtain ⟨t, a1, o, b1, b2, b3⟩ := body p e s m args below meth c s₁ B hml hP s₁ hh0 (Stand.of_body B)
    exact ⟨t, o, a1, b1, b2, ⟨b3.1, b3.2⟩⟩
theorem qa_lg_sl {o b : Nat} {as : List qa_V} (h : as.all qa_ia = true) : lg_sl (as.map (qa_tv o b)) = as.map (fun v => Slot.val (qa_tv o b v)) := by
  induction as with
  | nil => rfl
  | cons v as ih =>
    rw [List.all_cons, Bool.and_eq_true] at h
    have h1 := qa_ct_ia (o := o) (b := b) h.1
    have h2 := ih h.2
    unfold lg_sl at h2 ⊢
    rw [List.map_cons, List.flatMap_cons, h2, if_neg (by omega)]
    rfl
theorem qa_args_at {o b : Nat} : ∀ (as : List qa_V) (k : Nat), as.all qa_ia = true → ∀ (i : Nat) (v : qa_V), as[i]? = some v → (k + i, qa_tv o b v) ∈ lv_args k (as.map (qa_tv o b)) := by
  intro as
  induction as with
  | nil => intro k h i v hv; cases hv
  | cons w as ih =>
    intro k h i v hv
    rw [List.all_cons, Bool.and_eq_true] at h
    have h1 := qa_ct_ia (o := o) (b := b) h.1
    have hu : lv_args k ((w :: as).map (qa_tv o b)) = (k, qa_tv o b w) :: lv_args (k + 1) (as.map (qa_tv o b)) := by
      show (k, qa_tv o b w) :: lv_args (if (qa_tv o b w).category = 2 then k + 2 else k + 1) (as.map (qa_tv o b)) = _
      rw [if_neg (by omega)]
    rw [hu]
    cases i with
    | zero =>
      cases hv
      exact List.mem_cons_self
    | succ i =>
      refine List.mem_cons_of_mem _ ?_
      have h3 := ih (k + 1) h.2 i v hv
      rw [show k + (i + 1) = k + 1 + i by omega]
      exact h3
/-- the locals at a method's entry -/
theorem qa_Lc_en {o b nL ml : Nat} {as : List qa_V} (ha : as.all qa_ia = true) (hl : as.length ≤ nL) : qa_Lc o b nL (as ++ List.replicate (nL - as.length) qa_u) (List.replicate ml none) ((lg_sl (as.map (qa_tv o b)) ++ List.replicate (nL - (lg_sl (as.map (qa_tv o b))).length) Slot.unset).toArray) := by
  have hlen : (lg_sl (as.map (qa_tv o b))).length = as.length := by rw [qa_lg_sl ha]; simp
  obtain ⟨g1, g2, g3⟩ := lv_entry (as.map (qa_tv o b)) (n := nL) (by rw [hlen]; exact hl)
  refine ⟨by simp; omega, g1, g2, fun i v hv hia => ?_, fun i x hx => ?_⟩
  · by_cases hi : i < as.length
    · rw [List.getElem?_append_left hi] at hv
      have h1 := g3 _ (qa_args_at (o := o) (b := b) as 0 ha i v hv)
      rw [Nat.zero_add] at h1
      exact h1
    · rw [List.getElem?_append_right (by omega), List.getElem?_replicate] at hv
      split at hv
      · cases hv
        cases hia
      · cases hv
  · rw [List.getElem?_replicate] at hx
    split at hx
    · cases Option.some.inj hx
    · cases hx
theorem qa_sound (l : Launch) (D : va_G) (cs : Nat → ClassId) (o b : Nat) (hbo : b ≤ o) : ∀ (d m : Nat) (as : List qa_V) (h : qa_H) (q : qa_Rs), qa_ex d m as h = some q → m < qa_law → as.all qa_ia = true → qa_Ct l D cs o b d m as h q.1 q.2 := by
  intro d
  induction d with
  | zero => intro m as h q hx; cases hx
  | succ d ih =>
    intro m as h q hx hm hia
    obtain ⟨hal, f, hf⟩ := qa_ex_loop hx
    have hmn := qa_mono_ex _ _ _ _ _ hx
    obtain ⟨i1, i2⟩ := qa_m_in hm
    unfold qa_Ct
    refine qa_ofW (cc := qa_code m) (maxL := (qa_mt m).2.2.2.1) (ret := (qa_mt m).2.2.2.2.1) (qa_md8 _ i2).2.2 rfl ?_
    intro p e s mm args below meth co s₁ B hml hP
    obtain ⟨hargs, hR, hK, hTb⟩ := hP
    have hts := atoms_spec (ws := Jvm.Cond.code (qa_mt m).2.1 (qa_code m) (qa_mt m).2.2.2.1 (qa_mt m).2.2.2.2.1 :: qa_tb) B.pre
    have hown : s.vm.findClass (qa_on (qa_own m)) = some mm.cls := by
      rw [show qa_on (qa_own m) = (qa_mt m).2.1.cls from (qa_md0 _ i2).symm]
      exact findClass_of_methodNamed B.named
    have hC : qa_At p s mm meth co args D cs o b h.2.2.2.1 m := ⟨B.exec, B.bytes, B.returns, hml, hown, fun w hw => hts w (List.mem_cons_of_mem _ hw), B.notSynchronized, fun hk => by
      rw [(name_of_methodNamed B.named B.method).1]
      exact (qa_md5 _ i2).mpr hk, hK, hTb, hbo, hR.1, hR.2.1⟩
    have G := qa_s_loop (p := p) (e := e) (R := { frames := d + 1, cells := q.2.2.2.2.1 - h.2.2.2.1, slots := q.2.2.2.2.2 - h.2.2.2.2, locals := 80 * (d + 1) }) (below := below) (z0 := h.2.2.2.2) ih hC (Nat.le_refl _) (Nat.le_refl _) f _ q hf ⟨Nat.le_refl _, Nat.le_refl _⟩
    have w := G s.heap [] _ hR (qa_Lc_en (ml := (qa_mt m).2.2.2.2.2.2.2.1) hia (by rw [hal]; exact qa_md3 _ i2)) va_S.rf (Nat.le_refl _) (Nat.le_refl _)
    dsimp only at w
    rw [Nat.sub_self, Nat.sub_self] at w
    rw [hargs, lg_entry_eq]
    rw [hargs] at w
    exact w
