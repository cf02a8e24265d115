/-! THE TIE: the heap only grows; what an instruction can come to -/
def z_fa (P : zR → Prop) (r : Option zR) : Prop := ∀ x, r = some x → P x
theorem zp_none {P : zR → Prop} : z_fa P none := fun q e => by cases e
theorem zp_some {P : zR → Prop} {x : zR} (h : P x) : z_fa P (some x) := fun q e => by cases e; exact h
theorem zp_ob {P : zR → Prop} {α : Type} {o : Option α} {f : α → Option zR} (hf : ∀ x, z_fa P (f x)) : z_fa P (z_ob o f) := by
  cases o with
  | none => exact zp_none
  | some x => exact hf x
theorem zp_put {P : zR → Prop} {h : zH} {v : Value} {e : zE} {f : zH → Option zR} (hf : ∀ h2 : zH, h.1 ≤ h2.1 → h.2.1 ≤ h2.2.1 → z_fa P (f h2)) : z_fa P (z_ob (z_put h v e) f) := by
  cases v with
  | ref a => exact hf _ (Nat.le_refl _) (Nat.le_refl _)
  | _ => exact zp_none
theorem zp_v {P : zR → Prop} {st : List Value} {f : Value → List Value → Option zR} (hf : ∀ x0 x1, z_fa P (f x0 x1)) : z_fa P (z_v st f) := by
  unfold z_v
  split
  · exact hf _ _
  · exact zp_none
theorem zp_i {P : zR → Prop} {st : List Value} {f : Int32 → List Value → Option zR} (hf : ∀ x0 x1, z_fa P (f x0 x1)) : z_fa P (z_i st f) := by
  unfold z_i
  split
  · exact hf _ _
  · exact zp_none
theorem zp_l {P : zR → Prop} {st : List Value} {f : Int64 → List Value → Option zR} (hf : ∀ x0 x1, z_fa P (f x0 x1)) : z_fa P (z_l st f) := by
  unfold z_l
  split
  · exact hf _ _
  · exact zp_none
theorem zp_ii {P : zR → Prop} {st : List Value} {f : Int32 → Int32 → List Value → Option zR} (hf : ∀ x0 x1 x2, z_fa P (f x0 x1 x2)) : z_fa P (z_ii st f) := by
  unfold z_ii
  split
  · exact hf _ _ _
  · exact zp_none
theorem zp_ll {P : zR → Prop} {st : List Value} {f : Int64 → Int64 → List Value → Option zR} (hf : ∀ x0 x1 x2, z_fa P (f x0 x1 x2)) : z_fa P (z_ll st f) := by
  unfold z_ll
  split
  · exact hf _ _ _
  · exact zp_none
theorem zp_li {P : zR → Prop} {st : List Value} {f : Int64 → Int32 → List Value → Option zR} (hf : ∀ x0 x1 x2, z_fa P (f x0 x1 x2)) : z_fa P (z_li st f) := by
  unfold z_li
  split
  · exact hf _ _ _
  · exact zp_none
theorem zp_vi {P : zR → Prop} {st : List Value} {f : Value → Int32 → List Value → Option zR} (hf : ∀ x0 x1 x2, z_fa P (f x0 x1 x2)) : z_fa P (z_vi st f) := by
  unfold z_vi
  split
  · exact hf _ _ _
  · exact zp_none
theorem zp_jmp {P : zR → Prop} {pc : Nat} {off : Int} {f : Nat → Option zR} (hf : ∀ t, z_fa P (f t)) : z_fa P (z_jmp pc off f) := by
  unfold z_jmp
  split
  · exact hf _
  · exact zp_none
theorem zp_if {P : zR → Prop} {C : Prop} {d : Decidable C} {a b : Option zR} (ha : z_fa P a) (hb : z_fa P b) : z_fa P (if C then a else b) := by
  split
  · exact ha
  · exact hb
/-- the heap grows; a return keeps it -/
def z_pg (h : zH) (x : zR) : Prop := match x with
  | .inl q => h.1 ≤ q.2.2.2.1 ∧ h.2.1 ≤ q.2.2.2.2.1
  | .inr (.inl q) => h.1 ≤ q.2.1 ∧ h.2.1 ≤ q.2.2.1 ∧ ∀ v, q.1 = .inl v → q.2 = h
  | .inr (.inr _) => True
theorem zg_nx {h : zH} {pc : Nat} {ls st : List Value} {h2 : zH} (h1 : h.1 ≤ h2.1) (h3 : h.2.1 ≤ h2.2.1) : z_fa (z_pg h) (z_nx pc ls st h2) := zp_some ⟨h1, h3⟩
theorem zg_nx0 {h : zH} {pc : Nat} {ls st : List Value} : z_fa (z_pg h) (z_nx pc ls st h) := zg_nx (Nat.le_refl _) (Nat.le_refl _)
theorem zg_new {h : zH} {pc : Nat} {ls st : List Value} {n : Nat} {e : zE} : z_fa (z_pg h) (z_nx pc ls st (z_new h n e)) := zg_nx (Nat.le_succ _) (Nat.le_add_right _ _)
theorem zg_end {h : zH} {v : Option Value} : z_fa (z_pg h) (z_end v h) := zp_some ⟨Nat.le_refl _, Nat.le_refl _, fun _ _ => rfl⟩
theorem zg_thr {h : zH} {n a : Nat} {e : zE} : z_fa (z_pg h) (some (.inr (.inl (.inr a, z_new h n e)))) := zp_some ⟨Nat.le_succ _, Nat.le_add_right _ _, fun _ e => by cases e⟩
theorem zg_call {i pc k o : Nat} {ls st : List Value} {h : zH} : z_fa (z_pg h) (z_call i pc k o ls st h) := by
  unfold z_call
  refine zp_ob (fun q => zp_if ?_ zp_none)
  split
  · exact zp_if (zp_some trivial) zp_none
  · exact zp_if (zp_v fun v r => zp_if (zp_some trivial) zp_none) zp_none
  · exact zp_if (zp_v fun v r => zp_if (zp_some trivial) zp_none) zp_none
  · refine zp_v fun v r => ?_
    split
    · exact zp_if zg_nx0 zp_none
    · exact zp_none
  · exact zp_i fun _ _ => zp_i fun _ _ => zp_v fun _ _ => zp_i fun _ _ => zp_v fun _ _ => zp_ob fun _ => zp_put fun h2 h3 h4 => zp_if (zg_nx h3 h4) zp_none
  · exact zp_v fun _ _ => zp_ob fun _ => zp_if zg_new zp_none
  · exact zp_none
/-- instructions that end or call -/
def z_isx (ins : Instr) : Bool := match ins with
  | .ireturn => true
  | .lreturn => true
  | .areturn => true
  | .return_ => true
  | .invokestatic _ => true
  | .invokevirtual _ => true
  | .invokespecial _ => true
  | .new _ => true
  | _ => false
def z_ps (x : zR) : Prop := ∃ q, x = .inl q
theorem zs_nx {pc : Nat} {ls st : List Value} {h : zH} : z_fa z_ps (z_nx pc ls st h) := zp_some ⟨_, rfl⟩
set_option maxHeartbeats 4000000 in
theorem zg_do (i pc : Nat) (ins : Instr) (ls st : List Value) (h : zH) : z_fa (z_pg h) (z_do i pc ins ls st h) := by
  cases ins <;> unfold z_do <;> dsimp only <;> first
    | exact zp_none
    | exact zg_call
    | (repeat' first
        | exact zg_nx0
        | exact zg_new
        | exact zg_thr
        | exact zg_end
        | (refine zp_put fun h2 h3 h4 => ?_; exact zg_nx h3 h4)
        | exact zp_none
        | refine zp_ob fun _ => ?_
        | refine zp_v fun _ _ => ?_
        | refine zp_i fun _ _ => ?_
        | refine zp_l fun _ _ => ?_
        | refine zp_ii fun _ _ _ => ?_
        | refine zp_ll fun _ _ _ => ?_
        | refine zp_li fun _ _ _ => ?_
        | refine zp_vi fun _ _ _ => ?_
        | refine zp_jmp fun _ => ?_
        | refine zp_if ?_ ?_)
set_option maxHeartbeats 4000000 in
theorem zs_do (i pc : Nat) (ins : Instr) (ls st : List Value) (h : zH) (hx : z_isx ins = false) : z_fa z_ps (z_do i pc ins ls st h) := by
  cases ins <;> first
    | (cases hx; done)
    | (unfold z_do; dsimp only; exact zp_none)
    | (unfold z_do
       dsimp only
       (repeat' first
        | exact zs_nx
        | exact zp_none
        | refine zp_ob fun _ => ?_
        | refine zp_v fun _ _ => ?_
        | refine zp_i fun _ _ => ?_
        | refine zp_l fun _ _ => ?_
        | refine zp_ii fun _ _ _ => ?_
        | refine zp_ll fun _ _ _ => ?_
        | refine zp_li fun _ _ _ => ?_
        | refine zp_vi fun _ _ _ => ?_
        | refine zp_jmp fun _ => ?_
        | refine zp_if ?_ ?_))
theorem zg_stp {i pc : Nat} {ls st : List Value} {h : zH} {q : zC} (e : z_stp i pc ls st h = some (.inl q)) : h.1 ≤ q.2.2.2.1 ∧ h.2.1 ≤ q.2.2.2.2.1 := by
  unfold z_stp at e
  split at e
  · split at e
    · exact zg_do _ _ _ _ _ _ _ e
    · cases e
  · cases e
/-- an end: the heap has grown, a return keeps it -/
theorem ze_do {i pc : Nat} {ins : Instr} {ls st : List Value} {h : zH} {o : zO} {h' : zH} (e : z_do i pc ins ls st h = some (.inr (.inl (o, h')))) : h.1 ≤ h'.1 ∧ h.2.1 ≤ h'.2.1 ∧ ∀ v, o = .inl v → h' = h := zg_do _ _ _ _ _ _ _ e
theorem zg_ex : ∀ (n i pc : Nat) (ls st : List Value) (h : zH) (r : zH × zO), z_ex n i pc ls st h = some r → h.1 ≤ r.1.1 ∧ h.2.1 ≤ r.1.2.1 := by
  intro n
  induction n with
  | zero => intro i pc ls st h r e; cases e
  | succ n ih =>
    intro i pc ls st h r e
    unfold z_ex at e
    split at e
    · cases e
    · rename_i q e1
      have h1 := zg_stp e1
      have h2 := ih _ _ _ _ _ _ e
      exact ⟨Nat.le_trans h1.1 h2.1, Nat.le_trans h1.2 h2.2⟩
    · rename_i q e1
      cases e
      obtain ⟨o, h'⟩ := q
      have h9 : h.1 ≤ h'.1 ∧ h.2.1 ≤ h'.2.1 ∧ ∀ v, o = .inl v → h' = h := by
        unfold z_stp at e1
        split at e1
        · split at e1
          · exact ze_do e1
          · cases e1
        · cases e1
      exact ⟨h9.1, h9.2.1⟩
    · split at e
      · split at e
        · rename_i h1 e2
          have a1 := ih _ _ _ _ _ _ e2
          have a2 := ih _ _ _ _ _ _ e
          exact ⟨Nat.le_trans a1.1 a2.1, Nat.le_trans a1.2 a2.2⟩
        · rename_i h1 v e2
          have a1 := ih _ _ _ _ _ _ e2
          have a2 := ih _ _ _ _ _ _ e
          exact ⟨Nat.le_trans a1.1 a2.1, Nat.le_trans a1.2 a2.2⟩
        · rename_i h1 a e2
          split at e
          · have a1 := ih _ _ _ _ _ _ e2
            have a2 := ih _ _ _ _ _ _ e
            exact ⟨Nat.le_trans a1.1 a2.1, Nat.le_trans a1.2 a2.2⟩
          · cases e
        · cases e
      · cases e
