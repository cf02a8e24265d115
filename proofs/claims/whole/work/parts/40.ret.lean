/-! THE TIE: a method returns -/
/-- an outcome as the machine's -/
def z_ro (bs : Nat) (lt : Nat → Value) (o : zO) : Outcome := match o with
  | .inl v => .returned (v.map (z_rv bs lt))
  | .inr a => .threw (bs + a)
/-- how a walk ends -/
def z_Q (bs : Nat) (below : List Frame) (s : State) (mc ms : Nat) (post : Outcome → Heap → Prop) : State → Prop := fun t => ∃ o, t.status = .running ∧ Ended t below o ∧ post o t.heap ∧ s.WarmedH t.vm ∧ ∃ L, s.sameButNew ({ t with vm := s.vm } : State) L mc ms ∧ ∀ q ∈ L, z_A bs q.base
/-- a call's row never ends of itself -/
def z_pc (x : zR) : Prop := ∀ q, x ≠ .inr (.inl q)
theorem zc_call {i pc k o : Nat} {ls st : List Value} {h : zH} : z_fa z_pc (z_call i pc k o ls st h) := by
  have n1 : ∀ q, z_pc (.inl q) := fun q q' e => by cases e
  have n2 : ∀ q, z_pc (.inr (.inr q)) := fun q q' e => by cases e
  unfold z_call
  refine zp_ob (fun q => zp_if ?_ zp_none)
  split
  · exact zp_if (zp_some (n2 _)) zp_none
  · exact zp_if (zp_v fun v r => zp_if (zp_some (n2 _)) zp_none) zp_none
  · exact zp_if (zp_v fun v r => zp_if (zp_some (n2 _)) zp_none) zp_none
  · refine zp_v fun v r => ?_
    split
    · exact zp_if (zp_some (n1 _)) zp_none
    · exact zp_none
  · exact zp_i fun _ _ => zp_i fun _ _ => zp_v fun _ _ => zp_i fun _ _ => zp_v fun _ _ => zp_ob fun _ => zp_put fun h2 h3 h4 => zp_if (zp_some (n1 _)) zp_none
  · exact zp_v fun _ _ => zp_ob fun _ => zp_if (zp_some (n1 _)) zp_none
  · exact zp_none
section ZR
variable {p : Program} {l : Launch} {e : Env} {R : Room} {s : State} {m : MethodId} {args : Array Value} {below : List Frame} {meth : Method} {c : Code} {H : Heap} {locs : List Loc} {cells slots : Nat} {Q Q' : State → Prop}
variable {D : va_G} {bs n : Nat} {lt : Nat → Value} {tA : Nat → Nat} {K : Nat → zE} {lr : Array Slot} {i pc pc' : Nat} {ls st ls' st' : List Value} {h h' : zH}
theorem z_Wmono {g : JFrame} (hq : ∀ t, Q t → Q' t) (w : W p l e R s m args below meth c H locs cells slots Q g) : W p l e R s m args below meth c H locs cells slots Q' g := by
  intro T hT X
  obtain ⟨t, a, b⟩ := w T hT X
  exact ⟨t, a, hq t b⟩
/-- of a return -/
theorem z_ofMQ {post : Outcome → Heap → Prop} {mc ms : Nat} {t : State} (h : MQ below (fun _ _ o t => post o t.heap) args s mc ms (z_A bs) t) : z_Q bs below s mc ms post t := by
  obtain ⟨o, h1, h2, h3, L, ⟨-, h4, h5⟩, h6⟩ := h
  exact ⟨o, h1, h2, h3, h4, L, h5, h6⟩
theorem z_retn {post : Outcome → Heap → Prop} {v : Option Value} (hC : z_Cx p s m args meth c i) (hlt : z_lt lt) (hf : ∀ q ∈ locs, z_A bs q.base) (hstp : z_stp i pc ls st h = some (.inr (.inl (.inl v, h'))))
    (hq : post (z_ro bs lt (.inl v)) H) : W p l e R s m args below meth c H locs cells slots (z_Q bs below s cells slots post) (F0 m pc lr (st.map (z_rv bs lt))) := by
  obtain ⟨hx, hb, hml, hr, hlk, hown, hts, hnm, heh⟩ := hC
  refine z_Wmono (fun t => z_ofMQ (args := args)) ?_
  have hcall : ∀ k o, z_call i pc k o ls st h ≠ some (.inr (.inl (.inl v, h'))) := fun k o e9 => zc_call _ e9 _ rfl
  unfold z_stp at hstp
  split at hstp
  · rename_i ins len hd
    split at hstp
    · rename_i hlen
      cases ins with
      | ireturn =>
        have e9 : len = 1 := by
          rcases hlen with h9 | h9
          · exact absurd (show (1 : Nat) = 0 from h9) (by decide)
          · exact h9.symm
        subst e9
        simp only [z_do, z_i] at hstp
        split at hstp
        · rename_i x r
          split at hstp
          · rename_i hcond
            cases hstp
            simp only [Bool.and_eq_true, List.isEmpty_iff] at hcond
            obtain ⟨rfl, hrt⟩ := hcond
            unfold z_rt at hrt
            split at hrt
            · rename_i ty hty
              have h2 := (z_tf_spec (bs := bs) hlt hrt).1
              exact W.zret hx hb (hr.trans hty) h2 (fun t ht _ => by rw [ht]; exact hq) hf hd hlk
            · cases hrt
          · cases hstp
        · cases hstp
      | lreturn =>
        have e9 : len = 1 := by
          rcases hlen with h9 | h9
          · exact absurd (show (1 : Nat) = 0 from h9) (by decide)
          · exact h9.symm
        subst e9
        simp only [z_do, z_l] at hstp
        split at hstp
        · rename_i x r
          split at hstp
          · rename_i hcond
            cases hstp
            simp only [Bool.and_eq_true, List.isEmpty_iff] at hcond
            obtain ⟨rfl, hrt⟩ := hcond
            unfold z_rt at hrt
            split at hrt
            · rename_i ty hty
              have h2 : ty = .long := by
                simp only [z_tf] at hrt
                cases ty <;> simp [fits] at hrt
                rfl
              subst h2
              exact W.lret hx hb (hr.trans hty) (fun t ht _ => by rw [ht]; exact hq) hf hd hlk
            · cases hrt
          · cases hstp
        · cases hstp
      | areturn =>
        have e9 : len = 1 := by
          rcases hlen with h9 | h9
          · exact absurd (show (1 : Nat) = 0 from h9) (by decide)
          · exact h9.symm
        subst e9
        simp only [z_do, z_v] at hstp
        split at hstp
        · rename_i x r
          split at hstp
          · rename_i hcond
            cases hstp
            simp only [Bool.and_eq_true, List.isEmpty_iff] at hcond
            obtain ⟨⟨rfl, hrf⟩, hrt⟩ := hcond
            unfold z_rt at hrt
            split at hrt
            · rename_i ty hty
              have h2 : (∃ n, ty = .object n) ∨ ∃ t, ty = .array t := by
                cases x <;> simp [z_isref] at hrf <;> simp only [z_tf, z_isref, Bool.true_and] at hrt <;> cases ty <;> simp [fits] at hrt ⊢
              exact W.aret hx hb (hr.trans hty) h2 (z_isref_rv hlt hrf) (fun t ht _ => by rw [ht]; exact hq) hf hd hlk
            · cases hrt
          · cases hstp
        · cases hstp
      | return_ =>
        have e9 : len = 1 := by
          rcases hlen with h9 | h9
          · exact absurd (show (1 : Nat) = 0 from h9) (by decide)
          · exact h9.symm
        subst e9
        simp only [z_do] at hstp
        split at hstp
        · rename_i hcond
          cases hstp
          simp only [Bool.and_eq_true, List.isEmpty_iff, Option.isNone_iff_eq_none] at hcond
          obtain ⟨rfl, hrt⟩ := hcond
          exact W.vret hx hb (hr.trans hrt) (fun t ht _ => by rw [ht]; exact hq) hf hd hlk
        · cases hstp
      | new k =>
        simp only [z_do, z_ob, z_nx] at hstp
        split at hstp
        · split at hstp
          · split at hstp <;> cases hstp
          · cases hstp
        · cases hstp
      | invokestatic k => exact absurd hstp (hcall _ _)
      | invokevirtual k => exact absurd hstp (hcall _ _)
      | invokespecial k => exact absurd hstp (hcall _ _)
      | _ =>
        obtain ⟨q, hq9⟩ := zs_do _ _ _ _ _ _ rfl _ hstp
        cases hq9
    · cases hstp
  · cases hstp
end ZR
