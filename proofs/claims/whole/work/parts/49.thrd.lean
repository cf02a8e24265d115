/-! THE TIE: a throw, as the evaluator says it -/
theorem zt_ths_spec {o k ic cn : Nat} (h : zt_lk zt_ths o k = some (ic, cn)) (hn : ∃ q, zt_new o k = some q ∧ q.2.1 = cn) : ∃ (X : String) (F : u_T), zt_cl[cn]? = some (X, F, 0) ∧ Bundle.fit X = true ∧ ∀ w ∈ Bundle.ownAtoms0 (zt_cn o) ic X zt_sup, w ∈ z_wl ∨ w ∈ zt_4w := by
  have h1 := zt_lk_mem h
  simp only [zt_ths, List.mem_cons, List.not_mem_nil, or_false, Prod.mk.injEq] at h1
  rcases h1 with ⟨⟨rfl, rfl⟩, rfl, rfl⟩ | ⟨⟨rfl, rfl⟩, rfl, rfl⟩ | ⟨⟨rfl, rfl⟩, rfl, rfl⟩
  · exact ⟨_, zt_F12, rfl, by decide +kernel, zt_al_spec _ _ zt_th0⟩
  · exact ⟨_, zt_F13, rfl, by decide +kernel, zt_al_spec _ _ zt_th1⟩
  · exact ⟨_, zt_F14, rfl, by decide +kernel, zt_al_spec _ _ zt_th2⟩
section ZD
variable {p : Program} {l : Launch} {e : Env} {R : Room} {s : State} {m : MethodId} {args : Array Value} {below : List Frame} {meth : Method} {c : Code} {H : Heap} {locs : List Loc} {cells slots : Nat}
variable {D : va_G} {bs n : Nat} {lt : Nat → Value} {tA : Nat → Nat} {K : Nat → zE} {lr : Array Slot} {i pc : Nat} {ls st : List Value} {h h' : zH}
theorem z_thrD {a : Nat} {post : Outcome → Heap → Prop} (hC : z_Cx p s m args meth c i) (hG : z_G D bs lt tA K s) (hR : z_Rel D bs lt tA K h H) (hS : va_S (z_A bs) s.heap H locs) (hL : z_Lr bs lt n ls lr) (hn : n = zt_ml i)
    (hstp : z_stp i pc ls st h = some (.inr (.inl (.inr a, h')))) (htr : e.platform.stackTraces = false) (hfr : 10 ≤ R.frames) (hlo : 200 ≤ R.locals) (hc : cells + (h'.1 - h.1) ≤ R.cells) (hs : slots + (h'.2.1 - h.2.1) ≤ R.slots)
    (hq : ∀ H', z_Rel D bs lt tA K h' H' → post (z_ro bs lt (.inr a)) H') :
    W p l e R s m args below meth c H locs cells slots (z_Q bs below s (cells + (h'.1 - h.1)) (slots + (h'.2.1 - h.2.1)) post) (F0 m pc lr (st.map (z_rv bs lt))) := by
  have hcall : ∀ k o, z_call i pc k o ls st h ≠ some (.inr (.inl (.inr a, h'))) := fun k o e9 => zc_call _ e9 _ rfl
  unfold z_stp at hstp
  split at hstp
  · rename_i ins len hd
    split at hstp
    · rename_i hlen
      cases ins with
      | new k =>
        have e9 : len = 3 := by
          rcases hlen with h9 | h9
          · exact absurd (show (3 : Nat) = 0 from h9) (by decide)
          · exact h9.symm
        subst e9
        simp only [z_do, z_ob, z_nx] at hstp
        split at hstp
        · rename_i q hq0
          split at hstp
          · rename_i hem
            split at hstp
            · rename_i hcond
              simp only [Option.some.injEq, Sum.inr.injEq, Sum.inl.injEq, Prod.mk.injEq] at hstp
              obtain ⟨rfl, rfl⟩ := hstp
              obtain ⟨q1, cn, fs⟩ := q
              simp only [Bool.and_eq_true, decide_eq_true_eq] at hcond
              obtain ⟨rfl, hthr⟩ := hcond
              have hfs : fs = [] := by simpa using hem
              subst hfs
              unfold z_thr at hthr
              split at hthr
              · rename_i q2 hq2
                obtain ⟨ic, cn2⟩ := q2
                simp only [Bool.and_eq_true, decide_eq_true_eq, List.isEmpty_iff] at hthr
                obtain ⟨⟨⟨⟨⟨rfl, he0⟩, hst⟩, hd3⟩, hd4⟩, hd7⟩ := hthr
                obtain ⟨X, F, k1, k2, k3⟩ := zt_ths_spec hq2 ⟨_, hq0, rfl⟩
                have e1 : (z_new h 6 (.inr (cn2, []))).1 - h.1 = 1 := by show h.1 + 1 - h.1 = 1; omega
                have e2 : (z_new h 6 (.inr (cn2, []))).2.1 - h.2.1 = 6 := by show h.2.1 + 6 - h.2.1 = 6; omega
                rw [e1, e2]
                rw [e1] at hc
                rw [e2] at hs
                exact z_thrW hC hG hR hS hL hn hq0 k1 k3 k2 hd hd3 hd4 hd7 he0 htr hfr hlo hc hs hst hq
              · cases hthr
            · cases hstp
          · cases hstp
        · cases hstp
      | ireturn =>
        simp only [z_do, z_i] at hstp
        split at hstp
        · split at hstp <;> cases hstp
        · cases hstp
      | lreturn =>
        simp only [z_do, z_l] at hstp
        split at hstp
        · split at hstp <;> cases hstp
        · cases hstp
      | areturn =>
        simp only [z_do, z_v] at hstp
        split at hstp
        · split at hstp <;> cases hstp
        · cases hstp
      | return_ =>
        simp only [z_do] at hstp
        split at hstp <;> cases hstp
      | invokestatic k => exact absurd hstp (hcall _ _)
      | invokevirtual k => exact absurd hstp (hcall _ _)
      | invokespecial k => exact absurd hstp (hcall _ _)
      | _ =>
        obtain ⟨q, hq9⟩ := zs_do _ _ _ _ _ _ rfl _ hstp
        cases hq9
    · cases hstp
  · cases hstp
end ZD
