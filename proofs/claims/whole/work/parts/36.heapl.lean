/-! THE TIE: casts, Object(), arraycopy, clone -/
section ZL
variable {p : Program} {l : Launch} {e : Env} {R : Room} {s : State} {m : MethodId} {args : Array Value} {below : List Frame} {meth : Method} {c : Code} {H : Heap} {locs : List Loc} {cells slots : Nat} {Q : State → Prop}
variable {D : va_G} {bs n : Nat} {lt : Nat → Value} {tA : Nat → Nat} {K : Nat → zE} {lr : Array Slot} {i pc pc' : Nat} {ls st ls' st' : List Value} {h h' : zH}
/-- what is below on the stack weighs little -/
theorem z_wt (r : List Value) : ∀ k, r.length ≤ k → (r.map fun v => v.category).sum ≤ 2 * k := by
  induction r with
  | nil => intro k _; simp
  | cons v r ih =>
    intro k hk
    cases k with
    | zero => simp at hk
    | succ k =>
      have h1 := ih k (by simpa using hk)
      have h2 : v.category ≤ 2 := by cases v <;> simp [Value.category]
      simp only [List.map_cons, List.sum_cons]
      omega
theorem z_wt10 {r : List Value} (hr : r.length ≤ 10) : ((r.map (z_rv bs lt)).map fun v => v.category).sum ≤ 20 := z_wt _ 10 (by simpa using hr)
/-- byte arrays' own class -/
theorem z_cB (hK : va_K D zt_cl (z_tys tA) s) : s.vm.findClass "[B" = some (tA 2) := (hK.2 1 _ rfl).2
theorem zn_checkcast {k : Nat} (hC : z_Cx p s m args meth c i) (hG : z_G D bs lt tA K s) (hR : z_Rel D bs lt tA K h H) (hS : va_S (z_A bs) s.heap H locs) (hL : z_Lr bs lt n ls lr) (hn : n = zt_ml i) (hd : decode (zt_code i) pc = .ok (.checkcast k, 3)) (hdo : z_do i pc (.checkcast k) ls st h = some (.inl (pc', ls', st', h')))
    (hfr : 1 ≤ R.frames) (hlo : 100 ≤ R.locals) (hc : cells + (h'.1 - h.1) ≤ R.cells) (hs : slots + (h'.2.1 - h.2.1) ≤ R.slots)
    (kk : ∀ (H' : Heap) (lr' : Array Slot) (locs' : List Loc), z_Rel D bs lt tA K h' H' → va_S (z_A bs) s.heap H' locs' → z_Lr bs lt n ls' lr' → W p l e R s m args below meth c H' locs' (cells + (h'.1 - h.1)) (slots + (h'.2.1 - h.2.1)) Q (F0 m pc' lr' (st'.map (z_rv bs lt)))) :
    W p l e R s m args below meth c H locs cells slots Q (F0 m pc lr (st.map (z_rv bs lt))) := by
  obtain ⟨hx, hb, hml, hr, hlk, hown, hts, hnm, heh⟩ := hC
  obtain ⟨hlt, hl2, hK, hbs, hgv, hst, hlit⟩ := hG
  simp only [z_do, z_v] at hdo
  split at hdo
  · rename_i v r
    split at hdo
    · rename_i hv
      subst hv
      simp only [z_nx, Option.some.injEq, Sum.inl.injEq, Prod.mk.injEq] at hdo
      obtain ⟨rfl, rfl, rfl, rfl⟩ := hdo
      simp only [Nat.sub_self, Nat.add_zero] at kk
      exact lv_castN hx hb hd (kk H lr locs hR hS hL)
    · split at hdo
      · rename_i hcs
        simp only [z_nx, Option.some.injEq, Sum.inl.injEq, Prod.mk.injEq] at hdo
        obtain ⟨rfl, rfl, rfl, rfl⟩ := hdo
        simp only [Nat.sub_self, Nat.add_zero] at kk
        have h2 := kk H lr locs hR hS hL
        rw [z_map_cons] at h2 ⊢
        rcases zt_cst_spec hcs with ⟨hlk2, fs, hfs, hf0⟩ | ⟨hlk2, ⟨x, hx9⟩, hdy⟩
        · obtain ⟨a, rc, e1, hrc, cell, g1, g2, g3⟩ := z_recvS hK hgv hR hS hfs (by decide) hf0
          have e3 : rc = ("java/lang/String", zt_F2, 4) := (Option.some.inj hrc).symm
          subst e3
          rw [e1] at h2 ⊢
          exact va_castE hx hb hown (hts _ hlk2) ⟨cell, g1, g2, g3⟩ hd h2
        · cases v with
          | ref a =>
            have hat := (hR.in hx9 (by unfold z_jk; exact fun q => by cases q)).2
            have hat2 : ∃ ct2 : vp_A, va_at D zt_cl (bs + a, .inl (tA 2, ct2)) H := by
              obtain ⟨N, f | f | f | f | f⟩ := x <;> exact ⟨_, hat⟩
            obtain ⟨ct2, hat2⟩ := hat2
            exact va_castA (D := D) (cl := zt_cl) hx hb hown (hts _ hlk2) (z_one hat2) 0 rfl (z_cB hK) hd h2
          | _ => cases hdy
      · cases hdo
  · cases hdo
theorem zn_instanceof {k : Nat} (hC : z_Cx p s m args meth c i) (hG : z_G D bs lt tA K s) (hR : z_Rel D bs lt tA K h H) (hS : va_S (z_A bs) s.heap H locs) (hL : z_Lr bs lt n ls lr) (hn : n = zt_ml i) (hd : decode (zt_code i) pc = .ok (.instanceof k, 3)) (hdo : z_do i pc (.instanceof k) ls st h = some (.inl (pc', ls', st', h')))
    (hfr : 1 ≤ R.frames) (hlo : 100 ≤ R.locals) (hc : cells + (h'.1 - h.1) ≤ R.cells) (hs : slots + (h'.2.1 - h.2.1) ≤ R.slots)
    (kk : ∀ (H' : Heap) (lr' : Array Slot) (locs' : List Loc), z_Rel D bs lt tA K h' H' → va_S (z_A bs) s.heap H' locs' → z_Lr bs lt n ls' lr' → W p l e R s m args below meth c H' locs' (cells + (h'.1 - h.1)) (slots + (h'.2.1 - h.2.1)) Q (F0 m pc' lr' (st'.map (z_rv bs lt)))) :
    W p l e R s m args below meth c H locs cells slots Q (F0 m pc lr (st.map (z_rv bs lt))) := by
  obtain ⟨hx, hb, hml, hr, hlk, hown, hts, hnm, heh⟩ := hC
  obtain ⟨hlt, hl2, hK, hbs, hgv, hst, hlit⟩ := hG
  simp only [z_do, z_v] at hdo
  split at hdo
  · rename_i v r
    split at hdo
    · rename_i hcs
      simp only [z_nx, Option.some.injEq, Sum.inl.injEq, Prod.mk.injEq] at hdo
      obtain ⟨rfl, rfl, rfl, rfl⟩ := hdo
      simp only [Nat.sub_self, Nat.add_zero] at kk
      have h2 := kk H lr locs hR hS hL
      rw [z_map_cons] at h2 ⊢
      rcases zt_cst_spec hcs with ⟨hlk2, fs, hfs, hf0⟩ | ⟨hlk2, ⟨x, hx9⟩, hdy⟩
      · obtain ⟨a, rc, e1, hrc, cell, g1, g2, g3⟩ := z_recvS hK hgv hR hS hfs (by decide) hf0
        have e3 : rc = ("java/lang/String", zt_F2, 4) := (Option.some.inj hrc).symm
        subst e3
        rw [e1]
        exact va_instE hx hb hown (hts _ hlk2) ⟨cell, g1, g2, g3⟩ hd h2
      · cases hdy
    · cases hdo
  · cases hdo
theorem zn_objinit {k : Nat} (hC : z_Cx p s m args meth c i) (hG : z_G D bs lt tA K s) (hR : z_Rel D bs lt tA K h H) (hS : va_S (z_A bs) s.heap H locs) (hL : z_Lr bs lt n ls lr) (hn : n = zt_ml i) (hd : decode (zt_code i) pc = .ok (.invokespecial k, 3)) (hdo : z_do i pc (.invokespecial k) ls st h = some (.inl (pc', ls', st', h')))
    (hfr : 1 ≤ R.frames) (hlo : 100 ≤ R.locals) (hc : cells + (h'.1 - h.1) ≤ R.cells) (hs : slots + (h'.2.1 - h.2.1) ≤ R.slots)
    (kk : ∀ (H' : Heap) (lr' : Array Slot) (locs' : List Loc), z_Rel D bs lt tA K h' H' → va_S (z_A bs) s.heap H' locs' → z_Lr bs lt n ls' lr' → W p l e R s m args below meth c H' locs' (cells + (h'.1 - h.1)) (slots + (h'.2.1 - h.2.1)) Q (F0 m pc' lr' (st'.map (z_rv bs lt)))) :
    W p l e R s m args below meth c H locs cells slots Q (F0 m pc lr (st.map (z_rv bs lt))) := by
  obtain ⟨hx, hb, hml, hr, hlk, hown, hts, hnm, heh⟩ := hC
  obtain ⟨hlt, hl2, hK, hbs, hgv, hst, hlit⟩ := hG
  simp only [z_do, z_call, z_ob] at hdo
  split at hdo
  · rename_i q hq
    obtain ⟨x9, hx9, hqe⟩ := Option.map_eq_some_iff.mp hq
    subst hqe
    have hchk := List.all_eq_true.mp zt_mok _ (zt_lk_mem hx9)
    unfold zt_mchk at hchk
    split at hdo
    · rename_i hko
      split at hdo
      · exfalso
        split at hdo <;> cases hdo
      · exfalso
        split at hdo
        · simp only [z_v] at hdo
          split at hdo
          · split at hdo <;> cases hdo
          · cases hdo
        · cases hdo
      · exfalso
        split at hdo
        · simp only [z_v] at hdo
          split at hdo
          · split at hdo <;> cases hdo
          · cases hdo
        · cases hdo
      · rename_i hk
        simp only [z_v] at hdo
        split at hdo
        · rename_i v r
          split at hdo
          · rename_i a
            split at hdo
            · rename_i hrl
              simp only [z_nx, Option.some.injEq, Sum.inl.injEq, Prod.mk.injEq] at hdo
              obtain ⟨rfl, rfl, rfl, rfl⟩ := hdo
              simp only [Nat.sub_self, Nat.add_zero] at kk
              have hchk2 : z_wl[x9.2]? = some (.methodLink (zt_cn (zt_own i)) k objectInit) := by
                dsimp only at hchk
                rw [hk] at hchk
                exact of_decide_eq_true hchk
              have hw := z_wt10 (bs := bs) (lt := lt) hrl
              exact W.objInit hx hb hown (z_word hts hchk2) (z_word hts zt_w_oi1) (z_word hts zt_w_oi2) rfl (by rw [hml, ← hn]; exact hL.2.1) rfl hd hfr (by show 2 * 0 + _ + 12 ≤ _; omega) (kk H lr locs hR hS hL)
            · cases hdo
          · cases hdo
        · cases hdo
      · rename_i hk
        exfalso
        rw [hk] at hko
        exact absurd hko (by decide)
      · rename_i hk
        exfalso
        rw [hk] at hko
        exact absurd hko (by decide)
      · cases hdo
    · cases hdo
  · cases hdo
end ZL
