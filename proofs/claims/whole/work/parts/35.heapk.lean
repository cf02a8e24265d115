/-! THE TIE: references put into arrays, casts, constants, Object(), arraycopy, clone -/
section ZK
variable {p : Program} {l : Launch} {e : Env} {R : Room} {s : State} {m : MethodId} {args : Array Value} {below : List Frame} {meth : Method} {c : Code} {H : Heap} {locs : List Loc} {cells slots : Nat} {Q : State → Prop}
variable {D : va_G} {bs n : Nat} {lt : Nat → Value} {tA : Nat → Nat} {K : Nat → zE} {lr : Array Slot} {i pc pc' : Nat} {ls st ls' st' : List Value} {h h' : zH}
theorem z_setQ (cA N : Nat) (f : Nat → Option Nat) (k v : Nat) : (vp_cell cA (N, .inr (.inr (.inr (.inr f))))).setSlot k (.ref v) = vp_cell cA (N, .inr (.inr (.inr (.inr (va_up f k (some v)))))) := by
  rw [vp_cell_q, vp_cell_q, arrV_store]
  congr 1
  funext q
  by_cases hq : q = k
  · subst hq; simp [updV, va_up, va_rf]
  · simp [updV, va_up, hq]
theorem zn_aastore (hC : z_Cx p s m args meth c i) (hG : z_G D bs lt tA K s) (hR : z_Rel D bs lt tA K h H) (hS : va_S (z_A bs) s.heap H locs) (hL : z_Lr bs lt n ls lr) (hd : decode (zt_code i) pc = .ok (.aastore, 1)) (hdo : z_do i pc (.aastore) ls st h = some (.inl (pc', ls', st', h')))
    (hfr : 1 ≤ R.frames) (hlo : 100 ≤ R.locals) (hc : cells + (h'.1 - h.1) ≤ R.cells) (hs : slots + (h'.2.1 - h.2.1) ≤ R.slots)
    (kk : ∀ (H' : Heap) (lr' : Array Slot) (locs' : List Loc), z_Rel D bs lt tA K h' H' → va_S (z_A bs) s.heap H' locs' → z_Lr bs lt n ls' lr' → W p l e R s m args below meth c H' locs' (cells + (h'.1 - h.1)) (slots + (h'.2.1 - h.2.1)) Q (F0 m pc' lr' (st'.map (z_rv bs lt)))) :
    W p l e R s m args below meth c H locs cells slots Q (F0 m pc lr (st.map (z_rv bs lt))) := by
  obtain ⟨hx, hb, hml, hr, hlk, hown, hts, hnm, heh⟩ := hC
  obtain ⟨hlt, hl2, hK, hbs, hgv, hst, hlit⟩ := hG
  simp only [z_do, z_v, z_vi, z_ob] at hdo
  split at hdo
  · rename_i x r0
    split at hdo
    · rename_i j v r
      split at hdo
      · rename_i y hy
        split at hdo
        · rename_i e0 hx1
          unfold z_sq at hx1
          split at hx1
          · rename_i t' N f hc1
            split at hx1
            · split at hx1
              · rename_i hin
                cases hx1
                cases v with
                | ref a =>
                  simp only [z_put] at hdo
                  simp only [z_nx, Option.some.injEq, Sum.inl.injEq, Prod.mk.injEq] at hdo
                  obtain ⟨rfl, rfl, rfl, rfl⟩ := hdo
                  simp only [Nat.sub_self, Nat.add_zero] at kk
                  unfold z_aok at hy
                  split at hy
                  · rename_i y2 cx fsx hxe
                    split at hy
                    · rename_i hcmp
                      cases hy
                      have hz : z_ty (z_at h (.ref a)) = t' := by rw [hc1]; rfl
                      rw [hz] at hcmp kk
                      have htt : ∃ C T N9, (z_tys tA)[t' - 1]? = some (tA t', .object C) ∧ zt_cl[cx]? = some (C, T, N9) := by
                        unfold zt_cmp at hcmp
                        split at hcmp <;> cases hcmp <;> exact ⟨_, _, _, rfl, rfl⟩
                      obtain ⟨C, T9, N9, htt, hcl⟩ := htt
                      obtain ⟨ha, hat⟩ := hR.in hc1 (by unfold z_jk; exact fun q => by cases q)
                      have hxe' : h.2.2.1 y = .inr (cx, fsx) := hxe
                      have hcx : (Sum.inr (cx, fsx) : zE) ≠ z_jk := by
                        unfold z_jk
                        intro q
                        have := (Prod.mk.inj (Sum.inr.inj q)).1
                        subst this
                        have h9 : zt_cl[9999]? = none := by decide +kernel
                        rw [h9] at hcl
                        cases hcl
                      obtain ⟨-, hat2⟩ := hR.in hxe' hcx
                      obtain ⟨r', hr', cellV, g1, g2, g3, -⟩ := hat2
                      have hcls := (hK.1 cx _ hcl).2
                      obtain ⟨kA, comp, k1, k2, k3, -⟩ := (hK.2 _ _ htt).2
                      have hcomp : comp = D.1 cx := Option.some.inj (k3.symm.trans hcls.1)
                      subst hcomp
                      obtain ⟨kC, hkC, -⟩ := hcls.2
                      have hin2 := z_inb_iff.mp hin
                      have hlt2 : j.toNatClampNeg < N := Nat.not_le.mp fun q => hin2 (Or.inr q)
                      have hcell : H[bs + a]? = some (vp_cell (tA t') (N, .inr (.inr (.inr (.inr (fun j => (f j).map (fun a => bs + a))))))) := hat
                      refine W.aast hx hb hcell (fun q h => by cases h) (fun h => by cases h) k1 k2 rfl hkC ⟨fun q => hin2 (Or.inl q), by show _ < (arrV _ _ _).slots.size; rw [arrV_size]; exact hlt2⟩ g1 (fun q h => by rw [g3] at h; cases h) (by rw [g2]; exact hkC) (by rw [g2]; exact va_assign hcls) rfl rfl hd fun H1 e1 z1 oq => ?_
                      refine kk H1 lr _ (hR.put ha _ z1 oq ?_ trivial) (z_S_put hS z1 oq) hL
                      show H1[bs + a]? = some (vp_cell (tA t') (N, .inr (.inr (.inr (.inr (fun q => (va_up f j.toNatClampNeg (some y) q).map (fun a => bs + a)))))))
                      rw [e1, z_setQ]
                      congr 7
                      funext q
                      by_cases hq : q = j.toNatClampNeg
                      · subst hq; simp [va_up]
                      · simp [va_up, hq]
                    · cases hy
                  · cases hy
                | _ => simp [z_put] at hdo
              · cases hx1
            · cases hx1
          · cases hx1
        · cases hdo
      · cases hdo
    · cases hdo
  · cases hdo
theorem zn_ldc {k : Nat} (hC : z_Cx p s m args meth c i) (hG : z_G D bs lt tA K s) (hR : z_Rel D bs lt tA K h H) (hS : va_S (z_A bs) s.heap H locs) (hL : z_Lr bs lt n ls lr) (hd : decode (zt_code i) pc = .ok (.ldc k, 2)) (hdo : z_do i pc (.ldc k) ls st h = some (.inl (pc', ls', st', h')))
    (hfr : 1 ≤ R.frames) (hlo : 100 ≤ R.locals) (hc : cells + (h'.1 - h.1) ≤ R.cells) (hs : slots + (h'.2.1 - h.2.1) ≤ R.slots)
    (kk : ∀ (H' : Heap) (lr' : Array Slot) (locs' : List Loc), z_Rel D bs lt tA K h' H' → va_S (z_A bs) s.heap H' locs' → z_Lr bs lt n ls' lr' → W p l e R s m args below meth c H' locs' (cells + (h'.1 - h.1)) (slots + (h'.2.1 - h.2.1)) Q (F0 m pc' lr' (st'.map (z_rv bs lt)))) :
    W p l e R s m args below meth c H locs cells slots Q (F0 m pc lr (st.map (z_rv bs lt))) := by
  obtain ⟨hx, hb, hml, hr, hlk, hown, hts, hnm, heh⟩ := hC
  obtain ⟨hlt, hl2, hK, hbs, hgv, hst, hlit⟩ := hG
  simp only [z_do, z_ob] at hdo
  split at hdo
  · rename_i v hv
    simp only [z_nx, Option.some.injEq, Sum.inl.injEq, Prod.mk.injEq] at hdo
    obtain ⟨rfl, rfl, rfl, rfl⟩ := hdo
    simp only [Nat.sub_self, Nat.add_zero] at kk
    unfold zt_ldc at hv
    obtain ⟨x, hx1, rfl⟩ := Option.map_eq_some_iff.mp hv
    have h1 := List.all_eq_true.mp zt_lok _ (zt_lk_mem hx1)
    unfold zt_lchk at h1
    dsimp only at h1
    have h2 := kk H lr locs hR hS hL
    rw [z_map_cons] at h2
    split at h1
    · rename_i w hw
      rw [hw] at h2
      simp only [decide_eq_true_eq] at h1
      exact lv_ldc hx hb hown (z_word hts h1) hd h2
    · rename_i w hw
      rw [hw] at h2
      simp only [Bool.and_eq_true, decide_eq_true_eq] at h1
      obtain ⟨hev, h1⟩ := h1
      split at h1
      · rename_i y hy
        simp only [Bool.and_eq_true, decide_eq_true_eq] at h1
        obtain ⟨q, e1, hvk⟩ := hlit.1 _ _ hy
        have e2 : 2 * (w / 2) = w := by omega
        rw [e2] at e1
        have h3 : z_rv bs lt (.retAddr w) = .ref q := e1
        rw [h3] at h2
        rw [h1.1, h1.2] at hvk
        exact va_ldcS hx hb hown hvk hd h2
      · cases h1
    · cases h1
  · cases hdo
theorem zn_ldc2_w {k : Nat} (hC : z_Cx p s m args meth c i) (hG : z_G D bs lt tA K s) (hR : z_Rel D bs lt tA K h H) (hS : va_S (z_A bs) s.heap H locs) (hL : z_Lr bs lt n ls lr) (hd : decode (zt_code i) pc = .ok (.ldc2_w k, 3)) (hdo : z_do i pc (.ldc2_w k) ls st h = some (.inl (pc', ls', st', h')))
    (hfr : 1 ≤ R.frames) (hlo : 100 ≤ R.locals) (hc : cells + (h'.1 - h.1) ≤ R.cells) (hs : slots + (h'.2.1 - h.2.1) ≤ R.slots)
    (kk : ∀ (H' : Heap) (lr' : Array Slot) (locs' : List Loc), z_Rel D bs lt tA K h' H' → va_S (z_A bs) s.heap H' locs' → z_Lr bs lt n ls' lr' → W p l e R s m args below meth c H' locs' (cells + (h'.1 - h.1)) (slots + (h'.2.1 - h.2.1)) Q (F0 m pc' lr' (st'.map (z_rv bs lt)))) :
    W p l e R s m args below meth c H locs cells slots Q (F0 m pc lr (st.map (z_rv bs lt))) := by
  obtain ⟨hx, hb, hml, hr, hlk, hown, hts, hnm, heh⟩ := hC
  obtain ⟨hlt, hl2, hK, hbs, hgv, hst, hlit⟩ := hG
  simp only [z_do, z_ob] at hdo
  split at hdo
  · rename_i v hv
    simp only [z_nx, Option.some.injEq, Sum.inl.injEq, Prod.mk.injEq] at hdo
    obtain ⟨rfl, rfl, rfl, rfl⟩ := hdo
    simp only [Nat.sub_self, Nat.add_zero] at kk
    unfold zt_lng at hv
    obtain ⟨x, hx1, rfl⟩ := Option.map_eq_some_iff.mp hv
    have h1 := List.all_eq_true.mp zt_gok _ (zt_lk_mem hx1)
    unfold zt_gchk at h1
    simp only [decide_eq_true_eq] at h1
    exact lv_ldc2 hx hb hown (z_word hts h1) hd (kk H lr locs hR hS hL)
  · cases hdo
theorem zn_getstatic {k : Nat} (hC : z_Cx p s m args meth c i) (hG : z_G D bs lt tA K s) (hR : z_Rel D bs lt tA K h H) (hS : va_S (z_A bs) s.heap H locs) (hL : z_Lr bs lt n ls lr) (hd : decode (zt_code i) pc = .ok (.getstatic k, 3)) (hdo : z_do i pc (.getstatic k) ls st h = some (.inl (pc', ls', st', h')))
    (hfr : 1 ≤ R.frames) (hlo : 100 ≤ R.locals) (hc : cells + (h'.1 - h.1) ≤ R.cells) (hs : slots + (h'.2.1 - h.2.1) ≤ R.slots)
    (kk : ∀ (H' : Heap) (lr' : Array Slot) (locs' : List Loc), z_Rel D bs lt tA K h' H' → va_S (z_A bs) s.heap H' locs' → z_Lr bs lt n ls' lr' → W p l e R s m args below meth c H' locs' (cells + (h'.1 - h.1)) (slots + (h'.2.1 - h.2.1)) Q (F0 m pc' lr' (st'.map (z_rv bs lt)))) :
    W p l e R s m args below meth c H locs cells slots Q (F0 m pc lr (st.map (z_rv bs lt))) := by
  obtain ⟨hx, hb, hml, hr, hlk, hown, hts, hnm, heh⟩ := hC
  obtain ⟨hlt, hl2, hK, hbs, hgv, hst, hlit⟩ := hG
  simp only [z_do, z_ob] at hdo
  split at hdo
  · rename_i v hv
    simp only [z_nx, Option.some.injEq, Sum.inl.injEq, Prod.mk.injEq] at hdo
    obtain ⟨rfl, rfl, rfl, rfl⟩ := hdo
    simp only [Nat.sub_self, Nat.add_zero] at kk
    unfold zt_stc at hv
    obtain ⟨x, hx1, rfl⟩ := Option.map_eq_some_iff.mp hv
    have h1 := List.all_eq_true.mp zt_sok _ (zt_lk_mem hx1)
    unfold zt_schk at h1
    simp only [Bool.or_eq_true, Bool.and_eq_true, decide_eq_true_eq] at h1
    have h2 := kk H lr locs hR hS hL
    rw [z_map_cons] at h2
    rcases h1 with ⟨e1, h1⟩ | ⟨e1, h1⟩
    · rw [e1] at h2
      exact va_gets hx hb hst.1 hS hown (z_word hts h1) (fun _ h9 => h9) hd h2
    · rw [e1] at h2
      exact va_gets hx hb hst.2 hS hown (z_word hts h1) (fun _ h9 => h9) hd h2
  · cases hdo
theorem zt_cst_spec {o k : Nat} {e : zE} {dy : Bool} (h : zt_cst o k e dy = true) : (Cond.classLink (zt_cn o) k "java/lang/String" ∈ z_wl ∧ ∃ fs, e = .inr (2, fs) ∧ fs ≠ []) ∨ (Cond.classLink (zt_cn o) k "[B" ∈ z_wl ∧ (∃ x, e = .inl (2, x)) ∧ dy = true) := by
  unfold zt_cst at h
  split at h
  · rename_i ps c fs hk
    have h1 := List.all_eq_true.mp zt_tok _ (zt_lk_mem hk)
    unfold zt_tchk at h1
    simp only [decide_eq_true_eq, if_true, Bool.and_eq_true] at h1 h
    obtain ⟨rfl, h⟩ := h
    exact Or.inl ⟨List.mem_of_getElem? h1, fs, rfl, by rintro rfl; simp at h⟩
  · rename_i ps c x hk
    have h1 := List.all_eq_true.mp zt_tok _ (zt_lk_mem hk)
    unfold zt_tchk at h1
    simp only [decide_eq_true_eq, Bool.false_eq_true, if_false, Bool.and_eq_true] at h1 h
    obtain ⟨rfl, h⟩ := h
    exact Or.inr ⟨List.mem_of_getElem? h1, ⟨x, rfl⟩, h⟩
  · cases h
/-- a String of the heap, or a given one, as a receiver -/
theorem z_recvS (hK : va_K D zt_cl (z_tys tA) s) (hgv : ∀ k, z_gv bs lt K s k) (hR : z_Rel D bs lt tA K h H) (hS : va_S (z_A bs) s.heap H locs) {v : Value} {cx : Nat} {fs : List Value} (hv : z_at h v = .inr (cx, fs)) (hcx : cx ≠ 9999) (hfs : fs ≠ []) : ∃ (a : Nat) (rc : vw_C), z_rv bs lt v = .ref a ∧ zt_cl[cx]? = some rc ∧ ∃ cell : Cell, H[a]? = some cell ∧ cell.vm.isStatics = false ∧ s.vm.findClass rc.1 = some cell.cls := by
  cases v with
  | ref a =>
    have hne : (Sum.inr (cx, fs) : zE) ≠ z_jk := by
      unfold z_jk
      intro q
      exact hcx (Prod.mk.inj (Sum.inr.inj q)).1
    obtain ⟨-, hat⟩ := hR.in hv hne
    obtain ⟨r', hr', cell, g1, g2, g3, -⟩ := hat
    exact ⟨_, r', rfl, hr', cell, g1, by rw [g3]; rfl, by rw [g2]; exact (hK.1 cx _ hr').2.1⟩
  | retAddr k2 =>
    have hg := hgv k2
    have hKk : K k2 = .inr (cx, fs) := by rw [← hR.2.2.2.1]; exact hv
    unfold z_gv at hg
    rw [hKk] at hg
    rcases hg with hg | ⟨hc2, q2, e2, hf, ho⟩
    · exact absurd hg hfs
    · subst hc2
      obtain ⟨cell, g1, g2, g3, g4⟩ := ho.kept hS.2.1
      exact ⟨q2, _, e2, rfl, cell, g1, g2, g3⟩
  | _ =>
    simp [z_at, z_jk] at hv
    exact absurd hv.1.symm hcx
end ZK
