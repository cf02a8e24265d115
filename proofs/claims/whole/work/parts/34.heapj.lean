/-! THE TIE: makings, fields put, arrays of references, constants -/
theorem z_tf_spec {bs : Nat} {lt : Nat → Value} (hlt : z_lt lt) {ty : FieldType} {v : Value} (h : z_tf ty v = true) : narrow ty (z_rv bs lt v) = z_rv bs lt v ∧ fits ty (z_rv bs lt v) = true := by
  have href : ∀ w : Value, (w = .null ∨ ∃ a, w = .ref a) → fits ty .null = true → narrow ty w = w ∧ fits ty w = true := by
    intro w hw hf
    rcases hw with rfl | ⟨a, rfl⟩ <;> cases ty <;> simp [fits, narrow] at hf ⊢
  cases v with
  | int x =>
    simp only [z_tf, Bool.and_eq_true, decide_eq_true_eq] at h
    exact h
  | long x =>
    simp only [z_tf] at h
    refine ⟨?_, h⟩
    cases ty <;> rfl
  | ref a =>
    simp only [z_tf, Bool.and_eq_true] at h
    exact href _ (Or.inr ⟨_, rfl⟩) h.2
  | null =>
    simp only [z_tf, Bool.and_eq_true] at h
    exact href _ (Or.inl rfl) h.2
  | retAddr k =>
    simp only [z_tf, Bool.and_eq_true] at h
    exact href _ (hlt k) h.2
  | _ => simp [z_tf, z_isref] at h
theorem zt_new_spec {o k : Nat} {q : Nat × Nat × List Value} (h : zt_new o k = some q) : ∃ (r : vw_C) (ts : List FieldType), zt_cl[q.2.1]? = some r ∧ Cond.classLink (zt_cn o) k r.1 ∈ z_wl ∧ Cond.instantiable r.1 q.1 ∈ z_wl ∧ zt_Ts[q.2.1]? = some ts ∧ q.2.2 = (List.range r.2.2).map (fun j => defaultValue (ts.getD j .int)) := by
  unfold zt_new at h
  obtain ⟨x, hx, rfl⟩ := Option.map_eq_some_iff.mp h
  have h1 := List.all_eq_true.mp zt_nok _ (zt_lk_mem hx)
  unfold zt_nchk at h1
  split at h1
  · rename_i C T N ps pi pn ts e1 e2 e3
    simp only [Bool.and_eq_true, decide_eq_true_eq] at h1
    exact ⟨(C, T, N), ts, e1, List.mem_of_getElem? h1.1.1, List.mem_of_getElem? h1.1.2, e3, h1.2⟩
  · cases h1
/-- a class's types, as the tables have them -/
theorem zt_cl_ts {c : Nat} {r : vw_C} {ts : List FieldType} (h : zt_cl[c]? = some r) (ht : zt_Ts[c]? = some ts) : ∀ k, k < r.2.2 → parseFieldDescriptor (r.2.1 k).2.2.1 = some (ts.getD k .int) := by
  have hc : c < 15 := (List.getElem?_eq_some_iff.mp h).1
  have hk := zt_cok c hc
  unfold zt_cchk at hk
  rw [h, ht] at hk
  split at hk
  · rename_i C T N ps pi pn ts' h1 h2 h3
    cases h1
    cases h3
    simp only [Bool.and_eq_true, List.all_eq_true, List.mem_range, decide_eq_true_eq, Bool.or_eq_true] at hk
    exact fun k h4 => (hk.1 k h4).1.1
  · cases hk
section ZJ
variable {p : Program} {l : Launch} {e : Env} {R : Room} {s : State} {m : MethodId} {args : Array Value} {below : List Frame} {meth : Method} {c : Code} {H : Heap} {locs : List Loc} {cells slots : Nat} {Q : State → Prop}
variable {D : va_G} {bs n : Nat} {lt : Nat → Value} {tA : Nat → Nat} {K : Nat → zE} {lr : Array Slot} {i pc pc' : Nat} {ls st ls' st' : List Value} {h h' : zH}
theorem zn_putfield {k : Nat} (hC : z_Cx p s m args meth c i) (hG : z_G D bs lt tA K s) (hR : z_Rel D bs lt tA K h H) (hS : va_S (z_A bs) s.heap H locs) (hL : z_Lr bs lt n ls lr) (hd : decode (zt_code i) pc = .ok (.putfield k, 3)) (hdo : z_do i pc (.putfield k) ls st h = some (.inl (pc', ls', st', h')))
    (kk : ∀ (H' : Heap) (lr' : Array Slot) (locs' : List Loc), z_Rel D bs lt tA K h' H' → va_S (z_A bs) s.heap H' locs' → z_Lr bs lt n ls' lr' → W p l e R s m args below meth c H' locs' (cells + (h'.1 - h.1)) (slots + (h'.2.1 - h.2.1)) Q (F0 m pc' lr' (st'.map (z_rv bs lt)))) :
    W p l e R s m args below meth c H locs cells slots Q (F0 m pc lr (st.map (z_rv bs lt))) := by
  obtain ⟨hx, hb, hml, hr, hlk, hown, hts, hnm, heh⟩ := hC
  obtain ⟨hlt, hl2, hK, hbs, hgv, hst, hlit⟩ := hG
  simp only [z_do, z_v, z_ob] at hdo
  split at hdo
  · rename_i x r0
    split at hdo
    · rename_i v r
      split at hdo
      · rename_i q hq
        split at hdo
        · rename_i htf
          simp only [Bool.and_eq_true] at htf
          obtain ⟨htf, hfin⟩ := htf
          split at hdo
          · rename_i e0 hx1
            obtain ⟨rc, hrc, hk, hlink, hpf⟩ := zt_fld_spec hq
            obtain ⟨ts, hty, hin, hnm2, -⟩ := zt_cl_spec hrc
            unfold z_pf at hx1
            split at hx1
            · rename_i c' fs hc1
              split at hx1
              · rename_i hcc
                split at hx1
                · rename_i hkl
                  cases hx1
                  cases v with
                  | ref a =>
                    simp only [z_put] at hdo
                    simp only [z_nx, Option.some.injEq, Sum.inl.injEq, Prod.mk.injEq] at hdo
                    obtain ⟨rfl, rfl, rfl, rfl⟩ := hdo
                    simp only [Nat.sub_self, Nat.add_zero] at kk
                    subst hcc
                    have hne : (Sum.inr (q.1, fs) : zE) ≠ z_jk := by
                      unfold z_jk
                      intro e9
                      rw [(Prod.mk.inj (Sum.inr.inj e9)).2] at hkl
                      simp at hkl
                    obtain ⟨ha, hat⟩ := hR.in hc1 hne
                    obtain ⟨hn, hft⟩ := z_tf_spec (bs := bs) hlt htf
                    obtain ⟨r', h1, cell, q1, q2, q3, q4⟩ := hat
                    cases Option.some.inj (h1.symm.trans hrc)
                    have hap := va_apart (own := zt_cn (zt_own i)) hts hin (fun j => ts.getD j .int) hty hnm2 hK hrc
                    obtain ⟨hSl, hfc, kC, hkC, hkind⟩ := hK.1 q.1 _ hrc
                    obtain ⟨cf, kf, fi, f, hi, hsl⟩ := hSl q.2.1 hk
                    have hstat := (u_facts hfc hkC (u_lays hts hin hk) hi).1
                    have hlay := hts _ (hin _ (u_in_lay hk))
                    unfold u_lay at hlay
                    have fin : ∀ (H1 : Heap), H1[bs + a]? = some (cell.setSlot (D.2 q.1 q.2.1) (z_rv bs lt x)) → H1.size = H.size → (∀ y : Nat, y ≠ bs + a → H1[y]? = H[y]?) → W p l e R s m args below meth c H1 (locs ++ [⟨bs + a, D.2 q.1 q.2.1⟩]) cells slots Q (F0 m (pc + 3) lr (r.map (z_rv bs lt))) := by
                      intro H1 e1 z1 oq
                      refine kk H1 lr _ (hR.put ha (.inr (q.1, fs.set q.2.1 x)) z1 oq ?_ trivial) (z_S_put hS z1 oq) hL
                      have e5 : (fs.set q.2.1 x).map (z_rv bs lt) = (fs.map (z_rv bs lt)).set q.2.1 (z_rv bs lt x) := by rw [List.map_set]
                      show va_at D zt_cl (bs + a, .inr (q.1, (fs.set q.2.1 x).map (z_rv bs lt))) H1
                      rw [e5]
                      exact ⟨rc, hrc, t_OB.to (V := updV (vp_V (fs.map (z_rv bs lt))) q.2.1 (z_rv bs lt x)) ⟨_, e1, q2, q3, t_set q4 hap hk _⟩ (fun j _ => vp_updV_set (by simpa using hkl) _ j)⟩
                    unfold z_fin at hfin
                    rw [hrc] at hfin
                    by_cases hf : (rc.2.1 q.2.1).2.2.2 = true
                    · rw [if_pos hf] at hlay
                      have hfin2 : (zt_name i).name = "<init>" ∧ (rc.2.1 q.2.1).1 = zt_cn (zt_own i) := by
                        obtain ⟨C9, T9, N9⟩ := rc
                        simp only [Bool.or_eq_true, Bool.not_eq_true', Bool.and_eq_true, decide_eq_true_eq] at hfin
                        rcases hfin with h7 | h7
                        · exact absurd (hf.symm.trans h7) (by decide)
                        · exact h7
                      have hcf : m.cls = cf := by
                        obtain ⟨_, _, c9, _, _, _, -, -, hf', -, -, -, hown2, -⟩ := Cond.laysFinal_spec hlay
                        have e1 : c9 = cf := by have := hi.symm.trans hf'; simp at this; exact this.1.symm
                        rw [hfin2.2] at hown2
                        rw [← e1]; exact Option.some.inj (hown.symm.trans hown2)
                      have h6 := u_fits hfc hkC hkind (Or.inr hlay) hi hpf hn hft
                      refine W.putFinK hx hb hown (hts _ hlink) hi hstat hcf (hnm.trans hfin2.1) (by rw [q2]; exact h6) q1 q3 (by rw [hsl]; exact k2_hasslot (q4 q.2.1 hk)) rfl rfl hd fun H' e1 e2 e3 => ?_
                      rw [hsl] at e1 ⊢
                      exact fin H' e1 e2 e3
                    · rw [if_neg hf] at hlay
                      have h6 := u_store hfc hkC hkind hlay hi hpf hn hft
                      refine W.putK hx hb (f := f) ⟨hown, hts _ hlink, ⟨_, _, _, hi⟩, hstat⟩ (by rw [q2]; exact h6) q1 q3 (by rw [hsl]; exact k2_hasslot (q4 q.2.1 hk)) rfl rfl hd fun H' e1 e2 e3 => ?_
                      rw [hsl] at e1 ⊢
                      exact fin H' e1 e2 e3
                  | _ => simp [z_put] at hdo
                · cases hx1
              · cases hx1
            · cases hx1
          · cases hdo
        · cases hdo
      · cases hdo
    · cases hdo
  · cases hdo
theorem zn_new {k : Nat} (hC : z_Cx p s m args meth c i) (hG : z_G D bs lt tA K s) (hR : z_Rel D bs lt tA K h H) (hS : va_S (z_A bs) s.heap H locs) (hL : z_Lr bs lt n ls lr) (hd : decode (zt_code i) pc = .ok (.new k, 3)) (hdo : z_do i pc (.new k) ls st h = some (.inl (pc', ls', st', h')))
    (hc : cells + (h'.1 - h.1) ≤ R.cells) (hs : slots + (h'.2.1 - h.2.1) ≤ R.slots)
    (kk : ∀ (H' : Heap) (lr' : Array Slot) (locs' : List Loc), z_Rel D bs lt tA K h' H' → va_S (z_A bs) s.heap H' locs' → z_Lr bs lt n ls' lr' → W p l e R s m args below meth c H' locs' (cells + (h'.1 - h.1)) (slots + (h'.2.1 - h.2.1)) Q (F0 m pc' lr' (st'.map (z_rv bs lt)))) :
    W p l e R s m args below meth c H locs cells slots Q (F0 m pc lr (st.map (z_rv bs lt))) := by
  obtain ⟨hx, hb, hml, hr, hlk, hown, hts, hnm, heh⟩ := hC
  obtain ⟨hlt, hl2, hK, hbs, hgv, hst, hlit⟩ := hG
  simp only [z_do, z_ob] at hdo
  split at hdo
  · rename_i q hq
    have hdo : z_nx (pc + 3) ls (.ref h.1 :: st) (z_new h q.1 (.inr q.2)) = some (.inl (pc', ls', st', h')) := by
      split at hdo
      · split at hdo <;> cases hdo
      · exact hdo
    simp only [z_nx, Option.some.injEq, Sum.inl.injEq, Prod.mk.injEq] at hdo
    obtain ⟨rfl, rfl, rfl, rfl⟩ := hdo
    have e1 : (z_new h q.1 (.inr q.2)).1 - h.1 = 1 := by show h.1 + 1 - h.1 = 1; omega
    have e2 : (z_new h q.1 (.inr q.2)).2.1 - h.2.1 = q.1 := by show h.2.1 + q.1 - h.2.1 = q.1; omega
    rw [e1, e2] at kk
    rw [e1] at hc
    rw [e2] at hs
    obtain ⟨rc, ts, hrc, hcl, hins, hTs, hds⟩ := zt_new_spec hq
    obtain ⟨ts2, -, hin, hnm2, hini⟩ := zt_cl_spec hrc
    have hty := zt_cl_ts hrc hTs
    have hKn := hK.1 q.2.1 _ hrc
    refine W.newcK hx hb hown (hts _ hcl) (hts _ hins) (hts _ hini) rfl hd hc hs hKn.2.1 hR.1 fun H1 kC hkC f1 z1 o1 => ?_
    have z1' : H1.size = H.size + 1 := by rw [z1, hR.1]
    have o1' : ∀ y : Nat, y < H.size → H1[y]? = H[y]? := fun y hy => o1 y (by rw [← hR.1]; exact hy)
    refine kk H1 lr locs (hR.new q.1 (.inr q.2) z1' o1' ?_ trivial) (z_S_new hS z1' o1') hL
    refine ⟨rc, hrc, (u_born (fun j => ts.getD j .int) hts hin hKn hkC f1 hty).to (fun j hj => ?_)⟩
    show defaultValue (ts.getD j .int) = vp_V (q.2.2.map (z_rv bs lt)) j
    have hj' : j < rc.2.2 := hj
    have hdv : ∀ ty : FieldType, z_rv bs lt (defaultValue ty) = defaultValue ty := fun ty => by cases ty <;> rfl
    rw [hds]
    unfold vp_V
    simp [List.getElem?_range hj', hdv]
  · cases hdo
theorem z_arC (hK : va_K D zt_cl (z_tys tA) s) {k0 : Nat} {t : Nat} {ty : FieldType} (hty : (z_tys tA)[k0]? = some (tA t, ty)) {cA : ClassId} (hf : s.vm.findClass ("[" ++ ty.toString) = some cA) : cA = tA t := by
  have h1 := (hK.2 k0 _ hty).2
  unfold va_RA at h1
  split at h1
  · obtain ⟨kA, comp, -, -, -, h4⟩ := h1
    rename_i C e1
    have e2 : ty = .object C := e1
    subst e2
    exact Option.some.inj (hf.symm.trans h4)
  · exact Option.some.inj (hf.symm.trans h1)
theorem zn_newarray {t0 : ArrayType} (hC : z_Cx p s m args meth c i) (hG : z_G D bs lt tA K s) (hR : z_Rel D bs lt tA K h H) (hS : va_S (z_A bs) s.heap H locs) (hL : z_Lr bs lt n ls lr) (hd : decode (zt_code i) pc = .ok (.newarray t0, 2)) (hdo : z_do i pc (.newarray t0) ls st h = some (.inl (pc', ls', st', h')))
    (hc : cells + (h'.1 - h.1) ≤ R.cells) (hs : slots + (h'.2.1 - h.2.1) ≤ R.slots)
    (kk : ∀ (H' : Heap) (lr' : Array Slot) (locs' : List Loc), z_Rel D bs lt tA K h' H' → va_S (z_A bs) s.heap H' locs' → z_Lr bs lt n ls' lr' → W p l e R s m args below meth c H' locs' (cells + (h'.1 - h.1)) (slots + (h'.2.1 - h.2.1)) Q (F0 m pc' lr' (st'.map (z_rv bs lt)))) :
    W p l e R s m args below meth c H locs cells slots Q (F0 m pc lr (st.map (z_rv bs lt))) := by
  obtain ⟨hx, hb, hml, hr, hlk, hown, hts, hnm, heh⟩ := hC
  obtain ⟨hlt, hl2, hK, hbs, hgv, hst, hlit⟩ := hG
  simp only [z_do, z_i, z_ob] at hdo
  split at hdo
  · rename_i x r
    split at hdo
    · cases hdo
    · rename_i hneg
      split at hdo
      · rename_i e0 he0
        simp only [z_nx, Option.some.injEq, Sum.inl.injEq, Prod.mk.injEq] at hdo
        obtain ⟨rfl, rfl, rfl, rfl⟩ := hdo
        have e1 : (z_new h x.toNatClampNeg e0).1 - h.1 = 1 := by show h.1 + 1 - h.1 = 1; omega
        have e2 : (z_new h x.toNatClampNeg e0).2.1 - h.2.1 = x.toNatClampNeg := by show h.2.1 + x.toNatClampNeg - h.2.1 = _; omega
        rw [e1, e2] at kk
        rw [e1] at hc
        rw [e2] at hs
        unfold z_na at he0
        split at he0
        · cases he0
        · rename_i hbig
          have go : ∀ (k0 t : Nat) (ty : FieldType) (a0 : vp_A), newarray.typeOf t0 = ty → z_wl[k0]? = some (.arrayClass ty) → 1 ≤ t ∧ t ≤ 8 → (z_tys tA)[t - 1]? = some (tA t, ty) → componentBytes ty ≤ 8 → z_tr bs lt tA e0 = .inl (tA t, a0) → (∀ cA : ClassId, vp_cell cA a0 = arrV cA x.toNatClampNeg (fun _ => defaultValue ty)) → z_bf e0 → W p l e R s m args below meth c H locs cells slots Q (F0 m pc lr (List.map (z_rv bs lt) (.int x :: r))) := by
            intro k0 t ty a0 hty hw ht htt hcb htr ha0 hbf
            subst hty
            refine va_newaK hx hb (z_word hts hw) rfl hd rfl hneg rfl (Nat.le_trans (Nat.mul_le_mul (Nat.le_of_not_lt hbig) hcb) (by decide)) hc hs hR.1 fun H1 cA f1 z1 o1 hAr hNm => ?_
            have hcA := z_arC hK htt hNm
            subst hcA
            have z1' : H1.size = H.size + 1 := by rw [z1, hR.1]
            have o1' : ∀ y : Nat, y < H.size → H1[y]? = H[y]? := fun y hy => o1 y (by rw [← hR.1]; exact hy)
            refine kk H1 lr locs (hR.new _ e0 z1' o1' ?_ hbf) (z_S_new hS z1' o1') hL
            rw [htr]
            show H1[bs + h.1]? = some (vp_cell (tA t) a0)
            rw [ha0]
            exact f1
          split at he0
          · rename_i hty
            cases he0
            exact go _ 1 .int _ hty zt_ar_int (by decide) rfl (by decide) rfl (fun cA => rfl) (fun q => absurd q (by decide))
          · rename_i hty
            cases he0
            exact go _ 2 .byte _ hty zt_ar_byte (by decide) rfl (by decide) rfl (fun cA => rfl) (fun _ _ => rfl)
          · rename_i hty
            cases he0
            exact go _ 3 .char _ hty zt_ar_char (by decide) rfl (by decide) rfl (fun cA => rfl) (fun q => absurd q (by decide))
          · rename_i hty
            cases he0
            exact go _ 4 .boolean _ hty zt_ar_boolean (by decide) rfl (by decide) rfl (fun cA => rfl) (fun q => absurd q (by decide))
          · rename_i hty
            cases he0
            exact go _ 5 .long _ hty zt_ar_long (by decide) rfl (by decide) rfl (fun cA => rfl) trivial
          · cases he0
      · cases hdo
  · cases hdo
theorem zt_anw_spec {o k t : Nat} (h : zt_anw o k = some t) : ∃ C : String, Cond.classLink (zt_cn o) k C ∈ z_wl ∧ Cond.arrayOver (.object C) ∈ z_wl ∧ (1 ≤ t ∧ t ≤ 8) ∧ (z_tys tA)[t - 1]? = some (tA t, .object C) := by
  unfold zt_anw at h
  obtain ⟨x, hx, rfl⟩ := Option.map_eq_some_iff.mp h
  have h1 := List.all_eq_true.mp zt_aok _ (zt_lk_mem hx)
  unfold zt_achk at h1
  split at h1
  · rename_i C po e1
    simp only [Bool.and_eq_true, decide_eq_true_eq] at h1
    refine ⟨C, List.mem_of_getElem? h1.1, List.mem_of_getElem? h1.2, ?_⟩
    dsimp only at e1 ⊢
    unfold zt_arC at e1
    split at e1 <;> cases e1
    · rename_i e2; rw [e2]; exact ⟨by decide, rfl⟩
    · rename_i e2; rw [e2]; exact ⟨by decide, rfl⟩
    · rename_i e2; rw [e2]; exact ⟨by decide, rfl⟩
  · cases h1
theorem zn_anewarray {k : Nat} (hC : z_Cx p s m args meth c i) (hG : z_G D bs lt tA K s) (hR : z_Rel D bs lt tA K h H) (hS : va_S (z_A bs) s.heap H locs) (hL : z_Lr bs lt n ls lr) (hd : decode (zt_code i) pc = .ok (.anewarray k, 3)) (hdo : z_do i pc (.anewarray k) ls st h = some (.inl (pc', ls', st', h')))
    (hc : cells + (h'.1 - h.1) ≤ R.cells) (hs : slots + (h'.2.1 - h.2.1) ≤ R.slots)
    (kk : ∀ (H' : Heap) (lr' : Array Slot) (locs' : List Loc), z_Rel D bs lt tA K h' H' → va_S (z_A bs) s.heap H' locs' → z_Lr bs lt n ls' lr' → W p l e R s m args below meth c H' locs' (cells + (h'.1 - h.1)) (slots + (h'.2.1 - h.2.1)) Q (F0 m pc' lr' (st'.map (z_rv bs lt)))) :
    W p l e R s m args below meth c H locs cells slots Q (F0 m pc lr (st.map (z_rv bs lt))) := by
  obtain ⟨hx, hb, hml, hr, hlk, hown, hts, hnm, heh⟩ := hC
  obtain ⟨hlt, hl2, hK, hbs, hgv, hst, hlit⟩ := hG
  simp only [z_do, z_i, z_ob] at hdo
  split at hdo
  · rename_i x r
    split at hdo
    · cases hdo
    · rename_i hneg
      split at hdo
      · rename_i t ht0
        simp only [z_nx, Option.some.injEq, Sum.inl.injEq, Prod.mk.injEq] at hdo
        obtain ⟨rfl, rfl, rfl, rfl⟩ := hdo
        have e1 : (z_new h x.toNatClampNeg (.inl (t, x.toNatClampNeg, .inr (.inr (.inr (.inr (fun _ => none))))))).1 - h.1 = 1 := by show h.1 + 1 - h.1 = 1; omega
        have e2 : (z_new h x.toNatClampNeg (.inl (t, x.toNatClampNeg, .inr (.inr (.inr (.inr (fun _ => none))))))).2.1 - h.2.1 = x.toNatClampNeg := by show h.2.1 + x.toNatClampNeg - h.2.1 = _; omega
        rw [e1, e2] at kk
        rw [e1] at hc
        rw [e2] at hs
        obtain ⟨C, hcl, hao, ht, htt⟩ := zt_anw_spec (tA := tA) ht0
        have hbig : x.toNatClampNeg ≤ 100000 := Nat.le_of_not_lt (fun q => hneg (Or.inr q))
        refine W.anew hx hb hown (hts _ hcl) (hts _ hao) rfl hd rfl (fun q => hneg (Or.inl q)) (by omega) hc hs fun cA kA comp f1 f2 f3 f4 => ?_
        have hcA := z_arC hK htt f1
        subst hcA
        generalize hH1 : H.push ({ cls := tA t, slots := Array.replicate x.toNatClampNeg .null, vm := .none } : Cell) = H1
        have z1 : H1.size = H.size + 1 := by rw [← hH1, Array.size_push]
        have g1 : H1[H.size]? = some (arrV (tA t) x.toNatClampNeg (fun _ => .null)) := by rw [← hH1, Array.getElem?_push_size, ← arrV_new]
        have o1 : ∀ q : Nat, q < H.size → H1[q]? = H[q]? := fun q hq => by rw [← hH1, Array.getElem?_push, if_neg (Nat.ne_of_lt hq)]
        rw [hR.1] at g1 ⊢
        refine kk H1 lr locs (hR.new _ _ z1 o1 ?_ trivial) (z_S_new hS z1 o1) hL
        show H1[bs + h.1]? = some (vp_cell (tA t) _)
        rw [vp_cell_q]
        exact g1
      · cases hdo
  · cases hdo
theorem zn_aaload (hC : z_Cx p s m args meth c i) (hG : z_G D bs lt tA K s) (hR : z_Rel D bs lt tA K h H) (hS : va_S (z_A bs) s.heap H locs) (hL : z_Lr bs lt n ls lr) (hd : decode (zt_code i) pc = .ok (.aaload, 1)) (hdo : z_do i pc (.aaload) ls st h = some (.inl (pc', ls', st', h')))
    (hc : cells + (h'.1 - h.1) ≤ R.cells) (hs : slots + (h'.2.1 - h.2.1) ≤ R.slots)
    (kk : ∀ (H' : Heap) (lr' : Array Slot) (locs' : List Loc), z_Rel D bs lt tA K h' H' → va_S (z_A bs) s.heap H' locs' → z_Lr bs lt n ls' lr' → W p l e R s m args below meth c H' locs' (cells + (h'.1 - h.1)) (slots + (h'.2.1 - h.2.1)) Q (F0 m pc' lr' (st'.map (z_rv bs lt)))) :
    W p l e R s m args below meth c H locs cells slots Q (F0 m pc lr (st.map (z_rv bs lt))) := by
  obtain ⟨hx, hb, hml, hr, hlk, hown, hts, hnm, heh⟩ := hC
  obtain ⟨hlt, hl2, hK, hbs, hgv, hst, hlit⟩ := hG
  simp only [z_do, z_vi, z_ob] at hdo
  split at hdo
  · rename_i j v r
    split at hdo
    · rename_i x hx1
      simp only [z_nx, Option.some.injEq, Sum.inl.injEq, Prod.mk.injEq] at hdo
      obtain ⟨rfl, rfl, rfl, rfl⟩ := hdo
      simp only [Nat.sub_self, Nat.add_zero] at kk
      unfold z_aq at hx1
      split at hx1
      · rename_i t N f hc1
        split at hx1
        · rename_i ht
          split at hx1
          · rename_i hin
            cases hx1
            have htt : ∃ C : String, (z_tys tA)[t - 1]? = some (tA t, .object C) := by
              match t, ht with
              | 6, _ => exact ⟨_, rfl⟩
              | 7, _ => exact ⟨_, rfl⟩
              | 8, _ => exact ⟨_, rfl⟩
            obtain ⟨C, htt⟩ := htt
            cases v with
            | ref a =>
              have hat := (hR.in hc1 (by unfold z_jk; exact fun q => by cases q)).2
              refine va_aldq (D := D) (cl := zt_cl) (tys := z_tys tA) hx hb hK (z_one hat) 0 (t - 1) rfl htt (z_inb_iff.mp hin) hd ?_
              have h2 := kk H lr locs hR hS hL
              cases hf : f j.toNatClampNeg with
              | none =>
                simp only [hf, z_map_cons, va_rf, z_rv] at h2
                simpa [va_rf] using h2
              | some a2 =>
                simp only [hf, z_map_cons, va_rf, z_rv] at h2
                simpa [va_rf] using h2
            | retAddr k2 =>
              have hg := hgv k2
              have hKk : K k2 = .inl (t, N, .inr (.inr (.inr (.inr f)))) := by rw [← hR.2.2.2.1]; exact hc1
              unfold z_gv at hg
              rw [hKk] at hg
              exact hg.elim
            | _ => simp [z_at, z_jk] at hc1
          · cases hx1
        · cases hx1
      · cases hx1
    · cases hdo
  · cases hdo
end ZJ
