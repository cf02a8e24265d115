/-! THE TIE: instructions that touch the heap or the tables -/
/-- what a given cell is, at a method's entry -/
def z_gv (bs : Nat) (lt : Nat → Value) (K : Nat → zE) (s : State) (k : Nat) : Prop := match K k with
  | .inl (t, N, .inl f) => ∃ q, lt k = .ref q ∧ ∃ ty, ((t = 1 ∧ ty = FieldType.int) ∨ (t = 2 ∧ ty = FieldType.byte)) ∧ va_T ty q N (fun j => .int (f j)) (z_A bs) s s.heap ∧ (t = 2 → ∀ j, j < N → fits .byte (.int (f j)) = true)
  | .inl _ => False
  | .inr (c, fs) => fs = [] ∨ (c = 2 ∧ ∃ q, lt k = .ref q ∧ (∀ (j : Nat) (v : Value), fs[j]? = some v → z_ok v = true → va_OF (zt_F2 j).1 (zt_F2 j).2.1 (zt_F2 j).2.2.1 (z_rv bs lt v) q (z_A bs) s s.heap) ∧ va_O "java/lang/String" q (z_A bs) s s.heap)
/-- what is given at every method's entry -/
def z_G (D : va_G) (bs : Nat) (lt : Nat → Value) (tA : Nat → Nat) (K : Nat → zE) (s : State) : Prop :=
  z_lt lt ∧ z_l2 bs lt ∧ va_K D zt_cl (z_tys tA) s ∧ bs ≤ s.heap.size ∧ (∀ k, z_gv bs lt K s k) ∧
  (va_Z "java/lang/String" "COMPACT_STRINGS" "Z" (.int 1) (z_A bs) s s.heap ∧ va_Z "jdk/internal/util/Preconditions" "SIOOBE_FORMATTER" "Ljava/util/function/BiFunction;" (lt 150) (z_A bs) s s.heap) ∧
  (∀ (j : Nat) (x : String × Nat × String × List Nat), zt_strs[j]? = some x → ∃ q, lt (2 * j) = .ref q ∧ vk_R x.1 x.2.1 x.2.2.1 q s) ∧
  z_st "java/lang/Throwable" "UNASSIGNED_STACK" "[Ljava/lang/StackTraceElement;" (z_A bs) s ∧ z_st "java/lang/Throwable" "SUPPRESSED_SENTINEL" "Ljava/util/List;" (z_A bs) s ∧
  s.vm.assignable (D.1 12) (D.1 13) = false ∧ s.vm.assignable (D.1 13) (D.1 12) = false
/-- the walk of method i -/
def z_Cx (p : Program) (s : State) (m : MethodId) (args : Array Value) (meth : Method) (c : Code) (i : Nat) : Prop :=
  p.tables.exec = Jvm.exec ∧ c.code = zt_code i ∧ c.maxLocals = zt_ml i ∧ meth.sig.returnType = zt_ret i ∧ meth.locks = false ∧ s.vm.findClass (zt_cn (zt_own i)) = some m.cls ∧ (∀ w ∈ z_wl, w.before args s = true) ∧ meth.name = (zt_name i).name ∧ c.exceptionTable.toList = tableOf (zt_eh i)
theorem z_word {args : Array Value} {s : State} (hts : ∀ w ∈ z_wl, w.before args s = true) {k : Nat} {w : Cond} (h : z_wl[k]? = some w) : w.before args s = true := hts w (List.mem_of_getElem? h)
theorem zt_lk_mem {α : Type} {t : List ((Nat × Nat) × α)} {o k : Nat} {x : α} (h : zt_lk t o k = some x) : ((o, k), x) ∈ t := by
  unfold zt_lk at h
  obtain ⟨q, hq, rfl⟩ := Option.map_eq_some_iff.mp h
  have h1 := List.find?_some hq
  simp only [Bool.and_eq_true, beq_iff_eq] at h1
  obtain ⟨⟨a, b⟩, y⟩ := q
  obtain ⟨rfl, rfl⟩ := h1
  exact List.mem_of_find?_eq_some hq
/-- a class of the table -/
theorem zt_cl_spec {c : Nat} {r : vw_C} (h : zt_cl[c]? = some r) : ∃ ts : List FieldType, (∀ k, k < r.2.2 → parseFieldDescriptor (r.2.1 k).2.2.1 = some (ts.getD k .int)) ∧ (∀ w ∈ u_ws r.1 r.2.1 r.2.2, w ∈ z_wl) ∧ (∀ a, a < r.2.2 → ∀ b, b < r.2.2 → a ≠ b → (r.2.1 a).2.1 ≠ (r.2.1 b).2.1) ∧ (Cond.initialized r.1 ∈ z_wl) := by
  have hc : c < 15 := (List.getElem?_eq_some_iff.mp h).1
  have hk := zt_cok c hc
  unfold zt_cchk at hk
  rw [h] at hk
  split at hk
  · rename_i C T N ps pi pn ts h1 h2 h3
    cases h1
    simp only [Bool.and_eq_true, List.all_eq_true, List.mem_range, decide_eq_true_eq, Bool.or_eq_true] at hk
    refine ⟨ts, fun k h4 => (hk.1 k h4).1.1, fun w hw => ?_, fun a ha b hb hab => ?_, List.mem_of_getElem? hk.2⟩
    · obtain ⟨k, hk1, rfl⟩ := List.mem_map.mp hw
      exact List.mem_of_getElem? (hk.1 k (List.mem_range.mp hk1)).1.2
    · rcases (hk.1 b hb).2 a ha with h5 | h5
      · exact absurd h5 hab
      · exact h5
  · cases hk
/-- a field of the table -/
theorem zt_fld_spec {o k : Nat} {q : Nat × Nat × FieldType} (h : zt_fld o k = some q) : ∃ r : vw_C, zt_cl[q.1]? = some r ∧ q.2.1 < r.2.2 ∧ Cond.fieldLink (zt_cn o) k (r.2.1 q.2.1).1 (r.2.1 q.2.1).2.1 (r.2.1 q.2.1).2.2.1 ∈ z_wl ∧ parseFieldDescriptor (r.2.1 q.2.1).2.2.1 = some q.2.2 := by
  unfold zt_fld at h
  obtain ⟨x, hx, rfl⟩ := Option.map_eq_some_iff.mp h
  have h1 := List.all_eq_true.mp zt_fok _ (zt_lk_mem hx)
  unfold zt_fchk at h1
  split at h1
  · rename_i C T N hc
    simp only [Bool.and_eq_true, decide_eq_true_eq] at h1
    exact ⟨(C, T, N), hc, h1.1.1, List.mem_of_getElem? h1.1.2, h1.2⟩
  · cases h1
section ZI
variable {p : Program} {l : Launch} {e : Env} {R : Room} {s : State} {m : MethodId} {args : Array Value} {below : List Frame} {meth : Method} {c : Code} {H : Heap} {locs : List Loc} {cells slots : Nat} {Q : State → Prop}
variable {D : va_G} {bs n : Nat} {lt : Nat → Value} {tA : Nat → Nat} {K : Nat → zE} {lr : Array Slot} {i pc pc' : Nat} {ls st ls' st' : List Value} {h h' : zH}
theorem z_one {cl : List vw_C} {q : Nat × va_E} (hat : va_at D cl q H) : va_P D cl [q] H := by
  intro k x hk
  cases k with
  | zero => cases hk; exact hat
  | succ k => cases hk
theorem z_tys_at (tA : Nat → Nat) {t : Nat} (ht : 1 ≤ t ∧ t ≤ 8) : ∃ ty : FieldType, (z_tys tA)[t - 1]? = some (tA t, ty) := by
  match t, ht with
  | 1, _ => exact ⟨_, rfl⟩
  | 2, _ => exact ⟨_, rfl⟩
  | 3, _ => exact ⟨_, rfl⟩
  | 4, _ => exact ⟨_, rfl⟩
  | 5, _ => exact ⟨_, rfl⟩
  | 6, _ => exact ⟨_, rfl⟩
  | 7, _ => exact ⟨_, rfl⟩
  | 8, _ => exact ⟨_, rfl⟩
theorem z_setI (cA N : Nat) (f : Nat → Int32) (k : Nat) (x : Int32) : (vp_cell cA (N, .inl f)).setSlot k (.int x) = vp_cell cA (N, .inl (upd f k x)) := by
  rw [vp_cell_i, vp_cell_i, arrV_store]
  congr 1
  funext q
  by_cases hq : q = k
  · subst hq; simp [updV, upd]
  · simp [updV, upd, hq]
theorem z_setL (cA N : Nat) (f : Nat → Int64) (k : Nat) (x : Int64) : (vp_cell cA (N, .inr (.inl f))).setSlot k (.long x) = vp_cell cA (N, .inr (.inl (vp_updL f k x))) := by
  rw [vp_cell_l, vp_cell_l, arrV_store]
  congr 1
  funext q
  by_cases hq : q = k
  · subst hq; simp [updV, vp_updL]
  · simp [updV, vp_updL, hq]
theorem z_bf_nar {e0 : zE} {N : Nat} {f : Nat → Int32} (hb : z_bf e0) (he : e0 = .inl (2, N, .inl f)) (k : Nat) (x : Int32) (j : Nat) : fits .byte (.int (upd f k (vp_nar .byte x) j)) = true := by
  subst he
  have h1 : ∀ j, fits .byte (.int (f j)) = true := hb rfl
  unfold upd
  split
  · rw [vp_nar_byte]; exact pk_fb x
  · exact h1 j
theorem z_jk_ne {c : Nat} {fs : List Value} {k : Nat} {v : Value} (h : fs[k]? = some v) : (Sum.inr (c, fs) : zE) ≠ z_jk := by
  unfold z_jk
  intro e
  cases e
  simp at h
theorem zn_getfield {k : Nat} (hC : z_Cx p s m args meth c i) (hG : z_G D bs lt tA K s) (hR : z_Rel D bs lt tA K h H) (hS : va_S (z_A bs) s.heap H locs) (hL : z_Lr bs lt n ls lr) (hd : decode (zt_code i) pc = .ok (.getfield k, 3)) (hdo : z_do i pc (.getfield k) ls st h = some (.inl (pc', ls', st', h')))
    (hc : cells + (h'.1 - h.1) ≤ R.cells) (hs : slots + (h'.2.1 - h.2.1) ≤ R.slots)
    (kk : ∀ (H' : Heap) (lr' : Array Slot) (locs' : List Loc), z_Rel D bs lt tA K h' H' → va_S (z_A bs) s.heap H' locs' → z_Lr bs lt n ls' lr' → W p l e R s m args below meth c H' locs' (cells + (h'.1 - h.1)) (slots + (h'.2.1 - h.2.1)) Q (F0 m pc' lr' (st'.map (z_rv bs lt)))) :
    W p l e R s m args below meth c H locs cells slots Q (F0 m pc lr (st.map (z_rv bs lt))) := by
  obtain ⟨hx, hb, hml, hr, hlk, hown, hts, hnm, heh⟩ := hC
  obtain ⟨hlt, hl2, hK, hbs, hgv, hst, hlit⟩ := hG
  simp only [z_do, z_v, z_ob] at hdo
  split at hdo
  · rename_i v r
    split at hdo
    · rename_i q hq
      split at hdo
      · rename_i x hx1
        simp only [z_nx, Option.some.injEq, Sum.inl.injEq, Prod.mk.injEq] at hdo
        obtain ⟨rfl, rfl, rfl, rfl⟩ := hdo
        simp only [Nat.sub_self, Nat.add_zero] at kk
        obtain ⟨rc, hrc, hk, hlink, hpf⟩ := zt_fld_spec hq
        obtain ⟨ts, hty, hin, hnm2, -⟩ := zt_cl_spec hrc
        unfold z_gf at hx1
        split at hx1
        · rename_i c' fs hc1
          split at hx1
          · rename_i hcc
            split at hx1
            · rename_i y hy
              split at hx1
              · rename_i hok
                cases hx1
                cases v with
                | ref a =>
                  have hat := (hR.in hc1 (z_jk_ne hy)).2
                  subst hcc
                  exact va_get (D := D) (cl := zt_cl) (tys := z_tys tA) (ci := q.1) (C := rc.1) (T := rc.2.1) (N := rc.2.2) hx hb hts hin hown hK (z_one hat) 0 rfl hrc q.2.1 hk (hts _ hlink) (fun _ h9 => h9) (v := z_rv bs lt x) (by rw [List.getElem?_map, hy]; rfl) hd (kk H lr locs hR hS hL)
                | retAddr k2 =>
                  have hg := hgv k2
                  have hKk : K k2 = .inr (c', fs) := by rw [← hR.2.2.2.1]; exact hc1
                  unfold z_gv at hg
                  rw [hKk] at hg
                  rcases hg with hg | ⟨hc2, q2, e2, hf, ho⟩
                  · subst hg; simp at hy
                  · have hrc2 : rc = ("java/lang/String", zt_F2, 4) := by
                      rw [← hcc, hc2] at hrc
                      exact (Option.some.inj hrc).symm
                    subst hrc2
                    show W p l e R s m args below meth c H locs cells slots Q (F0 m pc lr (lt k2 :: _))
                    rw [e2]
                    exact vk_getf hx hb (hf q.2.1 x hy hok) hS hown (hts _ hlink) (fun _ h9 => h9) hd (kk H lr locs hR hS hL)
                | _ => simp [z_at, z_jk] at hc1; rw [hc1.2] at hy; simp at hy
              · cases hx1
            · cases hx1
          · cases hx1
        · cases hx1
      · cases hdo
    · cases hdo
  · cases hdo
theorem zn_arraylength (hC : z_Cx p s m args meth c i) (hG : z_G D bs lt tA K s) (hR : z_Rel D bs lt tA K h H) (hS : va_S (z_A bs) s.heap H locs) (hL : z_Lr bs lt n ls lr) (hd : decode (zt_code i) pc = .ok (.arraylength, 1)) (hdo : z_do i pc .arraylength ls st h = some (.inl (pc', ls', st', h')))
    (hc : cells + (h'.1 - h.1) ≤ R.cells) (hs : slots + (h'.2.1 - h.2.1) ≤ R.slots)
    (kk : ∀ (H' : Heap) (lr' : Array Slot) (locs' : List Loc), z_Rel D bs lt tA K h' H' → va_S (z_A bs) s.heap H' locs' → z_Lr bs lt n ls' lr' → W p l e R s m args below meth c H' locs' (cells + (h'.1 - h.1)) (slots + (h'.2.1 - h.2.1)) Q (F0 m pc' lr' (st'.map (z_rv bs lt)))) :
    W p l e R s m args below meth c H locs cells slots Q (F0 m pc lr (st.map (z_rv bs lt))) := by
  obtain ⟨hx, hb, hml, hr, hlk, hown, hts, hnm, heh⟩ := hC
  obtain ⟨hlt, hl2, hK, hbs, hgv, hst, hlit⟩ := hG
  simp only [z_do, z_v, z_ob] at hdo
  split at hdo
  · rename_i v r
    split at hdo
    · rename_i x hx1
      simp only [z_nx, Option.some.injEq, Sum.inl.injEq, Prod.mk.injEq] at hdo
      obtain ⟨rfl, rfl, rfl, rfl⟩ := hdo
      simp only [Nat.sub_self, Nat.add_zero] at kk
      unfold z_len at hx1
      split at hx1
      · rename_i t N ct hc1
        split at hx1
        case isFalse => cases hx1
        rename_i ht8
        cases hx1
        cases v with
        | ref a =>
          have hat := (hR.in hc1 (by unfold z_jk; exact fun q => by cases q)).2
          obtain ⟨ty, ht⟩ := z_tys_at tA ht8
          have hat2 : ∃ ct2 : vp_A, ct2.1 = N ∧ va_at D zt_cl (bs + a, .inl (tA t, ct2)) H := by
            obtain f | f | f | f | f := ct <;> exact ⟨(N, _), rfl, hat⟩
          obtain ⟨ct2, rfl, hat2⟩ := hat2
          exact va_alen (D := D) (cl := zt_cl) hx hb hK (z_one hat2) 0 (t - 1) rfl ht rfl hd (kk H lr locs hR hS hL)
        | retAddr k2 =>
          have hg := hgv k2
          have hKk : K k2 = .inl (t, N, ct) := by rw [← hR.2.2.2.1]; exact hc1
          unfold z_gv at hg
          rw [hKk] at hg
          split at hg
          · rename_i t2 N2 f2 e3
            cases e3
            obtain ⟨q2, e2, ty, -, hT, -⟩ := hg
            show W p l e R s m args below meth c H locs cells slots Q (F0 m pc lr (lt k2 :: _))
            rw [e2]
            exact va_tlen hx hb hT hS rfl hd (kk H lr locs hR hS hL)
          · exact hg.elim
          · rename_i e3; cases e3
        | _ => simp [z_at, z_jk] at hc1
      · cases hx1
    · cases hdo
  · cases hdo
theorem zn_iaload (hC : z_Cx p s m args meth c i) (hG : z_G D bs lt tA K s) (hR : z_Rel D bs lt tA K h H) (hS : va_S (z_A bs) s.heap H locs) (hL : z_Lr bs lt n ls lr) (hd : decode (zt_code i) pc = .ok (.iaload, 1)) (hdo : z_do i pc .iaload ls st h = some (.inl (pc', ls', st', h')))
    (hc : cells + (h'.1 - h.1) ≤ R.cells) (hs : slots + (h'.2.1 - h.2.1) ≤ R.slots)
    (kk : ∀ (H' : Heap) (lr' : Array Slot) (locs' : List Loc), z_Rel D bs lt tA K h' H' → va_S (z_A bs) s.heap H' locs' → z_Lr bs lt n ls' lr' → W p l e R s m args below meth c H' locs' (cells + (h'.1 - h.1)) (slots + (h'.2.1 - h.2.1)) Q (F0 m pc' lr' (st'.map (z_rv bs lt)))) :
    W p l e R s m args below meth c H locs cells slots Q (F0 m pc lr (st.map (z_rv bs lt))) := by
  obtain ⟨hx, hb, hml, hr, hlk, hown, hts, hnm, heh⟩ := hC
  obtain ⟨hlt, hl2, hK, hbs, hgv, hst, hlit⟩ := hG
  simp only [z_do, z_vi, z_ob] at hdo
  split at hdo
  · rename_i j v r
    split at hdo
    · rename_i x hx1
      simp only [z_nx, Option.some.injEq, Sum.inl.injEq, Prod.mk.injEq] at hdo
      obtain ⟨rfl, rfl, rfl, rfl⟩ := hdo
      simp only [Nat.sub_self, Nat.add_zero] at kk
      unfold z_ai at hx1
      split at hx1
      · rename_i t' N f hc1
        split at hx1
        · rename_i ht
          subst ht
          split at hx1
          · rename_i hin
            cases hx1
            cases v with
            | ref a =>
              have hat := (hR.in hc1 (by unfold z_jk; exact fun q => by cases q)).2
              exact va_iald (D := D) (cl := zt_cl) (tys := z_tys tA) hx hb hK (z_one hat) 0 0 rfl rfl (z_inb_iff.mp hin) hd (kk H lr locs hR hS hL)
            | retAddr k2 =>
              have hg := hgv k2
              have hKk : K k2 = .inl (1, N, .inl f) := by rw [← hR.2.2.2.1]; exact hc1
              unfold z_gv at hg
              rw [hKk] at hg
              obtain ⟨q2, e2, ty, hty, hT, -⟩ := hg
              have hty2 : ty = FieldType.int := by
                rcases hty with ⟨h1, h2⟩ | ⟨h1, h2⟩ <;> first | exact h2 | (exact absurd h1 (by decide))
              subst hty2
              show W p l e R s m args below meth c H locs cells slots Q (F0 m pc lr (.int j :: lt k2 :: _))
              rw [e2]
              exact va_ti hx hb hT hS (z_inb_iff.mp hin) rfl hd (kk H lr locs hR hS hL)
            | _ => simp [z_at, z_jk] at hc1
          · cases hx1
        · cases hx1
      · cases hx1
    · cases hdo
  · cases hdo
theorem zn_caload (hC : z_Cx p s m args meth c i) (hG : z_G D bs lt tA K s) (hR : z_Rel D bs lt tA K h H) (hS : va_S (z_A bs) s.heap H locs) (hL : z_Lr bs lt n ls lr) (hd : decode (zt_code i) pc = .ok (.caload, 1)) (hdo : z_do i pc .caload ls st h = some (.inl (pc', ls', st', h')))
    (hc : cells + (h'.1 - h.1) ≤ R.cells) (hs : slots + (h'.2.1 - h.2.1) ≤ R.slots)
    (kk : ∀ (H' : Heap) (lr' : Array Slot) (locs' : List Loc), z_Rel D bs lt tA K h' H' → va_S (z_A bs) s.heap H' locs' → z_Lr bs lt n ls' lr' → W p l e R s m args below meth c H' locs' (cells + (h'.1 - h.1)) (slots + (h'.2.1 - h.2.1)) Q (F0 m pc' lr' (st'.map (z_rv bs lt)))) :
    W p l e R s m args below meth c H locs cells slots Q (F0 m pc lr (st.map (z_rv bs lt))) := by
  obtain ⟨hx, hb, hml, hr, hlk, hown, hts, hnm, heh⟩ := hC
  obtain ⟨hlt, hl2, hK, hbs, hgv, hst, hlit⟩ := hG
  simp only [z_do, z_vi, z_ob] at hdo
  split at hdo
  · rename_i j v r
    split at hdo
    · rename_i x hx1
      simp only [z_nx, Option.some.injEq, Sum.inl.injEq, Prod.mk.injEq] at hdo
      obtain ⟨rfl, rfl, rfl, rfl⟩ := hdo
      simp only [Nat.sub_self, Nat.add_zero] at kk
      unfold z_ai at hx1
      split at hx1
      · rename_i t' N f hc1
        split at hx1
        · rename_i ht
          subst ht
          split at hx1
          · rename_i hin
            cases hx1
            cases v with
            | ref a =>
              have hat := (hR.in hc1 (by unfold z_jk; exact fun q => by cases q)).2
              exact va_cald (D := D) (cl := zt_cl) (tys := z_tys tA) hx hb hK (z_one hat) 0 2 rfl rfl (z_inb_iff.mp hin) hd (kk H lr locs hR hS hL)
            | retAddr k2 =>
              have hg := hgv k2
              have hKk : K k2 = .inl (3, N, .inl f) := by rw [← hR.2.2.2.1]; exact hc1
              unfold z_gv at hg
              rw [hKk] at hg
              first
                | exact hg.elim
                | (obtain ⟨q2, e2, ty, hty, hT, -⟩ := hg
                   rcases hty with ⟨h1, h2⟩ | ⟨h1, h2⟩ <;> exact absurd h1 (by decide))
            | _ => simp [z_at, z_jk] at hc1
          · cases hx1
        · cases hx1
      · cases hx1
    · cases hdo
  · cases hdo
theorem zn_laload (hC : z_Cx p s m args meth c i) (hG : z_G D bs lt tA K s) (hR : z_Rel D bs lt tA K h H) (hS : va_S (z_A bs) s.heap H locs) (hL : z_Lr bs lt n ls lr) (hd : decode (zt_code i) pc = .ok (.laload, 1)) (hdo : z_do i pc .laload ls st h = some (.inl (pc', ls', st', h')))
    (hc : cells + (h'.1 - h.1) ≤ R.cells) (hs : slots + (h'.2.1 - h.2.1) ≤ R.slots)
    (kk : ∀ (H' : Heap) (lr' : Array Slot) (locs' : List Loc), z_Rel D bs lt tA K h' H' → va_S (z_A bs) s.heap H' locs' → z_Lr bs lt n ls' lr' → W p l e R s m args below meth c H' locs' (cells + (h'.1 - h.1)) (slots + (h'.2.1 - h.2.1)) Q (F0 m pc' lr' (st'.map (z_rv bs lt)))) :
    W p l e R s m args below meth c H locs cells slots Q (F0 m pc lr (st.map (z_rv bs lt))) := by
  obtain ⟨hx, hb, hml, hr, hlk, hown, hts, hnm, heh⟩ := hC
  obtain ⟨hlt, hl2, hK, hbs, hgv, hst, hlit⟩ := hG
  simp only [z_do, z_vi, z_ob] at hdo
  split at hdo
  · rename_i j v r
    split at hdo
    · rename_i x hx1
      simp only [z_nx, Option.some.injEq, Sum.inl.injEq, Prod.mk.injEq] at hdo
      obtain ⟨rfl, rfl, rfl, rfl⟩ := hdo
      simp only [Nat.sub_self, Nat.add_zero] at kk
      unfold z_al at hx1
      split at hx1
      · rename_i t' N f hc1
        split at hx1
        · rename_i ht
          subst ht
          split at hx1
          · rename_i hin
            cases hx1
            cases v with
            | ref a =>
              have hat := (hR.in hc1 (by unfold z_jk; exact fun q => by cases q)).2
              exact va_lald (D := D) (cl := zt_cl) (tys := z_tys tA) hx hb hK (z_one hat) 0 4 rfl rfl (z_inb_iff.mp hin) hd (kk H lr locs hR hS hL)
            | retAddr k2 =>
              have hg := hgv k2
              have hKk : K k2 = .inl (5, N, .inr (.inl f)) := by rw [← hR.2.2.2.1]; exact hc1
              unfold z_gv at hg
              rw [hKk] at hg
              first
                | exact hg.elim
                | (obtain ⟨q2, e2, ty, hty, hT, -⟩ := hg
                   rcases hty with ⟨h1, h2⟩ | ⟨h1, h2⟩ <;> exact absurd h1 (by decide))
            | _ => simp [z_at, z_jk] at hc1
          · cases hx1
        · cases hx1
      · cases hx1
    · cases hdo
  · cases hdo
theorem zn_baload (hC : z_Cx p s m args meth c i) (hG : z_G D bs lt tA K s) (hR : z_Rel D bs lt tA K h H) (hS : va_S (z_A bs) s.heap H locs) (hL : z_Lr bs lt n ls lr) (hd : decode (zt_code i) pc = .ok (.baload, 1)) (hdo : z_do i pc .baload ls st h = some (.inl (pc', ls', st', h')))
    (hc : cells + (h'.1 - h.1) ≤ R.cells) (hs : slots + (h'.2.1 - h.2.1) ≤ R.slots)
    (kk : ∀ (H' : Heap) (lr' : Array Slot) (locs' : List Loc), z_Rel D bs lt tA K h' H' → va_S (z_A bs) s.heap H' locs' → z_Lr bs lt n ls' lr' → W p l e R s m args below meth c H' locs' (cells + (h'.1 - h.1)) (slots + (h'.2.1 - h.2.1)) Q (F0 m pc' lr' (st'.map (z_rv bs lt)))) :
    W p l e R s m args below meth c H locs cells slots Q (F0 m pc lr (st.map (z_rv bs lt))) := by
  obtain ⟨hx, hb, hml, hr, hlk, hown, hts, hnm, heh⟩ := hC
  obtain ⟨hlt, hl2, hK, hbs, hgv, hst, hlit⟩ := hG
  simp only [z_do, z_vi, z_ob] at hdo
  split at hdo
  · rename_i j v r
    split at hdo
    · rename_i x hx1
      simp only [z_nx, Option.some.injEq, Sum.inl.injEq, Prod.mk.injEq] at hdo
      obtain ⟨rfl, rfl, rfl, rfl⟩ := hdo
      simp only [Nat.sub_self, Nat.add_zero] at kk
      split at hx1
      · unfold z_ai at hx1
        split at hx1
        · rename_i t' N f hc1
          split at hx1
          · rename_i ht
            subst ht
            split at hx1
            · rename_i hin
              cases hx1
              cases v with
              | ref a =>
                have hat := (hR.in hc1 (by unfold z_jk; exact fun q => by cases q)).2
                exact va_zald (D := D) (cl := zt_cl) (tys := z_tys tA) hx hb hK (z_one hat) 0 3 rfl rfl (z_inb_iff.mp hin) hd (kk H lr locs hR hS hL)
              | retAddr k2 =>
                have hg := hgv k2
                have hKk : K k2 = .inl (4, N, .inl f) := by rw [← hR.2.2.2.1]; exact hc1
                unfold z_gv at hg
                rw [hKk] at hg
                first
                  | exact hg.elim
                  | (obtain ⟨q2, e2, ty, hty, hT, -⟩ := hg
                     rcases hty with ⟨h1, h2⟩ | ⟨h1, h2⟩ <;> exact absurd h1 (by decide))
              | _ => simp [z_at, z_jk] at hc1
            · cases hx1
          · cases hx1
        · cases hx1
      · unfold z_ai at hx1
        split at hx1
        · rename_i t' N f hc1
          split at hx1
          · rename_i ht
            subst ht
            split at hx1
            · rename_i hin
              cases hx1
              cases v with
              | ref a =>
                have hat := (hR.in hc1 (by unfold z_jk; exact fun q => by cases q)).2
                exact va_bald (D := D) (cl := zt_cl) (tys := z_tys tA) hx hb hK (z_one hat) 0 1 rfl rfl (z_inb_iff.mp hin) hd (kk H lr locs hR hS hL)
              | retAddr k2 =>
                have hg := hgv k2
                have hKk : K k2 = .inl (2, N, .inl f) := by rw [← hR.2.2.2.1]; exact hc1
                unfold z_gv at hg
                rw [hKk] at hg
                obtain ⟨q2, e2, ty, hty, hT, -⟩ := hg
                have hty2 : ty = FieldType.byte := by
                  rcases hty with ⟨h1, h2⟩ | ⟨h1, h2⟩ <;> first | exact h2 | (exact absurd h1 (by decide))
                subst hty2
                show W p l e R s m args below meth c H locs cells slots Q (F0 m pc lr (.int j :: lt k2 :: _))
                rw [e2]
                exact va_tb hx hb hT hS (z_inb_iff.mp hin) rfl hd (kk H lr locs hR hS hL)
              | _ => simp [z_at, z_jk] at hc1
            · cases hx1
          · cases hx1
        · cases hx1
    · cases hdo
  · cases hdo
theorem zn_iastore (hC : z_Cx p s m args meth c i) (hG : z_G D bs lt tA K s) (hR : z_Rel D bs lt tA K h H) (hS : va_S (z_A bs) s.heap H locs) (hL : z_Lr bs lt n ls lr) (hd : decode (zt_code i) pc = .ok (.iastore, 1)) (hdo : z_do i pc .iastore ls st h = some (.inl (pc', ls', st', h')))
    (hc : cells + (h'.1 - h.1) ≤ R.cells) (hs : slots + (h'.2.1 - h.2.1) ≤ R.slots)
    (kk : ∀ (H' : Heap) (lr' : Array Slot) (locs' : List Loc), z_Rel D bs lt tA K h' H' → va_S (z_A bs) s.heap H' locs' → z_Lr bs lt n ls' lr' → W p l e R s m args below meth c H' locs' (cells + (h'.1 - h.1)) (slots + (h'.2.1 - h.2.1)) Q (F0 m pc' lr' (st'.map (z_rv bs lt)))) :
    W p l e R s m args below meth c H locs cells slots Q (F0 m pc lr (st.map (z_rv bs lt))) := by
  obtain ⟨hx, hb, hml, hr, hlk, hown, hts, hnm, heh⟩ := hC
  obtain ⟨hlt, hl2, hK, hbs, hgv, hst, hlit⟩ := hG
  simp only [z_do, z_i, z_vi, z_ob] at hdo
  split at hdo
  · rename_i x r0
    split at hdo
    · rename_i j v r
      split at hdo
      · rename_i e0 hx1
        unfold z_si at hx1
        split at hx1
        · rename_i t' N f hc1
          split at hx1
          · rename_i ht
            subst ht
            split at hx1
            · rename_i hin
              cases hx1
              cases v with
              | ref a =>
                simp only [z_put] at hdo
                simp only [z_nx, Option.some.injEq, Sum.inl.injEq, Prod.mk.injEq] at hdo
                obtain ⟨rfl, rfl, rfl, rfl⟩ := hdo
                simp only [Nat.sub_self, Nat.add_zero] at kk
                obtain ⟨ha, hat⟩ := hR.in hc1 (by unfold z_jk; exact fun q => by cases q)
                have hcell : H[bs + a]? = some (vp_cell (tA 1) (N, .inl f)) := hat
                refine W.iast hx hb hcell ((hK.2 0 _ rfl).1 N (fun q => .int (f q))) (fun q => by cases q) (by show ¬ (j < 0 ∨ (arrV _ _ _).slots.size ≤ _); rw [arrV_size]; exact z_inb_iff.mp hin) rfl rfl hd (fun H1 e1 z1 oq => ?_)
                refine kk H1 lr _ (hR.put ha (.inl (1, N, .inl (upd f j.toNatClampNeg x))) z1 oq ?_ (fun q => absurd q (by decide))) (z_S_put hS z1 oq) hL
                show H1[bs + a]? = some (vp_cell (tA 1) (N, .inl (upd f j.toNatClampNeg x)))
                rw [e1]
                exact congrArg some (z_setI _ _ _ _ _)
              | _ => simp [z_put] at hdo
            · cases hx1
          · cases hx1
        · cases hx1
      · cases hdo
    · cases hdo
  · cases hdo
theorem zn_castore (hC : z_Cx p s m args meth c i) (hG : z_G D bs lt tA K s) (hR : z_Rel D bs lt tA K h H) (hS : va_S (z_A bs) s.heap H locs) (hL : z_Lr bs lt n ls lr) (hd : decode (zt_code i) pc = .ok (.castore, 1)) (hdo : z_do i pc .castore ls st h = some (.inl (pc', ls', st', h')))
    (hc : cells + (h'.1 - h.1) ≤ R.cells) (hs : slots + (h'.2.1 - h.2.1) ≤ R.slots)
    (kk : ∀ (H' : Heap) (lr' : Array Slot) (locs' : List Loc), z_Rel D bs lt tA K h' H' → va_S (z_A bs) s.heap H' locs' → z_Lr bs lt n ls' lr' → W p l e R s m args below meth c H' locs' (cells + (h'.1 - h.1)) (slots + (h'.2.1 - h.2.1)) Q (F0 m pc' lr' (st'.map (z_rv bs lt)))) :
    W p l e R s m args below meth c H locs cells slots Q (F0 m pc lr (st.map (z_rv bs lt))) := by
  obtain ⟨hx, hb, hml, hr, hlk, hown, hts, hnm, heh⟩ := hC
  obtain ⟨hlt, hl2, hK, hbs, hgv, hst, hlit⟩ := hG
  simp only [z_do, z_i, z_vi, z_ob] at hdo
  split at hdo
  · rename_i x r0
    split at hdo
    · rename_i j v r
      split at hdo
      · rename_i e0 hx1
        unfold z_si at hx1
        split at hx1
        · rename_i t' N f hc1
          split at hx1
          · rename_i ht
            subst ht
            split at hx1
            · rename_i hin
              cases hx1
              cases v with
              | ref a =>
                simp only [z_put] at hdo
                simp only [z_nx, Option.some.injEq, Sum.inl.injEq, Prod.mk.injEq] at hdo
                obtain ⟨rfl, rfl, rfl, rfl⟩ := hdo
                simp only [Nat.sub_self, Nat.add_zero] at kk
                obtain ⟨ha, hat⟩ := hR.in hc1 (by unfold z_jk; exact fun q => by cases q)
                have hcell : H[bs + a]? = some (vp_cell (tA 3) (N, .inl f)) := hat
                refine W.cast hx hb hcell ((hK.2 2 _ rfl).1 N (fun q => .int (f q))) (fun q => by cases q) (by show ¬ (j < 0 ∨ (arrV _ _ _).slots.size ≤ _); rw [arrV_size]; exact z_inb_iff.mp hin) rfl rfl hd (fun H1 e1 z1 oq => ?_)
                refine kk H1 lr _ (hR.put ha (.inl (3, N, .inl (upd f j.toNatClampNeg (vp_nar .char x)))) z1 oq ?_ (fun q => absurd q (by decide))) (z_S_put hS z1 oq) hL
                show H1[bs + a]? = some (vp_cell (tA 3) (N, .inl (upd f j.toNatClampNeg (vp_nar .char x))))
                rw [e1]
                exact congrArg some (z_setI _ _ _ _ _)
              | _ => simp [z_put] at hdo
            · cases hx1
          · cases hx1
        · cases hx1
      · cases hdo
    · cases hdo
  · cases hdo
theorem zn_lastore (hC : z_Cx p s m args meth c i) (hG : z_G D bs lt tA K s) (hR : z_Rel D bs lt tA K h H) (hS : va_S (z_A bs) s.heap H locs) (hL : z_Lr bs lt n ls lr) (hd : decode (zt_code i) pc = .ok (.lastore, 1)) (hdo : z_do i pc .lastore ls st h = some (.inl (pc', ls', st', h')))
    (hc : cells + (h'.1 - h.1) ≤ R.cells) (hs : slots + (h'.2.1 - h.2.1) ≤ R.slots)
    (kk : ∀ (H' : Heap) (lr' : Array Slot) (locs' : List Loc), z_Rel D bs lt tA K h' H' → va_S (z_A bs) s.heap H' locs' → z_Lr bs lt n ls' lr' → W p l e R s m args below meth c H' locs' (cells + (h'.1 - h.1)) (slots + (h'.2.1 - h.2.1)) Q (F0 m pc' lr' (st'.map (z_rv bs lt)))) :
    W p l e R s m args below meth c H locs cells slots Q (F0 m pc lr (st.map (z_rv bs lt))) := by
  obtain ⟨hx, hb, hml, hr, hlk, hown, hts, hnm, heh⟩ := hC
  obtain ⟨hlt, hl2, hK, hbs, hgv, hst, hlit⟩ := hG
  simp only [z_do, z_l, z_vi, z_ob] at hdo
  split at hdo
  · rename_i x r0
    split at hdo
    · rename_i j v r
      split at hdo
      · rename_i e0 hx1
        unfold z_sl at hx1
        split at hx1
        · rename_i t' N f hc1
          split at hx1
          · rename_i ht
            subst ht
            split at hx1
            · rename_i hin
              cases hx1
              cases v with
              | ref a =>
                simp only [z_put] at hdo
                simp only [z_nx, Option.some.injEq, Sum.inl.injEq, Prod.mk.injEq] at hdo
                obtain ⟨rfl, rfl, rfl, rfl⟩ := hdo
                simp only [Nat.sub_self, Nat.add_zero] at kk
                obtain ⟨ha, hat⟩ := hR.in hc1 (by unfold z_jk; exact fun q => by cases q)
                have hcell : H[bs + a]? = some (vp_cell (tA 5) (N, .inr (.inl f))) := hat
                refine W.last hx hb hcell ((hK.2 4 _ rfl).1 N (fun q => .long (f q))) (fun q => by cases q) (by show ¬ (j < 0 ∨ (arrV _ _ _).slots.size ≤ _); rw [arrV_size]; exact z_inb_iff.mp hin) rfl rfl hd (fun H1 e1 z1 oq => ?_)
                refine kk H1 lr _ (hR.put ha (.inl (5, N, .inr (.inl (vp_updL f j.toNatClampNeg x)))) z1 oq ?_ trivial) (z_S_put hS z1 oq) hL
                show H1[bs + a]? = some (vp_cell (tA 5) (N, .inr (.inl (vp_updL f j.toNatClampNeg x))))
                rw [e1]
                exact congrArg some (z_setL _ _ _ _ _)
              | _ => simp [z_put] at hdo
            · cases hx1
          · cases hx1
        · cases hx1
      · cases hdo
    · cases hdo
  · cases hdo
theorem zn_bastore (hC : z_Cx p s m args meth c i) (hG : z_G D bs lt tA K s) (hR : z_Rel D bs lt tA K h H) (hS : va_S (z_A bs) s.heap H locs) (hL : z_Lr bs lt n ls lr) (hd : decode (zt_code i) pc = .ok (.bastore, 1)) (hdo : z_do i pc .bastore ls st h = some (.inl (pc', ls', st', h')))
    (hc : cells + (h'.1 - h.1) ≤ R.cells) (hs : slots + (h'.2.1 - h.2.1) ≤ R.slots)
    (kk : ∀ (H' : Heap) (lr' : Array Slot) (locs' : List Loc), z_Rel D bs lt tA K h' H' → va_S (z_A bs) s.heap H' locs' → z_Lr bs lt n ls' lr' → W p l e R s m args below meth c H' locs' (cells + (h'.1 - h.1)) (slots + (h'.2.1 - h.2.1)) Q (F0 m pc' lr' (st'.map (z_rv bs lt)))) :
    W p l e R s m args below meth c H locs cells slots Q (F0 m pc lr (st.map (z_rv bs lt))) := by
  obtain ⟨hx, hb, hml, hr, hlk, hown, hts, hnm, heh⟩ := hC
  obtain ⟨hlt, hl2, hK, hbs, hgv, hst, hlit⟩ := hG
  simp only [z_do, z_i, z_vi, z_ob] at hdo
  split at hdo
  · rename_i x r0
    split at hdo
    · rename_i j v r
      split at hdo
      · rename_i e0 hx1
        split at hx1
        · unfold z_si at hx1
          split at hx1
          · rename_i t' N f hc1
            split at hx1
            · rename_i ht
              subst ht
              split at hx1
              · rename_i hin
                cases hx1
                cases v with
                | ref a =>
                  simp only [z_put] at hdo
                  simp only [z_nx, Option.some.injEq, Sum.inl.injEq, Prod.mk.injEq] at hdo
                  obtain ⟨rfl, rfl, rfl, rfl⟩ := hdo
                  simp only [Nat.sub_self, Nat.add_zero] at kk
                  obtain ⟨ha, hat⟩ := hR.in hc1 (by unfold z_jk; exact fun q => by cases q)
                  have hcell : H[bs + a]? = some (vp_cell (tA 4) (N, .inl f)) := hat
                  refine W.zast hx hb hcell ((hK.2 3 _ rfl).1 N (fun q => .int (f q))) (fun q => by cases q) (by show ¬ (j < 0 ∨ (arrV _ _ _).slots.size ≤ _); rw [arrV_size]; exact z_inb_iff.mp hin) rfl rfl hd (fun H1 e1 z1 oq => ?_)
                  refine kk H1 lr _ (hR.put ha (.inl (4, N, .inl (upd f j.toNatClampNeg (vp_nar .boolean x)))) z1 oq ?_ (fun q => absurd q (by decide))) (z_S_put hS z1 oq) hL
                  show H1[bs + a]? = some (vp_cell (tA 4) (N, .inl (upd f j.toNatClampNeg (vp_nar .boolean x))))
                  rw [e1]
                  exact congrArg some (z_setI _ _ _ _ _)
                | _ => simp [z_put] at hdo
              · cases hx1
            · cases hx1
          · cases hx1
        · unfold z_si at hx1
          split at hx1
          · rename_i t' N f hc1
            split at hx1
            · rename_i ht
              subst ht
              split at hx1
              · rename_i hin
                cases hx1
                cases v with
                | ref a =>
                  simp only [z_put] at hdo
                  simp only [z_nx, Option.some.injEq, Sum.inl.injEq, Prod.mk.injEq] at hdo
                  obtain ⟨rfl, rfl, rfl, rfl⟩ := hdo
                  simp only [Nat.sub_self, Nat.add_zero] at kk
                  obtain ⟨ha, hat⟩ := hR.in hc1 (by unfold z_jk; exact fun q => by cases q)
                  have hcell : H[bs + a]? = some (vp_cell (tA 2) (N, .inl f)) := hat
                  refine W.bast hx hb hcell ((hK.2 1 _ rfl).1 N (fun q => .int (f q))) (fun q => by cases q) (by show ¬ (j < 0 ∨ (arrV _ _ _).slots.size ≤ _); rw [arrV_size]; exact z_inb_iff.mp hin) rfl rfl hd (fun H1 e1 z1 oq => ?_)
                  refine kk H1 lr _ (hR.put ha (.inl (2, N, .inl (upd f j.toNatClampNeg (vp_nar .byte x)))) z1 oq ?_ (fun _ q => z_bf_nar (hR.2.2.2.2 a) hc1 _ _ q)) (z_S_put hS z1 oq) hL
                  show H1[bs + a]? = some (vp_cell (tA 2) (N, .inl (upd f j.toNatClampNeg (vp_nar .byte x))))
                  rw [e1]
                  exact congrArg some (z_setI _ _ _ _ _)
                | _ => simp [z_put] at hdo
              · cases hx1
            · cases hx1
          · cases hx1
      · cases hdo
    · cases hdo
  · cases hdo
end ZI
