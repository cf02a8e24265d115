/-! THE TIE: a call whose callee throws, caught here -/
/-- what is thrown is what was just made -/
theorem z_thr_cell {i pc : Nat} {ls st : List Value} {h h' : zH} {a : Nat} (hstp : z_stp i pc ls st h = some (.inr (.inl (.inr a, h')))) : ∃ cn, h' = z_new h 6 (.inr (cn, [])) ∧ a = h.1 := by
  have hcall : ∀ k o, z_call i pc k o ls st h ≠ some (.inr (.inl (.inr a, h'))) := fun k o e9 => zc_call _ e9 _ rfl
  unfold z_stp at hstp
  split at hstp
  · rename_i ins len hd
    split at hstp
    · rename_i hlen
      cases ins with
      | new k =>
        simp only [z_do, z_ob, z_nx] at hstp
        split at hstp
        · rename_i q hq0
          split at hstp
          · split at hstp
            · simp only [Option.some.injEq, Sum.inr.injEq, Sum.inl.injEq, Prod.mk.injEq] at hstp
              obtain ⟨rfl, rfl⟩ := hstp
              exact ⟨_, rfl, rfl⟩
            · cases hstp
          · cases hstp
        · cases hstp
      | ireturn =>
        simp only [z_do, z_i] at hstp
        split at hstp
        · split at hstp <;> cases hstp
        · cases hstp
      | lreturn =>
        simp only [z_do, z_l] at hstp
        split at hstp
        · split at hstp <;> cases hstp
        · cases hstp
      | areturn =>
        simp only [z_do, z_v] at hstp
        split at hstp
        · split at hstp <;> cases hstp
        · cases hstp
      | return_ =>
        simp only [z_do] at hstp
        split at hstp <;> cases hstp
      | invokestatic k => exact absurd hstp (hcall _ _)
      | invokevirtual k => exact absurd hstp (hcall _ _)
      | invokespecial k => exact absurd hstp (hcall _ _)
      | _ =>
        obtain ⟨q, hq9⟩ := zs_do _ _ _ _ _ _ rfl _ hstp
        cases hq9
    · cases hstp
  · cases hstp
theorem z_ex_thr : ∀ (n i pc : Nat) (ls st : List Value) (h h1 : zH) (a : Nat), z_ex n i pc ls st h = some (h1, .inr a) → ∃ cn, h1.2.2.1 a = .inr (cn, []) := by
  intro n
  induction n with
  | zero => intro i pc ls st h h1 a e; cases e
  | succ n ih =>
    intro i pc ls st h h1 a e
    unfold z_ex at e
    split at e
    · cases e
    · exact ih _ _ _ _ _ _ _ e
    · rename_i q e0
      obtain ⟨o, h2⟩ := q
      cases e
      obtain ⟨cn, rfl, rfl⟩ := z_thr_cell e0
      exact ⟨cn, va_up_self _ _ _⟩
    · split at e
      · split at e
        · exact ih _ _ _ _ _ _ _ e
        · exact ih _ _ _ _ _ _ _ e
        · split at e
          · exact ih _ _ _ _ _ _ _ e
          · cases e
        · cases e
      · cases e
/-- the sites: in the rows' reach there is one call -/
def zc_k (i : Nat) : Nat := match i with
  | 157 => 30
  | 176 => 17
  | 212 => 21
  | 213 => 33
  | 215 => 27
  | _ => 7
def zc_chk (i : Nat) : Bool := (List.range 11).all fun pc => match decode (zt_code i) pc with
  | .ok (.invokestatic _, _) => false
  | .ok (.invokespecial _, _) => false
  | .ok (.invokevirtual k, _) => k == zc_k i
  | _ => true
theorem zc_ok : ∀ i ∈ [157, 176, 212, 213, 215, 217], zc_chk i = true := by decide +kernel
theorem zc_own : ∀ i ∈ [157, 176, 212, 213, 215, 217], zt_own i = 0 := by decide +kernel
def zc_sub (i : Nat) : Bool := match zt_mth 0 (zc_k i), zt_lk zt_subL 0 (zc_k i) with
  | some (1, _, 0), some (1, _) => true
  | _, _ => false
theorem zc_sub_ok : ∀ i ∈ [157, 176, 212, 213, 215, 217], zc_sub i = true := by decide +kernel
/-- such a site is of the second form -/
theorem zc_form {i : Nat} {q : Nat × Nat × Nat} (hi : i ∈ [157, 176, 212, 213, 215, 217]) (hq : zt_mth (zt_own i) (zc_k i) = some q) : ∃ rc : vw_C, zt_cl[q.2.2]? = some rc ∧ zf_b q.2.1 ∧ q.1 = 1 ∧ zf_1 0 (zc_k i) q.2.1 rc.1 := by
  have h0 := zc_sub_ok i hi
  rw [zc_own i hi] at hq
  have hq' := hq
  unfold zc_sub at h0
  rw [hq] at h0
  unfold zt_mth at hq
  obtain ⟨x, hx, rfl⟩ := Option.map_eq_some_iff.mp hq
  have h2 := zt_vok _ (zt_lk_mem hx)
  split at h0
  · rename_i j9 ps9 e1 e3
    unfold zt_vchk at h2
    dsimp only at h2
    have e5 : x.1 = (1, j9, 0) := Option.some.inj e1
    rw [if_neg (by rw [e5]; show ¬ 3 ≤ 1; decide), e3] at h2
    split at h2
    · rename_i sk ps C T N e4 e2
      cases e4
      simp only [Bool.and_eq_true, decide_eq_true_eq] at h2
      refine ⟨(C, T, N), e2, ⟨z_wl_at h2.1.1.1.1 rfl, ⟨h2.1.1.1.2, h2.1.1.2⟩, h2.1.2⟩, by rw [e5], ?_⟩
      have h3 := h2.2
      exact ⟨h3.1.1.1.1.2, h3.1.1.1.2, z_wl_at h3.1.1.2 rfl, z_wl_at h3.1.2 rfl, z_wl_at h3.2 rfl⟩
    · cases h2
  · cases h0
/-- the words of the catching rows -/
theorem zc_l13 : Cond.classLink (zt_cn 0) 13 "java/lang/IllegalArgumentException" ∈ z_wl := z_wl_at (k := 621) (by decide +kernel) rfl
theorem zc_l15 : Cond.classLink (zt_cn 0) 15 "java/lang/IllegalStateException" ∈ z_wl := z_wl_at (k := 622) (by decide +kernel) rfl
theorem zc_l25 : Cond.classLink (zt_cn 0) 25 "java/util/NoSuchElementException" ∈ z_wl := z_wl_at (k := 1190) (by decide +kernel) rfl
theorem zc_c12 : Cond.castable "java/lang/IllegalStateException" "java/lang/IllegalStateException" ∈ z_wl := z_wl_at (k := 1080) (by decide +kernel) rfl
theorem zc_c13 : Cond.castable "java/lang/IllegalArgumentException" "java/lang/IllegalArgumentException" ∈ z_wl := z_wl_at (k := 664) (by decide +kernel) rfl
theorem zc_c14 : Cond.castable "java/util/NoSuchElementException" "java/util/NoSuchElementException" ∈ z_wl := z_wl_at (k := 1197) (by decide +kernel) rfl
section ZC
variable {p : Program} {l : Launch} {e : Env} {R : Room} {s : State} {m : MethodId} {args : Array Value} {below : List Frame} {meth : Method} {c : Code} {H : Heap} {locs : List Loc} {cells slots : Nat} {Q : State → Prop}
variable {D : va_G} {bs n : Nat} {lt : Nat → Value} {tA : Nat → Nat} {K : Nat → zE} {lr : Array Slot} {i pc : Nat} {ls st : List Value} {h h1 : zH}
/-- how the rows of the table take a thrown object of class cn: those before the taking one let it pass -/
def zc_R (D : va_G) (s : State) (i pc cn pc' : Nat) : Prop := ∃ (pre : List (Nat × Nat × Nat × Nat)) (x : Nat × Nat × Nat × Nat) (rest : List (Nat × Nat × Nat × Nat)) (X : String) (F : u_T),
  zt_eh i = pre ++ x :: rest ∧ zt_cl[cn]? = some (X, F, 0) ∧ (∀ y ∈ pre, y.2.2.2 ≠ 0 ∧ ∃ (cb : Nat) (Y : String) (Fb : u_T), zt_cl[cb]? = some (Y, Fb, 0) ∧ Cond.classLink (zt_cn 0) y.2.2.2 Y ∈ z_wl ∧ s.vm.assignable (D.1 cn) (D.1 cb) = false) ∧
  x.1 ≤ pc ∧ pc < x.2.1 ∧ x.2.2.1 = pc' ∧ x.2.2.2 ≠ 0 ∧ Cond.classLink (zt_cn 0) x.2.2.2 X ∈ z_wl ∧ Cond.castable X X ∈ z_wl
theorem zc_rows {cn pc' : Nat} (hG : z_G D bs lt tA K s) (hh : zt_hnd i pc cn = some pc') : i ∈ [157, 176, 212, 213, 215, 217] ∧ pc < 11 ∧ zc_R D s i pc cn pc' := by
  obtain ⟨-, -, -, -, -, -, -, -, -, g1, g2⟩ := hG
  unfold zt_hnd at hh
  obtain ⟨q, hq, rfl⟩ := Option.map_eq_some_iff.mp hh
  have k1 := List.find?_some hq
  have k2 := List.mem_of_find?_eq_some hq
  simp only [Bool.and_eq_true, beq_iff_eq, decide_eq_true_eq] at k1
  simp only [zt_hdL, List.mem_cons, List.not_mem_nil, or_false] at k2
  rcases k2 with rfl | rfl | rfl | rfl | rfl | rfl | rfl | rfl | rfl <;> (obtain ⟨⟨⟨rfl, e1⟩, e2⟩, rfl⟩ := k1; dsimp only at e1 e2)
  · exact ⟨by decide, by omega, [], _, _, _, zt_F12, rfl, rfl, (fun y hy => by cases hy), e1, e2, rfl, by decide, zc_l15, zc_c12⟩
  · refine ⟨by decide, by omega, [(0, 11, 14, 15)], _, [], _, zt_F13, rfl, rfl, fun y hy => ?_, e1, e2, rfl, by decide, zc_l13, zc_c13⟩
    obtain rfl := List.mem_singleton.mp hy
    exact ⟨by decide, 12, _, zt_F12, rfl, zc_l15, g2⟩
  · exact ⟨by decide, by omega, [], _, _, _, zt_F12, rfl, rfl, (fun y hy => by cases hy), e1, e2, rfl, by decide, zc_l15, zc_c12⟩
  · refine ⟨by decide, by omega, [(0, 11, 14, 15)], _, [], _, zt_F13, rfl, rfl, fun y hy => ?_, e1, e2, rfl, by decide, zc_l13, zc_c13⟩
    obtain rfl := List.mem_singleton.mp hy
    exact ⟨by decide, 12, _, zt_F12, rfl, zc_l15, g2⟩
  · exact ⟨by decide, by omega, [], _, _, _, zt_F14, rfl, rfl, (fun y hy => by cases hy), e1, e2, rfl, by decide, zc_l25, zc_c14⟩
  · exact ⟨by decide, by omega, [], _, _, _, zt_F13, rfl, rfl, (fun y hy => by cases hy), e1, e2, rfl, by decide, zc_l13, zc_c13⟩
  · exact ⟨by decide, by omega, [], _, _, _, zt_F12, rfl, rfl, (fun y hy => by cases hy), e1, e2, rfl, by decide, zc_l15, zc_c12⟩
  · exact ⟨by decide, by omega, [], _, _, _, zt_F13, rfl, rfl, (fun y hy => by cases hy), e1, e2, rfl, by decide, zc_l13, zc_c13⟩
  · refine ⟨by decide, by omega, [(0, 8, 11, 13)], _, [], _, zt_F12, rfl, rfl, fun y hy => ?_, e1, e2, rfl, by decide, zc_l15, zc_c12⟩
    obtain rfl := List.mem_singleton.mp hy
    exact ⟨by decide, 13, _, zt_F13, rfl, zc_l13, g1⟩
theorem z_catW {j : Nat} {as r : List Value} {a cn pc' : Nat} {mc ms : Nat} (hC : z_Cx p s m args meth c i) (hG : z_G D bs lt tA K s) (hR : z_Rel D bs lt tA K h H) (hS : va_S (z_A bs) s.heap H locs) (hL : z_Lr bs lt n ls lr) (hn : n = zt_ml i) (hstp : z_stp i pc ls st h = some (.inr (.inr (j, as, r)))) (hM : z_Met l D bs lt tA K j as h h1 (.inr a) mc ms) (hj : j < 218) (hgr : h.1 ≤ h1.1)
    (hcell : h1.2.2.1 a = .inr (cn, [])) (hh : zt_hnd i pc (z_ty (h1.2.2.1 a)) = some pc')
    (hfr : (z_rm j mc ms).frames + 1 ≤ R.frames) (hlo : 51 + (z_rm j mc ms).locals ≤ R.locals) (hc : cells + mc ≤ R.cells) (hs : slots + ms ≤ R.slots)
    (kk : ∀ (H' : Heap) (locs' : List Loc), z_Rel D bs lt tA K h1 H' → va_S (z_A bs) s.heap H' locs' → W p l e R s m args below meth c H' locs' (cells + mc) (slots + ms) Q (F0 m pc' lr ([.ref a].map (z_rv bs lt)))) :
    W p l e R s m args below meth c H locs cells slots Q (F0 m pc lr (st.map (z_rv bs lt))) := by
  obtain ⟨hx, hb, hml, hr, hlk, hown, hts, hnm, heh⟩ := hC
  have hcw : z_cw j ∈ z_wl := z_wl_in (zt_K218 j hj) (z_cw_ls j)
  rw [hcell] at hh
  obtain ⟨hi6, hpc, pre, x, rest, X, F, r1, r2, r3, r4, r5, r6, r7, r8, r9⟩ := zc_rows (D := D) (s := s) hG (show zt_hnd i pc cn = some pc' from hh)
  have hown0 : s.vm.findClass (zt_cn 0) = some m.cls := by rw [← zc_own i hi6]; exact hown
  have hok := zc_ok i hi6
  unfold zc_chk at hok
  have hok := List.all_eq_true.mp hok pc (List.mem_range.mpr hpc)
  have hmain : decode (zt_code i) pc = .ok (.invokevirtual (zc_k i), 3) → z_call i pc (zc_k i) 1 ls st h = some (.inr (.inr (j, as, r))) → W p l e R s m args below meth c H locs cells slots Q (F0 m pc lr (st.map (z_rv bs lt))) := by
    intro hd hcall
    obtain ⟨q, hq, hko, hq3, hjq, hlen, hrl, hst, hrecv⟩ := z_call_inv hcall
    subst hjq
    obtain ⟨rc, hrc, ⟨hini, hmh, hml20⟩, hk1, he0, hnn, hlink, hinst, hsel⟩ := zc_form hi6 hq
    have hsz : lr.size = c.maxLocals := by rw [hml, ← hn]; exact hL.2.1
    have hwt := z_wt10 (bs := bs) (lt := lt) hrl
    have hstk : st.map (z_rv bs lt) = (as.map (z_rv bs lt)).reverse ++ r.map (z_rv bs lt) := by rw [hst, List.map_append, List.map_reverse]
    obtain ⟨v0, as', b, cell, has, eb, g1, g2, g3, e1, e2⟩ : ∃ (v0 : Value) (as' : List Value) (b : Nat) (cell : Cell), as = v0 :: as' ∧ z_rv bs lt v0 = .ref b ∧ H[b]? = some cell ∧ cell.vm.isStatics = false ∧ s.vm.findClass rc.1 = some cell.cls ∧ (as.map (z_rv bs lt)) = .ref b :: as'.map (z_rv bs lt) ∧ st.map (z_rv bs lt) = (as'.map (z_rv bs lt)).reverse ++ .ref b :: r.map (z_rv bs lt) := by
      obtain ⟨v0, as', has, hob⟩ := hrecv (by omega)
      unfold z_isob at hob
      split at hob
      · rename_i c' fs hfs
        simp only [Bool.and_eq_true, decide_eq_true_eq] at hob
        obtain ⟨rfl, hfe⟩ := hob
        have hc9 : q.2.2 ≠ 9999 := by
          intro e9
          have h9 : zt_cl[9999]? = none := by decide +kernel
          rw [← e9] at h9
          rw [h9] at hrc
          cases hrc
        obtain ⟨b, rc', eb, hrc', cell, g1, g2, g3⟩ := z_recvS hG.2.2.1 hG.2.2.2.2.1 hR hS hfs hc9 (by rintro rfl; simp at hfe)
        cases hrc.symm.trans hrc'
        refine ⟨v0, as', b, cell, has, eb, g1, g2, g3, ?_, ?_⟩
        · rw [has, List.map_cons, eb]
        · rw [hstk, has, List.map_cons, eb, List.reverse_cons, List.append_assoc]
          rfl
      · cases hob
    have hpl : ∀ sig, parseMethodDescriptor (zt_name q.2.1).desc = some sig → (as'.map (z_rv bs lt)).length = sig.parameters.length := by
      intro sig hsig
      unfold zf_n at hnn
      rw [hsig] at hnn
      have h8 : sig.parameters.length + 1 = zt_na q.2.1 := Option.some.inj hnn
      rw [← hlen, has] at h8
      simp at h8 ⊢
      exact h8.symm
    have hwt2 : 2 * (F0 m pc lr (r.map (z_rv bs lt))).monitorRoom + ((F0 m pc lr (r.map (z_rv bs lt))).stack.map fun v => v.category).sum ≤ 20 := by
      show 2 * 0 + ((r.map (z_rv bs lt)).map fun v => v.category).sum ≤ 20
      omega
    have hd' : decode c.code pc = .ok (.invokevirtual (zc_k i), 3) := by rw [hb]; exact hd
    intro T hT X0
    have hcd : (Cond.code (zt_name q.2.1) (zt_code q.2.1) (zt_ml q.2.1) (zt_ret q.2.1)).before args s = true := by
      have := hts _ hcw
      rwa [z_cw_code he0] at this
    obtain ⟨mk, methM, hnamed, hmethM, hstM, habM⟩ := Cond.instanceMethod_spec (hts _ hinst)
    obtain ⟨methM', cM, hmethM', -, -, -, -, -, -, hsigM⟩ := Cond.code_spec hnamed hcd
    cases hmethM.symm.trans hmethM'
    obtain ⟨c2, r2', m2, q1, q2, q3, q4, kP, hkP, hkPi⟩ := Cond.selects_spec (hts _ hsel)
    cases g3.symm.trans q1
    cases (State.methodFound?_of_named hnamed hmh).symm.trans q2
    cases hnamed.symm.trans q3
    have hselP : selectMethod e.platform s.vm cell.cls mk = .method mk := by rw [Launch.admits_selectMethod X0.admits]; exact q4
    obtain ⟨vm₁, X₁, hstep₁⟩ := X0.invokevirtual hx hown0 (hts _ hlink) hnamed hmethM hstM hkP hkPi hmh (a := b) (cell := cell) (by rw [hT]; exact g1) (fun z h9 => by rw [h9] at g2; cases g2) hselP hmethM habM hkP hkPi (g := F0 m pc lr (st.map (z_rv bs lt))) rfl (argsL := as'.map (z_rv bs lt)) (rest := r.map (z_rv bs lt)) (hpl _ hsigM) e2 hd'
    rw [← e1] at hstep₁
    have hW1 : s.WarmedH vm₁ := X₁.warmed
    have hw : ∀ w ∈ z_wl, w.before (as.map (z_rv bs lt)).toArray (T.setVm vm₁) = true := z_warm hts hW1
    have hG1 : z_G D bs lt tA K (T.setVm vm₁) := hG.same hW1 (by
      show bs ≤ T.heap.size
      rw [hT]
      exact Nat.le_trans hG.2.2.2.1 hS.1) (fun y hy hA => by
      show T.heap[y]? = _
      rw [hT]
      exact hS.2.1 y hy hA)
    obtain ⟨U', L, X', hL9, hR', hst'⟩ := z_enter (g := F0 m pc lr (r.map (z_rv bs lt))) X₁ hM rfl hsz hd' hwt2 (X₁.named hnamed) (fun w hw1 => by
        rcases List.mem_cons.mp hw1 with rfl | h9
        · exact hw _ hcw
        · exact hw _ h9) (hw _ hini) hfr (by omega) hc hs hG1 (by
        show z_Rel D bs lt tA K h T.heap
        rw [hT]
        exact hR)
    dsimp only at hst'
    have hne : (.inr (cn, []) : zE) ≠ z_jk := by
      unfold z_jk
      intro e9
      have e8 : cn = 9999 := by
        have := Sum.inr.inj e9
        exact (Prod.mk.inj this).1
      have h9 : zt_cl[9999]? = none := by decide +kernel
      rw [e8] at r2
      rw [h9] at r2
      cases r2
    obtain ⟨-, rcX, hrcX, ce, c1, c2', c3, -⟩ := hR'.in hcell hne
    cases r2.symm.trans hrcX
    have hKn := hG.2.2.1.1 cn _ r2
    have hc2 : ce.cls = D.1 cn := c2'
    obtain ⟨cX1, cX2, f1, f2, f3⟩ := Cond.castable_spec (hts _ r9)
    cases f1.symm.trans f2
    have hX1 : cX1 = D.1 cn := Option.some.inj (f1.symm.trans hKn.2.1)
    subst hX1
    let xe : ExceptionTableEntry := ⟨x.1, x.2.1, x.2.2.1, x.2.2.2⟩
    obtain ⟨hend, hk0⟩ := X'.catches_of_link (x := xe) hown0 r7 (hts _ r8) f1 f3
    have hplat : e.platform.magicAccessors = ({} : Platform).magicAccessors := by rw [X0.admits.platform]
    obtain ⟨vm', XV, hgo⟩ := X'.thenCaughtThrough (bs + a) (g := F0 m pc lr (r.map (z_rv bs lt))) rfl hst' c1 (by rw [c3]; rfl) (by rw [hc2]; exact hk0) (tableOf pre) xe (tableOf rest) (by
        rw [heh, r1]
        simp [tableOf, xe]) (fun y hy => by
        obtain ⟨y0, hy0, rfl⟩ := List.mem_map.mp hy
        obtain ⟨n0, cb, Y, Fb, d1, d2, d3⟩ := r3 y0 hy0
        obtain ⟨c', hc', hcl⟩ := Cond.classLink_spec hown0 (hts _ d2) e.platform hplat
        have hKb := hG.2.2.1.1 cb _ d1
        have hcb : c' = D.1 cb := Option.some.inj (hc'.symm.trans hKb.2.1)
        subst hcb
        refine Or.inr ⟨n0, _, hcl, ?_⟩
        rw [hc2]
        exact d3) (by
        show covers xe pc = true
        simp only [covers, xe, Bool.and_eq_true, decide_eq_true_eq]
        exact ⟨r4, r5⟩) (by rw [hc2]; exact hend)
    have hf : ∀ y ∈ locs ++ L, z_A bs y.base := fun y hy => (List.mem_append.mp hy).elim (hS.2.2 y) (hL9 y)
    have hszU : s.heap.size ≤ U'.heap.size := by
      have h8 := hS.1
      rw [hR.1] at h8
      rw [hR'.1]
      omega
    obtain ⟨t, a1, b1⟩ := kk U'.heap (locs ++ L) hR' ⟨hszU, fun y hy hA => z_keepS X' hf y hy hA, hf⟩ (U'.setVm vm') rfl XV
    refine ⟨t, hstep₁ _ fun acts => ?_, b1⟩
    rw [doInvoke_state]
    refine hgo.trans ?_
    have hpc' : xe.handlerPc = pc' := r6
    rw [hpc']
    exact a1
  unfold z_stp at hstp
  split at hstp
  · rename_i ins len hd
    rw [hd] at hok
    split at hstp
    · rename_i hlen
      cases ins with
      | invokestatic k => cases hok
      | invokevirtual k =>
        have e9 : len = 3 := by
          rcases hlen with h9 | h9
          · exact absurd (show (3 : Nat) = 0 from h9) (by decide)
          · exact h9.symm
        subst e9
        have hk : k = zc_k i := by simpa using hok
        subst hk
        exact hmain hd hstp
      | invokespecial k => cases hok
      | ireturn =>
        simp only [z_do, z_i] at hstp
        split at hstp
        · split at hstp <;> cases hstp
        · cases hstp
      | lreturn =>
        simp only [z_do, z_l] at hstp
        split at hstp
        · split at hstp <;> cases hstp
        · cases hstp
      | areturn =>
        simp only [z_do, z_v] at hstp
        split at hstp
        · split at hstp <;> cases hstp
        · cases hstp
      | return_ =>
        simp only [z_do] at hstp
        split at hstp <;> cases hstp
      | new k =>
        simp only [z_do, z_ob, z_nx] at hstp
        split at hstp
        · split at hstp
          · split at hstp <;> cases hstp
          · cases hstp
        · cases hstp
      | _ =>
        obtain ⟨q9, hq9⟩ := zs_do _ _ _ _ _ _ rfl _ hstp
        cases hq9
    · cases hstp
  · cases hstp
end ZC
