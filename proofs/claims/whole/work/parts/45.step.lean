/-! THE TIE: a call that comes back, as a step -/
theorem z_cw_named {j : Nat} {args : Array Value} {s : State} (h : (z_cw j).before args s = true) : ∃ mk, s.methodNamed? (zt_name j) = some mk := by
  unfold z_cw at h
  split at h
  · exact Cond.code_named h
  · obtain ⟨mk, meth, c, h0, -⟩ := Cond.codeWith_spec h
    exact ⟨mk, h0⟩
theorem z_cw_code {j : Nat} (h : zt_eh j = []) : z_cw j = .code (zt_name j) (zt_code j) (zt_ml j) (zt_ret j) := by
  unfold z_cw
  rw [if_pos h]
section ZW
variable {p : Program} {l : Launch} {e : Env} {R : Room} {s : State} {m : MethodId} {args : Array Value} {below : List Frame} {meth : Method} {c : Code} {H : Heap} {locs : List Loc} {cells slots : Nat} {Q : State → Prop}
variable {D : va_G} {bs n : Nat} {lt : Nat → Value} {tA : Nat → Nat} {K : Nat → zE} {lr : Array Slot} {i pc : Nat} {ls st : List Value} {h h1 : zH}
/-- where nothing of before is written, nothing of before has changed -/
theorem z_keepS {T : State} (X : Stand p l e R s m args below meth c T locs cells slots) (hf : ∀ q ∈ locs, z_A bs q.base) (a : Nat) (ha : a < s.heap.size) (hA : ¬ z_A bs a) : T.heap[a]? = s.heap[a]? := by
  have h0 : s.heap[a]? = some s.heap[a] := Array.getElem?_eq_getElem ha
  obtain ⟨c', q1, q2, q3, q4⟩ := X.same.2.2.2.2.2 a _ h0
  have e1 : c'.slots = (s.heap[a]).slots := by
    apply Array.ext_getElem?
    intro k
    exact q4 k (fun hm => hA (hf _ hm))
  have e2 : c' = s.heap[a] := by
    rw [q2, e1]
  rw [h0, ← e2]
  exact q1
theorem z_callW {j : Nat} {as r : List Value} {v : Option Value} {mc ms : Nat} (hC : z_Cx p s m args meth c i) (hG : z_G D bs lt tA K s) (hR : z_Rel D bs lt tA K h H) (hS : va_S (z_A bs) s.heap H locs) (hL : z_Lr bs lt n ls lr) (hn : n = zt_ml i) (hstp : z_stp i pc ls st h = some (.inr (.inr (j, as, r)))) (hM : z_Met l D bs lt tA K j as h h1 (.inl v) mc ms) (hj : j < 218) (hgr : h.1 ≤ h1.1)
    (hfr : (z_rm j mc ms).frames + 1 ≤ R.frames) (hlo : 51 + (z_rm j mc ms).locals ≤ R.locals) (hc : cells + mc ≤ R.cells) (hs : slots + ms ≤ R.slots)
    (kk : ∀ (H' : Heap) (locs' : List Loc), z_Rel D bs lt tA K h1 H' → va_S (z_A bs) s.heap H' locs' → W p l e R s m args below meth c H' locs' (cells + mc) (slots + ms) Q (F0 m (pc + 3) lr ((v.map (z_rv bs lt)).toList ++ r.map (z_rv bs lt)))) :
    W p l e R s m args below meth c H locs cells slots Q (F0 m pc lr (st.map (z_rv bs lt))) := by
  obtain ⟨hx, hb, hml, hr, hlk, hown, hts, hnm, heh⟩ := hC
  have hcw : z_cw j ∈ z_wl := z_wl_in (zt_K218 j hj) (z_cw_ls j)
  have hmain : ∀ (k o : Nat) (ins : Instr), decode (zt_code i) pc = .ok (ins, 3) → (o = 0 → ins = .invokestatic k) → (o = 1 → ins = .invokevirtual k) → (o = 2 → ins = .invokespecial k) → z_call i pc k o ls st h = some (.inr (.inr (j, as, r))) → W p l e R s m args below meth c H locs cells slots Q (F0 m pc lr (st.map (z_rv bs lt))) := by
    intro k o ins hd hi0 hi1 hi2 hcall
    obtain ⟨q, hq, hko, hq3, hjq, hlen, hrl, hst, hrecv⟩ := z_call_inv hcall
    subst hjq
    obtain ⟨rc, hrc, ⟨hini, hmh, hml20⟩, hform⟩ := zt_form hq hq3
    have hK := z_back (p := p) (e := e) (below := below) (s := s) (args := args) (R := R) hM hfr (by omega)
    have hsz : lr.size = c.maxLocals := by rw [hml, ← hn]; exact hL.2.1
    have hwt := z_wt10 (bs := bs) (lt := lt) hrl
    have hstk : st.map (z_rv bs lt) = (as.map (z_rv bs lt)).reverse ++ r.map (z_rv bs lt) := by rw [hst, List.map_append, List.map_reverse]
    have hpre : ∀ (T : State) (vm₁ : Vm), T.heap = H → s.WarmedH vm₁ → z_Pre R D bs lt tA K q.2.1 as h mc ms ⟨T.setVm vm₁, locs, cells, slots⟩ (as.map (z_rv bs lt)).toArray := by
      intro T vm₁ hT hW
      have hw : ∀ w ∈ z_wl, w.before (as.map (z_rv bs lt)).toArray (T.setVm vm₁) = true := z_warm hts hW
      refine ⟨hc, hs, rfl, fun w hw1 => ?_, hw _ hini, hG.same hW ?_ ?_, ?_⟩
      · rcases List.mem_cons.mp hw1 with rfl | h9
        · exact hw _ hcw
        · exact hw _ h9
      · show bs ≤ T.heap.size
        rw [hT]
        exact Nat.le_trans hG.2.2.2.1 hS.1
      · intro a ha hA
        show T.heap[a]? = _
        rw [hT]
        exact hS.2.1 a ha hA
      · show z_Rel D bs lt tA K h T.heap
        rw [hT]
        exact hR
    have fin : ∀ T : State, T.heap = H → (∃ (v' : Option Value) (vm₁ : Vm) (B : Pt), s.WarmedH vm₁ ∧ Stand p l e R s m args below meth c B.U B.locs B.cells B.slots ∧ z_Post D bs lt tA K h1 v mc ms ⟨T.setVm vm₁, locs, cells, slots⟩ (as.map (z_rv bs lt)).toArray v' B ∧ ∀ target, Steps p.tables e below (B.U.setTop (F0 m (pc + 3) lr (v'.toList ++ r.map (z_rv bs lt)))) target → Steps p.tables e below (T.setTop (F0 m pc lr (st.map (z_rv bs lt)))) target) → ∃ t, Steps p.tables e below (T.setTop (F0 m pc lr (st.map (z_rv bs lt)))) t ∧ Q t := by
      rintro T hT ⟨v', vm₁, ⟨U, l2, c2, s2⟩, hW, XB, ⟨rfl, hRB, e1, e2, L, e3, hL9⟩, hgo⟩
      dsimp only [Pt.U, Pt.locs, Pt.cells, Pt.slots] at XB hRB e1 e2 e3 hgo
      subst e1; subst e2; subst e3
      have hf : ∀ y ∈ locs ++ L, z_A bs y.base := fun y hy => (List.mem_append.mp hy).elim (hS.2.2 y) (hL9 y)
      have hszU : s.heap.size ≤ U.heap.size := by
        have h8 := hS.1
        rw [hR.1] at h8
        rw [hRB.1]
        omega
      obtain ⟨t, a1, b1⟩ := kk U.heap (locs ++ L) hRB ⟨hszU, fun a ha hA => z_keepS XB hf a ha hA, hf⟩ U rfl XB
      exact ⟨t, hgo t a1, b1⟩
    -- the receiver
    have hrv : q.1 ≠ 0 → ∃ (v0 : Value) (as' : List Value) (b : Nat) (cell : Cell), as = v0 :: as' ∧ z_rv bs lt v0 = .ref b ∧ H[b]? = some cell ∧ cell.vm.isStatics = false ∧ s.vm.findClass rc.1 = some cell.cls ∧ (as.map (z_rv bs lt)) = .ref b :: as'.map (z_rv bs lt) ∧ st.map (z_rv bs lt) = (as'.map (z_rv bs lt)).reverse ++ .ref b :: r.map (z_rv bs lt) := by
      intro hne
      obtain ⟨v0, as', has, hob⟩ := hrecv hne
      unfold z_isob at hob
      split at hob
      · rename_i c' fs hfs
        simp only [Bool.and_eq_true, decide_eq_true_eq] at hob
        obtain ⟨rfl, hfe⟩ := hob
        have hc9 : q.2.2 ≠ 9999 := by
          intro e9
          have h9 : zt_cl[9999]? = none := by decide +kernel
          rw [← e9] at h9
          rw [h9] at hrc
          cases hrc
        obtain ⟨b, rc', eb, hrc', cell, g1, g2, g3⟩ := z_recvS hG.2.2.1 hG.2.2.2.2.1 hR hS hfs hc9 (by rintro rfl; simp at hfe)
        cases hrc.symm.trans hrc'
        refine ⟨v0, as', b, cell, has, eb, g1, g2, g3, ?_, ?_⟩
        · rw [has, List.map_cons, eb]
        · rw [hstk, has, List.map_cons, eb, List.reverse_cons, List.append_assoc]
          rfl
      · cases hob
    have hcode : zt_eh q.2.1 = [] → (Cond.code (zt_name q.2.1) (zt_code q.2.1) (zt_ml q.2.1) (zt_ret q.2.1)).before args s = true := fun h9 => by
      have := hts _ hcw
      rwa [z_cw_code h9] at this
    have hpl : zf_n q.2.1 → ∀ (v0 : Value) (as' : List Value), as = v0 :: as' → ∀ sig, parseMethodDescriptor (zt_name q.2.1).desc = some sig → (as'.map (z_rv bs lt)).length = sig.parameters.length := by
      intro h9 v0 as' has sig hsig
      unfold zf_n at h9
      rw [hsig] at h9
      have h8 : sig.parameters.length + 1 = zt_na q.2.1 := Option.some.inj h9
      rw [← hlen, has] at h8
      simp at h8 ⊢
      exact h8.symm
    have hwt2 : 2 * (F0 m pc lr (st.map (z_rv bs lt))).monitorRoom + ((r.map (z_rv bs lt)).map fun v => v.category).sum ≤ 20 := by
      show 2 * 0 + _ ≤ 20
      omega
    have hd' : decode c.code pc = .ok (ins, 3) := by rw [hb]; exact hd
    rcases hform with ⟨hk, hf⟩ | ⟨hk, hf⟩ | ⟨hk, hf⟩ | ⟨hk, hf⟩ | ⟨hk, hf⟩ | ⟨hk, hf⟩ | ⟨hk, hf⟩
    · have ho : o = 0 := by rw [← hko, hk]; rfl
      have hins := hi0 ho
      subst hins
      obtain ⟨hpl0, hlink, hstw⟩ := hf
      intro T hT X
      refine fin T hT ?_
      obtain ⟨mk, hnamed⟩ := z_cw_named (hts _ hcw)
      obtain ⟨methM, cM, hmethM, -, -, -, -, -, -, hsig⟩ := z_cw_spec (hts _ hcw) hnamed
      have hstatic := Cond.static_spec hnamed hmethM (hts _ hstw)
      obtain ⟨kP, hkP, -⟩ := className_of_methodNamed hnamed
      have hinitP : kP.init = .initialized := Cond.initialized_spec (findClass_of_methodNamed hnamed) hkP (hts _ hini)
      have hlen2 : (as.map (z_rv bs lt)).length = methM.sig.parameters.length := by
        rw [hsig] at hpl0
        have h8 : methM.sig.parameters.length = zt_na q.2.1 := Option.some.inj hpl0
        rw [List.length_map, hlen, h8]
      obtain ⟨vm₁, X₁, hstep₁⟩ := X.invokestatic hx hown (hts _ hlink) hnamed hmethM hstatic hkP hinitP hmh (g := F0 m pc lr (st.map (z_rv bs lt))) rfl (argsL := as.map (z_rv bs lt)) (rest := r.map (z_rv bs lt)) hlen2 hstk hd'
      obtain ⟨v', B, XB, hpost, hsteps⟩ := hK m meth c ⟨T.setVm vm₁, locs, cells, slots⟩ { F0 m pc lr (st.map (z_rv bs lt)) with stack := r.map (z_rv bs lt) } (.invokestatic k) mk (as.map (z_rv bs lt)).toArray X₁ rfl hsz hd' hwt2 (X₁.named hnamed) (hpre T vm₁ hT X₁.warmed)
      exact ⟨v', vm₁, B, X₁.warmed, XB, hpost, fun target h9 => hstep₁ _ fun acts => by rw [doInvoke_state]; exact hsteps.trans h9⟩
    · have ho : o = 1 := by rw [← hko, hk]; rfl
      have hins := hi1 ho
      subst hins
      obtain ⟨he0, hnn, hlink, hinst, hsel⟩ := hf
      obtain ⟨v0, as', b, cell, has, eb, g1, g2, g3, e1, e2⟩ := hrv (by omega)
      intro T hT X
      refine fin T hT ?_
      obtain ⟨v', vm₁, B, k1, k2, k3, k4⟩ := callV X hx hown (hts _ hlink) (hts _ hinst) (hts _ hsel) (hcode he0) hmh hK (b := b) (cellB := cell) (by rw [hT]; exact g1) g2 g3 (g := F0 m pc lr (st.map (z_rv bs lt))) rfl hsz (argsL := as'.map (z_rv bs lt)) (rest := r.map (z_rv bs lt)) (hpl hnn v0 as' has) e2 hwt2 hd' (fun vm₁ hW => by rw [← e1]; exact hpre T vm₁ hT hW)
      exact ⟨v', vm₁, B, k1, k2, by rw [e1]; exact k3, k4⟩
    · have ho : o = 2 := by rw [← hko, hk]; rfl
      have hins := hi2 ho
      subst hins
      obtain ⟨he0, hrt, hnmi, hnn, hlink, hinst⟩ := hf
      obtain ⟨v0, as', b, cell, has, eb, g1, g2, g3, e1, e2⟩ := hrv (by omega)
      intro T hT X
      refine fin T hT ?_
      have hcd := hcode he0
      rw [hrt] at hcd
      obtain ⟨v', vm₁, B, k1, k2, k3, k4⟩ := callI X hx hown hnmi (hts _ hlink) (hts _ hinst) hcd hmh hK (g := F0 m pc lr (st.map (z_rv bs lt))) rfl hsz (a := b) (argsL := as'.map (z_rv bs lt)) (rest := r.map (z_rv bs lt)) (hpl hnn v0 as' has) e2 hwt2 hd' (fun vm₁ hW => by rw [← e1]; exact hpre T vm₁ hT hW)
      exact ⟨v', vm₁, B, k1, k2, by rw [e1]; exact k3, k4⟩
    · have ho : o = 2 := by rw [← hko, hk]; rfl
      have hins := hi2 ho
      subst hins
      obtain ⟨he0, hrt, hnmi, hnn, hlink, hinst⟩ := hf
      obtain ⟨v0, as', b, cell, has, eb, g1, g2, g3, e1, e2⟩ := hrv (by omega)
      intro T hT X
      refine fin T hT ?_
      have hcd := hcode he0
      rw [hrt] at hcd
      obtain ⟨v', vm₁, B, k1, k2, k3, k4⟩ := va_callIN X hx hown hnmi (hts _ hlink) (hts _ hinst) hcd hmh hK (g := F0 m pc lr (st.map (z_rv bs lt))) rfl hsz (a := b) (argsL := as'.map (z_rv bs lt)) (rest := r.map (z_rv bs lt)) (hpl hnn v0 as' has) e2 hwt2 hd' (fun vm₁ hW => by rw [← e1]; exact hpre T vm₁ hT hW)
      exact ⟨v', vm₁, B, k1, k2, by rw [e1]; exact k3, k4⟩
    · have ho : o = 2 := by rw [← hko, hk]; rfl
      have hins := hi2 ho
      subst hins
      obtain ⟨he0, hnmi, hnn, hlink, hinst, hsame, hsup⟩ := hf
      obtain ⟨v0, as', b, cell, has, eb, g1, g2, g3, e1, e2⟩ := hrv (by omega)
      intro T hT X
      refine fin T hT ?_
      obtain ⟨kB, hkB, -⟩ := Vm.findClass_spec g3
      obtain ⟨v', vm₁, B, k1, k2, k3, k4⟩ := va_callSU X hx hown (hts _ hlink) (hts _ hsame) (hts _ hsup) (hts _ hinst) (hcode he0) hnmi hK (b := b) (cellB := cell) (kB := kB) (by rw [hT]; exact g1) g2 hkB (g := F0 m pc lr (st.map (z_rv bs lt))) rfl hsz (argsL := as'.map (z_rv bs lt)) (rest := r.map (z_rv bs lt)) (hpl hnn v0 as' has) e2 hwt2 hd' (fun vm₁ hW => by rw [← e1]; exact hpre T vm₁ hT hW)
      exact ⟨v', vm₁, B, k1, k2, by rw [e1]; exact k3, k4⟩
    · have ho : o = 1 := by rw [← hko, hk]; rfl
      have hins := hi1 ho
      subst hins
      obtain ⟨he0, hna, hlink, hinst, hsel, hsame, hinx, hcx⟩ := hf
      obtain ⟨v0, as', b, cell, has, eb, g1, g2, g3, e1, e2⟩ := hrv (by omega)
      intro T hT X
      refine fin T hT ?_
      have has0 : as' = [] := by
        rw [has, hna] at hlen
        simpa using hlen
      obtain ⟨v', vm₁, B, k1, k2, k3, k4⟩ := va_callVU X hx (owner := "java/lang/AbstractStringBuilder") (x := zf_x) hown (hts _ hlink) (hts _ hsame) (va_Decl.of (hts _ hinx) (hts _ hcx)) (by decide) (hts _ hsel) (hts _ hinst) (hcode he0) hK (b := b) (cellB := cell) (by rw [hT]; exact g1) g2 g3 (g := F0 m pc lr (st.map (z_rv bs lt))) rfl hsz (argsL := as'.map (z_rv bs lt)) (rest := r.map (z_rv bs lt)) (fun sig hsig => by
          have h7 : (parseMethodDescriptor zf_x.desc).map (fun d => d.parameters.length) = some 0 := by decide +kernel
          rw [hsig] at h7
          have h6 : sig.parameters.length = 0 := Option.some.inj h7
          rw [has0, h6]
          rfl) e2 hwt2 hd' (fun vm₁ hW => by rw [← e1]; exact hpre T vm₁ hT hW)
      exact ⟨v', vm₁, B, k1, k2, by rw [e1]; exact k3, k4⟩
    · have ho : o = 1 := by rw [← hko, hk]; rfl
      have hins := hi1 ho
      subst hins
      obtain ⟨he0, hnn, hlink, hinst, hpriv, hsame⟩ := hf
      obtain ⟨v0, as', b, cell, has, eb, g1, g2, g3, e1, e2⟩ := hrv (by omega)
      intro T hT X
      refine fin T hT ?_
      obtain ⟨mk, methM, hnamed, hmethM, hstM, habM⟩ := Cond.instanceMethod_spec (hts _ hinst)
      obtain ⟨methM', cM, hmethM', -, -, -, -, -, -, hsigM⟩ := Cond.code_spec hnamed (hcode he0)
      cases hmethM.symm.trans hmethM'
      obtain ⟨cn, ck, r1, hcn, hck, hni, hf1, hn1⟩ := Cond.sameMethod_found (hts _ hsame)
      have hkP : s.vm.classes[mk.cls]? = some ck := by
        have h5 := findClass_of_methodNamed hnamed
        cases h5.symm.trans hcn
        exact hck
      have hselP : selectMethod e.platform s.vm cell.cls mk = .method mk := selectMethod_private hmethM (Cond.privateMethod_at (hts _ hpriv) mk methM hnamed hmethM)
      obtain ⟨vm₁, X₁, hstep₁⟩ := X.invokevirtual hx hown (hts _ hlink) hnamed hmethM hstM hkP hni hmh (a := b) (cell := cell) (by rw [hT]; exact g1) (fun z h9 => by rw [h9] at g2; cases g2) hselP hmethM habM hkP hni (g := F0 m pc lr (st.map (z_rv bs lt))) rfl (argsL := as'.map (z_rv bs lt)) (rest := r.map (z_rv bs lt)) (hpl hnn v0 as' has _ hsigM) e2 hd'
      rw [← e1] at hstep₁
      obtain ⟨v', B, XB, hpost, hsteps⟩ := hK m meth c ⟨T.setVm vm₁, locs, cells, slots⟩ { F0 m pc lr (st.map (z_rv bs lt)) with stack := r.map (z_rv bs lt) } (.invokevirtual k) mk (as.map (z_rv bs lt)).toArray X₁ rfl hsz hd' hwt2 (X₁.named hnamed) (hpre T vm₁ hT X₁.warmed)
      exact ⟨v', vm₁, B, X₁.warmed, XB, hpost, fun target h9 => hstep₁ _ fun acts => by rw [doInvoke_state]; exact hsteps.trans h9⟩
  unfold z_stp at hstp
  split at hstp
  · rename_i ins len hd
    split at hstp
    · rename_i hlen
      cases ins with
      | invokestatic k =>
        have e9 : len = 3 := by
          rcases hlen with h9 | h9
          · exact absurd (show (3 : Nat) = 0 from h9) (by decide)
          · exact h9.symm
        subst e9
        exact hmain k 0 _ hd (fun _ => rfl) (fun h9 => absurd h9 (by decide)) (fun h9 => absurd h9 (by decide)) hstp
      | invokevirtual k =>
        have e9 : len = 3 := by
          rcases hlen with h9 | h9
          · exact absurd (show (3 : Nat) = 0 from h9) (by decide)
          · exact h9.symm
        subst e9
        exact hmain k 1 _ hd (fun h9 => absurd h9 (by decide)) (fun _ => rfl) (fun h9 => absurd h9 (by decide)) hstp
      | invokespecial k =>
        have e9 : len = 3 := by
          rcases hlen with h9 | h9
          · exact absurd (show (3 : Nat) = 0 from h9) (by decide)
          · exact h9.symm
        subst e9
        exact hmain k 2 _ hd (fun h9 => absurd h9 (by decide)) (fun h9 => absurd h9 (by decide)) (fun _ => rfl) hstp
      | ireturn =>
        simp only [z_do, z_i] at hstp
        split at hstp
        · split at hstp <;> cases hstp
        · cases hstp
      | lreturn =>
        simp only [z_do, z_l] at hstp
        split at hstp
        · split at hstp <;> cases hstp
        · cases hstp
      | areturn =>
        simp only [z_do, z_v] at hstp
        split at hstp
        · split at hstp <;> cases hstp
        · cases hstp
      | return_ =>
        simp only [z_do] at hstp
        split at hstp <;> cases hstp
      | new k =>
        simp only [z_do, z_ob, z_nx] at hstp
        split at hstp
        · split at hstp
          · split at hstp <;> cases hstp
          · cases hstp
        · cases hstp
      | _ =>
        obtain ⟨q9, hq9⟩ := zs_do _ _ _ _ _ _ rfl _ hstp
        cases hq9
    · cases hstp
  · cases hstp
end ZW
