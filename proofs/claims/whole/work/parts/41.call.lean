/-! THE TIE: a method's contract at a heap, and a call of it -/
def z_rm (j mc ms : Nat) : Room := { frames := 10 + zt_rk j, cells := mc, slots := ms, locals := 300 + 60 * zt_rk j }
theorem z_cw_spec {j : Nat} {args : Array Value} {s : State} {mk : MethodId} (h : (z_cw j).before args s = true) (hn : s.methodNamed? (zt_name j) = some mk) : ∃ meth c, s.vm.method? mk = some meth ∧ meth.code = some c ∧ c.code = zt_code j ∧ c.maxLocals = zt_ml j ∧ meth.sig.returnType = zt_ret j ∧ meth.locks = false ∧ c.exceptionTable.toList = tableOf (zt_eh j) ∧ parseMethodDescriptor (zt_name j).desc = some meth.sig := by
  unfold z_cw at h
  split at h
  · rename_i he
    obtain ⟨meth, c, h1, h2, h3, h4, h5, h6, h7, h8⟩ := Cond.code_spec hn h
    refine ⟨meth, c, h1, h2, h3, h4, h5, h6, ?_, h8⟩
    rw [he]
    have h0 : c.exceptionTable.size = 0 := by simpa [Array.isEmpty] using h7
    exact List.eq_nil_of_length_eq_zero (by simpa using h0)
  · obtain ⟨m', meth, c, h0, h1, h2, h3, h4, h5, h6, h7, h8⟩ := Cond.codeWith_spec h
    cases hn.symm.trans h0
    exact ⟨meth, c, h1, h2, h3, h4, h6, h7, by rw [← h5, table_eq], h8⟩
/-- the contract of method j, called with as at the heap h: it ends with o at h', has made mc cells of ms slots at most -/
def z_Met (l : Launch) (D : va_G) (bs : Nat) (lt : Nat → Value) (tA : Nat → Nat) (K : Nat → zE) (j : Nat) (as : List Value) (h h' : zH) (o : zO) (mc ms : Nat) : Prop :=
  MetFree l (zt_name j) (headSpec (z_cw j :: z_wl) (z_rm j mc ms)) (fun v U => v = (as.map (z_rv bs lt)).toArray ∧ z_G D bs lt tA K U ∧ z_Rel D bs lt tA K h U.heap) (fun _ _ _ _ _ => True)
    (fun _ st oc t => oc = z_ro bs lt o ∧ z_Rel D bs lt tA K h' t.heap ∧ st.WarmedH t.vm ∧ ∃ L, st.sameButNew ({ t with vm := st.vm } : State) L mc ms ∧ ∀ q ∈ L, z_A bs q.base)
theorem z_gv_same {bs : Nat} {lt : Nat → Value} {K : Nat → zE} {s U : State} (hvm : s.vm.Alike U.vm) (hh : ∀ a : Nat, a < s.heap.size → ¬ z_A bs a → U.heap[a]? = s.heap[a]?) {k : Nat} (h : z_gv bs lt K s k) : z_gv bs lt K U k := by
  unfold z_gv at h ⊢
  split at h
  · obtain ⟨q, e1, ty, ht, hT, hf⟩ := h
    exact ⟨q, e1, ty, ht, (hT.moved hvm).kept hh, hf⟩
  · exact h
  · rcases h with h | ⟨h1, q, e1, h2, h3⟩
    · exact Or.inl h
    · exact Or.inr ⟨h1, q, e1, fun j v hj hv => ((h2 j v hj hv).moved hvm).kept hh, (h3.moved hvm).kept hh⟩
/-- what is given, at a later state -/
theorem z_G.same {D : va_G} {bs : Nat} {lt : Nat → Value} {tA : Nat → Nat} {K : Nat → zE} {s U : State} (h : z_G D bs lt tA K s) (hW : s.WarmedH U.vm) (hsz : bs ≤ U.heap.size) (hh : ∀ a : Nat, a < s.heap.size → ¬ z_A bs a → U.heap[a]? = s.heap[a]?) : z_G D bs lt tA K U := by
  obtain ⟨h1, h2, h3, h4, h5, ⟨h6, h7⟩, h8, h9, h10, h11, h12⟩ := h
  have hvm := hW.alike
  refine ⟨h1, h2, va_K.moved hvm h3, hsz, fun k => z_gv_same hvm hh (h5 k), ⟨(h6.moved hvm).kept hh, (h7.moved hvm).kept hh⟩, fun j x hx => ?_, h9.same hvm hh, h10.same hvm hh, by rw [hvm.assignable]; exact h11, by rw [hvm.assignable]; exact h12⟩
  obtain ⟨q, e1, hv⟩ := h8 j x hx
  exact ⟨q, e1, hv.warm hW⟩
section ZCl
variable {p : Program} {l : Launch} {e : Env} {R : Room} {s : State} {m : MethodId} {args : Array Value} {below : List Frame} {meth : Method} {c : Code} {U : State} {locs : List Loc} {cells slots : Nat}
variable {D : va_G} {bs : Nat} {lt : Nat → Value} {tA : Nat → Nat} {K : Nat → zE}
/-- the callee, entered: it comes back, or throws -/
theorem z_enter (X : Stand p l e R s m args below meth c U locs cells slots) {j : Nat} {as : List Value} {h h' : zH} {o : zO} {mc ms : Nat} (hM : z_Met l D bs lt tA K j as h h' o mc ms) {g : JFrame} (hg : g.method = m) (hsize : g.locals.size = c.maxLocals) {ig : Instr} {len : Nat} (hd : decode c.code g.pc = .ok (ig, len))
    (hW : 2 * g.monitorRoom + (g.stack.map fun v => v.category).sum ≤ 20) {mk : MethodId} (hn : U.methodNamed? (zt_name j) = some mk) (hws : ∀ w ∈ z_cw j :: z_wl, w.before (as.map (z_rv bs lt)).toArray U = true) (hini : (Cond.initialized (zt_name j).cls).before (as.map (z_rv bs lt)).toArray U = true)
    (hfr : (z_rm j mc ms).frames + 1 ≤ R.frames) (hlo : 20 + (zt_ml j + 11) + (z_rm j mc ms).locals ≤ R.locals) (hc : cells + mc ≤ R.cells) (hs : slots + ms ≤ R.slots) (hG : z_G D bs lt tA K U) (hR : z_Rel D bs lt tA K h U.heap) :
    ∃ (U' : State) (L : List Loc), Stand p l e R s m args below meth c U' (locs ++ L) (cells + mc) (slots + ms) ∧ (∀ q ∈ L, z_A bs q.base) ∧ z_Rel D bs lt tA K h' U'.heap ∧
      (match o with
        | .inl v => Steps p.tables e below (doInvoke e (U.setTop g) [] mk (as.map (z_rv bs lt)).toArray).1 (U'.setTop { g with pc := g.pc + len, stack := (v.map (z_rv bs lt)).toList ++ g.stack })
        | .inr a => Steps p.tables e below (doInvoke e (U.setTop g) [] mk (as.map (z_rv bs lt)).toArray).1 ((U'.setTop g).pushFrame (.throwing (bs + a)))) := by
  obtain ⟨methY, cY, hmY, hcY, -, hlY, -⟩ := z_cw_spec (hws _ List.mem_cons_self) hn
  obtain ⟨kY, hkY, -⟩ := className_of_methodNamed hn
  have hinitY : kY.init = .initialized := Cond.initialized_spec (findClass_of_methodNamed hn) hkY hini
  have hAt : At U g.method c below := by rw [hg]; exact X.here
  have happ : (headSpec (z_cw j :: z_wl) (z_rm j mc ms)).appliesLoose (zt_name j) e.platform (U.calling g mk (as.map (z_rv bs lt)).toArray) = true :=
    Spec.appliesLoose_calling (g := g) hAt hd hn hkY hinitY
      (X.room_calling (g := g) (R' := z_rm j mc ms) hsize hmY hcY hfr (by rw [hlY]; omega) hc hs) (atoms_intro hws)
  obtain ⟨mid, hmid⟩ := hAt.above
  have hfrm : (U.setTop g).frames = (.java g :: mid) ++ below := by rw [State.frames_setTop' g hAt.top, hmid]; rfl
  have hG' : z_G D bs lt tA K (U.calling g mk (as.map (z_rv bs lt)).toArray) := hG.same (State.WarmedH.refl U) hG.2.2.2.1 (fun _ _ _ => rfl)
  obtain ⟨o2, s₂, hsteps, -, hend, hq⟩ := Steps.callFree hM p X.admits X.cas X.clock (acts := []) hfrm happ ⟨rfl, hG', hR⟩ trivial
  rw [State.frames_setTop' g hAt.top] at hend
  obtain ⟨ho, hR2, hW₂, L, hsame2, hL⟩ := hq
  have hsame3 : (U.calling g mk (as.map (z_rv bs lt)).toArray).sameButNew ({ s₂ with vm := (U.calling g mk (as.map (z_rv bs lt)).toArray).vm } : State) L mc ms := hsame2
  obtain ⟨e2, q2, q3, q4, q5, q6⟩ := hsame3
  have e3 : s₂ = ({ (U.calling g mk (as.map (z_rv bs lt)).toArray).setFrames s₂.frames with heap := s₂.heap, slotsUsed := s₂.slotsUsed } : State).setVm s₂.vm := by
    have h9 : s₂ = ({ s₂ with vm := (U.calling g mk (as.map (z_rv bs lt)).toArray).vm } : State).setVm s₂.vm := rfl
    rw [e2] at h9
    exact h9
  have hW' : U.WarmedH s₂.vm := hW₂
  obtain ⟨g₀, hg0⟩ := Option.isSome_iff_exists.mp hAt.top
  obtain ⟨r, hr⟩ := State.topJava?_eq_some.mp hg0
  have hr' : (({ U with heap := s₂.heap, slotsUsed := s₂.slotsUsed } : State).setVm s₂.vm).frames = .java g₀ :: r := hr
  have hsame : U.sameButNew ({ U with heap := s₂.heap, slotsUsed := s₂.slotsUsed } : State) L mc ms := by
    refine ⟨?_, q2, q3, q4, q5, q6⟩
    obtain ⟨t, ht, -⟩ := State.frames_cons hr
    show ({ U with heap := s₂.heap, slotsUsed := s₂.slotsUsed } : State) = { U.setFrames U.frames with heap := s₂.heap, slotsUsed := s₂.slotsUsed }
    rw [State.setFrames_self ht]
  subst hg
  refine ⟨({ U with heap := s₂.heap, slotsUsed := s₂.slotsUsed } : State).setVm s₂.vm, L, ⟨X.admits, X.cas, X.clock, X.frames, X.room, X.hears, X.method, X.code, (X.here.setHeapUsed s₂.heap s₂.slotsUsed).setVm hW'.alike, X.tail, State.WarmedH.trans X.warmed hW', X.limits, X.bytes, X.same.trans (hsame.setVm s.vm)⟩, hL, hR2, ?_⟩
  subst ho
  cases o with
  | inl v =>
    obtain ⟨c₂, i₂, len₂, hc₂, hd₂, hf₂⟩ := hend
    have hcc : c₂ = c := by
      have h1 : s₂.code? g.method = U.code? g.method := by
        rw [State.code?_eq, State.code?_eq, hW'.alike.method?]
      exact Option.some.inj (hc₂.symm.trans (h1.trans hAt.code))
    subst hcc
    have hlen : len₂ = len := by rw [hd] at hd₂; cases hd₂; rfl
    subst hlen
    have hs₂ : s₂ = (({ U with heap := s₂.heap, slotsUsed := s₂.slotsUsed } : State).setVm s₂.vm).setTop { g with pc := g.pc + len₂, stack := (v.map (z_rv bs lt)).toList ++ g.stack } := by
      refine e3.trans ?_
      rw [hf₂, State.calling_eq hAt.top, State.setFrames_setFrames, State.setTop_of_frames _ hr', hr]
      rfl
    show Steps p.tables e below _ ((({ U with heap := s₂.heap, slotsUsed := s₂.slotsUsed } : State).setVm s₂.vm).setTop { g with pc := g.pc + len₂, stack := (v.map (z_rv bs lt)).toList ++ g.stack })
    rw [← hs₂]
    exact hsteps
  | inr a =>
    have hf₂ : s₂.frames = .throwing (bs + a) :: .java g :: U.frames.tail := hend
    have hs₂ : s₂ = ((({ U with heap := s₂.heap, slotsUsed := s₂.slotsUsed } : State).setVm s₂.vm).setTop g).pushFrame (.throwing (bs + a)) := by
      refine e3.trans ?_
      rw [hf₂, State.calling_eq hAt.top, State.setFrames_setFrames, State.pushFrame, State.frames_setTop _ hr', State.setTop_of_frames _ hr', State.setFrames_setFrames, hr]
      rfl
    show Steps p.tables e below _ (((({ U with heap := s₂.heap, slotsUsed := s₂.slotsUsed } : State).setVm s₂.vm).setTop g).pushFrame (.throwing (bs + a)))
    rw [← hs₂]
    exact hsteps
end ZCl
