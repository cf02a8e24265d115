/-! THE TIE: a walk begun anew where it stands: what the kit tells of a walk's beginning is then told of this point -/
section ZN
variable {p : Program} {l : Launch} {e : Env} {R R' : Room} {s : State} {m : MethodId} {args : Array Value} {below : List Frame} {meth : Method} {c : Code} {T : State} {locs : List Loc} {cells slots : Nat}
/-- the state as if the method had been invoked here -/
def z_here (m : MethodId) (args : Array Value) (below : List Frame) (T : State) : State := T.setFrames (.invoking m args :: below)
theorem z_reroot (X : Stand p l e R s m args below meth c T locs cells slots) (h1 : R'.frames ≤ R.frames) (h2 : R'.locals ≤ R.locals) (h3 : cells + R'.cells ≤ R.cells) (h4 : slots + R'.slots ≤ R.slots) : Stand p l e R' (z_here m args below T) m args below meth c T [] 0 0 := by
  unfold z_here
  have hcur : T.cur < T.threads.size := State.cur_lt_of_top X.here.top
  have hF : (T.setFrames (.invoking m args :: below)).frames = .invoking m args :: below := State.frames_setFrames _ hcur
  have hmt : T.vm.method? m = some meth := by rw [X.warmed.alike.method?]; exact X.method
  have hcode : ∀ mm : MethodId, T.code? mm = s.code? mm := fun mm => by
    rw [State.code?_eq, State.code?_eq, X.warmed.alike.method?]
  obtain ⟨g₀, hg0⟩ := Option.isSome_iff_exists.mp X.here.top
  obtain ⟨r, hr⟩ := State.topJava?_eq_some.mp hg0
  obtain ⟨t, ht, -⟩ := State.frames_cons hr
  obtain ⟨t', ht', -⟩ := State.frames_cons hF
  refine ⟨X.admits, X.cas, X.clock, hF, ?_, ?_, hmt, X.code, X.here, X.tail, State.WarmedH.refl T, ?_, ?_, ?_⟩
  · obtain ⟨r1, r2, r3, r4⟩ := State.hasRoom_stack X.room
    have r5 := State.hasRoom_real X.room
    have h := X.room
    simp only [State.hasRoom, Bool.and_eq_true, decide_eq_true_eq] at h
    rw [State.localsInUse_invoking X.frames X.method X.code] at r3 r4 r5
    rw [X.frames, List.length_cons] at r1 r2
    have hU := State.localsInUse_invoking hF (meth := meth) (c := c) hmt X.code
    have hh := X.heapSize
    have hu := X.used
    simp only [State.hasRoom, Bool.and_eq_true, decide_eq_true_eq, hF, hU, List.length_cons, State.stackLimits_setFrames, State.stackBytes_setFrames, X.limits, X.bytes]
    refine ⟨⟨⟨⟨by omega, by omega, by omega, by omega, by omega, h.1.1.1.2.2.2.2.2⟩, ?_⟩, ?_⟩, X.book⟩
    · have := h.1.1.2
      show T.heap.size + R'.cells ≤ e.platform.maxCells
      omega
    · have := h.1.2
      show T.slotsUsed + R'.slots ≤ e.platform.maxSlots
      omega
  · have h := X.hears
    cases hb : below with
    | nil =>
      rw [hb] at h
      simp only [State.hears] at h ⊢
      show (T.vm.method? m).any _ = true
      rw [X.warmed.alike.method?]
      exact h
    | cons f r =>
      rw [hb] at h
      cases f <;> simp only [State.hears] at h ⊢ <;> first
        | exact h
        | (show (T.vm.method? m).any _ = true; rw [X.warmed.alike.method?]; exact h)
        | (show ((T.code? _).bind _).isSome = true; rw [hcode]; exact h)
  · rw [State.stackLimits_setFrames]
  · rw [State.stackBytes_setFrames]
  · have h9 := (State.sameButNew.refl _ ht').setFrames T.frames (State.cur_lt_of_frames hF)
    rw [State.setFrames_setFrames, State.setFrames_self ht] at h9
    exact h9
/-- ... and what the new walk keeps, the old one keeps -/
theorem z_reroot_same (X : Stand p l e R s m args below meth c T locs cells slots) {U : State} {l2 : List Loc} {c2 s2 : Nat} (h : (z_here m args below T).sameButNew ({ U with vm := (z_here m args below T).vm } : State) l2 c2 s2) : s.sameButNew ({ U with vm := s.vm } : State) (locs ++ l2) (cells + c2) (slots + s2) := by
  have h1 := X.same.setFrames (.invoking m args :: below) X.cur
  exact State.sameButNew.trans h1 (h.setVm s.vm)
end ZN
