/-! THE TIE: an exception made and thrown -/
section ZT
variable {p : Program} {l : Launch} {e : Env} {R : Room} {s : State} {m : MethodId} {args : Array Value} {below : List Frame} {meth : Method} {c : Code} {H : Heap} {locs : List Loc} {cells slots : Nat}
variable {D : va_G} {bs n : Nat} {lt : Nat → Value} {tA : Nat → Nat} {K : Nat → zE} {lr : Array Slot} {i pc : Nat} {ls st : List Value} {h : zH}
theorem z_thrW {X : String} {F : u_T} {k ic cn : Nat} {post : Outcome → Heap → Prop} (hC : z_Cx p s m args meth c i) (hG : z_G D bs lt tA K s) (hR : z_Rel D bs lt tA K h H) (hS : va_S (z_A bs) s.heap H locs) (hL : z_Lr bs lt n ls lr) (hn : n = zt_ml i)
    (hnew : zt_new (zt_own i) k = some (6, cn, [])) (hrc0 : zt_cl[cn]? = some (X, F, 0)) (hal : ∀ w ∈ Bundle.ownAtoms0 (zt_cn (zt_own i)) ic X zt_sup, w ∈ z_wl ∨ w ∈ zt_4w) (hfit : Bundle.fit X = true)
    (hd0 : decode (zt_code i) pc = .ok (.new k, 3)) (hd3 : decode (zt_code i) (pc + 3) = .ok (.dup, 1)) (hd4 : decode (zt_code i) (pc + 4) = .ok (.invokespecial ic, 3)) (hd7 : decode (zt_code i) (pc + 7) = .ok (.athrow, 1)) (heh0 : zt_eh i = [])
    (htr : e.platform.stackTraces = false) (hfr : 10 ≤ R.frames) (hlo : 200 ≤ R.locals) (hc : cells + 1 ≤ R.cells) (hs : slots + 6 ≤ R.slots) (hst : st.length ≤ 10)
    (hq : ∀ H', z_Rel D bs lt tA K (z_new h 6 (.inr (cn, []))) H' → post (.threw (bs + h.1)) H') :
    W p l e R s m args below meth c H locs cells slots (z_Q bs below s (cells + 1) (slots + 6) post) (F0 m pc lr (st.map (z_rv bs lt))) := by
  obtain ⟨hx, hb, hml, hr, hlk, hown, hts, hnm, heh⟩ := hC
  intro T hT X0
  have XR := z_reroot (R' := { frames := R.frames, locals := R.locals, cells := 1, slots := 6 }) X0 (Nat.le_refl _) (Nat.le_refl _) hc hs
  have hW0 : s.WarmedH (z_here m args below T).vm := X0.warmed
  have hw : ∀ w ∈ z_wl, w.before args (z_here m args below T) = true := z_warm hts hW0
  have hbs : bs ≤ (z_here m args below T).heap.size := by
    show bs ≤ T.heap.size
    rw [hT]
    exact Nat.le_trans hG.2.2.2.1 hS.1
  have hG' : z_G D bs lt tA K (z_here m args below T) := hG.same hW0 hbs (fun a ha hA => by
    show T.heap[a]? = _
    rw [hT]
    exact hS.2.1 a ha hA)
  have hown' : (z_here m args below T).vm.findClass (zt_cn (zt_own i)) = some m.cls := by
    show T.vm.findClass _ = _
    rw [X0.warmed.alike.findClass]
    exact hown
  have h4 : ∀ w ∈ zt_4w, w.before args (z_here m args below T) = true := by
    intro w hw4
    obtain ⟨-, -, -, -, -, -, -, g1, g2, -, -⟩ := hG'
    simp only [zt_4w, List.mem_cons, List.not_mem_nil, or_false] at hw4
    rcases hw4 with rfl | rfl | rfl | rfl
    · exact g1.lays
    · exact g2.lays
    · exact g1.isRef
    · exact g2.isRef
  have hall : ∀ w ∈ Bundle.ownAtoms0 (zt_cn (zt_own i)) ic X zt_sup, w.before args (z_here m args below T) = true := fun w hw9 => (hal w hw9).elim (hw w) (h4 w)
  obtain ⟨rc, ts, hrc, hcl, hins, hTs, hds⟩ := zt_new_spec hnew
  cases hrc0.symm.trans hrc
  obtain ⟨ts2, -, hin, hnm2, hini⟩ := zt_cl_spec hrc
  have hKn := hG'.2.2.1.1 cn _ hrc0
  have hsz : lr.size = c.maxLocals := by rw [hml, ← hn]; exact hL.2.1
  have hwt := z_wt10 (bs := bs) (lt := lt) hst
  have hWalk : W p l e { frames := R.frames, locals := R.locals, cells := 1, slots := 6 } (z_here m args below T) m args below meth c T.heap [] 0 0 (fun t => t.status = .running ∧ Ended t below (.threw T.heap.size) ∧ (z_here m args below T).WarmedH t.vm ∧ (z_here m args below T).sameButNew ({ t with vm := (z_here m args below T).vm } : State) [] 1 6 ∧ ∃ ce, t.heap[T.heap.size]? = some ce ∧ Bundle.OwnCell args (z_here m args below T) X T.heap.size .null ce) (F0 m pc lr (st.map (z_rv bs lt))) := by
    refine W.newcK hx hb hown' (hw _ hcl) (hw _ hins) (hw _ hini) rfl hd0 (by show 0 + 1 ≤ 1; omega) (by show 0 + 6 ≤ 6; omega) hKn.2.1 rfl fun H1 kC hkC f1 z1 o1 => ?_
    refine lv_dup hx hb hd3 rfl ?_
    intro T1 hT1 X1
    obtain ⟨U, a1, a2, a3, a4, a5, a6⟩ := X1.ctorThrow0 hx htr (own := zt_cn (zt_own i)) (cls := X) (names := zt_sup) (ic := ic) hown' hfit (by decide) hall (fun x hx9 => by cases hx9) (a := T.heap.size) hKn.2.1 hkC (by rw [hT1]; exact f1) (Nat.le_refl _) (g := F0 m (pc + 4) lr (.ref T.heap.size :: .ref T.heap.size :: st.map (z_rv bs lt))) rfl hsz rfl rfl rfl (by rw [hb]; exact hd4) (by rw [hb]; exact hd7) (by rw [heh, heh0]; intro x hx9; cases hx9) (by show 2 + 3 < R.frames; omega) (by
      show 2 * 0 + ((Value.ref T.heap.size :: st.map (z_rv bs lt)).map fun v => v.category).sum + (13 * (2 + 1) + 41) ≤ R.locals
      simp only [List.map_cons, List.sum_cons]
      have : (Value.ref T.heap.size).category = 1 := rfl
      omega) hlk
    exact ⟨U, a1, a2, a3, a4, a5, a6⟩
  obtain ⟨t, b1, b2, b3, b4, b5, ce, b6, b7⟩ := hWalk T rfl XR
  have hHs : T.heap.size = bs + h.1 := by rw [hT]; exact hR.1
  refine ⟨t, b1, .threw T.heap.size, b2, b3, ?_, State.WarmedH.trans hW0 b4, locs, ?_, hS.2.2⟩
  · rw [hHs]
    refine hq _ (hR.new 6 (.inr (cn, [])) ?_ ?_ ?_ trivial)
    · have u1 : t.heap.size ≤ T.heap.size + 1 := b5.2.2.1
      have u2 := (Array.getElem?_eq_some_iff.mp b6).1
      rw [← hT]
      omega
    · intro y hy
      rw [← hT] at hy ⊢
      have u1 : (z_here m args below T).heap[y]? = some T.heap[y] := Array.getElem?_eq_getElem hy
      have u2 := b5.old_cell u1
      exact u2.trans u1.symm
    · refine ⟨_, hrc0, ce, ?_, ?_, b7.vm, fun j hj => absurd hj (Nat.not_lt_zero j)⟩
      · rw [← hHs]; exact b6
      · exact Option.some.inj (b7.cls.symm.trans hKn.2.1)
  · have := z_reroot_same X0 b5
    rwa [List.append_nil] at this
end ZT
