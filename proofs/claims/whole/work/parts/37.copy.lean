/-! THE TIE: arraycopy and clone of byte arrays -/
section ZM
variable {p : Program} {l : Launch} {e : Env} {R : Room} {s : State} {m : MethodId} {args : Array Value} {below : List Frame} {meth : Method} {c : Code} {H : Heap} {locs : List Loc} {cells slots : Nat} {Q : State → Prop}
variable {D : va_G} {bs n : Nat} {lt : Nat → Value} {tA : Nat → Nat} {K : Nat → zE} {lr : Array Slot} {i pc pc' : Nat} {ls st ls' st' : List Value} {h h' : zH}
theorem z_copy {cc : ByteArray} {rest : List Value} (hx : p.tables.exec = Jvm.exec) (hb : c.code = cc) (hml : c.maxLocals = lr.size) {own : String} {index : Nat} (hown : s.vm.findClass own = some m.cls) (hlink : (Cond.methodLink own index arraycopyName).before args s = true) (hts : ∀ w ∈ z_wl, w.before args s = true)
    (hK : va_K D zt_cl (z_tys tA) s) {a0 a1 n0 n1 : Nat} {f g : Nat → Int32} (hc0 : H[a0]? = some (vp_cell (tA 2) (n0, .inl f))) (hc1 : H[a1]? = some (vp_cell (tA 2) (n1, .inl g))) {sp dp n9 : Int32} (h1 : ¬ sp < 0) (h2 : ¬ dp < 0) (h3 : ¬ n9 < 0) (h4 : sp.toNatClampNeg + n9.toNatClampNeg ≤ n0) (h5 : dp.toNatClampNeg + n9.toNatClampNeg ≤ n1) (hfit : ∀ j, fits .byte (.int (f j)) = true)
    (hframes : 1 ≤ R.frames) (hlocals : (rest.map fun v => v.category).sum + 80 ≤ R.locals) (hd : decode cc pc = .ok (.invokestatic index, 3))
    (kk : ∀ (H1 : Heap) (locs1 : List Loc), H1.size = H.size → (∀ q : Nat, q ≠ a1 → H1[q]? = H[q]?) → H1[a1]? = some (vp_cell (tA 2) (n1, .inl (va_cpy f g sp.toNatClampNeg dp.toNatClampNeg n9.toNatClampNeg))) → (∀ y ∈ locs1, y ∈ locs ∨ y.base = a1) → W p l e R s m args below meth c H1 locs1 cells slots Q (F0 m (pc + 3) lr rest)) :
    W p l e R s m args below meth c H locs cells slots Q (F0 m pc lr (.int n9 :: .int dp :: .ref a1 :: .int sp :: .ref a0 :: rest)) := by
  have nn : ∀ z : Int32, ¬ z < 0 → z.toInt = (z.toNatClampNeg : Int) := by
    intro z hz
    have hz0 : (0 : Int) ≤ z.toInt := by
      have := Int32.not_lt.mp hz
      simpa using Int32.le_iff_toInt_le.mp this
    show z.toInt = ((z.toInt.toNat : Nat) : Int)
    omega
  intro T hT X
  obtain ⟨-, k0, hk0, cm0, hkk0⟩ := (hK.2 1 _ rfl).1 n0 (fun j => .int (f j))
  obtain ⟨vm', X', step⟩ := X.arraycopy hx hown hlink (z_word hts zt_w_ac2) (z_word hts zt_w_ac1) (z_word hts zt_w_ac3) (src := a0) (dst := a1) (cs := vp_cell (tA 2) (n0, .inl f)) (cd := vp_cell (tA 2) (n1, .inl g)) (srcPos := sp) (destPos := dp) (n := n9) (by rw [hT]; exact hc0) (by rw [hT]; exact hc1)
    (fun _ h => by cases h) (fun _ h => by cases h) (fun h => by cases h) (fun h => by cases h) hk0 hk0 hkk0 hkk0 (by first | rfl | simp [refKind]) h1 h2 h3
    (by rw [nn sp h1, nn n9 h3]; show ¬ _ > ((arrV (tA 2) n0 (fun j => .int (f j))).slots.size : Int); rw [arrV_size]; omega)
    (by rw [nn dp h2, nn n9 h3]; show ¬ _ > ((arrV (tA 2) n1 (fun j => .int (g j))).slots.size : Int); rw [arrV_size]; omega)
    (fun vm₁ _ j hj => by
      have e9 : (vp_cell (tA 2) (n0, .inl f)).slots.getD (sp.toNatClampNeg + j) .null = .int (f (sp.toNatClampNeg + j)) := by
        show (arrV (tA 2) n0 (fun j => .int (f j))).slots.getD _ _ = _
        rw [Array.getD_eq_getD_getElem?, arrV_read _ _ (by omega)]
        rfl
      rw [e9]
      exact ⟨hfit _, trivial⟩)
    (g := F0 m pc lr (.int n9 :: .int dp :: .ref a1 :: .int sp :: .ref a0 :: rest)) rfl (by rw [hml]) (rest := rest) rfl (by rw [hb]; exact hd) hframes (by
      have h9 : nativeFrameWords "java/lang/System" "arraycopy" 5 + 11 ≤ 80 := by decide +kernel
      show 2 * 0 + _ + _ ≤ _
      omega)
  have e1 : copied (vp_cell (tA 2) (n0, .inl f)) (vp_cell (tA 2) (n1, .inl g)) sp dp n9 = vp_cell (tA 2) (n1, .inl (va_cpy f g sp.toNatClampNeg dp.toNatClampNeg n9.toNatClampNeg)) := va_copied (fun z => .int z) (tA 2) (tA 2) f g h4
  rw [e1] at X' step
  have hl : a1 < H.size := (Array.getElem?_eq_some_iff.mp hc1).1
  obtain ⟨t, b1, b2⟩ := kk (H.setIfInBounds a1 (vp_cell (tA 2) (n1, .inl (va_cpy f g sp.toNatClampNeg dp.toNatClampNeg n9.toNatClampNeg)))) _ (by simp) (fun q hq => by simp [Array.getElem?_setIfInBounds, Ne.symm hq]) (by simp [Array.getElem?_setIfInBounds, hl]) (fun y hy => by
      rcases List.mem_append.mp hy with hy | hy
      · exact Or.inl hy
      · obtain ⟨z, -, hz⟩ := List.mem_map.mp hy
        exact Or.inr (by rw [← hz])) _ (by rw [← hT]; rfl) X'
  exact ⟨t, step t b1, b2⟩
theorem zn_arraycopy {k : Nat} (hC : z_Cx p s m args meth c i) (hG : z_G D bs lt tA K s) (hR : z_Rel D bs lt tA K h H) (hS : va_S (z_A bs) s.heap H locs) (hL : z_Lr bs lt n ls lr) (hn : n = zt_ml i) (hd : decode (zt_code i) pc = .ok (.invokestatic k, 3)) (hdo : z_do i pc (.invokestatic k) ls st h = some (.inl (pc', ls', st', h')))
    (hfr : 1 ≤ R.frames) (hlo : 100 ≤ R.locals) (hc : cells + (h'.1 - h.1) ≤ R.cells) (hs : slots + (h'.2.1 - h.2.1) ≤ R.slots)
    (kk : ∀ (H' : Heap) (lr' : Array Slot) (locs' : List Loc), z_Rel D bs lt tA K h' H' → va_S (z_A bs) s.heap H' locs' → z_Lr bs lt n ls' lr' → W p l e R s m args below meth c H' locs' (cells + (h'.1 - h.1)) (slots + (h'.2.1 - h.2.1)) Q (F0 m pc' lr' (st'.map (z_rv bs lt)))) :
    W p l e R s m args below meth c H locs cells slots Q (F0 m pc lr (st.map (z_rv bs lt))) := by
  obtain ⟨hx, hb, hml, hr, hlk, hown, hts, hnm, heh⟩ := hC
  obtain ⟨hlt, hl2, hK, hbs, hgv, hst, hlit⟩ := hG
  simp only [z_do, z_call, z_ob] at hdo
  split at hdo
  · rename_i q hq
    obtain ⟨x9, hx9, hqe⟩ := Option.map_eq_some_iff.mp hq
    subst hqe
    have hchk := List.all_eq_true.mp zt_mok _ (zt_lk_mem hx9)
    unfold zt_mchk at hchk
    split at hdo
    · rename_i hko
      split at hdo
      · exfalso
        split at hdo <;> cases hdo
      · exfalso
        split at hdo
        · simp only [z_v] at hdo
          split at hdo
          · split at hdo <;> cases hdo
          · cases hdo
        · cases hdo
      · exfalso
        split at hdo
        · simp only [z_v] at hdo
          split at hdo
          · split at hdo <;> cases hdo
          · cases hdo
        · cases hdo
      · rename_i hk
        exfalso
        rw [hk] at hko
        exact absurd hko (by decide)
      · rename_i hk
        simp only [z_i, z_v] at hdo
        split at hdo
        · rename_i n9 r1
          split at hdo
          · rename_i dp r2
            split at hdo
            · rename_i d r3
              split at hdo
              · rename_i sp r4
                split at hdo
                · rename_i sv r
                  split at hdo
                  · rename_i e0 he0
                    split at hdo
                    · rename_i h9 hput
                      split at hdo
                      · rename_i hrl
                        simp only [z_nx, Option.some.injEq, Sum.inl.injEq, Prod.mk.injEq] at hdo
                        obtain ⟨rfl, rfl, rfl, rfl⟩ := hdo
                        have hchk2 : z_wl[x9.2]? = some (.methodLink (zt_cn (zt_own i)) k arraycopyName) := by
                          dsimp only at hchk
                          rw [hk] at hchk
                          exact of_decide_eq_true hchk
                        have hw := z_wt10 (bs := bs) (lt := lt) hrl
                        unfold z_cpy at he0
                        split at he0
                        · rename_i t1 n0 f t2 n1 g hs1 hd1
                          split at he0
                          · rename_i hcond
                            obtain ⟨rfl, rfl, q1, q2, q3, q4, q5⟩ := hcond
                            cases he0
                            cases sv with
                            | ref a0 =>
                              cases d with
                              | ref a1 =>
                                simp only [z_put, Option.some.injEq] at hput
                                subst hput
                                simp only [Nat.sub_self, Nat.add_zero] at kk
                                obtain ⟨ha0, hat0⟩ := hR.in hs1 (by unfold z_jk; exact fun q => by cases q)
                                obtain ⟨ha1, hat1⟩ := hR.in hd1 (by unfold z_jk; exact fun q => by cases q)
                                have hb0 : ∀ j, fits .byte (.int (f j)) = true := by
                                  have := hR.2.2.2.2 a0
                                  rw [show h.2.2.1 a0 = _ from hs1] at this
                                  exact this rfl
                                have hb1 : ∀ j, fits .byte (.int (g j)) = true := by
                                  have := hR.2.2.2.2 a1
                                  rw [show h.2.2.1 a1 = _ from hd1] at this
                                  exact this rfl
                                refine z_copy (n0 := n0) (n1 := n1) (f := f) (g := g) hx hb (by rw [hml, ← hn]; exact hL.2.1.symm) hown (z_word hts hchk2) hts hK hat0 hat1 q1 q2 q3 q4 q5 hb0 hfr (by omega) hd (fun H1 locs1 z1 oq e1 hy => ?_)
                                refine kk H1 lr locs1 (hR.put ha1 _ z1 oq e1 (fun _ j => ?_)) ⟨by rw [z1]; exact hS.1, fun y g1 g2 => ?_, fun y hy1 => ?_⟩ hL
                                · unfold va_cpy
                                  split
                                  · exact hb0 _
                                  · exact hb1 _
                                · rw [oq y (fun q => g2 (by rw [q]; exact Nat.le_add_right bs a1))]
                                  exact hS.2.1 y g1 g2
                                · rcases hy y hy1 with h7 | h7
                                  · exact hS.2.2 y h7
                                  · rw [h7]; exact Nat.le_add_right bs a1
                              | _ => simp [z_put] at hput
                            | _ => simp [z_atr, z_jk] at hs1
                          · cases he0
                        · cases he0
                      · cases hdo
                    · cases hdo
                  · cases hdo
                · cases hdo
              · cases hdo
            · cases hdo
          · cases hdo
        · cases hdo
      · rename_i hk
        exfalso
        rw [hk] at hko
        exact absurd hko (by decide)
      · cases hdo
    · cases hdo
  · cases hdo
theorem z_clone {cc : ByteArray} {rest : List Value} (hx : p.tables.exec = Jvm.exec) (hb : c.code = cc) (hml : c.maxLocals = lr.size) {own : String} {index : Nat} (hown : s.vm.findClass own = some m.cls) (hlink : (Cond.methodLink own index ⟨"[B", "clone", "()Ljava/lang/Object;"⟩).before args s = true) (hts : ∀ w ∈ z_wl, w.before args s = true)
    (hK : va_K D zt_cl (z_tys tA) s) {a n0 : Nat} {f : Nat → Int32} (hc0 : H[a]? = some (vp_cell (tA 2) (n0, .inl f))) (hfit : ∀ j, fits .byte (.int (f j)) = true)
    (hframes : 1 ≤ R.frames) (hlocals : (rest.map fun v => v.category).sum + 14 ≤ R.locals) (hcells : cells + 1 ≤ R.cells) (hslots : slots + n0 ≤ R.slots) (hd : decode cc pc = .ok (.invokevirtual index, 3))
    (kk : ∀ (H1 : Heap), H1.size = H.size + 1 → (∀ q : Nat, q < H.size → H1[q]? = H[q]?) → H1[H.size]? = some (vp_cell (tA 2) (n0, .inl f)) → W p l e R s m args below meth c H1 locs (cells + 1) (slots + n0) Q (F0 m (pc + 3) lr (.ref H.size :: rest))) :
    W p l e R s m args below meth c H locs cells slots Q (F0 m pc lr (.ref a :: rest)) := by
  have hsz : (vp_cell (tA 2) (n0, .inl f)).slots.size = n0 := arrV_size _ _ _
  obtain ⟨c0, t0', f1, f2, f3⟩ := Cond.castable_spec (z_word hts zt_w_cl5)
  cases (z_cB hK).symm.trans f1
  intro T hT X
  have hcellT : T.heap[a]? = some (vp_cell (tA 2) (n0, .inl f)) := by rw [hT]; exact hc0
  obtain ⟨-, kA, hkA, comp, hkind⟩ := State.isArrayOf_alike X.warmed.alike ((hK.2 1 _ rfl).1 0 (fun _ => .null))
  obtain ⟨-, kS, hkS, compS, hkindS⟩ := (hK.2 1 _ rfl).1 0 (fun _ => .null)
  obtain ⟨vm', X', st⟩ := X.cloneArray hx hown hlink (z_word hts zt_w_cl1) (z_word hts zt_w_cl2) (z_word hts zt_w_cl3) (z_word hts zt_w_cl4) (a := a) (cell := vp_cell (tA 2) (n0, .inl f)) hcellT (fun k h => by cases h) (fun h => by cases h) (z_cB hK) f2 f3
    (fun j v hv => by
      have hk' : T.vm.classes[tA 2]? = some kA := hkA
      have hv2 : fits .byte v = true := by
        have hj : j < n0 := by
          have := (Array.getElem?_eq_some_iff.mp hv).1
          rw [hsz] at this
          exact this
        have e9 : (arrV (tA 2) n0 (fun j => .int (f j))).slots[j]? = some v := hv
        rw [arrV_read _ _ hj] at e9
        cases e9
        exact hfit j
      show T.fitsSlot (tA 2) .none j v = true
      simpa [State.fitsSlot, State.slotType?, hk', hkind] using hv2)
    (g := F0 m pc lr (.ref a :: rest)) rfl (by rw [hml]) rfl (by rw [hb]; exact hd) hframes (by show 2 * 0 + _ + 14 ≤ _; omega) hcells (by rw [hsz]; exact hslots) (hloader := Vm.clonesLoader_of_array hkS hkindS)
  rw [hsz] at X'
  obtain ⟨t, b1, b2⟩ := kk (H.push (vp_cell (tA 2) (n0, .inl f))) (by simp) (fun q hq => by rw [Array.getElem?_push, if_neg (Nat.ne_of_lt hq)]) (by rw [Array.getElem?_push_size]) ((T.setVm vm').pushCell (vp_cell (tA 2) (n0, .inl f))) (by rw [← hT]; rfl) X'
  refine ⟨t, st t ?_, b2⟩
  rw [← hT] at b1
  exact b1
theorem zn_clone {k : Nat} (hC : z_Cx p s m args meth c i) (hG : z_G D bs lt tA K s) (hR : z_Rel D bs lt tA K h H) (hS : va_S (z_A bs) s.heap H locs) (hL : z_Lr bs lt n ls lr) (hn : n = zt_ml i) (hd : decode (zt_code i) pc = .ok (.invokevirtual k, 3)) (hdo : z_do i pc (.invokevirtual k) ls st h = some (.inl (pc', ls', st', h')))
    (hfr : 1 ≤ R.frames) (hlo : 100 ≤ R.locals) (hc : cells + (h'.1 - h.1) ≤ R.cells) (hs : slots + (h'.2.1 - h.2.1) ≤ R.slots)
    (kk : ∀ (H' : Heap) (lr' : Array Slot) (locs' : List Loc), z_Rel D bs lt tA K h' H' → va_S (z_A bs) s.heap H' locs' → z_Lr bs lt n ls' lr' → W p l e R s m args below meth c H' locs' (cells + (h'.1 - h.1)) (slots + (h'.2.1 - h.2.1)) Q (F0 m pc' lr' (st'.map (z_rv bs lt)))) :
    W p l e R s m args below meth c H locs cells slots Q (F0 m pc lr (st.map (z_rv bs lt))) := by
  obtain ⟨hx, hb, hml, hr, hlk, hown, hts, hnm, heh⟩ := hC
  obtain ⟨hlt, hl2, hK, hbs, hgv, hst, hlit⟩ := hG
  simp only [z_do, z_call, z_ob] at hdo
  split at hdo
  · rename_i q hq
    obtain ⟨x9, hx9, hqe⟩ := Option.map_eq_some_iff.mp hq
    subst hqe
    have hchk := List.all_eq_true.mp zt_mok _ (zt_lk_mem hx9)
    unfold zt_mchk at hchk
    split at hdo
    · rename_i hko
      split at hdo
      · exfalso
        split at hdo <;> cases hdo
      · exfalso
        split at hdo
        · simp only [z_v] at hdo
          split at hdo
          · split at hdo <;> cases hdo
          · cases hdo
        · cases hdo
      · exfalso
        split at hdo
        · simp only [z_v] at hdo
          split at hdo
          · split at hdo <;> cases hdo
          · cases hdo
        · cases hdo
      · rename_i hk
        exfalso
        rw [hk] at hko
        exact absurd hko (by decide)
      · rename_i hk
        exfalso
        rw [hk] at hko
        exact absurd hko (by decide)
      · rename_i hk
        simp only [z_v] at hdo
        split at hdo
        · rename_i v r
          split at hdo
          · rename_i q0 hq0
            split at hdo
            · rename_i hrl
              simp only [z_nx, Option.some.injEq, Sum.inl.injEq, Prod.mk.injEq] at hdo
              obtain ⟨rfl, rfl, rfl, rfl⟩ := hdo
              have hchk2 : z_wl[x9.2]? = some (.methodLink (zt_cn (zt_own i)) k ⟨"[B", "clone", "()Ljava/lang/Object;"⟩) := by
                dsimp only at hchk
                rw [hk] at hchk
                exact of_decide_eq_true hchk
              have hw := z_wt10 (bs := bs) (lt := lt) hrl
              unfold z_cln at hq0
              split at hq0
              · rename_i n0 f he0
                cases hq0
                cases v with
                | ref a =>
                  obtain ⟨ha, hat⟩ := hR.in he0 (by unfold z_jk; exact fun q => by cases q)
                  have hb0 : ∀ j, fits .byte (.int (f j)) = true := by
                    have := hR.2.2.2.2 a
                    rw [show h.2.2.1 a = _ from he0] at this
                    exact this rfl
                  have e1 : (z_new h n0 (.inl (2, n0, .inl f))).1 - h.1 = 1 := by show h.1 + 1 - h.1 = 1; omega
                  have e2 : (z_new h n0 (.inl (2, n0, .inl f))).2.1 - h.2.1 = n0 := by show h.2.1 + n0 - h.2.1 = n0; omega
                  rw [e1, e2] at kk
                  rw [e1] at hc
                  rw [e2] at hs
                  refine z_clone (n0 := n0) (f := f) hx hb (by rw [hml, ← hn]; exact hL.2.1.symm) hown (z_word hts hchk2) hts hK hat hb0 hfr (by omega) hc hs hd (fun H1 z1 o1 g1 => ?_)
                  rw [hR.1] at g1 ⊢
                  exact kk H1 lr locs (hR.new n0 (.inl (2, n0, .inl f)) z1 o1 g1 (fun _ => hb0)) (z_S_new hS z1 o1) hL
                | _ => simp [z_atr, z_jk] at he0
              · cases hq0
            · cases hdo
          · cases hdo
        · cases hdo
      · cases hdo
    · cases hdo
  · cases hdo
end ZM
