/-! THE TIE: every instruction that goes on -/
section ZN2
variable {p : Program} {l : Launch} {e : Env} {R : Room} {s : State} {m : MethodId} {args : Array Value} {below : List Frame} {meth : Method} {c : Code} {H : Heap} {locs : List Loc} {cells slots : Nat} {Q : State → Prop}
variable {D : va_G} {bs n : Nat} {lt : Nat → Value} {tA : Nat → Nat} {K : Nat → zE} {lr : Array Slot} {i pc pc' : Nat} {ls st ls' st' : List Value} {h h' : zH}
set_option maxHeartbeats 4000000 in
theorem z_next (hC : z_Cx p s m args meth c i) (hG : z_G D bs lt tA K s) (hR : z_Rel D bs lt tA K h H) (hS : va_S (z_A bs) s.heap H locs) (hL : z_Lr bs lt n ls lr) (hn : n = zt_ml i) (hstp : z_stp i pc ls st h = some (.inl (pc', ls', st', h')))
    (hfr : 1 ≤ R.frames) (hlo : 100 ≤ R.locals) (hc : cells + (h'.1 - h.1) ≤ R.cells) (hs : slots + (h'.2.1 - h.2.1) ≤ R.slots)
    (kk : ∀ (H' : Heap) (lr' : Array Slot) (locs' : List Loc), z_Rel D bs lt tA K h' H' → va_S (z_A bs) s.heap H' locs' → z_Lr bs lt n ls' lr' → W p l e R s m args below meth c H' locs' (cells + (h'.1 - h.1)) (slots + (h'.2.1 - h.2.1)) Q (F0 m pc' lr' (st'.map (z_rv bs lt)))) :
    W p l e R s m args below meth c H locs cells slots Q (F0 m pc lr (st.map (z_rv bs lt))) := by
  unfold z_stp at hstp
  split at hstp
  · rename_i ins len hd
    split at hstp
    · rename_i hlen
      have simple : (h' = h ∧ ((∀ lr', z_Lr bs lt n ls' lr' → W p l e R s m args below meth c H locs cells slots Q (F0 m pc' lr' (st'.map (z_rv bs lt)))) → W p l e R s m args below meth c H locs cells slots Q (F0 m pc lr (st.map (z_rv bs lt))))) → W p l e R s m args below meth c H locs cells slots Q (F0 m pc lr (st.map (z_rv bs lt))) := by
        rintro ⟨rfl, hw⟩
        refine hw (fun lr' hL' => ?_)
        have h9 := kk H lr' locs hR hS hL'
        simpa only [Nat.sub_self, Nat.add_zero] using h9
      cases ins with
      | aconst_null =>
        have e9 : len = 1 := by
          rcases hlen with h9 | h9
          · exact absurd (show (1 : Nat) = 0 from h9) (by decide)
          · exact h9.symm
        subst e9
        exact simple (zn_aconst_null hG.1 hG.2.1 hC.1 hC.2.1 hL hd hstp)
      | iconst a0 =>
        have e9 : len = 1 := by
          rcases hlen with h9 | h9
          · exact absurd (show (1 : Nat) = 0 from h9) (by decide)
          · exact h9.symm
        subst e9
        exact simple (zn_iconst hG.1 hG.2.1 hC.1 hC.2.1 hL hd hstp)
      | bipush a0 =>
        have e9 : len = 2 := by
          rcases hlen with h9 | h9
          · exact absurd (show (2 : Nat) = 0 from h9) (by decide)
          · exact h9.symm
        subst e9
        exact simple (zn_bipush hG.1 hG.2.1 hC.1 hC.2.1 hL hd hstp)
      | sipush a0 =>
        have e9 : len = 3 := by
          rcases hlen with h9 | h9
          · exact absurd (show (3 : Nat) = 0 from h9) (by decide)
          · exact h9.symm
        subst e9
        exact simple (zn_sipush hG.1 hG.2.1 hC.1 hC.2.1 hL hd hstp)
      | lconst a0 =>
        have e9 : len = 1 := by
          rcases hlen with h9 | h9
          · exact absurd (show (1 : Nat) = 0 from h9) (by decide)
          · exact h9.symm
        subst e9
        exact simple (zn_lconst hG.1 hG.2.1 hC.1 hC.2.1 hL hd hstp)
      | iload a0 =>
        have e9 : len = 2 := by
          rcases hlen with h9 | h9
          · exact absurd (show (2 : Nat) = 0 from h9) (by decide)
          · exact h9.symm
        subst e9
        exact simple (zn_iload hG.1 hG.2.1 hC.1 hC.2.1 hL hd hstp)
      | iload_n a0 =>
        have e9 : len = 1 := by
          rcases hlen with h9 | h9
          · exact absurd (show (1 : Nat) = 0 from h9) (by decide)
          · exact h9.symm
        subst e9
        exact simple (zn_iload_n hG.1 hG.2.1 hC.1 hC.2.1 hL hd hstp)
      | lload a0 =>
        have e9 : len = 2 := by
          rcases hlen with h9 | h9
          · exact absurd (show (2 : Nat) = 0 from h9) (by decide)
          · exact h9.symm
        subst e9
        exact simple (zn_lload hG.1 hG.2.1 hC.1 hC.2.1 hL hd hstp)
      | lload_n a0 =>
        have e9 : len = 1 := by
          rcases hlen with h9 | h9
          · exact absurd (show (1 : Nat) = 0 from h9) (by decide)
          · exact h9.symm
        subst e9
        exact simple (zn_lload_n hG.1 hG.2.1 hC.1 hC.2.1 hL hd hstp)
      | aload a0 =>
        have e9 : len = 2 := by
          rcases hlen with h9 | h9
          · exact absurd (show (2 : Nat) = 0 from h9) (by decide)
          · exact h9.symm
        subst e9
        exact simple (zn_aload hG.1 hG.2.1 hC.1 hC.2.1 hL hd hstp)
      | aload_n a0 =>
        have e9 : len = 1 := by
          rcases hlen with h9 | h9
          · exact absurd (show (1 : Nat) = 0 from h9) (by decide)
          · exact h9.symm
        subst e9
        exact simple (zn_aload_n hG.1 hG.2.1 hC.1 hC.2.1 hL hd hstp)
      | istore a0 =>
        have e9 : len = 2 := by
          rcases hlen with h9 | h9
          · exact absurd (show (2 : Nat) = 0 from h9) (by decide)
          · exact h9.symm
        subst e9
        exact simple (zn_istore hG.1 hG.2.1 hC.1 hC.2.1 hL hd hstp)
      | istore_n a0 =>
        have e9 : len = 1 := by
          rcases hlen with h9 | h9
          · exact absurd (show (1 : Nat) = 0 from h9) (by decide)
          · exact h9.symm
        subst e9
        exact simple (zn_istore_n hG.1 hG.2.1 hC.1 hC.2.1 hL hd hstp)
      | lstore a0 =>
        have e9 : len = 2 := by
          rcases hlen with h9 | h9
          · exact absurd (show (2 : Nat) = 0 from h9) (by decide)
          · exact h9.symm
        subst e9
        exact simple (zn_lstore hG.1 hG.2.1 hC.1 hC.2.1 hL hd hstp)
      | lstore_n a0 =>
        have e9 : len = 1 := by
          rcases hlen with h9 | h9
          · exact absurd (show (1 : Nat) = 0 from h9) (by decide)
          · exact h9.symm
        subst e9
        exact simple (zn_lstore_n hG.1 hG.2.1 hC.1 hC.2.1 hL hd hstp)
      | astore a0 =>
        have e9 : len = 2 := by
          rcases hlen with h9 | h9
          · exact absurd (show (2 : Nat) = 0 from h9) (by decide)
          · exact h9.symm
        subst e9
        exact simple (zn_astore hG.1 hG.2.1 hC.1 hC.2.1 hL hd hstp)
      | astore_n a0 =>
        have e9 : len = 1 := by
          rcases hlen with h9 | h9
          · exact absurd (show (1 : Nat) = 0 from h9) (by decide)
          · exact h9.symm
        subst e9
        exact simple (zn_astore_n hG.1 hG.2.1 hC.1 hC.2.1 hL hd hstp)
      | iinc a0 a1 =>
        have e9 : len = 3 := by
          rcases hlen with h9 | h9
          · exact absurd (show (3 : Nat) = 0 from h9) (by decide)
          · exact h9.symm
        subst e9
        exact simple (zn_iinc hG.1 hG.2.1 hC.1 hC.2.1 hL hd hstp)
      | iadd =>
        have e9 : len = 1 := by
          rcases hlen with h9 | h9
          · exact absurd (show (1 : Nat) = 0 from h9) (by decide)
          · exact h9.symm
        subst e9
        exact simple (zn_iadd hG.1 hG.2.1 hC.1 hC.2.1 hL hd hstp)
      | isub =>
        have e9 : len = 1 := by
          rcases hlen with h9 | h9
          · exact absurd (show (1 : Nat) = 0 from h9) (by decide)
          · exact h9.symm
        subst e9
        exact simple (zn_isub hG.1 hG.2.1 hC.1 hC.2.1 hL hd hstp)
      | imul =>
        have e9 : len = 1 := by
          rcases hlen with h9 | h9
          · exact absurd (show (1 : Nat) = 0 from h9) (by decide)
          · exact h9.symm
        subst e9
        exact simple (zn_imul hG.1 hG.2.1 hC.1 hC.2.1 hL hd hstp)
      | iand =>
        have e9 : len = 1 := by
          rcases hlen with h9 | h9
          · exact absurd (show (1 : Nat) = 0 from h9) (by decide)
          · exact h9.symm
        subst e9
        exact simple (zn_iand hG.1 hG.2.1 hC.1 hC.2.1 hL hd hstp)
      | ior =>
        have e9 : len = 1 := by
          rcases hlen with h9 | h9
          · exact absurd (show (1 : Nat) = 0 from h9) (by decide)
          · exact h9.symm
        subst e9
        exact simple (zn_ior hG.1 hG.2.1 hC.1 hC.2.1 hL hd hstp)
      | ixor =>
        have e9 : len = 1 := by
          rcases hlen with h9 | h9
          · exact absurd (show (1 : Nat) = 0 from h9) (by decide)
          · exact h9.symm
        subst e9
        exact simple (zn_ixor hG.1 hG.2.1 hC.1 hC.2.1 hL hd hstp)
      | idiv =>
        have e9 : len = 1 := by
          rcases hlen with h9 | h9
          · exact absurd (show (1 : Nat) = 0 from h9) (by decide)
          · exact h9.symm
        subst e9
        exact simple (zn_idiv hG.1 hG.2.1 hC.1 hC.2.1 hL hd hstp)
      | irem =>
        have e9 : len = 1 := by
          rcases hlen with h9 | h9
          · exact absurd (show (1 : Nat) = 0 from h9) (by decide)
          · exact h9.symm
        subst e9
        exact simple (zn_irem hG.1 hG.2.1 hC.1 hC.2.1 hL hd hstp)
      | ineg =>
        have e9 : len = 1 := by
          rcases hlen with h9 | h9
          · exact absurd (show (1 : Nat) = 0 from h9) (by decide)
          · exact h9.symm
        subst e9
        exact simple (zn_ineg hG.1 hG.2.1 hC.1 hC.2.1 hL hd hstp)
      | ishl =>
        have e9 : len = 1 := by
          rcases hlen with h9 | h9
          · exact absurd (show (1 : Nat) = 0 from h9) (by decide)
          · exact h9.symm
        subst e9
        exact simple (zn_ishl hG.1 hG.2.1 hC.1 hC.2.1 hL hd hstp)
      | ishr =>
        have e9 : len = 1 := by
          rcases hlen with h9 | h9
          · exact absurd (show (1 : Nat) = 0 from h9) (by decide)
          · exact h9.symm
        subst e9
        exact simple (zn_ishr hG.1 hG.2.1 hC.1 hC.2.1 hL hd hstp)
      | iushr =>
        have e9 : len = 1 := by
          rcases hlen with h9 | h9
          · exact absurd (show (1 : Nat) = 0 from h9) (by decide)
          · exact h9.symm
        subst e9
        exact simple (zn_iushr hG.1 hG.2.1 hC.1 hC.2.1 hL hd hstp)
      | ladd =>
        have e9 : len = 1 := by
          rcases hlen with h9 | h9
          · exact absurd (show (1 : Nat) = 0 from h9) (by decide)
          · exact h9.symm
        subst e9
        exact simple (zn_ladd hG.1 hG.2.1 hC.1 hC.2.1 hL hd hstp)
      | lsub =>
        have e9 : len = 1 := by
          rcases hlen with h9 | h9
          · exact absurd (show (1 : Nat) = 0 from h9) (by decide)
          · exact h9.symm
        subst e9
        exact simple (zn_lsub hG.1 hG.2.1 hC.1 hC.2.1 hL hd hstp)
      | lmul =>
        have e9 : len = 1 := by
          rcases hlen with h9 | h9
          · exact absurd (show (1 : Nat) = 0 from h9) (by decide)
          · exact h9.symm
        subst e9
        exact simple (zn_lmul hG.1 hG.2.1 hC.1 hC.2.1 hL hd hstp)
      | land =>
        have e9 : len = 1 := by
          rcases hlen with h9 | h9
          · exact absurd (show (1 : Nat) = 0 from h9) (by decide)
          · exact h9.symm
        subst e9
        exact simple (zn_land hG.1 hG.2.1 hC.1 hC.2.1 hL hd hstp)
      | lor =>
        have e9 : len = 1 := by
          rcases hlen with h9 | h9
          · exact absurd (show (1 : Nat) = 0 from h9) (by decide)
          · exact h9.symm
        subst e9
        exact simple (zn_lor hG.1 hG.2.1 hC.1 hC.2.1 hL hd hstp)
      | lxor =>
        have e9 : len = 1 := by
          rcases hlen with h9 | h9
          · exact absurd (show (1 : Nat) = 0 from h9) (by decide)
          · exact h9.symm
        subst e9
        exact simple (zn_lxor hG.1 hG.2.1 hC.1 hC.2.1 hL hd hstp)
      | ldiv =>
        have e9 : len = 1 := by
          rcases hlen with h9 | h9
          · exact absurd (show (1 : Nat) = 0 from h9) (by decide)
          · exact h9.symm
        subst e9
        exact simple (zn_ldiv hG.1 hG.2.1 hC.1 hC.2.1 hL hd hstp)
      | lrem =>
        have e9 : len = 1 := by
          rcases hlen with h9 | h9
          · exact absurd (show (1 : Nat) = 0 from h9) (by decide)
          · exact h9.symm
        subst e9
        exact simple (zn_lrem hG.1 hG.2.1 hC.1 hC.2.1 hL hd hstp)
      | lneg =>
        have e9 : len = 1 := by
          rcases hlen with h9 | h9
          · exact absurd (show (1 : Nat) = 0 from h9) (by decide)
          · exact h9.symm
        subst e9
        exact simple (zn_lneg hG.1 hG.2.1 hC.1 hC.2.1 hL hd hstp)
      | lshl =>
        have e9 : len = 1 := by
          rcases hlen with h9 | h9
          · exact absurd (show (1 : Nat) = 0 from h9) (by decide)
          · exact h9.symm
        subst e9
        exact simple (zn_lshl hG.1 hG.2.1 hC.1 hC.2.1 hL hd hstp)
      | lshr =>
        have e9 : len = 1 := by
          rcases hlen with h9 | h9
          · exact absurd (show (1 : Nat) = 0 from h9) (by decide)
          · exact h9.symm
        subst e9
        exact simple (zn_lshr hG.1 hG.2.1 hC.1 hC.2.1 hL hd hstp)
      | lcmp =>
        have e9 : len = 1 := by
          rcases hlen with h9 | h9
          · exact absurd (show (1 : Nat) = 0 from h9) (by decide)
          · exact h9.symm
        subst e9
        exact simple (zn_lcmp hG.1 hG.2.1 hC.1 hC.2.1 hL hd hstp)
      | i2l =>
        have e9 : len = 1 := by
          rcases hlen with h9 | h9
          · exact absurd (show (1 : Nat) = 0 from h9) (by decide)
          · exact h9.symm
        subst e9
        exact simple (zn_i2l hG.1 hG.2.1 hC.1 hC.2.1 hL hd hstp)
      | l2i =>
        have e9 : len = 1 := by
          rcases hlen with h9 | h9
          · exact absurd (show (1 : Nat) = 0 from h9) (by decide)
          · exact h9.symm
        subst e9
        exact simple (zn_l2i hG.1 hG.2.1 hC.1 hC.2.1 hL hd hstp)
      | i2b =>
        have e9 : len = 1 := by
          rcases hlen with h9 | h9
          · exact absurd (show (1 : Nat) = 0 from h9) (by decide)
          · exact h9.symm
        subst e9
        exact simple (zn_i2b hG.1 hG.2.1 hC.1 hC.2.1 hL hd hstp)
      | i2c =>
        have e9 : len = 1 := by
          rcases hlen with h9 | h9
          · exact absurd (show (1 : Nat) = 0 from h9) (by decide)
          · exact h9.symm
        subst e9
        exact simple (zn_i2c hG.1 hG.2.1 hC.1 hC.2.1 hL hd hstp)
      | dup =>
        have e9 : len = 1 := by
          rcases hlen with h9 | h9
          · exact absurd (show (1 : Nat) = 0 from h9) (by decide)
          · exact h9.symm
        subst e9
        exact simple (zn_dup hG.1 hG.2.1 hC.1 hC.2.1 hL hd hstp)
      | pop =>
        have e9 : len = 1 := by
          rcases hlen with h9 | h9
          · exact absurd (show (1 : Nat) = 0 from h9) (by decide)
          · exact h9.symm
        subst e9
        exact simple (zn_pop hG.1 hG.2.1 hC.1 hC.2.1 hL hd hstp)
      | dup2 =>
        have e9 : len = 1 := by
          rcases hlen with h9 | h9
          · exact absurd (show (1 : Nat) = 0 from h9) (by decide)
          · exact h9.symm
        subst e9
        exact simple (zn_dup2 hG.1 hG.2.1 hC.1 hC.2.1 hL hd hstp)
      | dup_x1 =>
        have e9 : len = 1 := by
          rcases hlen with h9 | h9
          · exact absurd (show (1 : Nat) = 0 from h9) (by decide)
          · exact h9.symm
        subst e9
        exact simple (zn_dup_x1 hG.1 hG.2.1 hC.1 hC.2.1 hL hd hstp)
      | ifCond a0 a1 =>
        have e9 : len = 3 := by
          rcases hlen with h9 | h9
          · exact absurd (show (3 : Nat) = 0 from h9) (by decide)
          · exact h9.symm
        subst e9
        exact simple (zn_ifCond hG.1 hG.2.1 hC.1 hC.2.1 hL hd hstp)
      | if_icmp a0 a1 =>
        have e9 : len = 3 := by
          rcases hlen with h9 | h9
          · exact absurd (show (3 : Nat) = 0 from h9) (by decide)
          · exact h9.symm
        subst e9
        exact simple (zn_if_icmp hG.1 hG.2.1 hC.1 hC.2.1 hL hd hstp)
      | if_acmp a0 a1 =>
        have e9 : len = 3 := by
          rcases hlen with h9 | h9
          · exact absurd (show (3 : Nat) = 0 from h9) (by decide)
          · exact h9.symm
        subst e9
        exact simple (zn_if_acmp hG.1 hG.2.1 hC.1 hC.2.1 hL hd hstp)
      | ifnull a0 =>
        have e9 : len = 3 := by
          rcases hlen with h9 | h9
          · exact absurd (show (3 : Nat) = 0 from h9) (by decide)
          · exact h9.symm
        subst e9
        exact simple (zn_ifnull hG.1 hG.2.1 hC.1 hC.2.1 hL hd hstp)
      | ifnonnull a0 =>
        have e9 : len = 3 := by
          rcases hlen with h9 | h9
          · exact absurd (show (3 : Nat) = 0 from h9) (by decide)
          · exact h9.symm
        subst e9
        exact simple (zn_ifnonnull hG.1 hG.2.1 hC.1 hC.2.1 hL hd hstp)
      | goto a0 =>
        have e9 : len = 3 := by
          rcases hlen with h9 | h9
          · exact absurd (show (3 : Nat) = 0 from h9) (by decide)
          · exact h9.symm
        subst e9
        exact simple (zn_goto hG.1 hG.2.1 hC.1 hC.2.1 hL hd hstp)
      | tableswitch a0 a1 a2 a3 => exact simple (zn_tableswitch hG.1 hG.2.1 hC.1 hC.2.1 hL hd hstp)
      | getfield a0 =>
        have e9 : len = 3 := by
          rcases hlen with h9 | h9
          · exact absurd (show (3 : Nat) = 0 from h9) (by decide)
          · exact h9.symm
        subst e9
        exact zn_getfield hC hG hR hS hL hd hstp hc hs kk
      | arraylength =>
        have e9 : len = 1 := by
          rcases hlen with h9 | h9
          · exact absurd (show (1 : Nat) = 0 from h9) (by decide)
          · exact h9.symm
        subst e9
        exact zn_arraylength hC hG hR hS hL hd hstp hc hs kk
      | iaload =>
        have e9 : len = 1 := by
          rcases hlen with h9 | h9
          · exact absurd (show (1 : Nat) = 0 from h9) (by decide)
          · exact h9.symm
        subst e9
        exact zn_iaload hC hG hR hS hL hd hstp hc hs kk
      | caload =>
        have e9 : len = 1 := by
          rcases hlen with h9 | h9
          · exact absurd (show (1 : Nat) = 0 from h9) (by decide)
          · exact h9.symm
        subst e9
        exact zn_caload hC hG hR hS hL hd hstp hc hs kk
      | laload =>
        have e9 : len = 1 := by
          rcases hlen with h9 | h9
          · exact absurd (show (1 : Nat) = 0 from h9) (by decide)
          · exact h9.symm
        subst e9
        exact zn_laload hC hG hR hS hL hd hstp hc hs kk
      | baload =>
        have e9 : len = 1 := by
          rcases hlen with h9 | h9
          · exact absurd (show (1 : Nat) = 0 from h9) (by decide)
          · exact h9.symm
        subst e9
        exact zn_baload hC hG hR hS hL hd hstp hc hs kk
      | iastore =>
        have e9 : len = 1 := by
          rcases hlen with h9 | h9
          · exact absurd (show (1 : Nat) = 0 from h9) (by decide)
          · exact h9.symm
        subst e9
        exact zn_iastore hC hG hR hS hL hd hstp hc hs kk
      | castore =>
        have e9 : len = 1 := by
          rcases hlen with h9 | h9
          · exact absurd (show (1 : Nat) = 0 from h9) (by decide)
          · exact h9.symm
        subst e9
        exact zn_castore hC hG hR hS hL hd hstp hc hs kk
      | lastore =>
        have e9 : len = 1 := by
          rcases hlen with h9 | h9
          · exact absurd (show (1 : Nat) = 0 from h9) (by decide)
          · exact h9.symm
        subst e9
        exact zn_lastore hC hG hR hS hL hd hstp hc hs kk
      | bastore =>
        have e9 : len = 1 := by
          rcases hlen with h9 | h9
          · exact absurd (show (1 : Nat) = 0 from h9) (by decide)
          · exact h9.symm
        subst e9
        exact zn_bastore hC hG hR hS hL hd hstp hc hs kk
      | new a0 =>
        have e9 : len = 3 := by
          rcases hlen with h9 | h9
          · exact absurd (show (3 : Nat) = 0 from h9) (by decide)
          · exact h9.symm
        subst e9
        exact zn_new hC hG hR hS hL hd hstp hc hs kk
      | newarray a0 =>
        have e9 : len = 2 := by
          rcases hlen with h9 | h9
          · exact absurd (show (2 : Nat) = 0 from h9) (by decide)
          · exact h9.symm
        subst e9
        exact zn_newarray hC hG hR hS hL hd hstp hc hs kk
      | anewarray a0 =>
        have e9 : len = 3 := by
          rcases hlen with h9 | h9
          · exact absurd (show (3 : Nat) = 0 from h9) (by decide)
          · exact h9.symm
        subst e9
        exact zn_anewarray hC hG hR hS hL hd hstp hc hs kk
      | aaload =>
        have e9 : len = 1 := by
          rcases hlen with h9 | h9
          · exact absurd (show (1 : Nat) = 0 from h9) (by decide)
          · exact h9.symm
        subst e9
        exact zn_aaload hC hG hR hS hL hd hstp hc hs kk
      | putfield a0 =>
        have e9 : len = 3 := by
          rcases hlen with h9 | h9
          · exact absurd (show (3 : Nat) = 0 from h9) (by decide)
          · exact h9.symm
        subst e9
        exact zn_putfield hC hG hR hS hL hd hstp kk
      | aastore =>
        have e9 : len = 1 := by
          rcases hlen with h9 | h9
          · exact absurd (show (1 : Nat) = 0 from h9) (by decide)
          · exact h9.symm
        subst e9
        exact zn_aastore hC hG hR hS hL hd hstp hfr hlo hc hs kk
      | ldc a0 =>
        have e9 : len = 2 := by
          rcases hlen with h9 | h9
          · exact absurd (show (2 : Nat) = 0 from h9) (by decide)
          · exact h9.symm
        subst e9
        exact zn_ldc hC hG hR hS hL hd hstp hfr hlo hc hs kk
      | ldc2_w a0 =>
        have e9 : len = 3 := by
          rcases hlen with h9 | h9
          · exact absurd (show (3 : Nat) = 0 from h9) (by decide)
          · exact h9.symm
        subst e9
        exact zn_ldc2_w hC hG hR hS hL hd hstp hfr hlo hc hs kk
      | getstatic a0 =>
        have e9 : len = 3 := by
          rcases hlen with h9 | h9
          · exact absurd (show (3 : Nat) = 0 from h9) (by decide)
          · exact h9.symm
        subst e9
        exact zn_getstatic hC hG hR hS hL hd hstp hfr hlo hc hs kk
      | checkcast a0 =>
        have e9 : len = 3 := by
          rcases hlen with h9 | h9
          · exact absurd (show (3 : Nat) = 0 from h9) (by decide)
          · exact h9.symm
        subst e9
        exact zn_checkcast hC hG hR hS hL hn hd hstp hfr hlo hc hs kk
      | instanceof a0 =>
        have e9 : len = 3 := by
          rcases hlen with h9 | h9
          · exact absurd (show (3 : Nat) = 0 from h9) (by decide)
          · exact h9.symm
        subst e9
        exact zn_instanceof hC hG hR hS hL hn hd hstp hfr hlo hc hs kk
      | invokespecial a0 =>
        have e9 : len = 3 := by
          rcases hlen with h9 | h9
          · exact absurd (show (3 : Nat) = 0 from h9) (by decide)
          · exact h9.symm
        subst e9
        exact zn_objinit hC hG hR hS hL hn hd hstp hfr hlo hc hs kk
      | invokestatic a0 =>
        have e9 : len = 3 := by
          rcases hlen with h9 | h9
          · exact absurd (show (3 : Nat) = 0 from h9) (by decide)
          · exact h9.symm
        subst e9
        exact zn_arraycopy hC hG hR hS hL hn hd hstp hfr hlo hc hs kk
      | invokevirtual a0 =>
        have e9 : len = 3 := by
          rcases hlen with h9 | h9
          · exact absurd (show (3 : Nat) = 0 from h9) (by decide)
          · exact h9.symm
        subst e9
        exact zn_clone hC hG hR hS hL hn hd hstp hfr hlo hc hs kk
      | ireturn =>
        simp only [z_do, z_i] at hstp
        split at hstp
        · split at hstp <;> cases hstp
        · cases hstp
      | lreturn =>
        simp only [z_do, z_l] at hstp
        split at hstp
        · split at hstp <;> cases hstp
        · cases hstp
      | areturn =>
        simp only [z_do, z_v] at hstp
        split at hstp
        · split at hstp <;> cases hstp
        · cases hstp
      | return_ =>
        simp only [z_do] at hstp
        split at hstp <;> cases hstp
      | _ => cases hstp
    · cases hstp
  · cases hstp
end ZN2
