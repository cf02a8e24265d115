/-! THE TIE: a call that comes back -/
def z_gw (w : Cond) : Bool := goodWord w || (match w with
  | .castable _ _ => true
  | .arrayOver (.object _) => true
  | .methodLinkNest _ _ _ _ => true
  | .declares _ => true
  | .privateMethod _ => true
  | _ => false)
theorem z_good : z_wl.all z_gw = true := by decide +kernel
theorem z_warm {args a' : Array Value} {s U : State} (hts : ∀ w ∈ z_wl, w.before args s = true) (hW : s.WarmedH U.vm) : ∀ w ∈ z_wl, w.before a' U = true := by
  intro w hw
  have h1 := List.all_eq_true.mp z_good w hw
  have h2 := hts w hw
  unfold z_gw at h1
  rcases (Bool.or_eq_true _ _).mp h1 with h3 | h3
  · exact word_at hW (good_of_word h3) h2
  · split at h3
    · exact va_Nw.use rfl (va_Nw.warmC hW (va_Nw.of rfl h2))
    · exact va_AO.use ((va_AO.of h2).moved hW.alike)
    · exact va_Nw.use rfl (va_Nw.warmM hW (va_Nw.of rfl h2))
    · exact va_Nw.use rfl (va_Nw.warmD hW (va_Nw.of rfl h2))
    · exact Cond.privateMethod_warm hW h2
    · cases h3
section ZB
variable {p : Program} {l : Launch} {e : Env} {R : Room} {s : State} {m : MethodId} {args : Array Value} {below : List Frame} {meth : Method} {c : Code}
variable {D : va_G} {bs : Nat} {lt : Nat → Value} {tA : Nat → Nat} {K : Nat → zE}
def z_Pre (R : Room) (D : va_G) (bs : Nat) (lt : Nat → Value) (tA : Nat → Nat) (K : Nat → zE) (j : Nat) (as : List Value) (h : zH) (mc ms : Nat) (A : Pt) (a : Array Value) : Prop :=
  A.cells + mc ≤ R.cells ∧ A.slots + ms ≤ R.slots ∧ a = (as.map (z_rv bs lt)).toArray ∧ (∀ w ∈ z_cw j :: z_wl, w.before (as.map (z_rv bs lt)).toArray A.U = true) ∧ (Cond.initialized (zt_name j).cls).before (as.map (z_rv bs lt)).toArray A.U = true ∧ z_G D bs lt tA K A.U ∧ z_Rel D bs lt tA K h A.U.heap
def z_Post (D : va_G) (bs : Nat) (lt : Nat → Value) (tA : Nat → Nat) (K : Nat → zE) (h' : zH) (v : Option Value) (mc ms : Nat) (A : Pt) (_ : Array Value) (v' : Option Value) (B : Pt) : Prop :=
  v' = v.map (z_rv bs lt) ∧ z_Rel D bs lt tA K h' B.U.heap ∧ B.cells = A.cells + mc ∧ B.slots = A.slots + ms ∧ ∃ L, B.locs = A.locs ++ L ∧ ∀ q ∈ L, z_A bs q.base
theorem z_back {j : Nat} {as : List Value} {h h' : zH} {v : Option Value} {mc ms : Nat} (hM : z_Met l D bs lt tA K j as h h' (.inl v) mc ms) (hfr : (z_rm j mc ms).frames + 1 ≤ R.frames) (hlo : 20 + (zt_ml j + 11) + (z_rm j mc ms).locals ≤ R.locals) :
    Back l R p e below s args (zt_name j) 3 20 (z_Pre R D bs lt tA K j as h mc ms) (z_Post D bs lt tA K h' v mc ms) := by
  intro m meth c A g ig mk a X hg hsize hd hW hn hp
  obtain ⟨h1, h2, rfl, h4, h5, h6, h7⟩ := hp
  obtain ⟨U, Ls, c0, s0⟩ := A
  obtain ⟨U', L, X', hL, hR, hst⟩ := z_enter X hM hg hsize hd hW hn h4 h5 hfr hlo h1 h2 h6 h7
  exact ⟨v.map (z_rv bs lt), ⟨U', Ls ++ L, c0 + mc, s0 + ms⟩, X', ⟨rfl, hR, rfl, rfl, L, rfl, hL⟩, hst⟩
end ZB
