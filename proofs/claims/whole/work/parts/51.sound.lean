/-! THE TIE: what the evaluator says of a method, the machine does -/
theorem zt_mlt : ∀ q ∈ zt_mthL, q.2.1.2.1 < 218 := by decide +kernel
theorem zt_ocn : ∀ j, j < 218 → zt_cn (zt_own j) = (zt_name j).cls := by decide +kernel
theorem zt_pln : ∀ j, j < 218 → plainFor (zt_name j) = true := by decide +kernel
theorem z_stp_j {i pc : Nat} {ls st : List Value} {h : zH} {j : Nat} {as r : List Value} (e : z_stp i pc ls st h = some (.inr (.inr (j, as, r)))) : j < 218 ∧ (z_args as).length ≤ zt_ml j := by
  have hcall : ∀ k o, z_call i pc k o ls st h = some (.inr (.inr (j, as, r))) → j < 218 ∧ (z_args as).length ≤ zt_ml j := by
    intro k o e1
    refine ⟨?_, z_call_fit e1⟩
    obtain ⟨q, hq, -, -, rfl, -⟩ := z_call_inv e1
    unfold zt_mth at hq
    obtain ⟨x, hx, rfl⟩ := Option.map_eq_some_iff.mp hq
    exact zt_mlt _ (zt_lk_mem hx)
  unfold z_stp at e
  split at e
  · rename_i ins len hd
    split at e
    · cases ins with
      | invokestatic k => exact hcall _ _ e
      | invokevirtual k => exact hcall _ _ e
      | invokespecial k => exact hcall _ _ e
      | ireturn =>
        simp only [z_do, z_i] at e
        split at e
        · split at e <;> cases e
        · cases e
      | lreturn =>
        simp only [z_do, z_l] at e
        split at e
        · split at e <;> cases e
        · cases e
      | areturn =>
        simp only [z_do, z_v] at e
        split at e
        · split at e <;> cases e
        · cases e
      | return_ =>
        simp only [z_do] at e
        split at e <;> cases e
      | new k =>
        simp only [z_do, z_ob, z_nx] at e
        split at e
        · split at e
          · split at e <;> cases e
          · cases e
        · cases e
      | _ =>
        obtain ⟨q9, hq9⟩ := zs_do _ _ _ _ _ _ rfl _ e
        cases hq9
    · cases e
  · cases e
theorem ze_stp {i pc : Nat} {ls st : List Value} {h : zH} {o : zO} {h' : zH} (e : z_stp i pc ls st h = some (.inr (.inl (o, h')))) : h.1 ≤ h'.1 ∧ h.2.1 ≤ h'.2.1 ∧ ∀ v, o = .inl v → h' = h := by
  unfold z_stp at e
  split at e
  · split at e
    · exact ze_do e
    · cases e
  · cases e
/-- the locals at the entry -/
theorem z_cat2 {bs : Nat} {lt : Nat → Value} (hlt : z_lt lt) (v : Value) : (z_rv bs lt v).category = 2 ↔ (∃ x, v = .long x) ∨ ∃ x, v = .double x := by
  cases v with
  | retAddr k => rcases hlt k with e | ⟨a, e⟩ <;> simp [z_rv, e, Value.category]
  | _ => simp [z_rv, Value.category]
theorem z_args_len {bs : Nat} {lt : Nat → Value} (hlt : z_lt lt) : ∀ as : List Value, (lg_sl (as.map (z_rv bs lt))).length = (z_args as).length := by
  intro as
  induction as with
  | nil => rfl
  | cons v r ih =>
    by_cases hc : (z_rv bs lt v).category = 2
    · have e1 : lg_sl ((v :: r).map (z_rv bs lt)) = .val (z_rv bs lt v) :: .second :: lg_sl (r.map (z_rv bs lt)) := by simp [lg_sl, hc]
      rw [e1]
      rcases (z_cat2 hlt v).mp hc with ⟨x, rfl⟩ | ⟨x, rfl⟩ <;> simp [z_args, ih]
    · have e1 : lg_sl ((v :: r).map (z_rv bs lt)) = .val (z_rv bs lt v) :: lg_sl (r.map (z_rv bs lt)) := by simp [lg_sl, hc]
      rw [e1]
      have h2 := fun h9 => hc ((z_cat2 hlt v).mpr h9)
      cases v with
      | long x => exact absurd (Or.inl ⟨x, rfl⟩) h2
      | double x => exact absurd (Or.inr ⟨x, rfl⟩) h2
      | _ => simp [z_args, ih]
theorem z_args_mem {bs : Nat} {lt : Nat → Value} (hlt : z_lt lt) : ∀ (as : List Value) (i k : Nat) (v : Value), (z_args as)[k]? = some v → z_ok v = true → (i + k, z_rv bs lt v) ∈ lv_args i (as.map (z_rv bs lt)) := by
  intro as
  induction as with
  | nil => intro i k v h; simp [z_args] at h
  | cons w r ih =>
    intro i k v h ho
    rw [List.map_cons, lv_args]
    by_cases hc : (z_rv bs lt w).category = 2
    · rw [if_pos hc]
      rcases (z_cat2 hlt w).mp hc with ⟨x, rfl⟩ | ⟨x, rfl⟩
      · simp only [z_args] at h
        match k, h with
        | 0, h => cases h; exact List.mem_cons_self
        | 1, h => cases h; simp [z_um, z_ok, z_isref] at ho
        | k + 2, h =>
          have := ih (i + 2) k v (by simpa using h) ho
          rw [show i + (k + 2) = i + 2 + k by omega]
          exact List.mem_cons_of_mem _ this
      · simp only [z_args] at h
        match k, h with
        | 0, h => cases h; simp [z_um, z_ok, z_isref] at ho
        | 1, h => cases h; simp [z_um, z_ok, z_isref] at ho
        | k + 2, h =>
          have := ih (i + 2) k v (by simpa using h) ho
          rw [show i + (k + 2) = i + 2 + k by omega]
          exact List.mem_cons_of_mem _ this
    · rw [if_neg hc]
      have h2 := fun h9 => hc ((z_cat2 hlt w).mpr h9)
      have e1 : z_args (w :: r) = w :: z_args r := by
        cases w with
        | long x => exact absurd (Or.inl ⟨x, rfl⟩) h2
        | double x => exact absurd (Or.inr ⟨x, rfl⟩) h2
        | _ => rfl
      rw [e1] at h
      match k, h with
      | 0, h => cases h; exact List.mem_cons_self
      | k + 1, h =>
        have := ih (i + 1) k v (by simpa using h) ho
        rw [show i + (k + 1) = i + 1 + k by omega]
        exact List.mem_cons_of_mem _ this
theorem z_entry_Lr {bs : Nat} {lt : Nat → Value} (hlt : z_lt lt) {j : Nat} {as : List Value} (hf : (z_args as).length ≤ zt_ml j) : z_Lr bs lt (zt_ml j) (z_ent j as) ((lg_sl (as.map (z_rv bs lt)) ++ List.replicate (zt_ml j - (lg_sl (as.map (z_rv bs lt))).length) Slot.unset).toArray) := by
  have hl := z_args_len (bs := bs) hlt as
  obtain ⟨h1, h2, h3⟩ := lv_entry (as.map (z_rv bs lt)) (n := zt_ml j) (by rw [hl]; exact hf)
  refine ⟨by unfold z_ent; simp; omega, h1, h2, fun k v hk ho => ?_⟩
  unfold z_ent at hk
  by_cases hkl : k < (z_args as).length
  · rw [List.getElem?_append_left hkl] at hk
    have := h3 _ (by simpa using z_args_mem (bs := bs) hlt as 0 k v hk ho)
    exact this
  · rw [List.getElem?_append_right (by omega)] at hk
    have := List.mem_of_getElem? hk
    have e1 := (List.mem_replicate.mp this).2
    subst e1
    simp [z_um, z_ok, z_isref] at ho
/-- the machine does what the evaluator says: of fuel n -/
def z_snP (l : Launch) (D : va_G) (bs : Nat) (lt : Nat → Value) (tA : Nat → Nat) (K : Nat → zE) (n : Nat) : Prop :=
  ∀ (i pc : Nat) (ls st : List Value) (h h' : zH) (o : zO), z_ex n i pc ls st h = some (h', o) →
  ∀ (p : Program) (e : Env) (R : Room) (s : State) (m : MethodId) (args : Array Value) (below : List Frame) (meth : Method) (c : Code) (H : Heap) (locs : List Loc) (cells slots : Nat) (lr : Array Slot) (C S : Nat),
    z_Cx p s m args meth c i → z_G D bs lt tA K s → z_Rel D bs lt tA K h H → va_S (z_A bs) s.heap H locs → z_Lr bs lt (zt_ml i) ls lr →
    10 + zt_rk i ≤ R.frames → 300 + 60 * zt_rk i ≤ R.locals → C = cells + (h'.1 - h.1) → S = slots + (h'.2.1 - h.2.1) → C ≤ R.cells → S ≤ R.slots →
    W p l e R s m args below meth c H locs cells slots (z_Q bs below s C S (fun oc H' => oc = z_ro bs lt o ∧ z_Rel D bs lt tA K h' H')) (F0 m pc lr (st.map (z_rv bs lt)))
theorem z_Met_of {l : Launch} {D : va_G} {bs : Nat} {lt : Nat → Value} {tA : Nat → Nat} {K : Nat → zE} {n : Nat} (hs : z_snP l D bs lt tA K n) {j : Nat} {as : List Value} {h h' : zH} {o : zO} (hj : j < 218) (hf : (z_args as).length ≤ zt_ml j) (e : z_ex n j 0 (z_ent j as) [] h = some (h', o)) : z_Met l D bs lt tA K j as h h' o (h'.1 - h.1) (h'.2.1 - h.2.1) := by
  unfold z_Met
  refine MetFree.of_bodySF (code := zt_code j) (maxLocals := zt_ml j) (ret := zt_ret j) (zt_pln j hj) ?_ ?_
  · intro args s m hh hn
    obtain ⟨meth, c, h1, h2, h3, h4, h5, h6, -, -⟩ := z_cw_spec (atoms_spec (ws := z_cw j :: z_wl) hh _ List.mem_cons_self) hn
    exact ⟨meth, c, h1, h2, h3, h4, h5, h6⟩
  · intro p en s m args below meth c s₁ B hml hP _
    obtain ⟨rfl, hG, hR⟩ := hP
    have hall := atoms_spec (ws := z_cw j :: z_wl) B.pre
    have hX := Stand.of_body B
    obtain ⟨meth', c', h1, h2, h3, h4, h5, h6, h7, -⟩ := z_cw_spec (hall _ List.mem_cons_self) B.named
    cases h1.symm.trans B.method
    cases h2.symm.trans hX.code
    have hlk : meth.locks = false := h6
    have hCx : z_Cx p s m (as.map (z_rv bs lt)).toArray meth c j := ⟨B.exec, h3, h4, h5, hlk, by rw [zt_ocn j hj]; exact findClass_of_methodNamed B.named, fun w hw => hall w (List.mem_cons_of_mem _ hw), (name_of_methodNamed B.named B.method).1, h7⟩
    have hh0 : s₁.heap = s.heap := by rw [B.state]; rfl
    have hw := hs j 0 (z_ent j as) [] h h' o e p en (headSpec (z_cw j :: z_wl) (z_rm j (h'.1 - h.1) (h'.2.1 - h.2.1))).room s m (as.map (z_rv bs lt)).toArray below meth c s.heap [] 0 0 _ (h'.1 - h.1) (h'.2.1 - h.2.1) hCx hG hR ⟨Nat.le_refl _, fun _ _ _ => rfl, fun q hq => by cases hq⟩ (z_entry_Lr hG.1 hf) (Nat.le_refl _) (Nat.le_refl _) (Nat.zero_add _).symm (Nat.zero_add _).symm (Nat.le_refl _) (Nat.le_refl _)
    obtain ⟨t, a1, o1, a2, a3, ⟨a4, a5⟩, a6, L, a7, a8⟩ := hw s₁ hh0 hX
    refine ⟨t, o1, ?_, a2, a3, a4, a5, a6, L, a7, a8⟩
    rw [lg_entry_eq]
    exact a1
theorem z_snd (l : Launch) (htr : ∀ e : Env, l.admits e → e.platform.stackTraces = false) (D : va_G) (bs : Nat) (lt : Nat → Value) (tA : Nat → Nat) (K : Nat → zE) : ∀ n, z_snP l D bs lt tA K n := by
  intro n
  induction n with
  | zero => intro i pc ls st h h' o e; cases e
  | succ n ih =>
    intro i pc ls st h h' o ex p e R s m args below meth c H locs cells slots lr C S hC hG hR hS hL hfr hlo hc1 hs1 hc hs
    have hg0 := zg_ex _ _ _ _ _ _ _ ex
    unfold z_ex at ex
    split at ex
    · cases ex
    · rename_i q e0
      obtain ⟨pc', ls', st', h1⟩ := q
      have hg1 := zg_stp e0
      have hg2 := zg_ex _ _ _ _ _ _ _ ex
      dsimp only at hg0 hg1 hg2 ex
      refine z_next hC hG hR hS hL rfl e0 (by omega) (by omega) (by omega) (by omega) fun H' lr' locs' hR' hS' hL' => ?_
      exact ih _ _ _ _ _ _ _ ex p e R s m args below meth c H' locs' _ _ lr' C S hC hG hR' hS' hL' hfr hlo (by omega) (by omega) hc hs
    · rename_i q e0
      obtain ⟨o1, h1⟩ := q
      cases ex
      cases o1 with
      | inl v =>
        have hh := (ze_stp e0).2.2 v rfl
        subst hh
        rw [Nat.sub_self, Nat.add_zero] at hc1 hs1
        subst hc1 hs1
        exact z_retn hC hG.1 hS.2.2 e0 ⟨rfl, hR⟩
      | inr a =>
        intro T hT X
        subst hc1 hs1
        exact z_thrD hC hG hR hS hL rfl e0 (htr e X.admits) (by omega) (by omega) hc hs (fun H' hR' => ⟨rfl, hR'⟩) T hT X
    · rename_i q e0
      obtain ⟨j, as, r⟩ := q
      dsimp only at ex
      obtain ⟨hj, hf⟩ := z_stp_j e0
      split at ex
      · rename_i hrk
        split at ex
        · rename_i h1 e1
          have hM := z_Met_of ih hj hf e1
          have hg1 := zg_ex _ _ _ _ _ _ _ e1
          have hg2 := zg_ex _ _ _ _ _ _ _ ex
          dsimp only at hg0 hg1 hg2 hrk
          refine z_callW hC hG hR hS hL rfl e0 hM hj hg1.1 (by show 10 + zt_rk j + 1 ≤ R.frames; omega) (by show 51 + (300 + 60 * zt_rk j) ≤ R.locals; omega) (by omega) (by omega) fun H' locs' hR' hS' => ?_
          exact ih _ _ _ _ _ _ _ ex p e R s m args below meth c H' locs' _ _ lr C S hC hG hR' hS' hL hfr hlo (by omega) (by omega) hc hs
        · rename_i h1 v e1
          have hM := z_Met_of ih hj hf e1
          have hg1 := zg_ex _ _ _ _ _ _ _ e1
          have hg2 := zg_ex _ _ _ _ _ _ _ ex
          dsimp only at hg0 hg1 hg2 hrk
          refine z_callW hC hG hR hS hL rfl e0 hM hj hg1.1 (by show 10 + zt_rk j + 1 ≤ R.frames; omega) (by show 51 + (300 + 60 * zt_rk j) ≤ R.locals; omega) (by omega) (by omega) fun H' locs' hR' hS' => ?_
          exact ih _ _ _ _ _ _ _ ex p e R s m args below meth c H' locs' _ _ lr C S hC hG hR' hS' hL hfr hlo (by omega) (by omega) hc hs
        · rename_i h1 a e1
          split at ex
          · rename_i pc' e2
            have hM := z_Met_of ih hj hf e1
            have hg1 := zg_ex _ _ _ _ _ _ _ e1
            have hg2 := zg_ex _ _ _ _ _ _ _ ex
            obtain ⟨cn, hcn⟩ := z_ex_thr _ _ _ _ _ _ _ _ e1
            dsimp only at hg0 hg1 hg2 hrk
            refine z_catW hC hG hR hS hL rfl e0 hM hj hg1.1 hcn e2 (by show 10 + zt_rk j + 1 ≤ R.frames; omega) (by show 51 + (300 + 60 * zt_rk j) ≤ R.locals; omega) (by omega) (by omega) fun H' locs' hR' hS' => ?_
            exact ih _ _ _ _ _ _ _ ex p e R s m args below meth c H' locs' _ _ lr C S hC hG hR' hS' hL hfr hlo (by omega) (by omega) hc hs
          · cases ex
        · cases ex
      · cases ex
