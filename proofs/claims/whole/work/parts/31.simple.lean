/-! THE TIE, instructions that leave the heap alone: what the evaluator does, the machine does -/
section ZN
variable {p : Program} {l : Launch} {e : Env} {R : Room} {s : State} {m : MethodId} {args : Array Value} {below : List Frame} {meth : Method} {c : Code} {H : Heap} {locs : List Loc} {cells slots : Nat} {Q : State → Prop}
variable {bs n : Nat} {lt : Nat → Value} {lr : Array Slot} {i pc pc' : Nat} {ls st ls' st' : List Value} {h h' : zH}
theorem z_map_cons (v : Value) (r : List Value) : (v :: r).map (z_rv bs lt) = z_rv bs lt v :: r.map (z_rv bs lt) := rfl
theorem z_isref_rv (hlt : z_lt lt) {v : Value} (hv : z_isref v = true) : z_rv bs lt v = .null ∨ ∃ a, z_rv bs lt v = .ref a := by
  cases v with
  | retAddr k => exact hlt k
  | ref a => exact Or.inr ⟨_, rfl⟩
  | null => exact Or.inl rfl
  | _ => simp [z_isref] at hv
theorem z_ok_ref {v : Value} (hv : z_isref v = true) : z_ok v = true := by
  cases v <;> first | rfl | (simp [z_isref] at hv)
/-- given values under 100 are references to cells that were there before -/
def z_l2 (bs : Nat) (lt : Nat → Value) : Prop := ∀ k, k < 100 → ∃ a, lt k = .ref a ∧ a < bs
theorem zn_iadd (hlt : z_lt lt) (hl2 : z_l2 bs lt) (hx : p.tables.exec = Jvm.exec) (hb : c.code = zt_code i) (hL : z_Lr bs lt n ls lr) (hd : decode (zt_code i) pc = .ok (.iadd, 1)) (hdo : z_do i pc .iadd ls st h = some (.inl (pc', ls', st', h'))) :
    h' = h ∧ ((∀ lr', z_Lr bs lt n ls' lr' → W p l e R s m args below meth c H locs cells slots Q (F0 m pc' lr' (st'.map (z_rv bs lt)))) → W p l e R s m args below meth c H locs cells slots Q (F0 m pc lr (st.map (z_rv bs lt)))) := by
  simp only [z_do, z_ii] at hdo
  split at hdo
  · simp only [z_nx, Option.some.injEq, Sum.inl.injEq, Prod.mk.injEq] at hdo
    obtain ⟨rfl, rfl, rfl, rfl⟩ := hdo
    exact ⟨rfl, fun kk => lv_iadd hx hb hd (kk lr hL)⟩
  · cases hdo
theorem zn_isub (hlt : z_lt lt) (hl2 : z_l2 bs lt) (hx : p.tables.exec = Jvm.exec) (hb : c.code = zt_code i) (hL : z_Lr bs lt n ls lr) (hd : decode (zt_code i) pc = .ok (.isub, 1)) (hdo : z_do i pc .isub ls st h = some (.inl (pc', ls', st', h'))) :
    h' = h ∧ ((∀ lr', z_Lr bs lt n ls' lr' → W p l e R s m args below meth c H locs cells slots Q (F0 m pc' lr' (st'.map (z_rv bs lt)))) → W p l e R s m args below meth c H locs cells slots Q (F0 m pc lr (st.map (z_rv bs lt)))) := by
  simp only [z_do, z_ii] at hdo
  split at hdo
  · simp only [z_nx, Option.some.injEq, Sum.inl.injEq, Prod.mk.injEq] at hdo
    obtain ⟨rfl, rfl, rfl, rfl⟩ := hdo
    exact ⟨rfl, fun kk => lv_isub hx hb hd (kk lr hL)⟩
  · cases hdo
theorem zn_imul (hlt : z_lt lt) (hl2 : z_l2 bs lt) (hx : p.tables.exec = Jvm.exec) (hb : c.code = zt_code i) (hL : z_Lr bs lt n ls lr) (hd : decode (zt_code i) pc = .ok (.imul, 1)) (hdo : z_do i pc .imul ls st h = some (.inl (pc', ls', st', h'))) :
    h' = h ∧ ((∀ lr', z_Lr bs lt n ls' lr' → W p l e R s m args below meth c H locs cells slots Q (F0 m pc' lr' (st'.map (z_rv bs lt)))) → W p l e R s m args below meth c H locs cells slots Q (F0 m pc lr (st.map (z_rv bs lt)))) := by
  simp only [z_do, z_ii] at hdo
  split at hdo
  · simp only [z_nx, Option.some.injEq, Sum.inl.injEq, Prod.mk.injEq] at hdo
    obtain ⟨rfl, rfl, rfl, rfl⟩ := hdo
    exact ⟨rfl, fun kk => lv_imul hx hb hd (kk lr hL)⟩
  · cases hdo
theorem zn_iand (hlt : z_lt lt) (hl2 : z_l2 bs lt) (hx : p.tables.exec = Jvm.exec) (hb : c.code = zt_code i) (hL : z_Lr bs lt n ls lr) (hd : decode (zt_code i) pc = .ok (.iand, 1)) (hdo : z_do i pc .iand ls st h = some (.inl (pc', ls', st', h'))) :
    h' = h ∧ ((∀ lr', z_Lr bs lt n ls' lr' → W p l e R s m args below meth c H locs cells slots Q (F0 m pc' lr' (st'.map (z_rv bs lt)))) → W p l e R s m args below meth c H locs cells slots Q (F0 m pc lr (st.map (z_rv bs lt)))) := by
  simp only [z_do, z_ii] at hdo
  split at hdo
  · simp only [z_nx, Option.some.injEq, Sum.inl.injEq, Prod.mk.injEq] at hdo
    obtain ⟨rfl, rfl, rfl, rfl⟩ := hdo
    exact ⟨rfl, fun kk => lv_iand hx hb hd (kk lr hL)⟩
  · cases hdo
theorem zn_ior (hlt : z_lt lt) (hl2 : z_l2 bs lt) (hx : p.tables.exec = Jvm.exec) (hb : c.code = zt_code i) (hL : z_Lr bs lt n ls lr) (hd : decode (zt_code i) pc = .ok (.ior, 1)) (hdo : z_do i pc .ior ls st h = some (.inl (pc', ls', st', h'))) :
    h' = h ∧ ((∀ lr', z_Lr bs lt n ls' lr' → W p l e R s m args below meth c H locs cells slots Q (F0 m pc' lr' (st'.map (z_rv bs lt)))) → W p l e R s m args below meth c H locs cells slots Q (F0 m pc lr (st.map (z_rv bs lt)))) := by
  simp only [z_do, z_ii] at hdo
  split at hdo
  · simp only [z_nx, Option.some.injEq, Sum.inl.injEq, Prod.mk.injEq] at hdo
    obtain ⟨rfl, rfl, rfl, rfl⟩ := hdo
    exact ⟨rfl, fun kk => lv_ior hx hb hd (kk lr hL)⟩
  · cases hdo
theorem zn_ixor (hlt : z_lt lt) (hl2 : z_l2 bs lt) (hx : p.tables.exec = Jvm.exec) (hb : c.code = zt_code i) (hL : z_Lr bs lt n ls lr) (hd : decode (zt_code i) pc = .ok (.ixor, 1)) (hdo : z_do i pc .ixor ls st h = some (.inl (pc', ls', st', h'))) :
    h' = h ∧ ((∀ lr', z_Lr bs lt n ls' lr' → W p l e R s m args below meth c H locs cells slots Q (F0 m pc' lr' (st'.map (z_rv bs lt)))) → W p l e R s m args below meth c H locs cells slots Q (F0 m pc lr (st.map (z_rv bs lt)))) := by
  simp only [z_do, z_ii] at hdo
  split at hdo
  · simp only [z_nx, Option.some.injEq, Sum.inl.injEq, Prod.mk.injEq] at hdo
    obtain ⟨rfl, rfl, rfl, rfl⟩ := hdo
    exact ⟨rfl, fun kk => lv_ixor hx hb hd (kk lr hL)⟩
  · cases hdo
theorem zn_ishl (hlt : z_lt lt) (hl2 : z_l2 bs lt) (hx : p.tables.exec = Jvm.exec) (hb : c.code = zt_code i) (hL : z_Lr bs lt n ls lr) (hd : decode (zt_code i) pc = .ok (.ishl, 1)) (hdo : z_do i pc .ishl ls st h = some (.inl (pc', ls', st', h'))) :
    h' = h ∧ ((∀ lr', z_Lr bs lt n ls' lr' → W p l e R s m args below meth c H locs cells slots Q (F0 m pc' lr' (st'.map (z_rv bs lt)))) → W p l e R s m args below meth c H locs cells slots Q (F0 m pc lr (st.map (z_rv bs lt)))) := by
  simp only [z_do, z_ii] at hdo
  split at hdo
  · simp only [z_nx, Option.some.injEq, Sum.inl.injEq, Prod.mk.injEq] at hdo
    obtain ⟨rfl, rfl, rfl, rfl⟩ := hdo
    exact ⟨rfl, fun kk => lv_ishl hx hb hd (kk lr hL)⟩
  · cases hdo
theorem zn_ishr (hlt : z_lt lt) (hl2 : z_l2 bs lt) (hx : p.tables.exec = Jvm.exec) (hb : c.code = zt_code i) (hL : z_Lr bs lt n ls lr) (hd : decode (zt_code i) pc = .ok (.ishr, 1)) (hdo : z_do i pc .ishr ls st h = some (.inl (pc', ls', st', h'))) :
    h' = h ∧ ((∀ lr', z_Lr bs lt n ls' lr' → W p l e R s m args below meth c H locs cells slots Q (F0 m pc' lr' (st'.map (z_rv bs lt)))) → W p l e R s m args below meth c H locs cells slots Q (F0 m pc lr (st.map (z_rv bs lt)))) := by
  simp only [z_do, z_ii] at hdo
  split at hdo
  · simp only [z_nx, Option.some.injEq, Sum.inl.injEq, Prod.mk.injEq] at hdo
    obtain ⟨rfl, rfl, rfl, rfl⟩ := hdo
    exact ⟨rfl, fun kk => lv_ishr hx hb hd (kk lr hL)⟩
  · cases hdo
theorem zn_iushr (hlt : z_lt lt) (hl2 : z_l2 bs lt) (hx : p.tables.exec = Jvm.exec) (hb : c.code = zt_code i) (hL : z_Lr bs lt n ls lr) (hd : decode (zt_code i) pc = .ok (.iushr, 1)) (hdo : z_do i pc .iushr ls st h = some (.inl (pc', ls', st', h'))) :
    h' = h ∧ ((∀ lr', z_Lr bs lt n ls' lr' → W p l e R s m args below meth c H locs cells slots Q (F0 m pc' lr' (st'.map (z_rv bs lt)))) → W p l e R s m args below meth c H locs cells slots Q (F0 m pc lr (st.map (z_rv bs lt)))) := by
  simp only [z_do, z_ii] at hdo
  split at hdo
  · simp only [z_nx, Option.some.injEq, Sum.inl.injEq, Prod.mk.injEq] at hdo
    obtain ⟨rfl, rfl, rfl, rfl⟩ := hdo
    exact ⟨rfl, fun kk => lv_iushr hx hb hd rfl (kk lr hL)⟩
  · cases hdo
theorem zn_ladd (hlt : z_lt lt) (hl2 : z_l2 bs lt) (hx : p.tables.exec = Jvm.exec) (hb : c.code = zt_code i) (hL : z_Lr bs lt n ls lr) (hd : decode (zt_code i) pc = .ok (.ladd, 1)) (hdo : z_do i pc .ladd ls st h = some (.inl (pc', ls', st', h'))) :
    h' = h ∧ ((∀ lr', z_Lr bs lt n ls' lr' → W p l e R s m args below meth c H locs cells slots Q (F0 m pc' lr' (st'.map (z_rv bs lt)))) → W p l e R s m args below meth c H locs cells slots Q (F0 m pc lr (st.map (z_rv bs lt)))) := by
  simp only [z_do, z_ll] at hdo
  split at hdo
  · simp only [z_nx, Option.some.injEq, Sum.inl.injEq, Prod.mk.injEq] at hdo
    obtain ⟨rfl, rfl, rfl, rfl⟩ := hdo
    exact ⟨rfl, fun kk => lv_ladd hx hb hd (kk lr hL)⟩
  · cases hdo
theorem zn_lsub (hlt : z_lt lt) (hl2 : z_l2 bs lt) (hx : p.tables.exec = Jvm.exec) (hb : c.code = zt_code i) (hL : z_Lr bs lt n ls lr) (hd : decode (zt_code i) pc = .ok (.lsub, 1)) (hdo : z_do i pc .lsub ls st h = some (.inl (pc', ls', st', h'))) :
    h' = h ∧ ((∀ lr', z_Lr bs lt n ls' lr' → W p l e R s m args below meth c H locs cells slots Q (F0 m pc' lr' (st'.map (z_rv bs lt)))) → W p l e R s m args below meth c H locs cells slots Q (F0 m pc lr (st.map (z_rv bs lt)))) := by
  simp only [z_do, z_ll] at hdo
  split at hdo
  · simp only [z_nx, Option.some.injEq, Sum.inl.injEq, Prod.mk.injEq] at hdo
    obtain ⟨rfl, rfl, rfl, rfl⟩ := hdo
    exact ⟨rfl, fun kk => lv_lsub hx hb hd (kk lr hL)⟩
  · cases hdo
theorem zn_lmul (hlt : z_lt lt) (hl2 : z_l2 bs lt) (hx : p.tables.exec = Jvm.exec) (hb : c.code = zt_code i) (hL : z_Lr bs lt n ls lr) (hd : decode (zt_code i) pc = .ok (.lmul, 1)) (hdo : z_do i pc .lmul ls st h = some (.inl (pc', ls', st', h'))) :
    h' = h ∧ ((∀ lr', z_Lr bs lt n ls' lr' → W p l e R s m args below meth c H locs cells slots Q (F0 m pc' lr' (st'.map (z_rv bs lt)))) → W p l e R s m args below meth c H locs cells slots Q (F0 m pc lr (st.map (z_rv bs lt)))) := by
  simp only [z_do, z_ll] at hdo
  split at hdo
  · simp only [z_nx, Option.some.injEq, Sum.inl.injEq, Prod.mk.injEq] at hdo
    obtain ⟨rfl, rfl, rfl, rfl⟩ := hdo
    exact ⟨rfl, fun kk => lv_lmul hx hb hd (kk lr hL)⟩
  · cases hdo
theorem zn_land (hlt : z_lt lt) (hl2 : z_l2 bs lt) (hx : p.tables.exec = Jvm.exec) (hb : c.code = zt_code i) (hL : z_Lr bs lt n ls lr) (hd : decode (zt_code i) pc = .ok (.land, 1)) (hdo : z_do i pc .land ls st h = some (.inl (pc', ls', st', h'))) :
    h' = h ∧ ((∀ lr', z_Lr bs lt n ls' lr' → W p l e R s m args below meth c H locs cells slots Q (F0 m pc' lr' (st'.map (z_rv bs lt)))) → W p l e R s m args below meth c H locs cells slots Q (F0 m pc lr (st.map (z_rv bs lt)))) := by
  simp only [z_do, z_ll] at hdo
  split at hdo
  · simp only [z_nx, Option.some.injEq, Sum.inl.injEq, Prod.mk.injEq] at hdo
    obtain ⟨rfl, rfl, rfl, rfl⟩ := hdo
    exact ⟨rfl, fun kk => lv_land hx hb hd (kk lr hL)⟩
  · cases hdo
theorem zn_lor (hlt : z_lt lt) (hl2 : z_l2 bs lt) (hx : p.tables.exec = Jvm.exec) (hb : c.code = zt_code i) (hL : z_Lr bs lt n ls lr) (hd : decode (zt_code i) pc = .ok (.lor, 1)) (hdo : z_do i pc .lor ls st h = some (.inl (pc', ls', st', h'))) :
    h' = h ∧ ((∀ lr', z_Lr bs lt n ls' lr' → W p l e R s m args below meth c H locs cells slots Q (F0 m pc' lr' (st'.map (z_rv bs lt)))) → W p l e R s m args below meth c H locs cells slots Q (F0 m pc lr (st.map (z_rv bs lt)))) := by
  simp only [z_do, z_ll] at hdo
  split at hdo
  · simp only [z_nx, Option.some.injEq, Sum.inl.injEq, Prod.mk.injEq] at hdo
    obtain ⟨rfl, rfl, rfl, rfl⟩ := hdo
    exact ⟨rfl, fun kk => lv_lor hx hb hd (kk lr hL)⟩
  · cases hdo
theorem zn_lxor (hlt : z_lt lt) (hl2 : z_l2 bs lt) (hx : p.tables.exec = Jvm.exec) (hb : c.code = zt_code i) (hL : z_Lr bs lt n ls lr) (hd : decode (zt_code i) pc = .ok (.lxor, 1)) (hdo : z_do i pc .lxor ls st h = some (.inl (pc', ls', st', h'))) :
    h' = h ∧ ((∀ lr', z_Lr bs lt n ls' lr' → W p l e R s m args below meth c H locs cells slots Q (F0 m pc' lr' (st'.map (z_rv bs lt)))) → W p l e R s m args below meth c H locs cells slots Q (F0 m pc lr (st.map (z_rv bs lt)))) := by
  simp only [z_do, z_ll] at hdo
  split at hdo
  · simp only [z_nx, Option.some.injEq, Sum.inl.injEq, Prod.mk.injEq] at hdo
    obtain ⟨rfl, rfl, rfl, rfl⟩ := hdo
    exact ⟨rfl, fun kk => lv_lxor hx hb hd (kk lr hL)⟩
  · cases hdo
theorem zn_lcmp (hlt : z_lt lt) (hl2 : z_l2 bs lt) (hx : p.tables.exec = Jvm.exec) (hb : c.code = zt_code i) (hL : z_Lr bs lt n ls lr) (hd : decode (zt_code i) pc = .ok (.lcmp, 1)) (hdo : z_do i pc .lcmp ls st h = some (.inl (pc', ls', st', h'))) :
    h' = h ∧ ((∀ lr', z_Lr bs lt n ls' lr' → W p l e R s m args below meth c H locs cells slots Q (F0 m pc' lr' (st'.map (z_rv bs lt)))) → W p l e R s m args below meth c H locs cells slots Q (F0 m pc lr (st.map (z_rv bs lt)))) := by
  simp only [z_do, z_ll] at hdo
  split at hdo
  · simp only [z_nx, Option.some.injEq, Sum.inl.injEq, Prod.mk.injEq] at hdo
    obtain ⟨rfl, rfl, rfl, rfl⟩ := hdo
    exact ⟨rfl, fun kk => W.lcmp hx hb hd (kk lr hL)⟩
  · cases hdo
theorem zn_ineg (hlt : z_lt lt) (hl2 : z_l2 bs lt) (hx : p.tables.exec = Jvm.exec) (hb : c.code = zt_code i) (hL : z_Lr bs lt n ls lr) (hd : decode (zt_code i) pc = .ok (.ineg, 1)) (hdo : z_do i pc .ineg ls st h = some (.inl (pc', ls', st', h'))) :
    h' = h ∧ ((∀ lr', z_Lr bs lt n ls' lr' → W p l e R s m args below meth c H locs cells slots Q (F0 m pc' lr' (st'.map (z_rv bs lt)))) → W p l e R s m args below meth c H locs cells slots Q (F0 m pc lr (st.map (z_rv bs lt)))) := by
  simp only [z_do, z_i] at hdo
  split at hdo
  · simp only [z_nx, Option.some.injEq, Sum.inl.injEq, Prod.mk.injEq] at hdo
    obtain ⟨rfl, rfl, rfl, rfl⟩ := hdo
    exact ⟨rfl, fun kk => lv_ineg hx hb hd (kk lr hL)⟩
  · cases hdo
theorem zn_lneg (hlt : z_lt lt) (hl2 : z_l2 bs lt) (hx : p.tables.exec = Jvm.exec) (hb : c.code = zt_code i) (hL : z_Lr bs lt n ls lr) (hd : decode (zt_code i) pc = .ok (.lneg, 1)) (hdo : z_do i pc .lneg ls st h = some (.inl (pc', ls', st', h'))) :
    h' = h ∧ ((∀ lr', z_Lr bs lt n ls' lr' → W p l e R s m args below meth c H locs cells slots Q (F0 m pc' lr' (st'.map (z_rv bs lt)))) → W p l e R s m args below meth c H locs cells slots Q (F0 m pc lr (st.map (z_rv bs lt)))) := by
  simp only [z_do, z_l] at hdo
  split at hdo
  · simp only [z_nx, Option.some.injEq, Sum.inl.injEq, Prod.mk.injEq] at hdo
    obtain ⟨rfl, rfl, rfl, rfl⟩ := hdo
    exact ⟨rfl, fun kk => lv_lneg hx hb hd (kk lr hL)⟩
  · cases hdo
theorem zn_lshl (hlt : z_lt lt) (hl2 : z_l2 bs lt) (hx : p.tables.exec = Jvm.exec) (hb : c.code = zt_code i) (hL : z_Lr bs lt n ls lr) (hd : decode (zt_code i) pc = .ok (.lshl, 1)) (hdo : z_do i pc .lshl ls st h = some (.inl (pc', ls', st', h'))) :
    h' = h ∧ ((∀ lr', z_Lr bs lt n ls' lr' → W p l e R s m args below meth c H locs cells slots Q (F0 m pc' lr' (st'.map (z_rv bs lt)))) → W p l e R s m args below meth c H locs cells slots Q (F0 m pc lr (st.map (z_rv bs lt)))) := by
  simp only [z_do, z_li] at hdo
  split at hdo
  · simp only [z_nx, Option.some.injEq, Sum.inl.injEq, Prod.mk.injEq] at hdo
    obtain ⟨rfl, rfl, rfl, rfl⟩ := hdo
    exact ⟨rfl, fun kk => lv_lshl hx hb hd rfl (kk lr hL)⟩
  · cases hdo
theorem zn_lshr (hlt : z_lt lt) (hl2 : z_l2 bs lt) (hx : p.tables.exec = Jvm.exec) (hb : c.code = zt_code i) (hL : z_Lr bs lt n ls lr) (hd : decode (zt_code i) pc = .ok (.lshr, 1)) (hdo : z_do i pc .lshr ls st h = some (.inl (pc', ls', st', h'))) :
    h' = h ∧ ((∀ lr', z_Lr bs lt n ls' lr' → W p l e R s m args below meth c H locs cells slots Q (F0 m pc' lr' (st'.map (z_rv bs lt)))) → W p l e R s m args below meth c H locs cells slots Q (F0 m pc lr (st.map (z_rv bs lt)))) := by
  simp only [z_do, z_li] at hdo
  split at hdo
  · simp only [z_nx, Option.some.injEq, Sum.inl.injEq, Prod.mk.injEq] at hdo
    obtain ⟨rfl, rfl, rfl, rfl⟩ := hdo
    exact ⟨rfl, fun kk => lv_lshr hx hb hd rfl (kk lr hL)⟩
  · cases hdo
theorem zn_i2l (hlt : z_lt lt) (hl2 : z_l2 bs lt) (hx : p.tables.exec = Jvm.exec) (hb : c.code = zt_code i) (hL : z_Lr bs lt n ls lr) (hd : decode (zt_code i) pc = .ok (.i2l, 1)) (hdo : z_do i pc .i2l ls st h = some (.inl (pc', ls', st', h'))) :
    h' = h ∧ ((∀ lr', z_Lr bs lt n ls' lr' → W p l e R s m args below meth c H locs cells slots Q (F0 m pc' lr' (st'.map (z_rv bs lt)))) → W p l e R s m args below meth c H locs cells slots Q (F0 m pc lr (st.map (z_rv bs lt)))) := by
  simp only [z_do, z_i] at hdo
  split at hdo
  · simp only [z_nx, Option.some.injEq, Sum.inl.injEq, Prod.mk.injEq] at hdo
    obtain ⟨rfl, rfl, rfl, rfl⟩ := hdo
    exact ⟨rfl, fun kk => lv_i2l hx hb hd rfl (kk lr hL)⟩
  · cases hdo
theorem zn_l2i (hlt : z_lt lt) (hl2 : z_l2 bs lt) (hx : p.tables.exec = Jvm.exec) (hb : c.code = zt_code i) (hL : z_Lr bs lt n ls lr) (hd : decode (zt_code i) pc = .ok (.l2i, 1)) (hdo : z_do i pc .l2i ls st h = some (.inl (pc', ls', st', h'))) :
    h' = h ∧ ((∀ lr', z_Lr bs lt n ls' lr' → W p l e R s m args below meth c H locs cells slots Q (F0 m pc' lr' (st'.map (z_rv bs lt)))) → W p l e R s m args below meth c H locs cells slots Q (F0 m pc lr (st.map (z_rv bs lt)))) := by
  simp only [z_do, z_l] at hdo
  split at hdo
  · simp only [z_nx, Option.some.injEq, Sum.inl.injEq, Prod.mk.injEq] at hdo
    obtain ⟨rfl, rfl, rfl, rfl⟩ := hdo
    exact ⟨rfl, fun kk => lv_l2i hx hb hd rfl (kk lr hL)⟩
  · cases hdo
theorem zn_i2b (hlt : z_lt lt) (hl2 : z_l2 bs lt) (hx : p.tables.exec = Jvm.exec) (hb : c.code = zt_code i) (hL : z_Lr bs lt n ls lr) (hd : decode (zt_code i) pc = .ok (.i2b, 1)) (hdo : z_do i pc .i2b ls st h = some (.inl (pc', ls', st', h'))) :
    h' = h ∧ ((∀ lr', z_Lr bs lt n ls' lr' → W p l e R s m args below meth c H locs cells slots Q (F0 m pc' lr' (st'.map (z_rv bs lt)))) → W p l e R s m args below meth c H locs cells slots Q (F0 m pc lr (st.map (z_rv bs lt)))) := by
  simp only [z_do, z_i] at hdo
  split at hdo
  · simp only [z_nx, Option.some.injEq, Sum.inl.injEq, Prod.mk.injEq] at hdo
    obtain ⟨rfl, rfl, rfl, rfl⟩ := hdo
    exact ⟨rfl, fun kk => lv_i2b hx hb hd rfl (kk lr hL)⟩
  · cases hdo
theorem zn_i2c (hlt : z_lt lt) (hl2 : z_l2 bs lt) (hx : p.tables.exec = Jvm.exec) (hb : c.code = zt_code i) (hL : z_Lr bs lt n ls lr) (hd : decode (zt_code i) pc = .ok (.i2c, 1)) (hdo : z_do i pc .i2c ls st h = some (.inl (pc', ls', st', h'))) :
    h' = h ∧ ((∀ lr', z_Lr bs lt n ls' lr' → W p l e R s m args below meth c H locs cells slots Q (F0 m pc' lr' (st'.map (z_rv bs lt)))) → W p l e R s m args below meth c H locs cells slots Q (F0 m pc lr (st.map (z_rv bs lt)))) := by
  simp only [z_do, z_i] at hdo
  split at hdo
  · simp only [z_nx, Option.some.injEq, Sum.inl.injEq, Prod.mk.injEq] at hdo
    obtain ⟨rfl, rfl, rfl, rfl⟩ := hdo
    exact ⟨rfl, fun kk => lv_i2c hx hb hd rfl (kk lr hL)⟩
  · cases hdo
theorem zn_idiv (hlt : z_lt lt) (hl2 : z_l2 bs lt) (hx : p.tables.exec = Jvm.exec) (hb : c.code = zt_code i) (hL : z_Lr bs lt n ls lr) (hd : decode (zt_code i) pc = .ok (.idiv, 1)) (hdo : z_do i pc .idiv ls st h = some (.inl (pc', ls', st', h'))) :
    h' = h ∧ ((∀ lr', z_Lr bs lt n ls' lr' → W p l e R s m args below meth c H locs cells slots Q (F0 m pc' lr' (st'.map (z_rv bs lt)))) → W p l e R s m args below meth c H locs cells slots Q (F0 m pc lr (st.map (z_rv bs lt)))) := by
  simp only [z_do, z_ii] at hdo
  split at hdo
  · split at hdo
    · cases hdo
    · rename_i hne
      simp only [z_nx, Option.some.injEq, Sum.inl.injEq, Prod.mk.injEq] at hdo
      obtain ⟨rfl, rfl, rfl, rfl⟩ := hdo
      exact ⟨rfl, fun kk => lv_idiv hx hb hd hne (kk lr hL)⟩
  · cases hdo
theorem zn_irem (hlt : z_lt lt) (hl2 : z_l2 bs lt) (hx : p.tables.exec = Jvm.exec) (hb : c.code = zt_code i) (hL : z_Lr bs lt n ls lr) (hd : decode (zt_code i) pc = .ok (.irem, 1)) (hdo : z_do i pc .irem ls st h = some (.inl (pc', ls', st', h'))) :
    h' = h ∧ ((∀ lr', z_Lr bs lt n ls' lr' → W p l e R s m args below meth c H locs cells slots Q (F0 m pc' lr' (st'.map (z_rv bs lt)))) → W p l e R s m args below meth c H locs cells slots Q (F0 m pc lr (st.map (z_rv bs lt)))) := by
  simp only [z_do, z_ii] at hdo
  split at hdo
  · split at hdo
    · cases hdo
    · rename_i hne
      simp only [z_nx, Option.some.injEq, Sum.inl.injEq, Prod.mk.injEq] at hdo
      obtain ⟨rfl, rfl, rfl, rfl⟩ := hdo
      exact ⟨rfl, fun kk => lv_irem hx hb hd hne (kk lr hL)⟩
  · cases hdo
theorem zn_ldiv (hlt : z_lt lt) (hl2 : z_l2 bs lt) (hx : p.tables.exec = Jvm.exec) (hb : c.code = zt_code i) (hL : z_Lr bs lt n ls lr) (hd : decode (zt_code i) pc = .ok (.ldiv, 1)) (hdo : z_do i pc .ldiv ls st h = some (.inl (pc', ls', st', h'))) :
    h' = h ∧ ((∀ lr', z_Lr bs lt n ls' lr' → W p l e R s m args below meth c H locs cells slots Q (F0 m pc' lr' (st'.map (z_rv bs lt)))) → W p l e R s m args below meth c H locs cells slots Q (F0 m pc lr (st.map (z_rv bs lt)))) := by
  simp only [z_do, z_ll] at hdo
  split at hdo
  · split at hdo
    · cases hdo
    · rename_i hne
      simp only [z_nx, Option.some.injEq, Sum.inl.injEq, Prod.mk.injEq] at hdo
      obtain ⟨rfl, rfl, rfl, rfl⟩ := hdo
      exact ⟨rfl, fun kk => lv_ldiv hx hb hd hne (kk lr hL)⟩
  · cases hdo
theorem zn_lrem (hlt : z_lt lt) (hl2 : z_l2 bs lt) (hx : p.tables.exec = Jvm.exec) (hb : c.code = zt_code i) (hL : z_Lr bs lt n ls lr) (hd : decode (zt_code i) pc = .ok (.lrem, 1)) (hdo : z_do i pc .lrem ls st h = some (.inl (pc', ls', st', h'))) :
    h' = h ∧ ((∀ lr', z_Lr bs lt n ls' lr' → W p l e R s m args below meth c H locs cells slots Q (F0 m pc' lr' (st'.map (z_rv bs lt)))) → W p l e R s m args below meth c H locs cells slots Q (F0 m pc lr (st.map (z_rv bs lt)))) := by
  simp only [z_do, z_ll] at hdo
  split at hdo
  · split at hdo
    · cases hdo
    · rename_i hne
      simp only [z_nx, Option.some.injEq, Sum.inl.injEq, Prod.mk.injEq] at hdo
      obtain ⟨rfl, rfl, rfl, rfl⟩ := hdo
      exact ⟨rfl, fun kk => lv_lrem hx hb hd hne (kk lr hL)⟩
  · cases hdo
theorem zn_aconst_null (hlt : z_lt lt) (hl2 : z_l2 bs lt) (hx : p.tables.exec = Jvm.exec) (hb : c.code = zt_code i) (hL : z_Lr bs lt n ls lr) (hd : decode (zt_code i) pc = .ok (.aconst_null, 1)) (hdo : z_do i pc .aconst_null ls st h = some (.inl (pc', ls', st', h'))) :
    h' = h ∧ ((∀ lr', z_Lr bs lt n ls' lr' → W p l e R s m args below meth c H locs cells slots Q (F0 m pc' lr' (st'.map (z_rv bs lt)))) → W p l e R s m args below meth c H locs cells slots Q (F0 m pc lr (st.map (z_rv bs lt)))) := by
  simp only [z_do] at hdo
  simp only [z_nx, Option.some.injEq, Sum.inl.injEq, Prod.mk.injEq] at hdo
  obtain ⟨rfl, rfl, rfl, rfl⟩ := hdo
  exact ⟨rfl, fun kk => lv_null hx hb hd (kk lr hL)⟩
theorem zn_iconst {k : Int} (hlt : z_lt lt) (hl2 : z_l2 bs lt) (hx : p.tables.exec = Jvm.exec) (hb : c.code = zt_code i) (hL : z_Lr bs lt n ls lr) (hd : decode (zt_code i) pc = .ok (.iconst k, 1)) (hdo : z_do i pc (.iconst k) ls st h = some (.inl (pc', ls', st', h'))) :
    h' = h ∧ ((∀ lr', z_Lr bs lt n ls' lr' → W p l e R s m args below meth c H locs cells slots Q (F0 m pc' lr' (st'.map (z_rv bs lt)))) → W p l e R s m args below meth c H locs cells slots Q (F0 m pc lr (st.map (z_rv bs lt)))) := by
  simp only [z_do] at hdo
  simp only [z_nx, Option.some.injEq, Sum.inl.injEq, Prod.mk.injEq] at hdo
  obtain ⟨rfl, rfl, rfl, rfl⟩ := hdo
  exact ⟨rfl, fun kk => lv_iconst hx hb hd rfl (kk lr hL)⟩
theorem zn_bipush {k : Int} (hlt : z_lt lt) (hl2 : z_l2 bs lt) (hx : p.tables.exec = Jvm.exec) (hb : c.code = zt_code i) (hL : z_Lr bs lt n ls lr) (hd : decode (zt_code i) pc = .ok (.bipush k, 2)) (hdo : z_do i pc (.bipush k) ls st h = some (.inl (pc', ls', st', h'))) :
    h' = h ∧ ((∀ lr', z_Lr bs lt n ls' lr' → W p l e R s m args below meth c H locs cells slots Q (F0 m pc' lr' (st'.map (z_rv bs lt)))) → W p l e R s m args below meth c H locs cells slots Q (F0 m pc lr (st.map (z_rv bs lt)))) := by
  simp only [z_do] at hdo
  simp only [z_nx, Option.some.injEq, Sum.inl.injEq, Prod.mk.injEq] at hdo
  obtain ⟨rfl, rfl, rfl, rfl⟩ := hdo
  exact ⟨rfl, fun kk => lv_bipush hx hb hd rfl (kk lr hL)⟩
theorem zn_sipush {k : Int} (hlt : z_lt lt) (hl2 : z_l2 bs lt) (hx : p.tables.exec = Jvm.exec) (hb : c.code = zt_code i) (hL : z_Lr bs lt n ls lr) (hd : decode (zt_code i) pc = .ok (.sipush k, 3)) (hdo : z_do i pc (.sipush k) ls st h = some (.inl (pc', ls', st', h'))) :
    h' = h ∧ ((∀ lr', z_Lr bs lt n ls' lr' → W p l e R s m args below meth c H locs cells slots Q (F0 m pc' lr' (st'.map (z_rv bs lt)))) → W p l e R s m args below meth c H locs cells slots Q (F0 m pc lr (st.map (z_rv bs lt)))) := by
  simp only [z_do] at hdo
  simp only [z_nx, Option.some.injEq, Sum.inl.injEq, Prod.mk.injEq] at hdo
  obtain ⟨rfl, rfl, rfl, rfl⟩ := hdo
  exact ⟨rfl, fun kk => lv_sipush hx hb hd rfl (kk lr hL)⟩
theorem zn_lconst {k : Fin 2} (hlt : z_lt lt) (hl2 : z_l2 bs lt) (hx : p.tables.exec = Jvm.exec) (hb : c.code = zt_code i) (hL : z_Lr bs lt n ls lr) (hd : decode (zt_code i) pc = .ok (.lconst k, 1)) (hdo : z_do i pc (.lconst k) ls st h = some (.inl (pc', ls', st', h'))) :
    h' = h ∧ ((∀ lr', z_Lr bs lt n ls' lr' → W p l e R s m args below meth c H locs cells slots Q (F0 m pc' lr' (st'.map (z_rv bs lt)))) → W p l e R s m args below meth c H locs cells slots Q (F0 m pc lr (st.map (z_rv bs lt)))) := by
  simp only [z_do] at hdo
  simp only [z_nx, Option.some.injEq, Sum.inl.injEq, Prod.mk.injEq] at hdo
  obtain ⟨rfl, rfl, rfl, rfl⟩ := hdo
  exact ⟨rfl, fun kk => lv_lconst hx hb hd rfl (kk lr hL)⟩
theorem zn_iload {k : Nat} (hlt : z_lt lt) (hl2 : z_l2 bs lt) (hx : p.tables.exec = Jvm.exec) (hb : c.code = zt_code i) (hL : z_Lr bs lt n ls lr) (hd : decode (zt_code i) pc = .ok (.iload k, 2)) (hdo : z_do i pc (.iload k) ls st h = some (.inl (pc', ls', st', h'))) :
    h' = h ∧ ((∀ lr', z_Lr bs lt n ls' lr' → W p l e R s m args below meth c H locs cells slots Q (F0 m pc' lr' (st'.map (z_rv bs lt)))) → W p l e R s m args below meth c H locs cells slots Q (F0 m pc lr (st.map (z_rv bs lt)))) := by
  simp only [z_do, z_ob] at hdo
  split at hdo
  · rename_i v hv
    unfold z_ldi at hv
    split at hv
    · rename_i x hl
      cases hv
      simp only [z_nx, Option.some.injEq, Sum.inl.injEq, Prod.mk.injEq] at hdo
      obtain ⟨rfl, rfl, rfl, rfl⟩ := hdo
      exact ⟨rfl, fun kk => lv_iload hx hb hd (hL.2.2.2 _ _ hl rfl) (kk lr hL)⟩
    · cases hv
  · cases hdo
theorem zn_iload_n {k : Fin 4} (hlt : z_lt lt) (hl2 : z_l2 bs lt) (hx : p.tables.exec = Jvm.exec) (hb : c.code = zt_code i) (hL : z_Lr bs lt n ls lr) (hd : decode (zt_code i) pc = .ok (.iload_n k, 1)) (hdo : z_do i pc (.iload_n k) ls st h = some (.inl (pc', ls', st', h'))) :
    h' = h ∧ ((∀ lr', z_Lr bs lt n ls' lr' → W p l e R s m args below meth c H locs cells slots Q (F0 m pc' lr' (st'.map (z_rv bs lt)))) → W p l e R s m args below meth c H locs cells slots Q (F0 m pc lr (st.map (z_rv bs lt)))) := by
  simp only [z_do, z_ob] at hdo
  split at hdo
  · rename_i v hv
    unfold z_ldi at hv
    split at hv
    · rename_i x hl
      cases hv
      simp only [z_nx, Option.some.injEq, Sum.inl.injEq, Prod.mk.injEq] at hdo
      obtain ⟨rfl, rfl, rfl, rfl⟩ := hdo
      exact ⟨rfl, fun kk => lv_iload_n hx hb hd rfl (hL.2.2.2 _ _ hl rfl) (kk lr hL)⟩
    · cases hv
  · cases hdo
theorem zn_lload {k : Nat} (hlt : z_lt lt) (hl2 : z_l2 bs lt) (hx : p.tables.exec = Jvm.exec) (hb : c.code = zt_code i) (hL : z_Lr bs lt n ls lr) (hd : decode (zt_code i) pc = .ok (.lload k, 2)) (hdo : z_do i pc (.lload k) ls st h = some (.inl (pc', ls', st', h'))) :
    h' = h ∧ ((∀ lr', z_Lr bs lt n ls' lr' → W p l e R s m args below meth c H locs cells slots Q (F0 m pc' lr' (st'.map (z_rv bs lt)))) → W p l e R s m args below meth c H locs cells slots Q (F0 m pc lr (st.map (z_rv bs lt)))) := by
  simp only [z_do, z_ob] at hdo
  split at hdo
  · rename_i v hv
    unfold z_ldl at hv
    split at hv
    · rename_i x hl
      cases hv
      simp only [z_nx, Option.some.injEq, Sum.inl.injEq, Prod.mk.injEq] at hdo
      obtain ⟨rfl, rfl, rfl, rfl⟩ := hdo
      exact ⟨rfl, fun kk => lv_lload hx hb hd (hL.2.2.2 _ _ hl rfl) (kk lr hL)⟩
    · cases hv
  · cases hdo
theorem zn_lload_n {k : Fin 4} (hlt : z_lt lt) (hl2 : z_l2 bs lt) (hx : p.tables.exec = Jvm.exec) (hb : c.code = zt_code i) (hL : z_Lr bs lt n ls lr) (hd : decode (zt_code i) pc = .ok (.lload_n k, 1)) (hdo : z_do i pc (.lload_n k) ls st h = some (.inl (pc', ls', st', h'))) :
    h' = h ∧ ((∀ lr', z_Lr bs lt n ls' lr' → W p l e R s m args below meth c H locs cells slots Q (F0 m pc' lr' (st'.map (z_rv bs lt)))) → W p l e R s m args below meth c H locs cells slots Q (F0 m pc lr (st.map (z_rv bs lt)))) := by
  simp only [z_do, z_ob] at hdo
  split at hdo
  · rename_i v hv
    unfold z_ldl at hv
    split at hv
    · rename_i x hl
      cases hv
      simp only [z_nx, Option.some.injEq, Sum.inl.injEq, Prod.mk.injEq] at hdo
      obtain ⟨rfl, rfl, rfl, rfl⟩ := hdo
      exact ⟨rfl, fun kk => lv_lload_n hx hb hd rfl (hL.2.2.2 _ _ hl rfl) (kk lr hL)⟩
    · cases hv
  · cases hdo
theorem zn_aload {k : Nat} (hlt : z_lt lt) (hl2 : z_l2 bs lt) (hx : p.tables.exec = Jvm.exec) (hb : c.code = zt_code i) (hL : z_Lr bs lt n ls lr) (hd : decode (zt_code i) pc = .ok (.aload k, 2)) (hdo : z_do i pc (.aload k) ls st h = some (.inl (pc', ls', st', h'))) :
    h' = h ∧ ((∀ lr', z_Lr bs lt n ls' lr' → W p l e R s m args below meth c H locs cells slots Q (F0 m pc' lr' (st'.map (z_rv bs lt)))) → W p l e R s m args below meth c H locs cells slots Q (F0 m pc lr (st.map (z_rv bs lt)))) := by
  simp only [z_do, z_ob] at hdo
  split at hdo
  · rename_i v hv
    unfold z_lda at hv
    split at hv
    · rename_i w hl
      split at hv
      · rename_i hr
        cases hv
        simp only [z_nx, Option.some.injEq, Sum.inl.injEq, Prod.mk.injEq] at hdo
        obtain ⟨rfl, rfl, rfl, rfl⟩ := hdo
        refine ⟨rfl, fun kk => ?_⟩
        have h1 := hL.2.2.2 _ _ hl (z_ok_ref hr)
        have h2 := kk lr hL
        rw [z_map_cons] at h2
        rcases z_isref_rv (bs := bs) hlt hr with e | ⟨a, e⟩
        · rw [e] at h1 h2
          exact lv_aloadN hx hb hd h1 h2
        · rw [e] at h1 h2
          exact lv_aload hx hb hd h1 h2
      · cases hv
    · cases hv
  · cases hdo
theorem zn_aload_n {k : Fin 4} (hlt : z_lt lt) (hl2 : z_l2 bs lt) (hx : p.tables.exec = Jvm.exec) (hb : c.code = zt_code i) (hL : z_Lr bs lt n ls lr) (hd : decode (zt_code i) pc = .ok (.aload_n k, 1)) (hdo : z_do i pc (.aload_n k) ls st h = some (.inl (pc', ls', st', h'))) :
    h' = h ∧ ((∀ lr', z_Lr bs lt n ls' lr' → W p l e R s m args below meth c H locs cells slots Q (F0 m pc' lr' (st'.map (z_rv bs lt)))) → W p l e R s m args below meth c H locs cells slots Q (F0 m pc lr (st.map (z_rv bs lt)))) := by
  simp only [z_do, z_ob] at hdo
  split at hdo
  · rename_i v hv
    unfold z_lda at hv
    split at hv
    · rename_i w hl
      split at hv
      · rename_i hr
        cases hv
        simp only [z_nx, Option.some.injEq, Sum.inl.injEq, Prod.mk.injEq] at hdo
        obtain ⟨rfl, rfl, rfl, rfl⟩ := hdo
        refine ⟨rfl, fun kk => ?_⟩
        have h1 := hL.2.2.2 _ _ hl (z_ok_ref hr)
        have h2 := kk lr hL
        rw [z_map_cons] at h2
        rcases z_isref_rv (bs := bs) hlt hr with e | ⟨a, e⟩
        · rw [e] at h1 h2
          exact lv_aload_nN hx hb hd rfl h1 h2
        · rw [e] at h1 h2
          exact lv_aload_n hx hb hd rfl h1 h2
      · cases hv
    · cases hv
  · cases hdo
theorem zn_istore {k : Nat} (hlt : z_lt lt) (hl2 : z_l2 bs lt) (hx : p.tables.exec = Jvm.exec) (hb : c.code = zt_code i) (hL : z_Lr bs lt n ls lr) (hd : decode (zt_code i) pc = .ok (.istore k, 2)) (hdo : z_do i pc (.istore k) ls st h = some (.inl (pc', ls', st', h'))) :
    h' = h ∧ ((∀ lr', z_Lr bs lt n ls' lr' → W p l e R s m args below meth c H locs cells slots Q (F0 m pc' lr' (st'.map (z_rv bs lt)))) → W p l e R s m args below meth c H locs cells slots Q (F0 m pc lr (st.map (z_rv bs lt)))) := by
  simp only [z_do, z_i] at hdo
  split at hdo
  · split at hdo
    · rename_i hk
      simp only [z_nx, Option.some.injEq, Sum.inl.injEq, Prod.mk.injEq] at hdo
      obtain ⟨rfl, rfl, rfl, rfl⟩ := hdo
      rw [hL.1] at hk
      exact ⟨rfl, fun kk => lv_istore hx hb hd hL.has hk rfl (fun lr' h' => kk lr' (z_Lr.s1 hlt hL hk h'))⟩
    · cases hdo
  · cases hdo
theorem zn_istore_n {k : Fin 4} (hlt : z_lt lt) (hl2 : z_l2 bs lt) (hx : p.tables.exec = Jvm.exec) (hb : c.code = zt_code i) (hL : z_Lr bs lt n ls lr) (hd : decode (zt_code i) pc = .ok (.istore_n k, 1)) (hdo : z_do i pc (.istore_n k) ls st h = some (.inl (pc', ls', st', h'))) :
    h' = h ∧ ((∀ lr', z_Lr bs lt n ls' lr' → W p l e R s m args below meth c H locs cells slots Q (F0 m pc' lr' (st'.map (z_rv bs lt)))) → W p l e R s m args below meth c H locs cells slots Q (F0 m pc lr (st.map (z_rv bs lt)))) := by
  simp only [z_do, z_i] at hdo
  split at hdo
  · split at hdo
    · rename_i hk
      simp only [z_nx, Option.some.injEq, Sum.inl.injEq, Prod.mk.injEq] at hdo
      obtain ⟨rfl, rfl, rfl, rfl⟩ := hdo
      rw [hL.1] at hk
      exact ⟨rfl, fun kk => lv_istore_n hx hb hd rfl hL.has hk rfl (fun lr' h' => kk lr' (z_Lr.s1 hlt hL hk h'))⟩
    · cases hdo
  · cases hdo
theorem zn_lstore {k : Nat} (hlt : z_lt lt) (hl2 : z_l2 bs lt) (hx : p.tables.exec = Jvm.exec) (hb : c.code = zt_code i) (hL : z_Lr bs lt n ls lr) (hd : decode (zt_code i) pc = .ok (.lstore k, 2)) (hdo : z_do i pc (.lstore k) ls st h = some (.inl (pc', ls', st', h'))) :
    h' = h ∧ ((∀ lr', z_Lr bs lt n ls' lr' → W p l e R s m args below meth c H locs cells slots Q (F0 m pc' lr' (st'.map (z_rv bs lt)))) → W p l e R s m args below meth c H locs cells slots Q (F0 m pc lr (st.map (z_rv bs lt)))) := by
  simp only [z_do, z_l] at hdo
  split at hdo
  · split at hdo
    · rename_i hk
      simp only [z_nx, Option.some.injEq, Sum.inl.injEq, Prod.mk.injEq] at hdo
      obtain ⟨rfl, rfl, rfl, rfl⟩ := hdo
      rw [hL.1] at hk
      exact ⟨rfl, fun kk => lv_lstore hx hb hd hL.has hk rfl (fun lr' h' => kk lr' (z_Lr.s2 hlt hL hk h'))⟩
    · cases hdo
  · cases hdo
theorem zn_lstore_n {k : Fin 4} (hlt : z_lt lt) (hl2 : z_l2 bs lt) (hx : p.tables.exec = Jvm.exec) (hb : c.code = zt_code i) (hL : z_Lr bs lt n ls lr) (hd : decode (zt_code i) pc = .ok (.lstore_n k, 1)) (hdo : z_do i pc (.lstore_n k) ls st h = some (.inl (pc', ls', st', h'))) :
    h' = h ∧ ((∀ lr', z_Lr bs lt n ls' lr' → W p l e R s m args below meth c H locs cells slots Q (F0 m pc' lr' (st'.map (z_rv bs lt)))) → W p l e R s m args below meth c H locs cells slots Q (F0 m pc lr (st.map (z_rv bs lt)))) := by
  simp only [z_do, z_l] at hdo
  split at hdo
  · split at hdo
    · rename_i hk
      simp only [z_nx, Option.some.injEq, Sum.inl.injEq, Prod.mk.injEq] at hdo
      obtain ⟨rfl, rfl, rfl, rfl⟩ := hdo
      rw [hL.1] at hk
      exact ⟨rfl, fun kk => lv_lstore_n hx hb hd rfl hL.has hk rfl (fun lr' h' => kk lr' (z_Lr.s2 hlt hL hk h'))⟩
    · cases hdo
  · cases hdo
theorem zn_astore {k : Nat} (hlt : z_lt lt) (hl2 : z_l2 bs lt) (hx : p.tables.exec = Jvm.exec) (hb : c.code = zt_code i) (hL : z_Lr bs lt n ls lr) (hd : decode (zt_code i) pc = .ok (.astore k, 2)) (hdo : z_do i pc (.astore k) ls st h = some (.inl (pc', ls', st', h'))) :
    h' = h ∧ ((∀ lr', z_Lr bs lt n ls' lr' → W p l e R s m args below meth c H locs cells slots Q (F0 m pc' lr' (st'.map (z_rv bs lt)))) → W p l e R s m args below meth c H locs cells slots Q (F0 m pc lr (st.map (z_rv bs lt)))) := by
  simp only [z_do, z_v] at hdo
  split at hdo
  · rename_i v r
    split at hdo
    · rename_i hk
      simp only [z_nx, Option.some.injEq, Sum.inl.injEq, Prod.mk.injEq] at hdo
      obtain ⟨rfl, rfl, rfl, rfl⟩ := hdo
      simp only [Bool.and_eq_true, decide_eq_true_eq] at hk
      obtain ⟨hr, hk⟩ := hk
      rw [hL.1] at hk
      refine ⟨rfl, fun kk => ?_⟩
      rw [z_map_cons]
      rcases z_isref_rv (bs := bs) hlt hr with e | ⟨a, e⟩
      · rw [e]
        exact lv_astoreN hx hb hd hL.has hk rfl (fun lr' h' => kk lr' (z_Lr.s1 hlt hL hk (by rw [e]; exact h')))
      · rw [e]
        exact lv_astore hx hb hd hL.has hk rfl (fun lr' h' => kk lr' (z_Lr.s1 hlt hL hk (by rw [e]; exact h')))
    · cases hdo
  · cases hdo
theorem zn_astore_n {k : Fin 4} (hlt : z_lt lt) (hl2 : z_l2 bs lt) (hx : p.tables.exec = Jvm.exec) (hb : c.code = zt_code i) (hL : z_Lr bs lt n ls lr) (hd : decode (zt_code i) pc = .ok (.astore_n k, 1)) (hdo : z_do i pc (.astore_n k) ls st h = some (.inl (pc', ls', st', h'))) :
    h' = h ∧ ((∀ lr', z_Lr bs lt n ls' lr' → W p l e R s m args below meth c H locs cells slots Q (F0 m pc' lr' (st'.map (z_rv bs lt)))) → W p l e R s m args below meth c H locs cells slots Q (F0 m pc lr (st.map (z_rv bs lt)))) := by
  simp only [z_do, z_v] at hdo
  split at hdo
  · rename_i v r
    split at hdo
    · rename_i hk
      simp only [z_nx, Option.some.injEq, Sum.inl.injEq, Prod.mk.injEq] at hdo
      obtain ⟨rfl, rfl, rfl, rfl⟩ := hdo
      simp only [Bool.and_eq_true, decide_eq_true_eq] at hk
      obtain ⟨hr, hk⟩ := hk
      rw [hL.1] at hk
      refine ⟨rfl, fun kk => ?_⟩
      rw [z_map_cons]
      rcases z_isref_rv (bs := bs) hlt hr with e | ⟨a, e⟩
      · rw [e]
        exact lv_astore_nN hx hb hd rfl hL.has hk rfl (fun lr' h' => kk lr' (z_Lr.s1 hlt hL hk (by rw [e]; exact h')))
      · rw [e]
        exact lv_astore_n hx hb hd rfl hL.has hk rfl (fun lr' h' => kk lr' (z_Lr.s1 hlt hL hk (by rw [e]; exact h')))
    · cases hdo
  · cases hdo
theorem zn_iinc {k : Nat} {q : Int} (hlt : z_lt lt) (hl2 : z_l2 bs lt) (hx : p.tables.exec = Jvm.exec) (hb : c.code = zt_code i) (hL : z_Lr bs lt n ls lr) (hd : decode (zt_code i) pc = .ok (.iinc k q, 3)) (hdo : z_do i pc (.iinc k q) ls st h = some (.inl (pc', ls', st', h'))) :
    h' = h ∧ ((∀ lr', z_Lr bs lt n ls' lr' → W p l e R s m args below meth c H locs cells slots Q (F0 m pc' lr' (st'.map (z_rv bs lt)))) → W p l e R s m args below meth c H locs cells slots Q (F0 m pc lr (st.map (z_rv bs lt)))) := by
  simp only [z_do, z_ob] at hdo
  split at hdo
  · rename_i v hv
    unfold z_ldi at hv
    split at hv
    · rename_i x hl
      cases hv
      simp only [z_i] at hdo
      simp only [z_nx, Option.some.injEq, Sum.inl.injEq, Prod.mk.injEq] at hdo
      obtain ⟨rfl, rfl, rfl, rfl⟩ := hdo
      have hk : k < n := by rw [← hL.1]; exact (List.getElem?_eq_some_iff.mp hl).1
      obtain ⟨j, hj⟩ := List.getElem?_of_mem (z_prs_mem (bs := bs) (lt := lt) hl rfl)
      exact ⟨rfl, fun kk => lv_iinc hx hb hd hL.has hj rfl hk rfl (fun lr' h' => kk lr' (z_Lr.s1 (v := .int _) hlt hL hk h'))⟩
    · cases hv
  · cases hdo
theorem zn_dup (hlt : z_lt lt) (hl2 : z_l2 bs lt) (hx : p.tables.exec = Jvm.exec) (hb : c.code = zt_code i) (hL : z_Lr bs lt n ls lr) (hd : decode (zt_code i) pc = .ok (.dup, 1)) (hdo : z_do i pc .dup ls st h = some (.inl (pc', ls', st', h'))) :
    h' = h ∧ ((∀ lr', z_Lr bs lt n ls' lr' → W p l e R s m args below meth c H locs cells slots Q (F0 m pc' lr' (st'.map (z_rv bs lt)))) → W p l e R s m args below meth c H locs cells slots Q (F0 m pc lr (st.map (z_rv bs lt)))) := by
  simp only [z_do, z_v] at hdo
  split at hdo
  · split at hdo
    · rename_i hk
      simp only [z_nx, Option.some.injEq, Sum.inl.injEq, Prod.mk.injEq] at hdo
      obtain ⟨rfl, rfl, rfl, rfl⟩ := hdo
      simp only [Bool.and_eq_true, decide_eq_true_eq] at hk
      exact ⟨rfl, fun kk => lv_dup hx hb hd (by rw [z_rv_cat _ hlt _ hk.1]; exact hk.2) (kk lr hL)⟩
    · cases hdo
  · cases hdo
theorem zn_pop (hlt : z_lt lt) (hl2 : z_l2 bs lt) (hx : p.tables.exec = Jvm.exec) (hb : c.code = zt_code i) (hL : z_Lr bs lt n ls lr) (hd : decode (zt_code i) pc = .ok (.pop, 1)) (hdo : z_do i pc .pop ls st h = some (.inl (pc', ls', st', h'))) :
    h' = h ∧ ((∀ lr', z_Lr bs lt n ls' lr' → W p l e R s m args below meth c H locs cells slots Q (F0 m pc' lr' (st'.map (z_rv bs lt)))) → W p l e R s m args below meth c H locs cells slots Q (F0 m pc lr (st.map (z_rv bs lt)))) := by
  simp only [z_do, z_v] at hdo
  split at hdo
  · split at hdo
    · rename_i hk
      simp only [z_nx, Option.some.injEq, Sum.inl.injEq, Prod.mk.injEq] at hdo
      obtain ⟨rfl, rfl, rfl, rfl⟩ := hdo
      simp only [Bool.and_eq_true, decide_eq_true_eq] at hk
      exact ⟨rfl, fun kk => lv_pop hx hb hd (by rw [z_rv_cat _ hlt _ hk.1]; exact hk.2) (kk lr hL)⟩
    · cases hdo
  · cases hdo
theorem zn_dup2 (hlt : z_lt lt) (hl2 : z_l2 bs lt) (hx : p.tables.exec = Jvm.exec) (hb : c.code = zt_code i) (hL : z_Lr bs lt n ls lr) (hd : decode (zt_code i) pc = .ok (.dup2, 1)) (hdo : z_do i pc .dup2 ls st h = some (.inl (pc', ls', st', h'))) :
    h' = h ∧ ((∀ lr', z_Lr bs lt n ls' lr' → W p l e R s m args below meth c H locs cells slots Q (F0 m pc' lr' (st'.map (z_rv bs lt)))) → W p l e R s m args below meth c H locs cells slots Q (F0 m pc lr (st.map (z_rv bs lt)))) := by
  simp only [z_do, z_v] at hdo
  split at hdo
  · split at hdo
    · split at hdo
      · rename_i hk
        simp only [z_nx, Option.some.injEq, Sum.inl.injEq, Prod.mk.injEq] at hdo
        obtain ⟨rfl, rfl, rfl, rfl⟩ := hdo
        simp only [Bool.and_eq_true, decide_eq_true_eq] at hk
        exact ⟨rfl, fun kk => lv_dup2_11 hx hb hd (by rw [z_rv_cat _ hlt _ hk.1.1.1]; exact hk.1.2) (by rw [z_rv_cat _ hlt _ hk.1.1.2]; exact hk.2) (kk lr hL)⟩
      · cases hdo
    · cases hdo
  · cases hdo
theorem zn_dup_x1 (hlt : z_lt lt) (hl2 : z_l2 bs lt) (hx : p.tables.exec = Jvm.exec) (hb : c.code = zt_code i) (hL : z_Lr bs lt n ls lr) (hd : decode (zt_code i) pc = .ok (.dup_x1, 1)) (hdo : z_do i pc .dup_x1 ls st h = some (.inl (pc', ls', st', h'))) :
    h' = h ∧ ((∀ lr', z_Lr bs lt n ls' lr' → W p l e R s m args below meth c H locs cells slots Q (F0 m pc' lr' (st'.map (z_rv bs lt)))) → W p l e R s m args below meth c H locs cells slots Q (F0 m pc lr (st.map (z_rv bs lt)))) := by
  simp only [z_do, z_v] at hdo
  split at hdo
  · split at hdo
    · split at hdo
      · rename_i hk
        simp only [z_nx, Option.some.injEq, Sum.inl.injEq, Prod.mk.injEq] at hdo
        obtain ⟨rfl, rfl, rfl, rfl⟩ := hdo
        simp only [Bool.and_eq_true, decide_eq_true_eq] at hk
        exact ⟨rfl, fun kk => lv_dup_x1 hx hb hd (by rw [z_rv_cat _ hlt _ hk.1.1.1]; exact hk.1.2) (by rw [z_rv_cat _ hlt _ hk.1.1.2]; exact hk.2) (kk lr hL)⟩
      · cases hdo
    · cases hdo
  · cases hdo
theorem zn_ifCond {co : ClassFile.Cond} {off : Int} (hlt : z_lt lt) (hl2 : z_l2 bs lt) (hx : p.tables.exec = Jvm.exec) (hb : c.code = zt_code i) (hL : z_Lr bs lt n ls lr) (hd : decode (zt_code i) pc = .ok (.ifCond co off, 3)) (hdo : z_do i pc (.ifCond co off) ls st h = some (.inl (pc', ls', st', h'))) :
    h' = h ∧ ((∀ lr', z_Lr bs lt n ls' lr' → W p l e R s m args below meth c H locs cells slots Q (F0 m pc' lr' (st'.map (z_rv bs lt)))) → W p l e R s m args below meth c H locs cells slots Q (F0 m pc lr (st.map (z_rv bs lt)))) := by
  simp only [z_do, z_i, z_jmp] at hdo
  split at hdo
  · split at hdo
    · rename_i hj
      have hj2 : (pc : Int) + off = (((pc : Int) + off).toNat : Int) := (Int.toNat_of_nonneg hj).symm
      generalize ((pc : Int) + off).toNat = tgt at hj2 hdo
      split at hdo
      · rename_i hc
        simp only [z_nx, Option.some.injEq, Sum.inl.injEq, Prod.mk.injEq] at hdo
        obtain ⟨rfl, rfl, rfl, rfl⟩ := hdo
        refine ⟨rfl, fun kk => ?_⟩
        have h2 := kk lr hL
        cases co <;> simp only [z_cc, decide_eq_true_eq] at hc
        · exact lv_if_eq hx hb hd hj2 (fun _ => h2) (fun hn => absurd hc hn)
        · exact lv_if_ne hx hb hd hj2 (fun _ => h2) (fun hn => absurd hn hc)
        · exact lv_if_lt hx hb hd hj2 (fun _ => h2) (fun hn => absurd hc hn)
        · exact lv_if_ge hx hb hd hj2 (fun _ => h2) (fun hn => absurd hc hn)
        · exact lv_if_gt hx hb hd hj2 (fun _ => h2) (fun hn => absurd hc hn)
        · exact lv_if_le hx hb hd hj2 (fun _ => h2) (fun hn => absurd hc hn)
      · rename_i hc
        simp only [z_nx, Option.some.injEq, Sum.inl.injEq, Prod.mk.injEq] at hdo
        obtain ⟨rfl, rfl, rfl, rfl⟩ := hdo
        refine ⟨rfl, fun kk => ?_⟩
        have h2 := kk lr hL
        cases co <;> simp only [z_cc, decide_eq_true_eq] at hc
        · exact lv_if_eq hx hb hd hj2 (fun hn => absurd hn hc) (fun _ => h2)
        · exact lv_if_ne hx hb hd hj2 (fun hn => absurd hn hc) (fun _ => h2)
        · exact lv_if_lt hx hb hd hj2 (fun hn => absurd hn hc) (fun _ => h2)
        · exact lv_if_ge hx hb hd hj2 (fun hn => absurd hn hc) (fun _ => h2)
        · exact lv_if_gt hx hb hd hj2 (fun hn => absurd hn hc) (fun _ => h2)
        · exact lv_if_le hx hb hd hj2 (fun hn => absurd hn hc) (fun _ => h2)
    · cases hdo
  · cases hdo
theorem zn_if_icmp {co : ClassFile.Cond} {off : Int} (hlt : z_lt lt) (hl2 : z_l2 bs lt) (hx : p.tables.exec = Jvm.exec) (hb : c.code = zt_code i) (hL : z_Lr bs lt n ls lr) (hd : decode (zt_code i) pc = .ok (.if_icmp co off, 3)) (hdo : z_do i pc (.if_icmp co off) ls st h = some (.inl (pc', ls', st', h'))) :
    h' = h ∧ ((∀ lr', z_Lr bs lt n ls' lr' → W p l e R s m args below meth c H locs cells slots Q (F0 m pc' lr' (st'.map (z_rv bs lt)))) → W p l e R s m args below meth c H locs cells slots Q (F0 m pc lr (st.map (z_rv bs lt)))) := by
  simp only [z_do, z_ii, z_jmp] at hdo
  split at hdo
  · split at hdo
    · rename_i hj
      have hj2 : (pc : Int) + off = (((pc : Int) + off).toNat : Int) := (Int.toNat_of_nonneg hj).symm
      generalize ((pc : Int) + off).toNat = tgt at hj2 hdo
      split at hdo
      · rename_i hc
        simp only [z_nx, Option.some.injEq, Sum.inl.injEq, Prod.mk.injEq] at hdo
        obtain ⟨rfl, rfl, rfl, rfl⟩ := hdo
        refine ⟨rfl, fun kk => ?_⟩
        have h2 := kk lr hL
        cases co <;> simp only [z_cc, decide_eq_true_eq] at hc
        · exact lv_icmp_eq hx hb hd hj2 (fun _ => h2) (fun hn => absurd hc hn)
        · exact lv_icmp_ne hx hb hd hj2 (fun _ => h2) (fun hn => absurd hn hc)
        · exact lv_icmp_lt hx hb hd hj2 (fun _ => h2) (fun hn => absurd hc hn)
        · exact lv_icmp_ge hx hb hd hj2 (fun _ => h2) (fun hn => absurd hc hn)
        · exact lv_icmp_gt hx hb hd hj2 (fun _ => h2) (fun hn => absurd hc hn)
        · exact lv_icmp_le hx hb hd hj2 (fun _ => h2) (fun hn => absurd hc hn)
      · rename_i hc
        simp only [z_nx, Option.some.injEq, Sum.inl.injEq, Prod.mk.injEq] at hdo
        obtain ⟨rfl, rfl, rfl, rfl⟩ := hdo
        refine ⟨rfl, fun kk => ?_⟩
        have h2 := kk lr hL
        cases co <;> simp only [z_cc, decide_eq_true_eq] at hc
        · exact lv_icmp_eq hx hb hd hj2 (fun hn => absurd hn hc) (fun _ => h2)
        · exact lv_icmp_ne hx hb hd hj2 (fun hn => absurd hn hc) (fun _ => h2)
        · exact lv_icmp_lt hx hb hd hj2 (fun hn => absurd hn hc) (fun _ => h2)
        · exact lv_icmp_ge hx hb hd hj2 (fun hn => absurd hn hc) (fun _ => h2)
        · exact lv_icmp_gt hx hb hd hj2 (fun hn => absurd hn hc) (fun _ => h2)
        · exact lv_icmp_le hx hb hd hj2 (fun hn => absurd hn hc) (fun _ => h2)
    · cases hdo
  · cases hdo
theorem zn_ifnull {off : Int} (hlt : z_lt lt) (hl2 : z_l2 bs lt) (hx : p.tables.exec = Jvm.exec) (hb : c.code = zt_code i) (hL : z_Lr bs lt n ls lr) (hd : decode (zt_code i) pc = .ok (.ifnull off, 3)) (hdo : z_do i pc (.ifnull off) ls st h = some (.inl (pc', ls', st', h'))) :
    h' = h ∧ ((∀ lr', z_Lr bs lt n ls' lr' → W p l e R s m args below meth c H locs cells slots Q (F0 m pc' lr' (st'.map (z_rv bs lt)))) → W p l e R s m args below meth c H locs cells slots Q (F0 m pc lr (st.map (z_rv bs lt)))) := by
  simp only [z_do, z_v, z_jmp] at hdo
  split at hdo
  · rename_i v r
    split at hdo
    · rename_i hj
      have hj2 : (pc : Int) + off = (((pc : Int) + off).toNat : Int) := (Int.toNat_of_nonneg hj).symm
      generalize ((pc : Int) + off).toNat = tgt at hj2 hdo
      rw [z_map_cons]
      cases v with
      | null =>
        simp only [z_nul, z_ob, if_true] at hdo
        simp only [z_nx, Option.some.injEq, Sum.inl.injEq, Prod.mk.injEq] at hdo
        obtain ⟨rfl, rfl, rfl, rfl⟩ := hdo
        exact ⟨rfl, fun kk => lv_ifnullN hx hb hd hj2 (kk lr hL)⟩
      | ref a =>
        simp only [z_nul, z_ob, Bool.false_eq_true, if_false] at hdo
        simp only [z_nx, Option.some.injEq, Sum.inl.injEq, Prod.mk.injEq] at hdo
        obtain ⟨rfl, rfl, rfl, rfl⟩ := hdo
        exact ⟨rfl, fun kk => lv_ifnull hx hb hd (kk lr hL)⟩
      | retAddr k =>
        simp only [z_nul] at hdo
        split at hdo
        · rename_i hk
          obtain ⟨a, eq1, -⟩ := hl2 k hk
          simp only [z_ob, Bool.false_eq_true, if_false] at hdo
          simp only [z_nx, Option.some.injEq, Sum.inl.injEq, Prod.mk.injEq] at hdo
          obtain ⟨rfl, rfl, rfl, rfl⟩ := hdo
          refine ⟨rfl, fun kk => ?_⟩
          show W p l e R s m args below meth c H locs cells slots Q (F0 m pc lr (lt k :: _))
          rw [eq1]
          exact lv_ifnull hx hb hd (kk lr hL)
        · cases hdo
      | _ => simp [z_nul, z_ob] at hdo
    · cases hdo
  · cases hdo
theorem zn_ifnonnull {off : Int} (hlt : z_lt lt) (hl2 : z_l2 bs lt) (hx : p.tables.exec = Jvm.exec) (hb : c.code = zt_code i) (hL : z_Lr bs lt n ls lr) (hd : decode (zt_code i) pc = .ok (.ifnonnull off, 3)) (hdo : z_do i pc (.ifnonnull off) ls st h = some (.inl (pc', ls', st', h'))) :
    h' = h ∧ ((∀ lr', z_Lr bs lt n ls' lr' → W p l e R s m args below meth c H locs cells slots Q (F0 m pc' lr' (st'.map (z_rv bs lt)))) → W p l e R s m args below meth c H locs cells slots Q (F0 m pc lr (st.map (z_rv bs lt)))) := by
  simp only [z_do, z_v, z_jmp] at hdo
  split at hdo
  · rename_i v r
    split at hdo
    · rename_i hj
      have hj2 : (pc : Int) + off = (((pc : Int) + off).toNat : Int) := (Int.toNat_of_nonneg hj).symm
      generalize ((pc : Int) + off).toNat = tgt at hj2 hdo
      rw [z_map_cons]
      cases v with
      | null =>
        simp only [z_nul, z_ob, if_true] at hdo
        simp only [z_nx, Option.some.injEq, Sum.inl.injEq, Prod.mk.injEq] at hdo
        obtain ⟨rfl, rfl, rfl, rfl⟩ := hdo
        exact ⟨rfl, fun kk => lv_ifnonnullN hx hb hd (kk lr hL)⟩
      | ref a =>
        simp only [z_nul, z_ob, Bool.false_eq_true, if_false] at hdo
        simp only [z_nx, Option.some.injEq, Sum.inl.injEq, Prod.mk.injEq] at hdo
        obtain ⟨rfl, rfl, rfl, rfl⟩ := hdo
        exact ⟨rfl, fun kk => lv_ifnonnull hx hb hd hj2 (kk lr hL)⟩
      | retAddr k =>
        simp only [z_nul] at hdo
        split at hdo
        · rename_i hk
          obtain ⟨a, eq1, -⟩ := hl2 k hk
          simp only [z_ob, Bool.false_eq_true, if_false] at hdo
          simp only [z_nx, Option.some.injEq, Sum.inl.injEq, Prod.mk.injEq] at hdo
          obtain ⟨rfl, rfl, rfl, rfl⟩ := hdo
          refine ⟨rfl, fun kk => ?_⟩
          show W p l e R s m args below meth c H locs cells slots Q (F0 m pc lr (lt k :: _))
          rw [eq1]
          exact lv_ifnonnull hx hb hd hj2 (kk lr hL)
        · cases hdo
      | _ => simp [z_nul, z_ob] at hdo
    · cases hdo
  · cases hdo
theorem zn_goto {off : Int} (hlt : z_lt lt) (hl2 : z_l2 bs lt) (hx : p.tables.exec = Jvm.exec) (hb : c.code = zt_code i) (hL : z_Lr bs lt n ls lr) (hd : decode (zt_code i) pc = .ok (.goto off, 3)) (hdo : z_do i pc (.goto off) ls st h = some (.inl (pc', ls', st', h'))) :
    h' = h ∧ ((∀ lr', z_Lr bs lt n ls' lr' → W p l e R s m args below meth c H locs cells slots Q (F0 m pc' lr' (st'.map (z_rv bs lt)))) → W p l e R s m args below meth c H locs cells slots Q (F0 m pc lr (st.map (z_rv bs lt)))) := by
  simp only [z_do, z_jmp] at hdo
  split at hdo
  · rename_i hj
    have hj2 : (pc : Int) + off = (((pc : Int) + off).toNat : Int) := (Int.toNat_of_nonneg hj).symm
    generalize ((pc : Int) + off).toNat = tgt at hj2 hdo
    simp only [z_nx, Option.some.injEq, Sum.inl.injEq, Prod.mk.injEq] at hdo
    obtain ⟨rfl, rfl, rfl, rfl⟩ := hdo
    exact ⟨rfl, fun kk => lv_goto hx hb hd hj2 (kk lr hL)⟩
  · cases hdo
theorem zn_tableswitch {dflt lo hi : Int} {offs : Array Int} {len : Nat} (hlt : z_lt lt) (hl2 : z_l2 bs lt) (hx : p.tables.exec = Jvm.exec) (hb : c.code = zt_code i) (hL : z_Lr bs lt n ls lr) (hd : decode (zt_code i) pc = .ok (.tableswitch dflt lo hi offs, len)) (hdo : z_do i pc (.tableswitch dflt lo hi offs) ls st h = some (.inl (pc', ls', st', h'))) :
    h' = h ∧ ((∀ lr', z_Lr bs lt n ls' lr' → W p l e R s m args below meth c H locs cells slots Q (F0 m pc' lr' (st'.map (z_rv bs lt)))) → W p l e R s m args below meth c H locs cells slots Q (F0 m pc lr (st.map (z_rv bs lt)))) := by
  simp only [z_do, z_i, z_jmp, z_ob] at hdo
  split at hdo
  · split at hdo
    · rename_i hout
      split at hdo
      · rename_i hj
        have hj2 : (pc : Int) + dflt = (((pc : Int) + dflt).toNat : Int) := (Int.toNat_of_nonneg hj).symm
        generalize ((pc : Int) + dflt).toNat = tgt at hj2 hdo
        simp only [z_nx, Option.some.injEq, Sum.inl.injEq, Prod.mk.injEq] at hdo
        obtain ⟨rfl, rfl, rfl, rfl⟩ := hdo
        exact ⟨rfl, fun kk => lv_tableOut hx hb hd hout hj2 (kk lr hL)⟩
      · cases hdo
    · rename_i hin
      split at hdo
      · rename_i off ho
        split at hdo
        · rename_i hj
          have hj2 : (pc : Int) + off = (((pc : Int) + off).toNat : Int) := (Int.toNat_of_nonneg hj).symm
          generalize ((pc : Int) + off).toNat = tgt at hj2 hdo
          simp only [z_nx, Option.some.injEq, Sum.inl.injEq, Prod.mk.injEq] at hdo
          obtain ⟨rfl, rfl, rfl, rfl⟩ := hdo
          exact ⟨rfl, fun kk => lv_tableIn hx hb hd (fun q => hin (Or.inl q)) (fun q => hin (Or.inr q)) ho hj2 (kk lr hL)⟩
        · cases hdo
      · cases hdo
  · cases hdo
theorem zn_if_acmp {co : ClassFile.ACond} {off : Int} (hlt : z_lt lt) (hl2 : z_l2 bs lt) (hx : p.tables.exec = Jvm.exec) (hb : c.code = zt_code i) (hL : z_Lr bs lt n ls lr) (hd : decode (zt_code i) pc = .ok (.if_acmp co off, 3)) (hdo : z_do i pc (.if_acmp co off) ls st h = some (.inl (pc', ls', st', h'))) :
    h' = h ∧ ((∀ lr', z_Lr bs lt n ls' lr' → W p l e R s m args below meth c H locs cells slots Q (F0 m pc' lr' (st'.map (z_rv bs lt)))) → W p l e R s m args below meth c H locs cells slots Q (F0 m pc lr (st.map (z_rv bs lt)))) := by
  simp only [z_do, z_v, z_jmp] at hdo
  split at hdo
  · rename_i w r0
    split at hdo
    · rename_i v r
      split at hdo
      · rename_i hj
        have hj2 : (pc : Int) + off = (((pc : Int) + off).toNat : Int) := (Int.toNat_of_nonneg hj).symm
        generalize ((pc : Int) + off).toNat = tgt at hj2 hdo
        have key : ∀ (rx ry : Option Nat) (b : Bool), z_ac co v w = some b → z_rv bs lt v = va_rf rx → z_rv bs lt w = va_rf ry → b = (if co = .eq then decide (rx = ry) else decide (rx ≠ ry)) →
            h' = h ∧ ((∀ lr', z_Lr bs lt n ls' lr' → W p l e R s m args below meth c H locs cells slots Q (F0 m pc' lr' (st'.map (z_rv bs lt)))) → W p l e R s m args below meth c H locs cells slots Q (F0 m pc lr ((w :: v :: r).map (z_rv bs lt)))) := by
          intro rx ry b hb1 hv hw hbe
          rw [hb1] at hdo
          simp only [z_ob] at hdo
          rw [z_map_cons, z_map_cons, hv, hw]
          cases b with
          | true =>
            simp only [if_true] at hdo
            simp only [z_nx, Option.some.injEq, Sum.inl.injEq, Prod.mk.injEq] at hdo
            obtain ⟨rfl, rfl, rfl, rfl⟩ := hdo
            refine ⟨rfl, fun kk => ?_⟩
            cases co with
            | eq => exact lv_acmp_eq hx hb hd hj2 (fun _ => kk lr hL) (fun hn => absurd (of_decide_eq_true (show decide (rx = ry) = true from hbe.symm)) hn)
            | ne => exact lv_acmp_ne hx hb hd hj2 (fun _ => kk lr hL) (fun hn => absurd hn (of_decide_eq_true (show decide (rx ≠ ry) = true from hbe.symm)))
          | false =>
            simp only [Bool.false_eq_true, if_false] at hdo
            simp only [z_nx, Option.some.injEq, Sum.inl.injEq, Prod.mk.injEq] at hdo
            obtain ⟨rfl, rfl, rfl, rfl⟩ := hdo
            refine ⟨rfl, fun kk => ?_⟩
            cases co with
            | eq => exact lv_acmp_eq hx hb hd hj2 (fun hn => absurd hn (of_decide_eq_false (show decide (rx = ry) = false from hbe.symm))) (fun _ => kk lr hL)
            | ne => exact lv_acmp_ne hx hb hd hj2 (fun hn => absurd hn (of_decide_eq_false (show decide (rx ≠ ry) = false from hbe.symm))) (fun _ => kk lr hL)
        cases v with
        | ref a =>
          cases w with
          | ref b =>
            refine key (some (bs + a)) (some (bs + b)) _ rfl rfl rfl ?_
            cases co <;> simp
          | null =>
            refine key (some (bs + a)) none _ rfl rfl rfl ?_
            cases co <;> simp
          | retAddr k =>
            by_cases hk : k < 100
            · obtain ⟨q, eq1, hq⟩ := hl2 k hk
              refine key (some (bs + a)) (some q) _ (by simp only [z_ac]; rw [if_pos hk]) rfl eq1 ?_
              have hne : ¬ bs + a = q := fun he => absurd hq (by rw [← he]; exact Nat.not_lt.mpr (Nat.le_add_right bs a))
              cases co <;> simp [hne]
            · simp [z_ac, hk, z_ob] at hdo
          | _ => simp [z_ac, z_ob] at hdo
        | _ => simp [z_ac, z_ob] at hdo
      · cases hdo
    · cases hdo
  · cases hdo
end ZN
