/-! THE TIE: the forms of calls, by the tables -/
def zf_b (j : Nat) : Prop := Cond.initialized (zt_name j).cls ∈ z_wl ∧ ((zt_name j).cls ≠ "java/lang/invoke/MethodHandle" ∧ (zt_name j).cls ≠ "java/lang/invoke/VarHandle") ∧ zt_ml j ≤ 20
def zf_n (j : Nat) : Prop := (parseMethodDescriptor (zt_name j).desc).map (fun d => d.parameters.length + 1) = some (zt_na j)
def zf_0 (o k j : Nat) : Prop := (parseMethodDescriptor (zt_name j).desc).map (fun d => d.parameters.length) = some (zt_na j) ∧ Cond.methodLink (zt_cn o) k (zt_name j) ∈ z_wl ∧ Cond.static (zt_name j) ∈ z_wl
def zf_1 (o k j : Nat) (C : String) : Prop := zt_eh j = [] ∧ zf_n j ∧ Cond.methodLink (zt_cn o) k (zt_name j) ∈ z_wl ∧ Cond.instanceMethod (zt_name j) ∈ z_wl ∧ Cond.selects C (zt_name j) (zt_name j) ∈ z_wl
def zf_2 (o k j : Nat) : Prop := zt_eh j = [] ∧ zt_ret j = none ∧ (zt_name j).name = "<init>" ∧ zf_n j ∧ Cond.methodLink (zt_cn o) k (zt_name j) ∈ z_wl ∧ Cond.instanceMethod (zt_name j) ∈ z_wl
def zf_7 (o k j : Nat) : Prop := zt_eh j = [] ∧ zt_ret j = none ∧ (zt_name j).name = "<init>" ∧ zf_n j ∧ Cond.methodLinkNest (zt_cn o) k (zt_name j) "ZoneDesk" ∈ z_wl ∧ Cond.instanceMethod (zt_name j) ∈ z_wl
def zf_8 (o k j : Nat) : Prop := zt_eh j = [] ∧ (zt_name j).name ≠ "<init>" ∧ zf_n j ∧ Cond.methodLink (zt_cn o) k (zt_name j) ∈ z_wl ∧ Cond.instanceMethod (zt_name j) ∈ z_wl ∧ Cond.sameMethod (zt_name j).cls (zt_name j).cls (zt_name j).name (zt_name j).desc ∈ z_wl ∧ Cond.superclass (zt_cn o) (zt_name j).cls ∈ z_wl
def zf_x : MethodName := ⟨"java/lang/AbstractStringBuilder", "length", "()I"⟩
def zf_9 (o k j : Nat) (C : String) : Prop := zt_eh j = [] ∧ zt_na j = 1 ∧ Cond.methodLink (zt_cn o) k zf_x ∈ z_wl ∧ Cond.instanceMethod (zt_name j) ∈ z_wl ∧ Cond.selects C zf_x (zt_name j) ∈ z_wl ∧ Cond.sameMethod "java/lang/AbstractStringBuilder" "java/lang/AbstractStringBuilder" "length" "()I" ∈ z_wl ∧ Cond.instanceMethod zf_x ∈ z_wl ∧ Cond.code zf_x prog_15_method_6_code 1 (some .int) ∈ z_wl
def zf_10 (o k j : Nat) : Prop := zt_eh j = [] ∧ zf_n j ∧ Cond.methodLink (zt_cn o) k (zt_name j) ∈ z_wl ∧ Cond.instanceMethod (zt_name j) ∈ z_wl ∧ Cond.privateMethod (zt_name j) ∈ z_wl ∧ Cond.sameMethod (zt_name j).cls (zt_name j).cls (zt_name j).name (zt_name j).desc ∈ z_wl
theorem zt_form {o k : Nat} {q : Nat × Nat × Nat} (h : zt_mth o k = some q) (hk : q.1 < 3) : ∃ rc : vw_C, zt_cl[q.2.2]? = some rc ∧ zf_b q.2.1 ∧ ((q.1 = 0 ∧ zf_0 o k q.2.1) ∨ (q.1 = 1 ∧ zf_1 o k q.2.1 rc.1) ∨ (q.1 = 2 ∧ zf_2 o k q.2.1) ∨ (q.1 = 2 ∧ zf_7 o k q.2.1) ∨ (q.1 = 2 ∧ zf_8 o k q.2.1) ∨ (q.1 = 1 ∧ zf_9 o k q.2.1 rc.1) ∨ (q.1 = 1 ∧ zf_10 o k q.2.1)) := by
  unfold zt_mth at h
  obtain ⟨x, hx, rfl⟩ := Option.map_eq_some_iff.mp h
  have h2 := zt_vok _ (zt_lk_mem hx)
  unfold zt_vchk at h2
  dsimp only at h2
  rw [if_neg (by omega)] at h2
  split at h2
  · rename_i sk ps C T N e1 e2
    simp only [Bool.and_eq_true, decide_eq_true_eq] at h2
    refine ⟨(C, T, N), e2, ⟨z_wl_at h2.1.1.1.1 rfl, ⟨h2.1.1.1.2, h2.1.1.2⟩, h2.1.2⟩, ?_⟩
    have h3 := h2.2
    split at h3
    · simp only [Bool.and_eq_true, decide_eq_true_eq] at h3
      exact Or.inl ⟨h3.1.1.1, h3.1.1.2, z_wl_at h3.1.2 rfl, z_wl_at h3.2 rfl⟩
    · simp only [Bool.and_eq_true, decide_eq_true_eq] at h3
      exact Or.inr (Or.inl ⟨h3.1.1.1.1.1, h3.1.1.1.1.2, h3.1.1.1.2, z_wl_at h3.1.1.2 rfl, z_wl_at h3.1.2 rfl, z_wl_at h3.2 rfl⟩)
    · simp only [Bool.and_eq_true, decide_eq_true_eq] at h3
      exact Or.inr (Or.inr (Or.inl ⟨h3.1.1.1.1.1.1, h3.1.1.1.1.1.2, h3.1.1.1.1.2, h3.1.1.1.2, h3.1.1.2, z_wl_at h3.1.2 rfl, z_wl_at h3.2 rfl⟩))
    · simp only [Bool.and_eq_true, decide_eq_true_eq] at h3
      exact Or.inr (Or.inr (Or.inr (Or.inl ⟨h3.1.1.1.1.1.1, h3.1.1.1.1.1.2, h3.1.1.1.1.2, h3.1.1.1.2, h3.1.1.2, z_wl_at h3.1.2 rfl, z_wl_at h3.2 rfl⟩)))
    · simp only [Bool.and_eq_true, decide_eq_true_eq] at h3
      exact Or.inr (Or.inr (Or.inr (Or.inr (Or.inl ⟨h3.1.1.1.1.1.1.1, h3.1.1.1.1.1.1.2, h3.1.1.1.1.1.2, h3.1.1.1.1.2, z_wl_at h3.1.1.1.2 rfl, z_wl_at h3.1.1.2 rfl, z_wl_at h3.1.2 rfl, z_wl_at h3.2 rfl⟩))))
    · simp only [Bool.and_eq_true, decide_eq_true_eq] at h3
      exact Or.inr (Or.inr (Or.inr (Or.inr (Or.inr (Or.inl ⟨h3.1.1.1.1.1.1.1.1, h3.1.1.1.1.1.1.1.2, h3.1.1.1.1.1.1.2, z_wl_at h3.1.1.1.1.1.2 rfl, z_wl_at h3.1.1.1.1.2 rfl, z_wl_at h3.1.1.1.2 rfl, z_wl_at h3.1.1.2 rfl, z_wl_at h3.1.2 rfl, z_wl_at h3.2 rfl⟩)))))
    · simp only [Bool.and_eq_true, decide_eq_true_eq] at h3
      exact Or.inr (Or.inr (Or.inr (Or.inr (Or.inr (Or.inr ⟨h3.1.1.1.1.1.1, h3.1.1.1.1.1.2, h3.1.1.1.1.2, z_wl_at h3.1.1.1.2 rfl, z_wl_at h3.1.1.2 rfl, z_wl_at h3.1.2 rfl, z_wl_at h3.2 rfl⟩)))))
    · cases h3
  · cases h2
