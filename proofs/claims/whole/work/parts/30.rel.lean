/-! THE TIE: the evaluator's values, locals and cells as the machine's -/
def z_rv (bs : Nat) (lt : Nat → Value) (v : Value) : Value := match v with
  | .ref a => .ref (bs + a)
  | .retAddr k => lt k
  | v => v
/-- the given values are references, or null -/
def z_lt (lt : Nat → Value) : Prop := ∀ k, lt k = .null ∨ ∃ a, lt k = .ref a
theorem z_rv_cat (bs : Nat) {lt : Nat → Value} (hlt : z_lt lt) (v : Value) (h : z_ok v = true) : (z_rv bs lt v).category = v.category := by
  cases v with
  | retAddr k =>
    rcases hlt k with e | ⟨a, e⟩ <;> simp [z_rv, e, Value.category]
  | _ => first | rfl | (simp [z_ok, z_isref] at h)
theorem z_rv_int (bs : Nat) (lt : Nat → Value) (x : Int32) : z_rv bs lt (.int x) = .int x := rfl
theorem z_rv_long (bs : Nat) (lt : Nat → Value) (x : Int64) : z_rv bs lt (.long x) = .long x := rfl
def z_Lr (bs : Nat) (lt : Nat → Value) (n : Nat) (ls : List Value) (lr : Array Slot) : Prop := ls.length = n ∧ lr.size = n ∧ lv_wf lr ∧ ∀ (k : Nat) (v : Value), ls[k]? = some v → z_ok v = true → lr[k]? = some (.val (z_rv bs lt v))
def z_prs (bs : Nat) (lt : Nat → Value) (ls : List Value) : List (Nat × Value) := (List.range ls.length).filterMap (fun k => match ls[k]? with
  | some v => if z_ok v then some (k, z_rv bs lt v) else none
  | none => none)
theorem z_prs_mem {bs : Nat} {lt : Nat → Value} {ls : List Value} {k : Nat} {v : Value} (h : ls[k]? = some v) (ho : z_ok v = true) : (k, z_rv bs lt v) ∈ z_prs bs lt ls := by
  refine List.mem_filterMap.mpr ⟨k, List.mem_range.mpr (List.getElem?_eq_some_iff.mp h).1, ?_⟩
  rw [h]
  simp [ho]
theorem z_Lr.has {bs : Nat} {lt : Nat → Value} {n : Nat} {ls : List Value} {lr : Array Slot} (h : z_Lr bs lt n ls lr) : lv_has lr n (z_prs bs lt ls) := by
  refine ⟨h.2.1, h.2.2.1, fun q hq => ?_⟩
  obtain ⟨k, -, hk⟩ := List.mem_filterMap.mp hq
  split at hk
  · rename_i v hv
    split at hk
    · rename_i ho
      cases hk
      exact h.2.2.2 k v hv ho
    · cases hk
  · cases hk
theorem z_s1_len (ls : List Value) (k : Nat) (v : Value) : (z_s1 ls k v).length = ls.length := by
  cases k <;> simp [z_s1]
theorem z_s1_get (ls : List Value) (k : Nat) (v : Value) (j : Nat) (hk : k < ls.length) : (z_s1 ls k v)[j]? = if j = k then some v else if j + 1 = k then (ls[j]?).map z_kl else ls[j]? := by
  cases k with
  | zero =>
    by_cases hj : j = 0
    · subst hj; simp [z_s1, hk]
    · rw [if_neg hj, if_neg (by omega)]
      simp [z_s1, List.getElem?_set, Ne.symm hj]
  | succ k =>
    by_cases hj : j = k + 1
    · subst hj
      rw [if_pos rfl]
      simp [z_s1, hk]
    · rw [if_neg hj]
      by_cases hj2 : j + 1 = k + 1
      · rw [if_pos hj2]
        obtain rfl : j = k := by omega
        simp [z_s1, List.getElem?_set, List.getElem?_modify]
      · rw [if_neg hj2]
        have h3 : ¬ k = j := by omega
        have h4 : ¬ k + 1 = j := by omega
        simp [z_s1, List.getElem?_set, List.getElem?_modify, h3, h4]
theorem z_kl_ok {w v : Value} (h : z_kl w = v) (ho : z_ok v = true) : w = v ∧ v.category = 1 := by
  subst h
  cases w <;> simp [z_kl, z_um, z_ok, z_isref, Value.category] at ho ⊢
theorem z_Lr.s1 {bs : Nat} {lt : Nat → Value} (hlt : z_lt lt) {n : Nat} {ls : List Value} {lr lr' : Array Slot} {k : Nat} {v : Value} (h : z_Lr bs lt n ls lr) (hk : k < n) (h' : lv_has lr' n ((k, z_rv bs lt v) :: (z_prs bs lt ls).filter (fun q => !(q.1 == k) && !(q.1 + 1 == k && q.2.category == 2)))) : z_Lr bs lt n (z_s1 ls k v) lr' := by
  refine ⟨by rw [z_s1_len]; exact h.1, h'.1, h'.2.1, fun j w hj ho => ?_⟩
  rw [z_s1_get _ _ _ _ (by rw [h.1]; exact hk)] at hj
  by_cases e1 : j = k
  · rw [if_pos e1] at hj
    cases hj
    exact h'.2.2 (j, z_rv bs lt _) (by rw [e1]; exact List.mem_cons_self)
  · rw [if_neg e1] at hj
    by_cases e2 : j + 1 = k
    · rw [if_pos e2] at hj
      obtain ⟨u, hu, hw⟩ := Option.map_eq_some_iff.mp hj
      obtain ⟨rfl, hc⟩ := z_kl_ok hw ho
      refine h'.2.2 (j, z_rv bs lt u) (List.mem_cons_of_mem _ (List.mem_filter.mpr ⟨z_prs_mem hu ho, ?_⟩))
      simp [e1, z_rv_cat bs hlt u ho, hc]
    · rw [if_neg e2] at hj
      refine h'.2.2 (j, z_rv bs lt w) (List.mem_cons_of_mem _ (List.mem_filter.mpr ⟨z_prs_mem hj ho, ?_⟩))
      simp [e1, e2]
theorem z_s2_get (ls : List Value) (k : Nat) (v : Value) (j : Nat) (hk : k + 1 < ls.length) : (z_s2 ls k v)[j]? = if j = k + 1 then some z_um else if j = k then some v else if j + 1 = k then (ls[j]?).map z_kl else ls[j]? := by
  unfold z_s2
  by_cases hj : j = k + 1
  · subst hj
    rw [if_pos rfl, List.getElem?_set_self (by rw [z_s1_len]; exact hk)]
  · rw [if_neg hj, List.getElem?_set_ne (Ne.symm hj), z_s1_get _ _ _ _ (by omega)]
theorem z_Lr.s2 {bs : Nat} {lt : Nat → Value} (hlt : z_lt lt) {n : Nat} {ls : List Value} {lr lr' : Array Slot} {k : Nat} {v : Value} (h : z_Lr bs lt n ls lr) (hk : k + 1 < n) (h' : lv_has lr' n ((k, z_rv bs lt v) :: (z_prs bs lt ls).filter (fun q => !(q.1 == k) && (!(q.1 == k + 1) && !(q.1 + 1 == k && q.2.category == 2))))) : z_Lr bs lt n (z_s2 ls k v) lr' := by
  refine ⟨by unfold z_s2; rw [List.length_set, z_s1_len]; exact h.1, h'.1, h'.2.1, fun j w hj ho => ?_⟩
  rw [z_s2_get _ _ _ _ (by rw [h.1]; exact hk)] at hj
  by_cases e0 : j = k + 1
  · rw [if_pos e0] at hj
    cases hj
    simp [z_um, z_ok, z_isref] at ho
  rw [if_neg e0] at hj
  by_cases e1 : j = k
  · rw [if_pos e1] at hj
    cases hj
    exact h'.2.2 (j, z_rv bs lt _) (by rw [e1]; exact List.mem_cons_self)
  · rw [if_neg e1] at hj
    by_cases e2 : j + 1 = k
    · rw [if_pos e2] at hj
      obtain ⟨u, hu, hw⟩ := Option.map_eq_some_iff.mp hj
      obtain ⟨rfl, hc⟩ := z_kl_ok hw ho
      refine h'.2.2 (j, z_rv bs lt u) (List.mem_cons_of_mem _ (List.mem_filter.mpr ⟨z_prs_mem hu ho, ?_⟩))
      simp [e0, e1, z_rv_cat bs hlt u ho, hc]
    · rw [if_neg e2] at hj
      refine h'.2.2 (j, z_rv bs lt w) (List.mem_cons_of_mem _ (List.mem_filter.mpr ⟨z_prs_mem hj ho, ?_⟩))
      simp [e0, e1, e2]
/-- a cell as the machine's -/
def z_tr (bs : Nat) (lt : Nat → Value) (tA : Nat → Nat) (e : zE) : va_E := match e with
  | .inl (t, n, .inr (.inr (.inr (.inr f)))) => .inl (tA t, n, .inr (.inr (.inr (.inr (fun j => (f j).map (fun a => bs + a))))))
  | .inl (t, x) => .inl (tA t, x)
  | .inr (c, fs) => .inr (c, fs.map (z_rv bs lt))
