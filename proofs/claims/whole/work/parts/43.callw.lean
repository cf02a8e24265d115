/-! THE TIE: the instructions that call -/
theorem z_wl_in {w : Cond} (h : w ∈ lw_tbl) (hw : z_ls w = false) : w ∈ z_wl := by
  refine List.mem_map.mpr ⟨w, h, ?_⟩
  rw [hw]
  rfl
theorem z_wl_at {k : Nat} {w : Cond} (h : lw_tbl[k]? = some w) (hw : z_ls w = false) : w ∈ z_wl := z_wl_in (List.mem_of_getElem? h) hw
theorem z_cw_ls (j : Nat) : z_ls (z_cw j) = false := by
  unfold z_cw
  split <;> rfl
theorem z_ob_inv {α : Type} {o : Option α} {f : α → Option zR} {x : zR} (h : z_ob o f = some x) : ∃ a, o = some a ∧ f a = some x := by
  cases o with
  | none => cases h
  | some a => exact ⟨a, rfl, h⟩
/-- a call, taken apart -/
theorem z_call_inv {i pc k o : Nat} {ls st : List Value} {h : zH} {j : Nat} {as r : List Value} (e : z_call i pc k o ls st h = some (.inr (.inr (j, as, r)))) : ∃ q, zt_mth (zt_own i) k = some q ∧ z_ko q.1 = o ∧ q.1 < 3 ∧ j = q.2.1 ∧ as.length = zt_na j ∧ r.length ≤ 10 ∧ st = as.reverse ++ r ∧ (q.1 ≠ 0 → ∃ v as', as = v :: as' ∧ z_isob (z_at h v) q.2.2 = true) := by
  have key : ∀ n : Nat, n ≤ st.length → (z_top n st).length = n ∧ st = (z_top n st).reverse ++ st.drop n := by
    intro n hn
    unfold z_top
    refine ⟨by simp [hn], by simp⟩
  unfold z_call at e
  obtain ⟨q, hq, e⟩ := z_ob_inv e
  · split at e
    · rename_i hko
      split at e
      · rename_i hk
        split at e
        · rename_i hc
          cases e
          obtain ⟨k1, k2⟩ := key _ hc.1
          exact ⟨q, hq, hko, by omega, rfl, k1, hc.2.1, k2, fun h9 => absurd hk h9⟩
        · cases e
      · rename_i hk
        split at e
        · rename_i hc
          unfold z_v at e
          split at e
          · rename_i v as' hv
            dsimp only at e
            split at e
            · rename_i ho
              cases e
              obtain ⟨k1, k2⟩ := key _ hc.1
              exact ⟨q, hq, hko, by omega, rfl, k1, hc.2.1, k2, fun _ => ⟨v, as', hv, ho⟩⟩
            · cases e
          · cases e
        · cases e
      · rename_i hk
        split at e
        · rename_i hc
          unfold z_v at e
          split at e
          · rename_i v as' hv
            dsimp only at e
            split at e
            · rename_i ho
              cases e
              obtain ⟨k1, k2⟩ := key _ hc.1
              exact ⟨q, hq, hko, by omega, rfl, k1, hc.2.1, k2, fun _ => ⟨v, as', hv, ho⟩⟩
            · cases e
          · cases e
        · cases e
      · exfalso
        have h9 : z_fa (fun x => ∃ q, x = .inl q) (z_v st fun v r => match v with
            | .ref _ => if r.length ≤ 10 then z_nx (pc + 3) ls r h else none
            | _ => none) := by
          refine zp_v fun v r => ?_
          split
          · exact zp_if zs_nx zp_none
          · exact zp_none
        obtain ⟨q9, hq9⟩ := h9 _ e
        cases hq9
      · exfalso
        suffices h9 : ∀ {t : Option zR}, t = some (.inr (.inr (j, as, r))) → z_fa z_ps t → False from h9 e (zp_i fun _ _ => zp_i fun _ _ => zp_v fun _ _ => zp_i fun _ _ => zp_v fun _ _ => zp_ob fun _ => zp_ob fun _ => zp_if zs_nx zp_none)
        intro t e1 h1
        obtain ⟨q9, hq9⟩ := h1 _ e1
        cases hq9
      · exfalso
        suffices h9 : ∀ {t : Option zR}, t = some (.inr (.inr (j, as, r))) → z_fa z_ps t → False from h9 e (zp_v fun _ _ => zp_ob fun _ => zp_if zs_nx zp_none)
        intro t e1 h1
        obtain ⟨q9, hq9⟩ := h1 _ e1
        cases hq9
      · cases e
    · cases e
/-- ... its arguments have room among the callee's locals -/
theorem z_call_fit {i pc k o : Nat} {ls st : List Value} {h : zH} {j : Nat} {as r : List Value} (e : z_call i pc k o ls st h = some (.inr (.inr (j, as, r)))) : (z_args as).length ≤ zt_ml j := by
  unfold z_call at e
  obtain ⟨q, hq, e⟩ := z_ob_inv e
  · split at e
    · rename_i hko
      split at e
      · rename_i hk
        split at e
        · rename_i hc
          cases e
          exact hc.2.2
        · cases e
      · rename_i hk
        split at e
        · rename_i hc
          unfold z_v at e
          split at e
          · dsimp only at e
            split at e
            · cases e
              exact hc.2.2
            · cases e
          · cases e
        · cases e
      · rename_i hk
        split at e
        · rename_i hc
          unfold z_v at e
          split at e
          · dsimp only at e
            split at e
            · cases e
              exact hc.2.2
            · cases e
          · cases e
        · cases e
      · exfalso
        have h9 : z_fa (fun x => ∃ q, x = .inl q) (z_v st fun v r => match v with
            | .ref _ => if r.length ≤ 10 then z_nx (pc + 3) ls r h else none
            | _ => none) := by
          refine zp_v fun v r => ?_
          split
          · exact zp_if zs_nx zp_none
          · exact zp_none
        obtain ⟨q9, hq9⟩ := h9 _ e
        cases hq9
      · exfalso
        suffices h9 : ∀ {t : Option zR}, t = some (.inr (.inr (j, as, r))) → z_fa z_ps t → False from h9 e (zp_i fun _ _ => zp_i fun _ _ => zp_v fun _ _ => zp_i fun _ _ => zp_v fun _ _ => zp_ob fun _ => zp_ob fun _ => zp_if zs_nx zp_none)
        intro t e1 h1
        obtain ⟨q9, hq9⟩ := h1 _ e1
        cases hq9
      · exfalso
        suffices h9 : ∀ {t : Option zR}, t = some (.inr (.inr (j, as, r))) → z_fa z_ps t → False from h9 e (zp_v fun _ _ => zp_ob fun _ => zp_if zs_nx zp_none)
        intro t e1 h1
        obtain ⟨q9, hq9⟩ := h1 _ e1
        cases hq9
      · cases e
    · cases e
