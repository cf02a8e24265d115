/-! times: the class reads them so -/
theorem zt1_ne {c v : Int} (hc : c ≠ 58) : ∀ t : List Int, zt_1 v (c :: t) = -1000000 := by
  intro t
  match t with
  | [] => rfl
  | [_] => rfl
  | a :: b :: t => rw [zt_1, if_neg (fun q => hc q.1)]
theorem zix_at (c : Int) : ∀ (w : List Int) (i : Int), 0 ≤ i → i ≤ zix c w i → w.getD (zix c w i - i).toNat 0 = c ∧ ∀ j : Nat, (j : Int) < zix c w i - i → w.getD j 0 ≠ c := by
  intro w
  induction w with
  | nil => intro i h0 hi; simp [zix] at hi; omega
  | cons a r ih =>
    intro i h0 hi
    rw [zix] at hi ⊢
    split at hi
    · rename_i h1
      rw [if_pos h1]
      subst h1
      refine ⟨by simp, fun j hj => by omega⟩
    · rename_i h1
      rw [if_neg h1]
      have hr := zix_r c r (i + 1)
      have h2 := ih (i + 1) (by omega) (by omega)
      refine ⟨?_, fun j hj => ?_⟩
      · have e1 : (zix c r (i + 1) - i).toNat = (zix c r (i + 1) - (i + 1)).toNat + 1 := by omega
        rw [e1]
        simpa using h2.1
      · cases j with
        | zero => simpa using h1
        | succ j => simpa using h2.2 j (by omega)
theorem zix_no (c : Int) : ∀ (w : List Int) (i : Int), 0 ≤ i → zix c w i < 0 → ∀ j : Nat, j < w.length → w.getD j 0 ≠ c := by
  intro w
  induction w with
  | nil => intro i h0 hi j hj; simp at hj
  | cons a r ih =>
    intro i h0 hi j hj
    rw [zix] at hi
    split at hi
    · omega
    · rename_i h1
      cases j with
      | zero => simpa using h1
      | succ j => simpa using ih (i + 1) (by omega) hi j (by simpa using hj)
theorem zth_p (u : List Int) (p : Nat) (hp : p ≤ u.length) (h1 : ∀ j, j < p → u.getD j 0 ≠ 58) (h2 : p = u.length ∨ u.getD p 0 = 58) (H : Int) (hH : H = if p = 1 ∨ p = 2 then (if zdgs (u.take p) 0 ≤ 24 then zdgs (u.take p) 0 else -1000000) else -1000000) : (if H = -1000000 then -1000000 else zt_1 (3600 * H) (u.drop p)) = zt_h u := by
  have d58 : zdig 58 = false := by decide
  match p, u, hp, h1, h2, hH with
  | 0, [], _, _, _, hH => simp at hH; simp [hH, zt_h]
  | 0, [a], _, _, h2, hH =>
    have : a = 58 := by simpa using h2
    subst this
    simp at hH
    simp [hH, zt_h, d58]
  | 0, a :: b :: t, _, _, h2, hH =>
    have : a = 58 := by simpa using h2
    subst this
    simp at hH
    simp [hH, zt_h, d58]
  | 1, [a], _, _, _, hH =>
    have e1 : zdgs (List.take 1 [a]) 0 = if zdig a = true then a - 48 else -1000000 := zdgs_1 a
    rw [if_pos (Or.inl rfl), e1] at hH
    by_cases ha : zdig a = true
    · have := (zdig_iff a).mp ha
      rw [if_pos ha, if_pos (by omega)] at hH
      rw [if_neg (by omega), hH]
      simp [zt_1, zt_h, ha]
    · rw [if_neg ha, if_pos (by decide)] at hH
      rw [if_pos hH]
      simp [zt_h, ha]
  | 1, a :: b :: t, _, _, h2, hH =>
    have hb : b = 58 := by simpa using h2
    subst hb
    have e1 : zdgs (List.take 1 (a :: 58 :: t)) 0 = if zdig a = true then a - 48 else -1000000 := zdgs_1 a
    rw [if_pos (Or.inl rfl), e1] at hH
    by_cases ha : zdig a = true
    · have := (zdig_iff a).mp ha
      rw [if_pos ha, if_pos (by omega)] at hH
      rw [if_neg (by omega), hH]
      simp [zt_h, ha, d58]
    · rw [if_neg ha, if_pos (by decide)] at hH
      rw [if_pos hH]
      simp [zt_h, ha]
  | 2, a :: b :: t, _, h1, h2, hH =>
    have hb : b ≠ 58 := by simpa using h1 1 (by decide)
    have e1 : zdgs (List.take 2 (a :: b :: t)) 0 = if zdig a = true ∧ zdig b = true then 10 * (a - 48) + (b - 48) else -1000000 := zdgs_2 a b
    rw [if_pos (Or.inr rfl)] at hH
    by_cases ha : zdig a = true
    · have := (zdig_iff a).mp ha
      by_cases hb2 : zdig b = true
      · have := (zdig_iff b).mp hb2
        rw [if_pos ⟨ha, hb2⟩] at e1
        rw [e1] at hH
        by_cases hx : 10 * (a - 48) + (b - 48) ≤ 24
        · rw [if_pos hx] at hH
          rw [if_neg (by omega), hH]
          simp [zt_h, ha, hb2, hx]
        · rw [if_neg hx] at hH
          rw [if_pos hH]
          simp [zt_h, ha, hb2, hx]
      · rw [if_neg (fun q => hb2 q.2)] at e1
        rw [e1, if_pos (by decide)] at hH
        rw [if_pos hH]
        simp [zt_h, ha, hb2, zt1_ne hb]
    · rw [if_neg (fun q => ha q.1)] at e1
      rw [e1, if_pos (by decide)] at hH
      rw [if_pos hH]
      simp [zt_h, ha]
  | p + 3, a :: b :: c :: t, _, h1, _, hH =>
    have hb : b ≠ 58 := by simpa using h1 1 (by omega)
    have hc : c ≠ 58 := by simpa using h1 2 (by omega)
    rw [if_neg (by omega)] at hH
    rw [if_pos hH]
    by_cases ha : zdig a = true
    · by_cases hb2 : zdig b = true
      · by_cases hx : 10 * (a - 48) + (b - 48) ≤ 24
        · simp [zt_h, ha, hb2, hx, zt1_ne hc]
        · simp [zt_h, ha, hb2, hx]
      · simp [zt_h, ha, hb2, zt1_ne hb]
    · simp [zt_h, ha]
  | 1, [], hp, _, _, _ => simp at hp
  | 2, [], hp, _, _, _ => simp at hp
  | 2, [_], hp, _, _, _ => simp at hp
  | p + 3, [], hp, _, _, _ => simp at hp
  | p + 3, [_], hp, _, _, _ => simp at hp
  | p + 3, [_, _], hp, _, _, _ => simp at hp
theorem ztE_time (w : List Int) : ztE w (zt_f w) (zt_e w) = ztime w := by
  have hr := zix_r 58 w 0
  have hf : zt_f w = 0 ∨ (zt_f w = 1 ∧ ∃ t, w = 45 :: t) := by
    unfold zt_f
    split
    · rename_i h1
      right
      refine ⟨rfl, ?_⟩
      match w, h1 with
      | c :: t, h1 => exact ⟨t, by have := h1.2; simp at this; rw [this]⟩
    · exact Or.inl rfl
  have he : 0 ≤ zt_e w ∧ zt_e w ≤ w.length := by unfold zt_e; split <;> omega
  have hA : ∀ j : Nat, (j : Int) < zt_e w → w.getD j 0 ≠ 58 := by
    intro j hj
    unfold zt_e at hj
    split at hj
    · rename_i h1
      exact zix_no 58 w 0 (by omega) h1 j (by omega)
    · exact (zix_at 58 w 0 (by omega) (by omega)).2 j (by omega)
  have hB : zt_e w = w.length ∨ w.getD (zt_e w).toNat 0 = 58 := by
    unfold zt_e
    split
    · exact Or.inl rfl
    · right
      have := (zix_at 58 w 0 (by omega) (by omega)).1
      simpa using this
  generalize zt_e w = e at *
  have hlen : (w.length : Int) - e = (w.drop e.toNat).length := by rw [List.length_drop]; omega
  have hR : w.drop e.toNat = [] ∨ (w.drop e.toNat).getD 0 0 = 58 := by
    rcases hB with h1 | h1
    · left; exact List.drop_eq_nil_of_le (by omega)
    · right; rw [← zgetD_drop]; exact h1
  have hn := znum_r w (zt_f w) e 24 (by omega) (by omega)
  have hsx : zsix w e = zsx (w.drop e.toNat) := zsix_d w e he
  have hmain : ztE w (zt_f w) e = (if znum w (zt_f w) e 24 = -1000000 then -1000000 else if (if zt_f w = 1 then (-1 : Int) else 1) = 1 then zt_1 (3600 * znum w (zt_f w) e 24) (w.drop e.toNat) else zneg (zt_1 (3600 * znum w (zt_f w) e 24) (w.drop e.toNat))) := by
    rw [← zrest (w.drop e.toNat) (znum w (zt_f w) e 24) (if zt_f w = 1 then -1 else 1) (by split <;> simp) hR (by omega)]
    unfold ztE
    rw [hlen, hsx]
    by_cases h6 : ((w.drop e.toNat).length : Int) = 6
    · have h3 : zsix w (e + 3) = zsx ((w.drop e.toNat).drop 3) := by
        rw [zsix_d w (e + 3) (by rw [List.length_drop] at h6; omega), List.drop_drop, show (e + 3).toNat = e.toNat + 3 by omega]
      rw [h3]
    · by_cases h7 : ((w.drop e.toNat).length : Int) ≠ 0 ∧ ((w.drop e.toNat).length : Int) ≠ 3 ∧ ((w.drop e.toNat).length : Int) ≠ 6
      · rw [if_pos h7, if_pos h7]
      · have h8 : ((w.drop e.toNat).length : Int) < 6 := by omega
        simp only [h6, false_and, h8, if_true]
  rw [hmain]
  rcases hf with hf | ⟨hf, t, rfl⟩
  · rw [hf] at hn ⊢
    simp only [show ¬ (0 : Int) = 1 by decide, if_false, if_true]
    have hp := zth_p w e.toNat (by omega) (fun j hj => hA j (by omega)) (by rcases hB with h1 | h1; exact Or.inl (by omega); exact Or.inr h1) (znum w 0 e 24) (by
      unfold znum
      have e1 : zsub w (0 : Int).toNat e.toNat = w.take e.toNat := by simp [zsub]
      rw [e1]
      have : (e - 0 = 1 ∨ e - 0 = 2) = (e.toNat = 1 ∨ e.toNat = 2) := by apply propext; omega
      simp only [this])
    rw [hp]
    match w with
    | [] => rfl
    | c :: t =>
      rw [ztime, if_neg]
      intro hc
      subst hc
      simp [zt_f] at hf
  · rw [hf] at hn ⊢
    simp only [if_true, show ¬ (-1 : Int) = 1 by decide, if_false]
    have he1 : 1 ≤ e := by
      rcases hB with h1 | h1
      · simp at h1; omega
      · apply Int.not_lt.mp
        intro h9
        have : e = 0 := by omega
        subst this
        simp at h1
    have hp := zth_p t (e.toNat - 1) (by simp at he; omega) (fun j hj => by
        have := hA (j + 1) (by omega)
        simpa using this) (by
        rcases hB with h1 | h1
        · left; simp at h1; omega
        · right
          have e2 : e.toNat = (e.toNat - 1) + 1 := by omega
          rw [e2] at h1
          simpa using h1) (znum (45 :: t) 1 e 24) (by
      unfold znum
      have e1 : zsub (45 :: t) (1 : Int).toNat e.toNat = t.take (e.toNat - 1) := by simp [zsub]
      rw [e1]
      have : (e - 1 = 1 ∨ e - 1 = 2) = (e.toNat - 1 = 1 ∨ e.toNat - 1 = 2) := by apply propext; omega
      simp only [this])
    have e3 : (45 :: t).drop e.toNat = t.drop (e.toNat - 1) := by
      have e2 : e.toNat = (e.toNat - 1) + 1 := by omega
      conv => lhs; rw [e2]
      rfl
    rw [e3]
    rw [ztime, if_pos rfl, ← hp]
    split
    · rfl
    · rfl
section ZTm2
variable {h : zH} {Q : zO → zH → Prop} {v : Value} {w : List Int}
theorem t196 (hs : zSt h v w) : z_Cl 196 [v] h Q = Q (.inl (some (zi (ztime w)))) h := by rw [s196 hs, ztE_time]
end ZTm2
