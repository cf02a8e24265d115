/-! when something changes: all eras -/
section ZWi
variable {Ks : Nat → List Int} {Rs : Nat → List zRu} {Es : List zEr} {E : zEr} {t : Int}
theorem zE_at {pre r : List zEr} (h : Es = pre ++ E :: r) : Es.getD pre.length zE0 = E := by
  rw [h, List.getD_eq_getElem?_getD, List.getElem?_append_right (Nat.le_refl _), Nat.sub_self]
  rfl
theorem zera_h {pre r : List zEr} {s : Int} (h : Es = pre ++ E :: r) (hp : ∀ j, j < pre.length → zend Ks Rs (Es.getD j zE0) ≤ s) (h1 : s ≤ t) (h2 : t < zee Ks Rs E r) : zhE Ks Rs Es t = E := by
  have hl : Es.length = pre.length + (r.length + 1) := by rw [h, List.length_append, List.length_cons]
  have hz : zen Ks Rs Es t = pre.length := by
    refine zen_eq (by omega) (fun j hj => ?_) (fun hj => ?_)
    · have := hp j hj
      omega
    · rw [zE_at h]
      unfold zee at h2
      rw [if_neg (by intro e; rw [e] at hl; simp at hl; omega)] at h2
      exact h2
  unfold zhE
  rw [hz]
  exact zE_at h
theorem zpre_n {pre r : List zEr} {s s' : Int} (h : Es = pre ++ E :: r) (hp : ∀ j, j < pre.length → zend Ks Rs (Es.getD j zE0) ≤ s) (hs : s ≤ s') (he : zend Ks Rs E ≤ s') : Es = (pre ++ [E]) ++ r ∧ ∀ j, j < (pre ++ [E]).length → zend Ks Rs (Es.getD j zE0) ≤ s' := by
  refine ⟨by rw [h, List.append_assoc]; rfl, fun j hj => ?_⟩
  rw [List.length_append] at hj
  have h1 : [E].length = 1 := rfl
  by_cases hj2 : j < pre.length
  · have := hp j hj2
    omega
  · have : j = pre.length := by omega
    rw [this, zE_at h]
    exact he
theorem zDl_q : ∀ {r pre : List zEr} {s : Int}, Es = pre ++ r → (∀ j, j < pre.length → zend Ks Rs (Es.getD j zE0) ≤ s) → r ≠ [] → ∀ c, s ≤ c → c < 2147483648 → ∃ q, q ∈ zDl Ks Rs r s ∧ q ≤ c ∧ (∀ d ∈ zDl Ks Rs r s, d ≤ c → d ≤ q) ∧ zty Ks Rs Es c = zty Ks Rs Es q := by
  intro r
  induction r with
  | nil => intro pre s _ _ h; exact absurd rfl h
  | cons E r ih =>
    intro pre s h hp _ c hc1 hc2
    unfold zDl
    by_cases hs : s < zee Ks Rs E r
    · rw [if_pos hs]
      by_cases hce : c < zee Ks Rs E r
      · obtain ⟨q, q1, q2, q3, q4, q5⟩ := zera_q (Ks := Ks) (Rs := Rs) (E := E) hc1 hce
        refine ⟨q, ?_, q2, fun d hd hdc => ?_, ?_⟩
        · rcases q1 with rfl | q1
          · exact List.mem_cons_self
          · exact List.mem_cons_of_mem _ (List.mem_append_left _ q1)
        · rcases List.mem_cons.mp hd with rfl | hd
          · exact q3
          · rcases List.mem_append.mp hd with hd | hd
            · exact q4 d hd hdc
            · have := zDl_ge hd
              omega
        · rw [zty_E, zty_E, zera_h h hp hc1 hce, zera_h h hp q3 (by omega), zru_lw, zru_lw, q5]
      · have hr : r ≠ [] := by
          intro e
          unfold zee at hce
          rw [if_pos e] at hce
          omega
        have ez : zee Ks Rs E r = zend Ks Rs E := if_neg hr
        obtain ⟨p1, p2⟩ := zpre_n (s' := zee Ks Rs E r) h hp (by omega) (by omega)
        obtain ⟨q, q1, q2, q3, q4⟩ := ih p1 p2 hr c (by omega) hc2
        refine ⟨q, List.mem_cons_of_mem _ (List.mem_append_right _ q1), q2, fun d hd hdc => ?_, q4⟩
        have hq := zDl_ge q1
        rcases List.mem_cons.mp hd with rfl | hd
        · omega
        · rcases List.mem_append.mp hd with hd | hd
          · obtain ⟨i, -, -, -, i3, -⟩ := zDf_m hd
            omega
          · exact q3 d hd hdc
    · rw [if_neg hs]
      have hr : r ≠ [] := by
        intro e
        unfold zee at hs
        rw [if_pos e] at hs
        omega
      have ez : zee Ks Rs E r = zend Ks Rs E := if_neg hr
      obtain ⟨p1, p2⟩ := zpre_n (s' := s) h hp (Int.le_refl _) (by omega)
      exact ih p1 p2 hr c hc1 hc2
/-- all that is noted is a candidate -/
theorem zDl_c : ∀ {r pre : List zEr} {s : Int}, Es = pre ++ r → ∀ d ∈ zDl Ks Rs r s, d = s ∨ (∃ j, j < Es.length - 1 ∧ d = zend Ks Rs (Es.getD j zE0)) ∨ ∃ j i, j < Es.length ∧ i < (zks Ks (Es.getD j zE0)).length ∧ d = zat Ks Rs (Es.getD j zE0) i := by
  intro r
  induction r with
  | nil => intro pre s _ d hd; cases hd
  | cons E r ih =>
    intro pre s h d hd
    have h' : Es = (pre ++ [E]) ++ r := by rw [h, List.append_assoc]; rfl
    have hl : Es.length = pre.length + (r.length + 1) := by rw [h, List.length_append, List.length_cons]
    unfold zDl at hd
    split at hd
    · rcases List.mem_cons.mp hd with hd | hd
      · exact Or.inl hd
      · rcases List.mem_append.mp hd with hd | hd
        · obtain ⟨i, i1, i2, -⟩ := zDf_m hd
          refine Or.inr (Or.inr ⟨pre.length, i, by omega, ?_, ?_⟩)
          · rw [zE_at h]; exact i2
          · rw [zE_at h]; exact i1
        · rcases ih h' d hd with hd2 | hd2
          · by_cases hr : r = []
            · rw [hr] at hd
              cases hd
            · have ez : zee Ks Rs E r = zend Ks Rs E := if_neg hr
              have : r.length ≠ 0 := fun e => hr (List.length_eq_zero_iff.mp e)
              refine Or.inr (Or.inl ⟨pre.length, by omega, ?_⟩)
              rw [zE_at h, hd2, ez]
          · exact Or.inr hd2
    · exact ih h' d hd
/-- firings of one rule lie apart -/
def zKsp (ks : List Int) : Prop := ∀ i j, i < j → j < ks.length → ks.getD i 0 % 8 = ks.getD j 0 % 8 → ks.getD i 0 + 248140800 ≤ ks.getD j 0
theorem zfa_sp {ks : List Int} {rs : List zRu} {off : Int} {i j : Nat} (hk : zKok ks rs) (hs : zKsp ks) (hij : i < j) (hj : j < ks.length) (hp : ks.getD i 0 % 8 = ks.getD j 0 % 8) : zfa ks rs off i + 30240000 ≤ zfa ks rs off j := by
  have h1 := hs i j hij hj hp
  have er : zrl rs (ks.getD i 0) = zrl rs (ks.getD j 0) := by unfold zrl; rw [hp]
  have bf : ∀ k : Nat, k < ks.length → -89999 ≤ zbf ks rs k ∧ zbf ks rs k ≤ 89999 := by
    intro k hk2
    unfold zbf
    split
    · decide
    · exact (hk.rl (j := ((k : Int) - 1).toNat) (by omega)).2.2.2.2.2.2.2.2.1
  have b1 := bf i (by omega)
  have b2 := bf j hj
  unfold zfa zled
  rw [Int.toNat_natCast, Int.toNat_natCast, er]
  split
  · omega
  · split <;> omega
theorem zfa_q {ks : List Int} {rs : List zRu} {off : Int} {i : Nat} (hk : zKok ks rs) (hi : i < ks.length) (ho : -89999 ≤ off ∧ off ≤ 89999) : -1200000 ≤ zfa ks rs off i ∧ zfa ks rs off i ≤ 2147440000 := by
  have b : -89999 ≤ zbf ks rs i ∧ zbf ks rs i ≤ 89999 := by
    unfold zbf
    split
    · decide
    · exact (hk.rl (j := ((i : Int) - 1).toNat) (by omega)).2.2.2.2.2.2.2.2.1
  have r := hk.2.1 i hi
  unfold zfa zled
  rw [Int.toNat_natCast]
  split
  · omega
  · split <;> omega
theorem zsp_cnt : ∀ (l : List Int) (a b : Int), a ≤ b → l.Pairwise (fun x y => x + 30240000 ≤ y) → (∀ x ∈ l, a ≤ x ∧ x ≤ b) → (l.length : Int) * 30240000 ≤ (b - a) + 30240000 := by
  intro l
  induction l with
  | nil => intro a b h _ _; simp; omega
  | cons x l ih =>
    intro a b hab hp hm
    obtain ⟨h1, h2⟩ := List.pairwise_cons.mp hp
    have hx := hm x List.mem_cons_self
    rw [List.length_cons]
    cases l with
    | nil => simp; omega
    | cons y l =>
      have hy := h1 y List.mem_cons_self
      have hy2 := hm y (List.mem_cons_of_mem _ List.mem_cons_self)
      have := ih (x + 30240000) b (by omega) h2 (fun z hz => ⟨h1 z hz, (hm z (List.mem_cons_of_mem _ hz)).2⟩)
      omega
theorem zfl_cnt {p : Nat → Int} : ∀ (l : List Nat), (∀ i ∈ l, 0 ≤ p i ∧ p i < 6) → l.length = (l.filter (fun i => p i == 0)).length + (l.filter (fun i => p i == 1)).length + (l.filter (fun i => p i == 2)).length + (l.filter (fun i => p i == 3)).length + (l.filter (fun i => p i == 4)).length + (l.filter (fun i => p i == 5)).length := by
  intro l
  induction l with
  | nil => intro _; rfl
  | cons i l ih =>
    intro h
    have h1 := ih (fun j hj => h j (List.mem_cons_of_mem _ hj))
    have h2 := h i List.mem_cons_self
    have h3 : p i = 0 ∨ p i = 1 ∨ p i = 2 ∨ p i = 3 ∨ p i = 4 ∨ p i = 5 := by omega
    rcases h3 with e | e | e | e | e | e <;> simp [List.filter_cons, e] <;> omega
theorem zDf_cnt {s e : Int} (hE : zEok E) (hk : ∀ k, k < 3 → zKok (Ks k) (Rs k) ∧ zKsp (Ks k) ∧ (Rs k).length ≤ 6) (hse : s < e) : ((zDf Ks Rs E s e).length : Int) * 30240000 ≤ 6 * ((max (-1200000) (min e 2147440000) - max (-1200000) (min s 2147440000)) + 30240000) := by
  unfold zDf
  rw [List.length_map]
  by_cases hc : E.1 1 < 0
  · have : zDn Ks Rs E s e = [] := by unfold zDn zks; rw [if_pos hc]; rfl
    rw [this]
    simp
    omega
  · obtain ⟨hk1, hk2, hk3⟩ := hk (E.1 1).toNat (by have := hE.2.1; omega)
    have e1 : zks Ks E = Ks (E.1 1).toNat := if_neg hc
    have e2 : zrs Rs E = Rs (E.1 1).toNat := if_neg hc
    have hin : ∀ i ∈ zDn Ks Rs E s e, 0 ≤ (zks Ks E).getD i 0 % 8 ∧ (zks Ks E).getD i 0 % 8 < 6 := by
      intro i hi
      have h1 := (zDn_m hi).1
      rw [e1] at h1 ⊢
      have := (hk1.2.1 i h1).1
      omega
    have each : ∀ r : Int, (((zDn Ks Rs E s e).filter (fun i => (zks Ks E).getD i 0 % 8 == r)).length : Int) * 30240000 ≤ (max (-1200000) (min e 2147440000) - max (-1200000) (min s 2147440000)) + 30240000 := by
      intro r
      have hl : ((zDn Ks Rs E s e).filter (fun i => (zks Ks E).getD i 0 % 8 == r)).length = (((zDn Ks Rs E s e).filter (fun i => (zks Ks E).getD i 0 % 8 == r)).map (zat Ks Rs E)).length := by rw [List.length_map]
      rw [hl]
      refine zsp_cnt _ (max (-1200000) (min s 2147440000)) (max (-1200000) (min e 2147440000)) (by omega) ?_ ?_
      · rw [List.pairwise_map]
        have hp : ((zDn Ks Rs E s e).filter (fun i => (zks Ks E).getD i 0 % 8 == r)).Pairwise (· < ·) := List.Pairwise.filter _ zDn_s
        refine List.Pairwise.imp_of_mem ?_ hp
        intro i j hi hj hij
        obtain ⟨i1, i2⟩ := List.mem_filter.mp hi
        obtain ⟨j1, j2⟩ := List.mem_filter.mp hj
        have i2 : (zks Ks E).getD i 0 % 8 = r := by simpa using i2
        have j2 : (zks Ks E).getD j 0 % 8 = r := by simpa using j2
        have hjl := (zDn_m j1).1
        unfold zat
        rw [e1] at i2 j2 hjl ⊢
        rw [e2]
        exact zfa_sp hk1 hk2 hij hjl (by omega)
      · intro x hx
        obtain ⟨i, i1, rfl⟩ := List.mem_map.mp hx
        obtain ⟨i2, -⟩ := List.mem_filter.mp i1
        have h1 := zDn_m i2
        have h2 : -1200000 ≤ zat Ks Rs E i ∧ zat Ks Rs E i ≤ 2147440000 := by
          unfold zat
          rw [e1, e2]
          exact zfa_q hk1 (by rw [← e1]; exact h1.1) hE.1
        omega
    have h0 := each 0
    have h1 := each 1
    have h2 := each 2
    have h3 := each 3
    have h4 := each 4
    have h5 := each 5
    have hs := zfl_cnt (p := fun i => (zks Ks E).getD i 0 % 8) (zDn Ks Rs E s e) hin
    omega
theorem zDl_cnt (hk : ∀ k, k < 3 → zKok (Ks k) (Rs k) ∧ zKsp (Ks k) ∧ (Rs k).length ≤ 6) : ∀ {r : List zEr} {s : Int}, (∀ E ∈ r, zEok E) → ((zDl Ks Rs r s).length : Int) * 30240000 ≤ 7 * 30240000 * r.length + 6 * (2147440000 - max (-1200000) (min s 2147440000)) := by
  intro r
  induction r with
  | nil => intro s _; simp [zDl]; omega
  | cons E r ih =>
    intro s hE
    have hE1 := hE E List.mem_cons_self
    have ih1 := fun s => ih (s := s) (fun E' h => hE E' (List.mem_cons_of_mem _ h))
    unfold zDl
    rw [List.length_cons]
    split
    · rename_i hs
      have h1 := zDf_cnt (Ks := Ks) (Rs := Rs) (E := E) hE1 hk hs
      have h2 := ih1 (zee Ks Rs E r)
      rw [List.length_cons, List.length_append]
      omega
    · have := ih1 s
      omega
end ZWi
