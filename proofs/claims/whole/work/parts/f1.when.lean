/-! when something changes -/
section ZWh
variable {Ks : Nat → List Int} {Rs : Nat → List zRu} {Es : List zEr} {E : zEr} {t : Int}
/-- what an era under a rule shows -/
def zTE (E : zEr) (o : Option zRu) : zTy := (E.1 0 + zsv E o, (if zsv E o = 0 then 0 else 1), (zfn E.2 (zsv E o) (E.1 0 + zsv E o) (zlo o)).take 8)
def zty (Ks : Nat → List Int) (Rs : Nat → List zRu) (Es : List zEr) (t : Int) : zTy := (zoff Ks Rs Es t, (if zhS Ks Rs Es t = 0 then 0 else 1), zhN Ks Rs Es t)
theorem zty_E : zty Ks Rs Es t = zTE (zhE Ks Rs Es t) (zru Ks Rs (zhE Ks Rs Es t) t) := rfl
theorem zff_eq {p : Nat → Bool} {N : Nat} : ∀ (n i : Nat), n ≤ N → N - n ≤ i → i ≤ N → (∀ j, N - n ≤ j → j < i → p j = false) → (i < N → p i = true) → zff p N n = i := by
  intro n
  induction n with
  | zero =>
    intro i h1 h2 h3 _ _
    show N = i
    omega
  | succ n ih =>
    intro i h1 h2 h3 h4 h5
    unfold zff
    by_cases hi : i = N - (n + 1)
    · rw [← hi, h5 (by omega)]
      rfl
    · rw [h4 (N - (n + 1)) (Nat.le_refl _) (by omega)]
      exact ih i (by omega) (by omega) h3 (fun j j1 j2 => h4 j (by omega) j2) h5
theorem zen_eq {i : Nat} (hi : i < Es.length) (h1 : ∀ j, j < i → zend Ks Rs (Es.getD j zE0) ≤ t) (h2 : i < Es.length - 1 → t < zend Ks Rs (Es.getD i zE0)) : zen Ks Rs Es t = i := by
  unfold zen
  refine zff_eq (Es.length - 1) i (Nat.le_refl _) (by omega) (by omega) (fun j _ hj => ?_) (fun hj => decide_eq_true (h2 hj))
  have := h1 j hj
  exact decide_eq_false (by omega)
/-- the firings of an era's set, by number -/
def zks (Ks : Nat → List Int) (E : zEr) : List Int := if E.1 1 < 0 then [] else Ks (E.1 1).toNat
def zrs (Rs : Nat → List zRu) (E : zEr) : List zRu := if E.1 1 < 0 then [] else Rs (E.1 1).toNat
def zat (Ks : Nat → List Int) (Rs : Nat → List zRu) (E : zEr) (i : Nat) : Int := zfa (zks Ks E) (zrs Rs E) (E.1 0) i
def zlw (Ks : Nat → List Int) (Rs : Nat → List zRu) (E : zEr) (t : Int) : Int := zlt (zks Ks E) (zrs Rs E) (E.1 0) t
theorem zlw_def : zlw Ks Rs E t = zlf (fun i => decide (zat Ks Rs E i ≤ t)) (zks Ks E).length := rfl
theorem zru_lw : zru Ks Rs E t = if zlw Ks Rs E t < 0 then none else some (zrl (zrs Rs E) ((zks Ks E).getD (zlw Ks Rs E t).toNat 0)) := by
  unfold zru zlw zks zrs
  by_cases hc : E.1 1 < 0
  · rw [if_pos hc, if_pos hc, if_pos hc, if_pos (show zlt [] [] (E.1 0) t < 0 from (show (-1 : Int) < 0 by decide))]
  · rw [if_neg hc, if_neg hc, if_neg hc]
theorem zlw_r : zlw Ks Rs E t = -1 ∨ (0 ≤ zlw Ks Rs E t ∧ zlw Ks Rs E t < (zks Ks E).length) := zlf_r _ _
theorem zlw_p (h : 0 ≤ zlw Ks Rs E t) : zat Ks Rs E (zlw Ks Rs E t).toNat ≤ t := of_decide_eq_true (zlf_p _ _ h)
theorem zlw_a {j : Nat} (h1 : zlw Ks Rs E t < j) (h2 : j < (zks Ks E).length) : t < zat Ks Rs E j := by
  have : ¬ zat Ks Rs E j ≤ t := of_decide_eq_false (zlf_a _ _ j h1 h2)
  omega
theorem zlw_u {i : Int} (hi : -1 ≤ i ∧ i < (zks Ks E).length) (h1 : 0 ≤ i → zat Ks Rs E i.toNat ≤ t) (h2 : ∀ j : Nat, i < j → j < (zks Ks E).length → t < zat Ks Rs E j) : zlw Ks Rs E t = i := by
  have r := zlw_r (Ks := Ks) (Rs := Rs) (E := E) (t := t)
  rcases Int.lt_trichotomy (zlw Ks Rs E t) i with h | h | h
  · have h0 : 0 ≤ i := by omega
    have := zlw_a (j := i.toNat) (by omega : zlw Ks Rs E t < (i.toNat : Int)) (by omega)
    have := h1 h0
    omega
  · exact h
  · have hp := zlw_p (Ks := Ks) (Rs := Rs) (E := E) (t := t) (by omega)
    have := h2 (zlw Ks Rs E t).toNat (by omega) (by omega)
    omega
/-- does firing i of an era hold while it lasts -/
def zfh (Ks : Nat → List Int) (Rs : Nat → List zRu) (E : zEr) (s e : Int) (i : Nat) : Bool := decide (s < zat Ks Rs E i ∧ zat Ks Rs E i < e ∧ zlw Ks Rs E (zat Ks Rs E i) = i)
/-- the firings noted of an era -/
def zDn (Ks : Nat → List Int) (Rs : Nat → List zRu) (E : zEr) (s e : Int) : List Nat := (List.range (zks Ks E).length).filter (zfh Ks Rs E s e)
def zDf (Ks : Nat → List Int) (Rs : Nat → List zRu) (E : zEr) (s e : Int) : List Int := (zDn Ks Rs E s e).map (zat Ks Rs E)
/-- an era's end as it is compiled -/
def zee (Ks : Nat → List Int) (Rs : Nat → List zRu) (E : zEr) (r : List zEr) : Int := if r = [] then 2147483648 else zend Ks Rs E
/-- all that is noted -/
def zDl (Ks : Nat → List Int) (Rs : Nat → List zRu) : List zEr → Int → List Int
  | [], _ => []
  | E :: r, s => if s < zee Ks Rs E r then s :: (zDf Ks Rs E s (zee Ks Rs E r) ++ zDl Ks Rs r (zee Ks Rs E r)) else zDl Ks Rs r s
theorem zDn_m {s e : Int} {i : Nat} (h : i ∈ zDn Ks Rs E s e) : i < (zks Ks E).length ∧ s < zat Ks Rs E i ∧ zat Ks Rs E i < e ∧ zlw Ks Rs E (zat Ks Rs E i) = i := by
  obtain ⟨h1, h2⟩ := List.mem_filter.mp h
  exact ⟨List.mem_range.mp h1, of_decide_eq_true h2⟩
theorem zDf_m {s e d : Int} (h : d ∈ zDf Ks Rs E s e) : ∃ i, d = zat Ks Rs E i ∧ i < (zks Ks E).length ∧ s < d ∧ d < e ∧ zlw Ks Rs E d = i := by
  obtain ⟨i, h1, rfl⟩ := List.mem_map.mp h
  have := zDn_m h1
  exact ⟨i, rfl, this.1, this.2.1, this.2.2.1, this.2.2.2⟩
theorem zDn_s {s e : Int} : (zDn Ks Rs E s e).Pairwise (· < ·) := List.Pairwise.filter _ List.pairwise_lt_range
theorem zDf_s {s e : Int} : (zDf Ks Rs E s e).Pairwise (· < ·) := by
  unfold zDf
  rw [List.pairwise_map]
  refine List.Pairwise.imp_of_mem ?_ (zDn_s (Ks := Ks) (Rs := Rs) (E := E) (s := s) (e := e))
  intro i j hi hj hij
  have h1 := zDn_m hi
  have h2 := zDn_m hj
  exact zlw_a (by omega) h2.1
theorem zDl_ge : ∀ {r : List zEr} {s d : Int}, d ∈ zDl Ks Rs r s → s ≤ d := by
  intro r
  induction r with
  | nil => intro s d h; cases h
  | cons E r ih =>
    intro s d h
    unfold zDl at h
    split at h
    · rename_i hs
      rcases List.mem_cons.mp h with rfl | h
      · omega
      · rcases List.mem_append.mp h with h | h
        · obtain ⟨i, -, -, h3, -⟩ := zDf_m h
          omega
        · have := ih h
          omega
    · exact ih h
theorem zDl_s : ∀ {r : List zEr} {s : Int}, (zDl Ks Rs r s).Pairwise (· < ·) := by
  intro r
  induction r with
  | nil => intro s; exact List.Pairwise.nil
  | cons E r ih =>
    intro s
    unfold zDl
    split
    · rename_i hs
      refine List.pairwise_cons.mpr ⟨fun d hd => ?_, List.pairwise_append.mpr ⟨zDf_s, ih, fun a ha b hb => ?_⟩⟩
      · rcases List.mem_append.mp hd with h | h
        · obtain ⟨i, -, -, h3, -⟩ := zDf_m h
          exact h3
        · have := zDl_ge h
          omega
      · obtain ⟨i, -, -, -, h4, -⟩ := zDf_m ha
        have := zDl_ge hb
        omega
    · exact ih
/-- within an era: the last noted tells what holds -/
theorem zera_q {s e c : Int} (h1 : s ≤ c) (h2 : c < e) : ∃ q, (q = s ∨ q ∈ zDf Ks Rs E s e) ∧ q ≤ c ∧ s ≤ q ∧ (∀ d ∈ zDf Ks Rs E s e, d ≤ c → d ≤ q) ∧ zlw Ks Rs E c = zlw Ks Rs E q := by
  have r := zlw_r (Ks := Ks) (Rs := Rs) (E := E) (t := c)
  by_cases hj : 0 ≤ zlw Ks Rs E c ∧ s < zat Ks Rs E (zlw Ks Rs E c).toNat
  · have hp := zlw_p (Ks := Ks) (Rs := Rs) (E := E) (t := c) hj.1
    have hl : zlw Ks Rs E (zat Ks Rs E (zlw Ks Rs E c).toNat) = zlw Ks Rs E c := by
      refine zlw_u (by omega) (fun _ => Int.le_refl _) (fun j hj1 hj2 => ?_)
      have := zlw_a hj1 hj2
      omega
    have hm : zat Ks Rs E (zlw Ks Rs E c).toNat ∈ zDf Ks Rs E s e := by
      refine List.mem_map.mpr ⟨(zlw Ks Rs E c).toNat, List.mem_filter.mpr ⟨List.mem_range.mpr (by omega), decide_eq_true ⟨hj.2, by omega, ?_⟩⟩, rfl⟩
      rw [hl]
      omega
    refine ⟨zat Ks Rs E (zlw Ks Rs E c).toNat, Or.inr hm, hp, by omega, fun d hd hdc => ?_, hl.symm⟩
    obtain ⟨i, e1, i1, i2, i3, i4⟩ := zDf_m hd
    rcases Int.lt_trichotomy (i : Int) (zlw Ks Rs E c) with h | h | h
    · have := zlw_a (Ks := Ks) (Rs := Rs) (E := E) (t := d) (j := (zlw Ks Rs E c).toNat) (by omega) (by omega)
      omega
    · rw [e1, show (zlw Ks Rs E c).toNat = i by omega]
      exact Int.le_refl _
    · have := zlw_a (Ks := Ks) (Rs := Rs) (E := E) (t := c) (j := i) h i1
      omega
  · refine ⟨s, Or.inl rfl, h1, Int.le_refl _, fun d hd hdc => ?_, ?_⟩
    · obtain ⟨i, e1, i1, i2, i3, i4⟩ := zDf_m hd
      exfalso
      rcases Int.lt_trichotomy (i : Int) (zlw Ks Rs E c) with h | h | h
      · have := zlw_a (Ks := Ks) (Rs := Rs) (E := E) (t := d) (j := (zlw Ks Rs E c).toNat) (by omega) (by omega)
        exact hj ⟨by omega, by omega⟩
      · refine hj ⟨by omega, ?_⟩
        rw [show (zlw Ks Rs E c).toNat = i by omega, ← e1]
        exact i2
      · have := zlw_a (Ks := Ks) (Rs := Rs) (E := E) (t := c) (j := i) h i1
        omega
    · symm
      refine zlw_u (by omega) (fun h0 => ?_) (fun j hj1 hj2 => ?_)
      · have : ¬ s < zat Ks Rs E (zlw Ks Rs E c).toNat := fun h => hj ⟨h0, h⟩
        omega
      · have := zlw_a hj1 hj2
        omega
end ZWh
