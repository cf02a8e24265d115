/-! compiled: the reference -/
def zCg (C : List Int) : Prop := C.Pairwise (· < ·) ∧ ∀ c ∈ C, -1200000 ≤ c ∧ c ≤ 2147440000
def zCf (Ks : Nat → List Int) (Rs : Nat → List zRu) (E : zEr) (l : List Nat) (C : List Int) : List Int := l.foldl (fun C i => zinu (zat Ks Rs E i) C) C
def zCe (Ks : Nat → List Int) (Rs : Nat → List zRu) (E : zEr) (r : List zEr) (C : List Int) : List Int := if r = [] then C else zinu (zend Ks Rs E) C
/-- all candidates -/
def zCl (Ks : Nat → List Int) (Rs : Nat → List zRu) : List zEr → List Int → List Int
  | [], C => C
  | E :: r, C => zCl Ks Rs r (zCf Ks Rs E (List.range' 0 (zks Ks E).length) (zCe Ks Rs E r C))
section ZMd
variable {h : zH} {Q : zO → zH → Prop} {f : Nat → Int} {g : Nat → Nat → Int} {S : zStt} {Es : List zEr} {Ks : Nat → List Int} {Rs : Nat → List zRu} {E : zEr} {C : List Int} {t : Int}
theorem zCg.i (hC : zCg C) (ht : -1200000 ≤ t ∧ t ≤ 2147440000) : zCg (zinu t C) ∧ (∀ x, x ∈ C → x ∈ zinu t C) ∧ t ∈ zinu t C ∧ (zinu t C).length ≤ C.length + 1 := by
  have h1 := zinu_lt (t := t) hC.1
  refine ⟨⟨h1.1, fun c hc => ?_⟩, fun x hx => (h1.2 x).mpr (Or.inr hx), (h1.2 t).mpr (Or.inl rfl), zinu_ln t C⟩
  rcases (h1.2 c).mp hc with rfl | hc
  · exact ht
  · exact hC.2 c hc
theorem zat_r (hok : zOk Es Ks Rs) (hE : zEok E) {i : Nat} (hi : i < (zks Ks E).length) : -1200000 ≤ zat Ks Rs E i ∧ zat Ks Rs E i ≤ 2147440000 := by
  by_cases h1 : E.1 1 < 0
  · have : zks Ks E = [] := if_pos h1
    rw [this] at hi
    exact absurd hi (Nat.not_lt_zero _)
  · have e1 : zks Ks E = Ks (E.1 1).toNat := if_neg h1
    have e2 : zrs Rs E = Rs (E.1 1).toNat := if_neg h1
    rw [e1] at hi
    unfold zat
    rw [e1, e2]
    exact zfa_q (hok.2 _ (by have := hE.2.1; omega)) hi hE.1
theorem zCf_g (hok : zOk Es Ks Rs) (hE : zEok E) : ∀ {l : List Nat} {C : List Int}, zCg C → (∀ i ∈ l, i < (zks Ks E).length) → zCg (zCf Ks Rs E l C) ∧ (∀ x, x ∈ C → x ∈ zCf Ks Rs E l C) ∧ (∀ i ∈ l, zat Ks Rs E i ∈ zCf Ks Rs E l C) ∧ (zCf Ks Rs E l C).length ≤ C.length + l.length := by
  intro l
  induction l with
  | nil => intro C hC _; exact ⟨hC, fun _ h => h, fun _ h => (by cases h), Nat.le_refl _⟩
  | cons i l ih =>
    intro C hC hl
    have h1 := hC.i (zat_r hok hE (hl i List.mem_cons_self))
    have h2 := ih h1.1 (fun j hj => hl j (List.mem_cons_of_mem _ hj))
    have e : zCf Ks Rs E (i :: l) C = zCf Ks Rs E l (zinu (zat Ks Rs E i) C) := rfl
    rw [e]
    refine ⟨h2.1, fun x hx => h2.2.1 x (h1.2.1 x hx), fun j hj => ?_, ?_⟩
    · rcases List.mem_cons.mp hj with rfl | hj
      · exact h2.2.1 _ h1.2.2.1
      · exact h2.2.2.1 j hj
    · rw [List.length_cons]
      have := h1.2.2.2
      have := h2.2.2.2
      omega
theorem zCe_g (hok : zOk Es Ks Rs) (hE : zEok E) {r : List zEr} (hC : zCg C) : zCg (zCe Ks Rs E r C) ∧ (∀ x, x ∈ C → x ∈ zCe Ks Rs E r C) ∧ (r ≠ [] → zend Ks Rs E ∈ zCe Ks Rs E r C) ∧ (zCe Ks Rs E r C).length ≤ C.length + 1 := by
  unfold zCe
  by_cases hr : r = []
  · rw [if_pos hr]
    exact ⟨hC, fun _ h => h, fun e => absurd hr e, by omega⟩
  · rw [if_neg hr]
    have er := zend_r hE hok.2
    have h1 := hC.i (t := zend Ks Rs E) (by omega)
    exact ⟨h1.1, h1.2.1, fun _ => h1.2.2.1, h1.2.2.2⟩
theorem zCl_g (hok : zOk Es Ks Rs) (h408 : ∀ k, k < 3 → (Ks k).length ≤ 408) : ∀ {r : List zEr} {C : List Int}, (∀ E ∈ r, zEok E) → zCg C → zCg (zCl Ks Rs r C) ∧ (∀ x, x ∈ C → x ∈ zCl Ks Rs r C) ∧ (∀ j, j < r.length - 1 → zend Ks Rs (r.getD j zE0) ∈ zCl Ks Rs r C) ∧ (∀ j i, j < r.length → i < (zks Ks (r.getD j zE0)).length → zat Ks Rs (r.getD j zE0) i ∈ zCl Ks Rs r C) ∧ (zCl Ks Rs r C).length ≤ C.length + 409 * r.length := by
  intro r
  induction r with
  | nil => intro C _ hC; exact ⟨hC, fun _ h => h, fun j hj => absurd hj (Nat.not_lt_zero _), fun j i hj => absurd hj (Nat.not_lt_zero _), by simp [zCl]⟩
  | cons E r ih =>
    intro C hE hC
    have hE1 := hE E List.mem_cons_self
    have h1 := zCe_g (r := r) hok hE1 hC
    have h2 := zCf_g (l := List.range' 0 (zks Ks E).length) hok hE1 h1.1 (fun i hi => by have := List.mem_range'_1.mp hi; omega)
    have h3 := ih (fun E' h' => hE E' (List.mem_cons_of_mem _ h')) h2.1
    have hk : (zks Ks E).length ≤ 408 := by
      unfold zks
      split
      · simp
      · exact h408 _ (by have := hE1.2.1; omega)
    have e : zCl Ks Rs (E :: r) C = zCl Ks Rs r (zCf Ks Rs E (List.range' 0 (zks Ks E).length) (zCe Ks Rs E r C)) := rfl
    rw [e]
    refine ⟨h3.1, fun x hx => h3.2.1 x (h2.2.1 x (h1.2.1 x hx)), fun j hj => ?_, fun j i hj hi => ?_, ?_⟩
    · cases j with
      | zero =>
        rw [List.length_cons] at hj
        have hr : r ≠ [] := fun e => by rw [e] at hj; simp at hj
        exact h3.2.1 _ (h2.2.1 _ (h1.2.2.1 hr))
      | succ j =>
        rw [List.length_cons] at hj
        rw [List.getD_cons_succ]
        exact h3.2.2.1 j (by omega)
    · cases j with
      | zero =>
        have hi : i < (zks Ks E).length := hi
        exact h3.2.1 _ (h2.2.2.1 i (List.mem_range'_1.mpr (by omega)))
      | succ j =>
        rw [List.length_cons] at hj
        rw [List.getD_cons_succ] at hi ⊢
        exact h3.2.2.2.1 j i (by omega) hi
    · rw [List.length_cons]
      have a1 := h1.2.2.2
      have a2 := h2.2.2.2
      have a3 := h3.2.2.2.2
      rw [List.length_range'] at a2
      omega
/-- the reference and the class note the same -/
theorem zref (hok : zOk S.1 S.2.1 S.2.2) (h408 : ∀ k, k < 3 → (S.2.1 k).length ≤ 408) (hn : S.1 ≠ []) : ((zCl S.2.1 S.2.2 S.1 []).map (fun c => (c, zty S.2.1 S.2.2 S.1 c))).foldl znote (znote ([], [], -1) (-2147483648, zty S.2.1 S.2.2 S.1 (-2147483648))) = zcmp_ S := by
  obtain ⟨g1, -, g3, g4, -⟩ := zCl_g (Ks := S.2.1) (Rs := S.2.2) hok h408 (r := S.1) (C := []) hok.1 ⟨List.Pairwise.nil, fun c hc => by cases hc⟩
  have eP := zPl_D (Ks := S.2.1) (Rs := S.2.2) (Es := S.1) (r := S.1) (pre := []) (s := -2147483648) rfl (fun j hj => absurd hj (Nat.not_lt_zero _))
  have hq := zDl_q (Ks := S.2.1) (Rs := S.2.2) (Es := S.1) (r := S.1) (pre := []) (s := -2147483648) rfl (fun j hj => absurd hj (Nat.not_lt_zero _)) hn
  have hc := zDl_c (Ks := S.2.1) (Rs := S.2.2) (Es := S.1) (r := S.1) (pre := []) (s := -2147483648) rfl
  have hs := zDl_s (Ks := S.2.1) (Rs := S.2.2) (r := S.1) (s := -2147483648)
  obtain ⟨D, eD⟩ : ∃ D, zDl S.2.1 S.2.2 S.1 (-2147483648) = -2147483648 :: D := by
    cases hS : S.1 with
    | nil => exact absurd hS hn
    | cons E r =>
      have hE := hok.1 E (by rw [hS]; exact List.mem_cons_self)
      have er := zend_r hE hok.2
      have : -2147483648 < zee S.2.1 S.2.2 E r := by unfold zee; split <;> omega
      unfold zDl
      rw [if_pos this]
      exact ⟨_, rfl⟩
  rw [eD] at hs hq hc
  obtain ⟨hs1, hs2⟩ := List.pairwise_cons.mp hs
  unfold zcmp_
  rw [eP, eD, List.map_cons, List.foldl_cons]
  refine zfold (p := -2147483648) (zsbl_of g1.1 (fun c hc => by have := g1.2 c hc; omega) hs2 (fun d hd => ?_) (fun c hcm hcn q hqq hlt hno => ?_)) (znote_i _ _)
  · have hd1 := hs1 d hd
    rcases hc d (List.mem_cons_of_mem _ hd) with e | ⟨j, hj, e⟩ | ⟨j, i, hj, hi, e⟩
    · omega
    · rw [e]; exact g3 j hj
    · rw [e]; exact g4 j i hj hi
  · have hcr := g1.2 c hcm
    obtain ⟨q', q1, q2, q3, q4⟩ := hq c (by omega) (by omega)
    rw [q4]
    have hqm : q ∈ (-2147483648 : Int) :: D := by
      rcases hqq with rfl | hqq
      · exact List.mem_cons_self
      · exact List.mem_cons_of_mem _ hqq
    have h1 := q3 q hqm (by omega)
    by_cases hqq' : q = q'
    · rw [hqq']
    · exfalso
      rcases List.mem_cons.mp q1 with e | q1
      · have : -2147483648 ≤ q := by
          rcases List.mem_cons.mp hqm with e2 | e2
          · omega
          · have := hs1 q e2
            omega
        omega
      · exact hno q' q1 ⟨by omega, q2⟩
end ZMd
