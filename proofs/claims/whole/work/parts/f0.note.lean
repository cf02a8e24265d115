/-! types and changes, noted one after the other -/
/-- a type: the offset, is there a save, the name -/
abbrev zTy : Type := Int × Int × List Int
def zidx (x : zTy) : List zTy → Nat
  | [] => 0
  | y :: ys => if y = x then 0 else zidx x ys + 1
theorem zidx_le (x : zTy) : ∀ l, zidx x l ≤ l.length := by
  intro l
  induction l with
  | nil => exact Nat.le_refl _
  | cons y ys ih => unfold zidx; split <;> simp <;> omega
theorem zidx_get {x : zTy} : ∀ {l : List zTy}, zidx x l < l.length → l[zidx x l]? = some x := by
  intro l
  induction l with
  | nil => intro h; exact absurd h (Nat.not_lt_zero _)
  | cons y ys ih =>
    intro h
    unfold zidx at h ⊢
    split
    · rename_i e; rw [e]; rfl
    · rename_i e
      rw [if_neg e] at h
      rw [List.getElem?_cons_succ]
      exact ih (by simpa using h)
theorem zidx_ne {x : zTy} : ∀ {l : List zTy} {j : Nat}, j < zidx x l → l[j]? ≠ some x := by
  intro l
  induction l with
  | nil => intro j h; exact absurd h (Nat.not_lt_zero _)
  | cons y ys ih =>
    intro j h
    unfold zidx at h
    split at h
    · omega
    · rename_i e
      cases j with
      | zero => intro q; exact e (Option.some.inj q)
      | succ j => rw [List.getElem?_cons_succ]; exact ih (by omega)
theorem zidx_mem {x : zTy} {l : List zTy} (h : x ∈ l) : zidx x l < l.length := by
  induction l with
  | nil => cases h
  | cons y ys ih =>
    unfold zidx
    split
    · simp
    · rename_i e
      rcases List.mem_cons.mp h with h | h
      · exact absurd h.symm e
      · have := ih h
        rw [List.length_cons]
        omega
theorem zidx_app {x : zTy} {l : List zTy} (h : ¬ zidx x l < l.length) : zidx x (l ++ [x]) = l.length := by
  induction l with
  | nil => simp [zidx]
  | cons y ys ih =>
    unfold zidx at h
    by_cases e : y = x
    · rw [if_pos e] at h
      exact absurd (Nat.succ_pos _) h
    · rw [if_neg e] at h
      show zidx x (y :: (ys ++ [x])) = _
      unfold zidx
      rw [if_neg e, ih (by rw [List.length_cons] at h; omega), List.length_cons]
/-- the types, the changes, the last type -/
abbrev zNs : Type := List zTy × List (Int × Int) × Int
def znts (ts : List zTy) (x : zTy) : List zTy := if zidx x ts < ts.length then ts else ts ++ [x]
def znote (σ : zNs) (p : Int × zTy) : zNs := (znts σ.1 p.2, (if 0 ≤ σ.2.2 ∧ (zidx p.2 σ.1 : Int) ≠ σ.2.2 then σ.2.1 ++ [(p.1, (zidx p.2 σ.1 : Int))] else σ.2.1), (zidx p.2 σ.1 : Int))
/-- the last noted was x -/
def zNi (σ : zNs) (x : zTy) : Prop := σ.2.2 = (zidx x σ.1 : Int) ∧ zidx x σ.1 < σ.1.length
theorem znote_i (σ : zNs) (p : Int × zTy) : zNi (znote σ p) p.2 := by
  unfold zNi znote znts
  by_cases h : zidx p.2 σ.1 < σ.1.length
  · rw [if_pos h]
    exact ⟨rfl, h⟩
  · rw [if_neg h]
    show ((zidx p.2 σ.1 : Nat) : Int) = ((zidx p.2 (σ.1 ++ [p.2]) : Nat) : Int) ∧ zidx p.2 (σ.1 ++ [p.2]) < (σ.1 ++ [p.2]).length
    rw [zidx_app h]
    have := zidx_le p.2 σ.1
    exact ⟨by omega, by simp⟩
theorem znote_same {σ : zNs} {x : zTy} {t : Int} (h : zNi σ x) : znote σ (t, x) = σ := by
  obtain ⟨ts, cs, l⟩ := σ
  obtain ⟨h1, h2⟩ := h
  have h1 : l = (zidx x ts : Int) := h1
  have h2 : zidx x ts < ts.length := h2
  unfold znote znts
  simp only [if_pos h2]
  rw [if_neg (by omega), h1]
/-- some may be left out: p, what stands then -/
def zsbl (H : Int → zTy) : Int → List Int → List Int → Prop
  | _, [], D => D = []
  | p, c :: C, D => (∃ D', D = c :: D' ∧ zsbl H c C D') ∨ (H c = H p ∧ zsbl H p C D)
theorem zfold {H : Int → zTy} : ∀ {C D : List Int} {p : Int} {σ : zNs}, zsbl H p C D → zNi σ (H p) → (C.map (fun c => (c, H c))).foldl znote σ = (D.map (fun c => (c, H c))).foldl znote σ := by
  intro C
  induction C with
  | nil =>
    intro D p σ h _
    have h : D = [] := h
    rw [h]
  | cons c C ih =>
    intro D p σ h hi
    rcases h with ⟨D', rfl, h⟩ | ⟨he, h⟩
    · rw [List.map_cons, List.foldl_cons, List.map_cons, List.foldl_cons]
      exact ih h (znote_i σ (c, H c))
    · rw [List.map_cons, List.foldl_cons, he, znote_same hi]
      exact ih h hi
theorem zsbl_of {H : Int → zTy} : ∀ {C D : List Int} {p : Int}, C.Pairwise (· < ·) → (∀ c ∈ C, p < c) → D.Pairwise (· < ·) → (∀ d ∈ D, d ∈ C) → (∀ c ∈ C, c ∉ D → ∀ q, (q = p ∨ q ∈ D) → q < c → (∀ d ∈ D, ¬ (q < d ∧ d ≤ c)) → H c = H q) → zsbl H p C D := by
  intro C
  induction C with
  | nil =>
    intro D p _ _ _ h _
    cases D with
    | nil => rfl
    | cons d D => exact absurd (h d List.mem_cons_self) (by simp)
  | cons c C ih =>
    intro D p hC hp hD hs hk
    obtain ⟨hC1, hC2⟩ := List.pairwise_cons.mp hC
    by_cases hc : c ∈ D
    · left
      cases D with
      | nil => cases hc
      | cons d D' =>
        obtain ⟨hD1, hD2⟩ := List.pairwise_cons.mp hD
        have hdc : d = c := by
          have h1 : c ≤ d := by
            rcases List.mem_cons.mp (hs d List.mem_cons_self) with h | h
            · omega
            · have := hC1 d h
              omega
          rcases List.mem_cons.mp hc with h | h
          · exact h.symm
          · have := hD1 c h
            omega
        subst hdc
        refine ⟨D', rfl, ih hC2 hC1 hD2 (fun e he => ?_) (fun e he hn q hq hlt hno => ?_)⟩
        · have h1 := hD1 e he
          rcases List.mem_cons.mp (hs e (List.mem_cons_of_mem _ he)) with h | h
          · omega
          · exact h
        · refine hk e (List.mem_cons_of_mem _ he) (fun hm => ?_) q (Or.inr ?_) hlt (fun x hx => ?_)
          · rcases List.mem_cons.mp hm with h | h
            · have := hC1 e he
              omega
            · exact hn h
          · rcases hq with rfl | hq
            · exact List.mem_cons_self
            · exact List.mem_cons_of_mem _ hq
          · rcases List.mem_cons.mp hx with rfl | hx
            · rcases hq with rfl | hq
              · omega
              · have := hD1 q hq
                omega
            · exact hno x hx
    · right
      refine ⟨hk c List.mem_cons_self hc p (Or.inl rfl) (hp c List.mem_cons_self) (fun d hd => ?_), ih hC2 (fun e he => hp e (List.mem_cons_of_mem _ he)) hD (fun d hd => ?_) (fun e he hn q hq hlt hno => hk e (List.mem_cons_of_mem _ he) hn q hq hlt hno)⟩
      · rcases List.mem_cons.mp (hs d hd) with h | h
        · rw [h] at hd; exact absurd hd hc
        · have := hC1 d h
          omega
      · rcases List.mem_cons.mp (hs d hd) with h | h
        · rw [h] at hd; exact absurd hd hc
        · exact h
/-- a candidate put in -/
theorem zpl_mem {t : Int} {l : List Int} (hs : l.Pairwise (· < ·)) : (zpl t l < l.length ∧ l.getD (zpl t l) 0 = t) ↔ t ∈ l := by
  constructor
  · rintro ⟨h1, h2⟩
    rw [List.getD_eq_getElem?_getD, List.getElem?_eq_getElem h1] at h2
    rw [← h2]
    exact List.getElem_mem h1
  · intro h
    induction l with
    | nil => cases h
    | cons x l ih =>
      obtain ⟨h1, h2⟩ := List.pairwise_cons.mp hs
      rcases List.mem_cons.mp h with rfl | h
      · unfold zpl
        rw [if_neg (by omega)]
        exact ⟨by simp, by simp⟩
      · have hx := h1 t h
        obtain ⟨i1, i2⟩ := ih h2 h
        unfold zpl
        rw [if_pos hx]
        exact ⟨by rw [List.length_cons]; omega, by rw [List.getD_cons_succ]; exact i2⟩
theorem zinu_lt {t : Int} {l : List Int} (hs : l.Pairwise (· < ·)) : (zinu t l).Pairwise (· < ·) ∧ ∀ x, x ∈ zinu t l ↔ x = t ∨ x ∈ l := by
  unfold zinu
  by_cases hm : zpl t l < l.length ∧ l.getD (zpl t l) 0 = t
  · rw [if_pos hm]
    have := (zpl_mem hs).mp hm
    exact ⟨hs, fun x => ⟨Or.inr, fun h => h.elim (fun e => e ▸ this) id⟩⟩
  · rw [if_neg hm]
    have hn : t ∉ l := fun h => hm ((zpl_mem hs).mpr h)
    clear hm
    induction l with
    | nil => exact ⟨by simp [zpl], fun x => by simp [zpl]⟩
    | cons y l ih =>
      obtain ⟨h1, h2⟩ := List.pairwise_cons.mp hs
      obtain ⟨i1, i2⟩ := ih h2 (fun h => hn (List.mem_cons_of_mem _ h))
      have hyt : y ≠ t := fun e => hn (e ▸ List.mem_cons_self)
      unfold zpl
      by_cases hy : y < t
      · rw [if_pos hy, List.take_succ_cons, List.drop_succ_cons, List.cons_append]
        refine ⟨List.pairwise_cons.mpr ⟨fun x hx => ?_, i1⟩, fun x => ?_⟩
        · rcases (i2 x).mp hx with rfl | hx
          · exact hy
          · exact h1 x hx
        · rw [List.mem_cons, i2 x, List.mem_cons]
          constructor
          · rintro (h | h | h)
            · exact Or.inr (Or.inl h)
            · exact Or.inl h
            · exact Or.inr (Or.inr h)
          · rintro (h | h | h)
            · exact Or.inr (Or.inl h)
            · exact Or.inl h
            · exact Or.inr (Or.inr h)
      · rw [if_neg hy, List.take_zero, List.drop_zero, List.nil_append]
        refine ⟨List.pairwise_cons.mpr ⟨fun x hx => ?_, hs⟩, fun x => List.mem_cons⟩
        rcases List.mem_cons.mp hx with rfl | hx
        · omega
        · have := h1 x hx
          omega
theorem zinu_ln (t : Int) (l : List Int) : (zinu t l).length ≤ l.length + 1 := by
  unfold zinu
  split
  · omega
  · rw [zins_len _ _ _ (zpl_le t l)]
    exact Nat.le_refl _
