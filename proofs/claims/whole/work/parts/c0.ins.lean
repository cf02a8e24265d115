/-! what is found: sorted lists -/
/-- how many stand below t -/
def zpl (t : Int) : List Int → Nat
  | [] => 0
  | x :: l => if x < t then zpl t l + 1 else 0
theorem zpl_le (t : Int) : ∀ l : List Int, zpl t l ≤ l.length := by
  intro l
  induction l with
  | nil => exact Nat.le_refl _
  | cons x l ih => unfold zpl; split <;> simp <;> omega
theorem zpl_lt (t : Int) : ∀ (l : List Int) (j : Nat), j < zpl t l → l.getD j 0 < t := by
  intro l
  induction l with
  | nil => intro j hj; exact absurd hj (Nat.not_lt_zero _)
  | cons x l ih =>
    intro j hj
    unfold zpl at hj
    split at hj
    · cases j with
      | zero => simpa using ‹x < t›
      | succ j => rw [List.getD_cons_succ]; exact ih j (by omega)
    · omega
theorem zpl_ge (t : Int) : ∀ l : List Int, zpl t l < l.length → t ≤ l.getD (zpl t l) 0 := by
  intro l
  induction l with
  | nil => intro hj; exact absurd hj (Nat.not_lt_zero _)
  | cons x l ih =>
    intro hj
    unfold zpl at hj ⊢
    split at hj
    · rename_i hx
      rw [if_pos hx, List.getD_cons_succ]
      exact ih (by simpa using hj)
    · rename_i hx
      rw [if_neg hx]
      simp
      omega
/-- t put in, once -/
def zinu (t : Int) (l : List Int) : List Int := if zpl t l < l.length ∧ l.getD (zpl t l) 0 = t then l else l.take (zpl t l) ++ t :: l.drop (zpl t l)
def zso (l : List Int) : Prop := ∀ i j : Nat, i ≤ j → j < l.length → l.getD i 0 ≤ l.getD j 0
theorem zins_getD (l : List Int) (p : Nat) (t : Int) (hp : p ≤ l.length) (j : Nat) : (l.take p ++ t :: l.drop p).getD j 0 = if j < p then l.getD j 0 else if j = p then t else l.getD (j - 1) 0 := by
  have hl : (l.take p).length = p := by rw [List.length_take]; omega
  rw [List.getD_eq_getElem?_getD, List.getElem?_append]
  rw [hl]
  split
  · rename_i h1
    rw [List.getElem?_take_of_lt h1, List.getD_eq_getElem?_getD]
  · rename_i h1
    split
    · rename_i h2
      subst h2
      simp
    · rename_i h2
      rw [show j - p = (j - 1 - p) + 1 by omega, List.getElem?_cons_succ, List.getElem?_drop, List.getD_eq_getElem?_getD, show p + (j - 1 - p) = j - 1 by omega]
theorem zins_len (l : List Int) (p : Nat) (t : Int) (hp : p ≤ l.length) : (l.take p ++ t :: l.drop p).length = l.length + 1 := by
  rw [List.length_append, List.length_cons, List.length_take, List.length_drop]
  omega
theorem zinu_so {t : Int} {l : List Int} (hs : zso l) : zso (zinu t l) := by
  unfold zinu
  split
  · exact hs
  · have hp := zpl_le t l
    intro i j hij hj
    rw [zins_len _ _ _ hp] at hj
    rw [zins_getD _ _ _ hp, zins_getD _ _ _ hp]
    have h1 : ∀ k, k < zpl t l → l.getD k 0 ≤ t := fun k hk => Int.le_of_lt (zpl_lt t l k hk)
    have h2 : ∀ k, zpl t l ≤ k → k < l.length → t ≤ l.getD k 0 := fun k hk hkl => Int.le_trans (zpl_ge t l (by omega)) (hs _ _ hk hkl)
    by_cases a1 : i < zpl t l
    · rw [if_pos a1]
      by_cases b1 : j < zpl t l
      · rw [if_pos b1]; exact hs _ _ hij (by omega)
      · rw [if_neg b1]
        by_cases b2 : j = zpl t l
        · rw [if_pos b2]; exact h1 _ a1
        · rw [if_neg b2]; exact hs _ _ (by omega) (by omega)
    · rw [if_neg a1, if_neg (show ¬ j < zpl t l by omega)]
      by_cases a2 : i = zpl t l
      · rw [if_pos a2]
        by_cases b2 : j = zpl t l
        · rw [if_pos b2]; exact Int.le_refl _
        · rw [if_neg b2]; exact h2 _ (by omega) (by omega)
      · rw [if_neg a2, if_neg (show ¬ j = zpl t l by omega)]
        exact hs _ _ (by omega) (by omega)
theorem zinu_len (t : Int) (l : List Int) : (zinu t l).length ≤ l.length + 1 := by
  unfold zinu
  split
  · omega
  · rw [zins_len _ _ _ (zpl_le t l)]; exact Nat.le_refl _
theorem zinu_r {t B : Int} {l : List Int} (ht : -B ≤ t ∧ t ≤ B) (hl : ∀ j, j < l.length → -B ≤ l.getD j 0 ∧ l.getD j 0 ≤ B) : ∀ j, j < (zinu t l).length → -B ≤ (zinu t l).getD j 0 ∧ (zinu t l).getD j 0 ≤ B := by
  unfold zinu
  split
  · exact hl
  · have hp := zpl_le t l
    intro j hj
    rw [zins_len _ _ _ hp] at hj
    rw [zins_getD _ _ _ hp]
    split
    · exact hl j (by omega)
    · split
      · exact ht
      · exact hl (j - 1) (by omega)
/-- the places i + 1 .. n hold what stood one before -/
def zsh (y : Nat → Int) (i n : Nat) (j : Nat) : Int := if i < j ∧ j ≤ n then y (j - 1) else y j
theorem zsh_n (y : Nat → Int) (n : Nat) : zsh y n n = y := by
  funext j
  unfold zsh
  rw [if_neg (by omega)]
theorem zsh_up (y : Nat → Int) (i n : Nat) (h1 : 1 ≤ i) (h2 : i ≤ n) : va_up (zsh y i n) i (zsh y i n (i - 1)) = zsh y (i - 1) n := by
  funext j
  by_cases hj : j = i
  · subst hj
    rw [va_up_self]
    unfold zsh
    rw [if_neg (by omega), if_pos (by omega)]
  · rw [va_up_ne _ _ hj]
    unfold zsh
    by_cases h3 : i < j ∧ j ≤ n
    · rw [if_pos h3, if_pos (by omega)]
    · rw [if_neg h3, if_neg (by omega)]
theorem zsh_ins {l : List Int} {y : Nat → Int} {p : Nat} {t : Int} (hp : p ≤ l.length) (hy : ∀ j, j < l.length → y j = l.getD j 0) : ∀ j, j < (l.take p ++ t :: l.drop p).length → va_up (zsh y p l.length) p t j = (l.take p ++ t :: l.drop p).getD j 0 := by
  intro j hj
  rw [zins_len _ _ _ hp] at hj
  rw [zins_getD _ _ _ hp]
  by_cases h1 : j = p
  · subst h1
    rw [va_up_self, if_neg (by omega), if_pos rfl]
  · rw [va_up_ne _ _ h1]
    unfold zsh
    by_cases h2 : j < p
    · rw [if_neg (by omega), if_pos h2]
      exact hy j (by omega)
    · rw [if_pos (by omega), if_neg h2, if_neg h1]
      exact hy (j - 1) (by omega)
