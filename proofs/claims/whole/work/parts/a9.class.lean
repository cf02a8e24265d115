/-! the class: its object, what holds, its image, what is found (cells 0, 5 .. 11), as numbers -/
def cfs0 (φ : Nat → Int) : List Value := [.ref 1, .ref 3, .ref 4, zi (φ 3), .ref 5, .ref 7, .ref 11, zi (φ 7)]
def cfs5 (φ : Nat → Int) : List Value := [.ref 6, zi (φ 1)]
def cfs7 (φ : Nat → Int) : List Value := [.ref 8, zi (φ 1), zi (φ 2), zi (φ 3), .ref 9, .ref 10, zi (φ 6), zi (φ 7)]
def ccell (G : Nat → Nat → Int) (a : Nat) : zE := match a with
  | 0 => .inr (0, cfs0 (G 0))
  | 5 => .inr (3, cfs5 (G 5))
  | 6 => zA 2 13 (G 6)
  | 7 => .inr (4, cfs7 (G 7))
  | 8 => zA 2 2927 (G 8)
  | 9 => zA 2 512 (G 9)
  | 10 => zA 2 364 (G 10)
  | 11 => zLA 28 (G 11)
  | _ => z_jk
def ch (h : zH) (G : Nat → Nat → Int) : zH := (h.1, h.2.1, fun a => if a = 0 ∨ (5 ≤ a ∧ a ≤ 11) then ccell G a else h.2.2.1 a, h.2.2.2)
section ZK
variable {h : zH} {G : Nat → Nat → Int} {x : Int} {y φ : Nat → Int}
theorem cat_o {a : Nat} (ha : ¬ (a = 0 ∨ (5 ≤ a ∧ a ≤ 11))) : z_at (ch h G) (.ref a) = z_at h (.ref a) := by
  show (if a = 0 ∨ (5 ≤ a ∧ a ≤ 11) then ccell G a else h.2.2.1 a) = h.2.2.1 a
  rw [if_neg ha]
theorem cat_k (k : Nat) : z_at (ch h G) (.retAddr k) = z_at h (.retAddr k) := rfl
theorem ch_1 : (ch h G).1 = h.1 := rfl
theorem ch_2 : (ch h G).2.1 = h.2.1 := rfl
theorem cpu_g (a : Nat) (ha : a = 0 ∨ (5 ≤ a ∧ a ≤ 11)) (φ : Nat → Int) : z_pu (ch h G) a (ccell (va_up G a φ) a) = ch h (va_up G a φ) := by
  unfold z_pu ch
  congr 3
  funext b
  by_cases hb : b = a
  · subst hb
    rw [va_up_self, if_pos ha]
  · rw [va_up_ne _ _ hb]
    dsimp only
    split
    · have : va_up G a φ b = G b := va_up_ne _ _ hb
      unfold ccell
      split <;> simp only [this]
    · rfl
theorem cpu_o {a : Nat} {e : zE} (ha : ¬ (a = 0 ∨ (5 ≤ a ∧ a ≤ 11))) : z_pu (ch h G) a e = ch (z_pu h a e) G := by
  unfold z_pu ch
  congr 3
  funext b
  by_cases hb : b = a
  · subst hb
    rw [va_up_self, if_neg ha]
    exact (va_up_self _ _ _).symm
  · rw [va_up_ne _ _ hb]
    dsimp only
    split
    · rfl
    · exact (va_up_ne _ _ hb).symm
theorem cat_0 : z_at (ch h G) (.ref 0) = .inr (0, cfs0 (G 0)) := rfl
theorem cpu_0 : z_pu (ch h G) 0 (.inr (0, cfs0 φ)) = ch h (va_up G 0 φ) := by
  have := cpu_g (h := h) (G := G) 0 (by omega) φ
  rw [← this]
  show _ = z_pu (ch h G) 0 (.inr (0, cfs0 (va_up G 0 φ 0)))
  rw [va_up_self]
theorem cgf0_0 {φ : Nat → Int} : z_gf (.inr (0, cfs0 φ)) 0 0 = some (.ref 1) := rfl
theorem cgf0_1 {φ : Nat → Int} : z_gf (.inr (0, cfs0 φ)) 0 1 = some (.ref 3) := rfl
theorem cgf0_2 {φ : Nat → Int} : z_gf (.inr (0, cfs0 φ)) 0 2 = some (.ref 4) := rfl
theorem cgf0_3 {φ : Nat → Int} : z_gf (.inr (0, cfs0 φ)) 0 3 = some (zi (φ 3)) := rfl
theorem cpf0_3 {φ : Nat → Int} : z_pf (.inr (0, cfs0 φ)) 0 3 (zi x) = some (.inr (0, cfs0 (va_up φ 3 x))) := rfl
theorem cgf0_4 {φ : Nat → Int} : z_gf (.inr (0, cfs0 φ)) 0 4 = some (.ref 5) := rfl
theorem cgf0_5 {φ : Nat → Int} : z_gf (.inr (0, cfs0 φ)) 0 5 = some (.ref 7) := rfl
theorem cgf0_6 {φ : Nat → Int} : z_gf (.inr (0, cfs0 φ)) 0 6 = some (.ref 11) := rfl
theorem cgf0_7 {φ : Nat → Int} : z_gf (.inr (0, cfs0 φ)) 0 7 = some (zi (φ 7)) := rfl
theorem cpf0_7 {φ : Nat → Int} : z_pf (.inr (0, cfs0 φ)) 0 7 (zi x) = some (.inr (0, cfs0 (va_up φ 7 x))) := rfl
theorem cob_0 {φ : Nat → Int} : z_isob (.inr (0, cfs0 φ)) 0 = true := rfl
theorem cat_5 : z_at (ch h G) (.ref 5) = .inr (3, cfs5 (G 5)) := rfl
theorem cpu_5 : z_pu (ch h G) 5 (.inr (3, cfs5 φ)) = ch h (va_up G 5 φ) := by
  have := cpu_g (h := h) (G := G) 5 (by omega) φ
  rw [← this]
  show _ = z_pu (ch h G) 5 (.inr (3, cfs5 (va_up G 5 φ 5)))
  rw [va_up_self]
theorem cgf5_0 {φ : Nat → Int} : z_gf (.inr (3, cfs5 φ)) 3 0 = some (.ref 6) := rfl
theorem cgf5_1 {φ : Nat → Int} : z_gf (.inr (3, cfs5 φ)) 3 1 = some (zi (φ 1)) := rfl
theorem cpf5_1 {φ : Nat → Int} : z_pf (.inr (3, cfs5 φ)) 3 1 (zi x) = some (.inr (3, cfs5 (va_up φ 1 x))) := rfl
theorem cob_5 {φ : Nat → Int} : z_isob (.inr (3, cfs5 φ)) 3 = true := rfl
theorem cat_6 : z_at (ch h G) (.ref 6) = zA 2 13 (G 6) := rfl
theorem cpu_6 : z_pu (ch h G) 6 (zA 2 13 y) = ch h (va_up G 6 y) := by
  have := cpu_g (h := h) (G := G) 6 (by omega) y
  rw [← this]
  show _ = z_pu (ch h G) 6 (zA 2 13 (va_up G 6 y 6))
  rw [va_up_self]
theorem cat_7 : z_at (ch h G) (.ref 7) = .inr (4, cfs7 (G 7)) := rfl
theorem cpu_7 : z_pu (ch h G) 7 (.inr (4, cfs7 φ)) = ch h (va_up G 7 φ) := by
  have := cpu_g (h := h) (G := G) 7 (by omega) φ
  rw [← this]
  show _ = z_pu (ch h G) 7 (.inr (4, cfs7 (va_up G 7 φ 7)))
  rw [va_up_self]
theorem cgf7_0 {φ : Nat → Int} : z_gf (.inr (4, cfs7 φ)) 4 0 = some (.ref 8) := rfl
theorem cgf7_1 {φ : Nat → Int} : z_gf (.inr (4, cfs7 φ)) 4 1 = some (zi (φ 1)) := rfl
theorem cpf7_1 {φ : Nat → Int} : z_pf (.inr (4, cfs7 φ)) 4 1 (zi x) = some (.inr (4, cfs7 (va_up φ 1 x))) := rfl
theorem cgf7_2 {φ : Nat → Int} : z_gf (.inr (4, cfs7 φ)) 4 2 = some (zi (φ 2)) := rfl
theorem cpf7_2 {φ : Nat → Int} : z_pf (.inr (4, cfs7 φ)) 4 2 (zi x) = some (.inr (4, cfs7 (va_up φ 2 x))) := rfl
theorem cgf7_3 {φ : Nat → Int} : z_gf (.inr (4, cfs7 φ)) 4 3 = some (zi (φ 3)) := rfl
theorem cpf7_3 {φ : Nat → Int} : z_pf (.inr (4, cfs7 φ)) 4 3 (zi x) = some (.inr (4, cfs7 (va_up φ 3 x))) := rfl
theorem cgf7_4 {φ : Nat → Int} : z_gf (.inr (4, cfs7 φ)) 4 4 = some (.ref 9) := rfl
theorem cgf7_5 {φ : Nat → Int} : z_gf (.inr (4, cfs7 φ)) 4 5 = some (.ref 10) := rfl
theorem cgf7_6 {φ : Nat → Int} : z_gf (.inr (4, cfs7 φ)) 4 6 = some (zi (φ 6)) := rfl
theorem cpf7_6 {φ : Nat → Int} : z_pf (.inr (4, cfs7 φ)) 4 6 (zi x) = some (.inr (4, cfs7 (va_up φ 6 x))) := rfl
theorem cgf7_7 {φ : Nat → Int} : z_gf (.inr (4, cfs7 φ)) 4 7 = some (zi (φ 7)) := rfl
theorem cpf7_7 {φ : Nat → Int} : z_pf (.inr (4, cfs7 φ)) 4 7 (zi x) = some (.inr (4, cfs7 (va_up φ 7 x))) := rfl
theorem cob_7 {φ : Nat → Int} : z_isob (.inr (4, cfs7 φ)) 4 = true := rfl
theorem cat_8 : z_at (ch h G) (.ref 8) = zA 2 2927 (G 8) := rfl
theorem cpu_8 : z_pu (ch h G) 8 (zA 2 2927 y) = ch h (va_up G 8 y) := by
  have := cpu_g (h := h) (G := G) 8 (by omega) y
  rw [← this]
  show _ = z_pu (ch h G) 8 (zA 2 2927 (va_up G 8 y 8))
  rw [va_up_self]
theorem cat_9 : z_at (ch h G) (.ref 9) = zA 2 512 (G 9) := rfl
theorem cpu_9 : z_pu (ch h G) 9 (zA 2 512 y) = ch h (va_up G 9 y) := by
  have := cpu_g (h := h) (G := G) 9 (by omega) y
  rw [← this]
  show _ = z_pu (ch h G) 9 (zA 2 512 (va_up G 9 y 9))
  rw [va_up_self]
theorem cat_10 : z_at (ch h G) (.ref 10) = zA 2 364 (G 10) := rfl
theorem cpu_10 : z_pu (ch h G) 10 (zA 2 364 y) = ch h (va_up G 10 y) := by
  have := cpu_g (h := h) (G := G) 10 (by omega) y
  rw [← this]
  show _ = z_pu (ch h G) 10 (zA 2 364 (va_up G 10 y 10))
  rw [va_up_self]
theorem cat_11 : z_at (ch h G) (.ref 11) = zLA 28 (G 11) := rfl
theorem cpu_11 : z_pu (ch h G) 11 (zLA 28 y) = ch h (va_up G 11 y) := by
  have := cpu_g (h := h) (G := G) 11 (by omega) y
  rw [← this]
  show _ = z_pu (ch h G) 11 (zLA 28 (va_up G 11 y 11))
  rw [va_up_self]
theorem ch_mh {f : Nat → Int} {g : Nat → Nat → Int} : mh (ch h G) f g = ch (mh h f g) G := by
  unfold mh ch
  congr 3
  funext b
  dsimp only
  by_cases hb : b = 0 ∨ (5 ≤ b ∧ b ≤ 11)
  · rw [if_neg (by omega), if_pos hb, if_pos hb]
  · rw [if_neg hb, if_neg hb]
theorem ch_ch {G' : Nat → Nat → Int} : ch (ch h G) G' = ch h G' := by
  unfold ch
  congr 3
  funext b
  dsimp only
  split <;> rfl
/-- what agrees at these cells is of the same form -/
theorem ch_of {K : zH} (hK : ∀ a, a = 0 ∨ (5 ≤ a ∧ a ≤ 11) → z_at K (.ref a) = z_at (ch h G) (.ref a)) : ch K G = K := by
  obtain ⟨k1, k2, k3, k4⟩ := K
  unfold ch
  congr 3
  funext b
  dsimp only
  split
  · rename_i hb
    have := hK b hb
    have e : z_at (ch h G) (.ref b) = ccell G b := by
      show (if b = 0 ∨ (5 ≤ b ∧ b ≤ 11) then ccell G b else h.2.2.1 b) = _
      rw [if_pos hb]
    rw [e] at this
    exact this.symm
  · rfl
theorem mh_of {K : zH} {f : Nat → Int} {g : Nat → Nat → Int} (hK : ∀ a, 21 ≤ a ∧ a ≤ 61 → z_at K (.ref a) = z_at (mh h f g) (.ref a)) : mh K f g = K := by
  obtain ⟨k1, k2, k3, k4⟩ := K
  unfold mh
  congr 3
  funext b
  dsimp only
  split
  · rename_i hb
    have := hK b hb
    have e : z_at (mh h f g) (.ref b) = mcell f g b := by
      show (if 21 ≤ b ∧ b ≤ 61 then mcell f g b else h.2.2.1 b) = _
      rw [if_pos hb]
    rw [e] at this
    exact this.symm
  · rfl
theorem mh_mh {f f' : Nat → Int} {g g' : Nat → Nat → Int} : mh (mh h f g) f' g' = mh h f' g' := by
  unfold mh
  congr 3
  funext b
  dsimp only
  split <;> rfl
end ZK
