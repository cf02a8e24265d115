/-! the date of a day -/
def zv_i (n : Int) : Int := (n + 719468) % 146097
def zv_y (n : Int) : Int := (zv_i n - zv_i n / 1460 + zv_i n / 36524 - zv_i n / 146096) / 365
def zv_q (n : Int) : Int := zv_i n - (365 * zv_y n + zv_y n / 4 - zv_y n / 100)
def zv_k (n : Int) : Int := (5 * zv_q n + 2) / 153
def zcM (n : Int) : Int := if zv_k n < 10 then zv_k n + 3 else zv_k n - 9
def zcD (n : Int) : Int := zv_q n - (153 * zv_k n + 2) / 5 + 1
def zcY (n : Int) : Int := (n + 719468) / 146097 * 400 + zv_y n + (if zcM n ≤ 2 then 1 else 0)
theorem zc1 (n : Int) : 0 ≤ zv_i n ∧ zv_i n ≤ 146096 := by unfold zv_i; omega
def zallN (f : Nat → Bool) : Nat → Bool
  | 0 => true
  | n + 1 => f n && zallN f n
theorem zallN_spec {f : Nat → Bool} : ∀ {n : Nat}, zallN f n = true → ∀ k, k < n → f k = true := by
  intro n
  induction n with
  | zero => intro _ k hk; omega
  | succ n ih =>
    intro h k hk
    simp only [zallN, Bool.and_eq_true] at h
    by_cases e : k = n
    · rw [e]; exact h.1
    · exact ih h.2 k (by omega)
/-- the year in a cycle of 400, by its days: tried at every day -/
def zv_c (i : Nat) : Bool := Nat.ble ((i + i / 36524 - i / 1460 - i / 146096) / 365) 399 && Nat.ble (365 * ((i + i / 36524 - i / 1460 - i / 146096) / 365) + (i + i / 36524 - i / 1460 - i / 146096) / 365 / 4) (i + (i + i / 36524 - i / 1460 - i / 146096) / 365 / 100) && Nat.ble (i + (i + i / 36524 - i / 1460 - i / 146096) / 365 / 100) (365 + 365 * ((i + i / 36524 - i / 1460 - i / 146096) / 365) + (i + i / 36524 - i / 1460 - i / 146096) / 365 / 4) && (!Nat.beq (i + (i + i / 36524 - i / 1460 - i / 146096) / 365 / 100) (365 + 365 * ((i + i / 36524 - i / 1460 - i / 146096) / 365) + (i + i / 36524 - i / 1460 - i / 146096) / 365 / 4) || (Nat.beq (((i + i / 36524 - i / 1460 - i / 146096) / 365 + 1) % 4) 0 && (!Nat.beq (((i + i / 36524 - i / 1460 - i / 146096) / 365 + 1) % 100) 0 || Nat.beq (((i + i / 36524 - i / 1460 - i / 146096) / 365 + 1) % 400) 0)))
theorem zv_all : zallN (fun a => zallN (fun b => zv_c (a * 773 + b)) 773) 189 = true := by decide +kernel
theorem zc2 (n : Int) : 0 ≤ zv_y n ∧ zv_y n ≤ 399 ∧ 0 ≤ zv_q n ∧ zv_q n ≤ 365 ∧ (zv_q n = 365 → (zv_y n + 1) % 4 = 0 ∧ ((zv_y n + 1) % 100 ≠ 0 ∨ (zv_y n + 1) % 400 = 0)) := by
  have h := zc1 n
  unfold zv_q zv_y
  generalize zv_i n = i at *
  obtain ⟨j, rfl⟩ : ∃ j : Nat, i = j := ⟨i.toNat, by omega⟩
  have h1 := zallN_spec (zallN_spec zv_all (j / 773) (by omega)) (j % 773) (by omega)
  have e1 : j / 773 * 773 + j % 773 = j := by omega
  rw [e1] at h1
  have e2 : ((j : Int) - j / 1460 + j / 36524 - j / 146096) / 365 = (((j + j / 36524 - j / 1460 - j / 146096) / 365 : Nat) : Int) := by omega
  rw [e2]
  unfold zv_c at h1
  generalize (j + j / 36524 - j / 1460 - j / 146096) / 365 = y at *
  simp only [Bool.and_eq_true, Bool.or_eq_true, Bool.not_eq_true', Nat.ble_eq, Nat.beq_eq] at h1
  obtain ⟨⟨⟨h2, h3⟩, h4⟩, h5⟩ := h1
  refine ⟨by omega, by omega, by omega, by omega, fun hq => ?_⟩
  rcases h5 with h5 | ⟨h5, h6⟩
  · have : Nat.beq (j + y / 100) (365 + 365 * y + y / 4) = true := by
      rw [Nat.beq_eq]
      omega
    rw [this] at h5
    cases h5
  · refine ⟨by omega, ?_⟩
    rcases h6 with h6 | h6
    · left
      intro h7
      have : Nat.beq ((y + 1) % 100) 0 = true := by
        rw [Nat.beq_eq]
        omega
      rw [this] at h6
      cases h6
    · right
      omega
theorem zc3 (n : Int) : 0 ≤ zv_k n ∧ zv_k n ≤ 11 ∧ 1 ≤ zcM n ∧ zcM n ≤ 12 ∧ 1 ≤ zcD n ∧ zcD n ≤ 31 := by
  have h := zc2 n
  unfold zcD zcM zv_k
  generalize zv_q n = q at *
  refine ⟨by omega, by omega, by split <;> omega, by split <;> omega, by omega, by omega⟩
/-- the date is the day's -/
theorem zc4 (n : Int) : zdays (zcY n) (zcM n) 1 = n - zcD n + 1 := by
  have h1 := zc1 n
  have h2 := zc2 n
  have h3 := zc3 n
  unfold zcY zdays zcD
  have hi : zv_i n = (n + 719468) - (n + 719468) / 146097 * 146097 := by unfold zv_i; omega
  have hq : zv_q n = zv_i n - (365 * zv_y n + zv_y n / 4 - zv_y n / 100) := rfl
  have hM : zcM n = if zv_k n < 10 then zv_k n + 3 else zv_k n - 9 := rfl
  generalize (n + 719468) / 146097 = c at *
  generalize zv_y n = y at *
  generalize zv_k n = k at *
  have f1 : (c * 400 + y) / 4 = c * 100 + y / 4 := by omega
  have f2 : (c * 400 + y) / 100 = c * 4 + y / 100 := by omega
  have f3 : (c * 400 + y) / 400 = c := by omega
  by_cases hk : k < 10
  · rw [if_pos hk] at hM
    rw [hM, if_neg (by omega), if_neg (by omega), Int.add_zero, f1, f2, f3, show k + 3 - 3 = k by omega]
    omega
  · rw [if_neg hk] at hM
    rw [hM, if_pos (by omega), if_pos (by omega), Int.add_sub_cancel, f1, f2, f3, show k - 9 + 9 = k by omega]
    omega
/-- ... and the month's behind begins later -/
theorem zml (y m : Int) (hm : 1 ≤ m ∧ m ≤ 12) : zdn y m 1 - zdays y m 1 = if m = 2 then (if y % 4 = 0 ∧ (y % 100 ≠ 0 ∨ y % 400 = 0) then 29 else 28) else if m = 4 ∨ m = 6 ∨ m = 9 ∨ m = 11 then 30 else 31 := by
  rcases zm12 hm with rfl | rfl | rfl | rfl | rfl | rfl | rfl | rfl | rfl | rfl | rfl | rfl <;> unfold zdn zdays <;> (repeat' split) <;> omega
theorem zc5 (n : Int) : n < zdn (zcY n) (zcM n) 1 := by
  have h2 := zc2 n
  have h3 := zc3 n
  have h4 := zc4 n
  have h5 := zml (zcY n) (zcM n) (by omega)
  have hY : zcY n = (n + 719468) / 146097 * 400 + zv_y n + (if zcM n ≤ 2 then 1 else 0) := rfl
  have hM : zcM n = if zv_k n < 10 then zv_k n + 3 else zv_k n - 9 := rfl
  have hk : zv_k n = (5 * zv_q n + 2) / 153 := rfl
  have hD : zcD n = zv_q n - (153 * zv_k n + 2) / 5 + 1 := rfl
  generalize (n + 719468) / 146097 = c at *
  generalize zcY n = Y at *
  generalize zv_y n = y at *
  generalize zcM n = m at *
  generalize zcD n = d at *
  generalize zv_q n = q at *
  generalize zv_k n = k at *
  have hk12 : k = 0 ∨ k = 1 ∨ k = 2 ∨ k = 3 ∨ k = 4 ∨ k = 5 ∨ k = 6 ∨ k = 7 ∨ k = 8 ∨ k = 9 ∨ k = 10 ∨ k = 11 := by omega
  rcases hk12 with rfl | rfl | rfl | rfl | rfl | rfl | rfl | rfl | rfl | rfl | rfl | rfl <;> simp at hM <;> subst hM <;> simp at h5 hY <;> (first | omega | ((repeat' split at h5) <;> omega))
theorem zd_mono {y z : Int} (h : y < z) : zdays (y + 1) 1 1 ≤ zdays z 1 1 := by
  unfold zdays
  simp only [show (1 : Int) < 3 by decide, if_true]
  omega
theorem zd_m {y m k : Int} (hm : 1 ≤ m ∧ m ≤ k) (hk : k ≤ 12) : zdays y m 1 ≤ zdays y k 1 := by
  rcases zm12 (m := m) (by omega) with rfl | rfl | rfl | rfl | rfl | rfl | rfl | rfl | rfl | rfl | rfl | rfl <;> rcases zm12 (m := k) (by omega) with rfl | rfl | rfl | rfl | rfl | rfl | rfl | rfl | rfl | rfl | rfl | rfl <;> first | (exfalso; omega) | (unfold zdays; simp only [reduceIte]; omega) | (unfold zdays; (repeat' split) <;> omega)
theorem zd_n {y m : Int} (hm : 1 ≤ m ∧ m ≤ 12) : zdn y m 1 ≤ zdays (y + 1) 1 1 := by
  unfold zdn
  split
  · exact Int.le_refl _
  · have h1 := zd_m (y := y) (m := m + 1) (k := 12) (by omega) (by omega)
    have h2 : zdays y 12 1 ≤ zdays (y + 1) 1 1 := by
      unfold zdays
      (repeat' split) <;> omega
    omega
theorem zc6 (n : Int) : zdays (zcY n) 1 1 ≤ n ∧ n < zdays (zcY n + 1) 1 1 := by
  have h3 := zc3 n
  have h4 := zc4 n
  have h5 := zc5 n
  have h6 := zd_m (y := zcY n) (m := 1) (k := zcM n) (by omega) (by omega)
  have h7 := zd_n (y := zcY n) (m := zcM n) (by omega)
  omega
theorem zc7 {n : Int} (hn : -719528 ≤ n ∧ n ≤ 2932896) : 0 ≤ zcY n ∧ zcY n ≤ 9999 := by
  have h6 := zc6 n
  constructor
  · apply Int.not_lt.mp
    intro h9
    have := zd_mono (y := zcY n) (z := 0) h9
    have e : zdays 0 1 1 = -719528 := by decide
    omega
  · apply Int.not_lt.mp
    intro h9
    have e : zdays 10000 1 1 = 2932897 := by decide
    by_cases h8 : zcY n = 10000
    · rw [h8] at h6
      omega
    · have := zd_mono (y := 10000) (z := zcY n) (by omega)
      have e2 : zdays (10000 + 1) 1 1 = 2932897 + 366 := by decide
      omega
