/-! the reference: its object (cell 21) and its arrays (22 .. 61), as numbers -/
def mfs (f : Nat → Int) : List Value := [.ref 22, .ref 23, .ref 24, .ref 25, zi (f 4), .ref 26, zi (f 6), zi (f 7), .ref 27, .ref 28, zi (f 10), zi (f 11), zi (f 12), zi (f 13), zi (f 14), zi (f 15), .ref 29, .ref 30, .ref 31, .ref 32, .ref 33, .ref 34, .ref 35, .ref 36, .ref 37, .ref 38, .ref 39, .ref 40, zi (f 28), .ref 41, .ref 42, .ref 43, .ref 44, .ref 45, .ref 46, .ref 47, .ref 48, .ref 49, .ref 50, .ref 51, zi (f 40), zi (f 41), zi (f 42), zi (f 43), .ref 52, zi (f 45), zi (f 46), zi (f 47), .ref 53, .ref 54, .ref 55, .ref 56, .ref 57, .ref 58, .ref 59, .ref 60, zi (f 56), .ref 61, zi (f 58), zi (f 59), zi (f 60)]
def marr (a : Nat) (x : Nat → Int) : zE := match a with
  | 22 => zA 3 74 x
  | 23 => zA 3 50 x
  | 24 => zA 1 13 x
  | 25 => zA 1 8 x
  | 26 => zA 3 60 x
  | 27 => zA 1 60 x
  | 28 => zA 1 60 x
  | 29 => zA 1 3 x
  | 30 => zA 1 18 x
  | 31 => zA 1 18 x
  | 32 => zA 1 18 x
  | 33 => zA 1 18 x
  | 34 => zA 1 18 x
  | 35 => zA 1 18 x
  | 36 => zA 1 18 x
  | 37 => zA 1 18 x
  | 38 => zA 1 18 x
  | 39 => zA 1 18 x
  | 40 => zA 3 54 x
  | 41 => zA 1 4 x
  | 42 => zA 1 4 x
  | 43 => zA 1 4 x
  | 44 => zA 1 4 x
  | 45 => zA 1 4 x
  | 46 => zA 3 32 x
  | 47 => zA 4 4 x
  | 48 => zLA 4 x
  | 49 => zA 1 3 x
  | 50 => zLA 1224 x
  | 51 => zA 1 1224 x
  | 52 => zA 3 16 x
  | 53 => zA 1 9000 x
  | 54 => zA 1 1700 x
  | 55 => zA 1 64 x
  | 56 => zA 1 64 x
  | 57 => zA 4 64 x
  | 58 => zA 3 512 x
  | 59 => zLA 1700 x
  | 60 => zLA 1700 x
  | 61 => zLA 64 x
  | _ => z_jk
def mcell (f : Nat → Int) (g : Nat → Nat → Int) (a : Nat) : zE := if a = 21 then .inr (11, mfs f) else marr a (g a)
def mh (h : zH) (f : Nat → Int) (g : Nat → Nat → Int) : zH := (h.1, h.2.1, fun a => if 21 ≤ a ∧ a ≤ 61 then mcell f g a else h.2.2.1 a, h.2.2.2)
section ZM
variable {h : zH} {f : Nat → Int} {g : Nat → Nat → Int} {x : Int} {y : Nat → Int}
theorem mat_o {a : Nat} (ha : a < 21 ∨ 61 < a) : z_at (mh h f g) (.ref a) = z_at h (.ref a) := by
  show (if 21 ≤ a ∧ a ≤ 61 then mcell f g a else h.2.2.1 a) = h.2.2.1 a
  rw [if_neg (by omega)]
theorem mat_k (k : Nat) : z_at (mh h f g) (.retAddr k) = z_at h (.retAddr k) := rfl
theorem mat_21 : z_at (mh h f g) (.ref 21) = .inr (11, mfs f) := rfl
theorem mpu (a : Nat) (ha : 22 ≤ a ∧ a ≤ 61) (y : Nat → Int) : z_pu (mh h f g) a (marr a y) = mh h f (va_up g a y) := by
  unfold z_pu mh
  congr 3
  funext b
  by_cases hb : b = a
  · subst hb
    rw [va_up_self, if_pos (by omega)]
    unfold mcell
    rw [if_neg (by omega), va_up_self]
  · rw [va_up_ne _ _ hb]
    dsimp only
    split
    · unfold mcell
      rw [va_up_ne _ _ hb]
    · rfl
theorem mpu_21 {f' : Nat → Int} : z_pu (mh h f g) 21 (.inr (11, mfs f')) = mh h f' g := by
  unfold z_pu mh
  congr 3
  funext b
  by_cases hb : b = 21
  · subst hb
    rw [va_up_self]
    rfl
  · rw [va_up_ne _ _ hb]
    dsimp only
    split
    · unfold mcell
      rw [if_neg hb, if_neg hb]
    · rfl
theorem mpu_o {a : Nat} {e : zE} (ha : a < 21 ∨ 61 < a) : z_pu (mh h f g) a e = mh (z_pu h a e) f g := by
  unfold z_pu mh
  congr 3
  funext b
  by_cases hb : b = a
  · subst hb
    rw [va_up_self, if_neg (by omega)]
    exact (va_up_self _ _ _).symm
  · rw [va_up_ne _ _ hb]
    dsimp only
    split
    · rfl
    · exact (va_up_ne _ _ hb).symm
theorem mh_1 : (mh h f g).1 = h.1 := rfl
theorem mh_2 : (mh h f g).2.1 = h.2.1 := rfl
theorem mat_22 : z_at (mh h f g) (.ref 22) = zA 3 74 (g 22) := rfl
theorem mpu_22 : z_pu (mh h f g) 22 (zA 3 74 y) = mh h f (va_up g 22 y) := mpu 22 (by omega) y
theorem mat_23 : z_at (mh h f g) (.ref 23) = zA 3 50 (g 23) := rfl
theorem mpu_23 : z_pu (mh h f g) 23 (zA 3 50 y) = mh h f (va_up g 23 y) := mpu 23 (by omega) y
theorem mat_24 : z_at (mh h f g) (.ref 24) = zA 1 13 (g 24) := rfl
theorem mpu_24 : z_pu (mh h f g) 24 (zA 1 13 y) = mh h f (va_up g 24 y) := mpu 24 (by omega) y
theorem mat_25 : z_at (mh h f g) (.ref 25) = zA 1 8 (g 25) := rfl
theorem mpu_25 : z_pu (mh h f g) 25 (zA 1 8 y) = mh h f (va_up g 25 y) := mpu 25 (by omega) y
theorem mat_26 : z_at (mh h f g) (.ref 26) = zA 3 60 (g 26) := rfl
theorem mpu_26 : z_pu (mh h f g) 26 (zA 3 60 y) = mh h f (va_up g 26 y) := mpu 26 (by omega) y
theorem mat_27 : z_at (mh h f g) (.ref 27) = zA 1 60 (g 27) := rfl
theorem mpu_27 : z_pu (mh h f g) 27 (zA 1 60 y) = mh h f (va_up g 27 y) := mpu 27 (by omega) y
theorem mat_28 : z_at (mh h f g) (.ref 28) = zA 1 60 (g 28) := rfl
theorem mpu_28 : z_pu (mh h f g) 28 (zA 1 60 y) = mh h f (va_up g 28 y) := mpu 28 (by omega) y
theorem mat_29 : z_at (mh h f g) (.ref 29) = zA 1 3 (g 29) := rfl
theorem mpu_29 : z_pu (mh h f g) 29 (zA 1 3 y) = mh h f (va_up g 29 y) := mpu 29 (by omega) y
theorem mat_30 : z_at (mh h f g) (.ref 30) = zA 1 18 (g 30) := rfl
theorem mpu_30 : z_pu (mh h f g) 30 (zA 1 18 y) = mh h f (va_up g 30 y) := mpu 30 (by omega) y
theorem mat_31 : z_at (mh h f g) (.ref 31) = zA 1 18 (g 31) := rfl
theorem mpu_31 : z_pu (mh h f g) 31 (zA 1 18 y) = mh h f (va_up g 31 y) := mpu 31 (by omega) y
theorem mat_32 : z_at (mh h f g) (.ref 32) = zA 1 18 (g 32) := rfl
theorem mpu_32 : z_pu (mh h f g) 32 (zA 1 18 y) = mh h f (va_up g 32 y) := mpu 32 (by omega) y
theorem mat_33 : z_at (mh h f g) (.ref 33) = zA 1 18 (g 33) := rfl
theorem mpu_33 : z_pu (mh h f g) 33 (zA 1 18 y) = mh h f (va_up g 33 y) := mpu 33 (by omega) y
theorem mat_34 : z_at (mh h f g) (.ref 34) = zA 1 18 (g 34) := rfl
theorem mpu_34 : z_pu (mh h f g) 34 (zA 1 18 y) = mh h f (va_up g 34 y) := mpu 34 (by omega) y
theorem mat_35 : z_at (mh h f g) (.ref 35) = zA 1 18 (g 35) := rfl
theorem mpu_35 : z_pu (mh h f g) 35 (zA 1 18 y) = mh h f (va_up g 35 y) := mpu 35 (by omega) y
theorem mat_36 : z_at (mh h f g) (.ref 36) = zA 1 18 (g 36) := rfl
theorem mpu_36 : z_pu (mh h f g) 36 (zA 1 18 y) = mh h f (va_up g 36 y) := mpu 36 (by omega) y
theorem mat_37 : z_at (mh h f g) (.ref 37) = zA 1 18 (g 37) := rfl
theorem mpu_37 : z_pu (mh h f g) 37 (zA 1 18 y) = mh h f (va_up g 37 y) := mpu 37 (by omega) y
theorem mat_38 : z_at (mh h f g) (.ref 38) = zA 1 18 (g 38) := rfl
theorem mpu_38 : z_pu (mh h f g) 38 (zA 1 18 y) = mh h f (va_up g 38 y) := mpu 38 (by omega) y
theorem mat_39 : z_at (mh h f g) (.ref 39) = zA 1 18 (g 39) := rfl
theorem mpu_39 : z_pu (mh h f g) 39 (zA 1 18 y) = mh h f (va_up g 39 y) := mpu 39 (by omega) y
theorem mat_40 : z_at (mh h f g) (.ref 40) = zA 3 54 (g 40) := rfl
theorem mpu_40 : z_pu (mh h f g) 40 (zA 3 54 y) = mh h f (va_up g 40 y) := mpu 40 (by omega) y
theorem mat_41 : z_at (mh h f g) (.ref 41) = zA 1 4 (g 41) := rfl
theorem mpu_41 : z_pu (mh h f g) 41 (zA 1 4 y) = mh h f (va_up g 41 y) := mpu 41 (by omega) y
theorem mat_42 : z_at (mh h f g) (.ref 42) = zA 1 4 (g 42) := rfl
theorem mpu_42 : z_pu (mh h f g) 42 (zA 1 4 y) = mh h f (va_up g 42 y) := mpu 42 (by omega) y
theorem mat_43 : z_at (mh h f g) (.ref 43) = zA 1 4 (g 43) := rfl
theorem mpu_43 : z_pu (mh h f g) 43 (zA 1 4 y) = mh h f (va_up g 43 y) := mpu 43 (by omega) y
theorem mat_44 : z_at (mh h f g) (.ref 44) = zA 1 4 (g 44) := rfl
theorem mpu_44 : z_pu (mh h f g) 44 (zA 1 4 y) = mh h f (va_up g 44 y) := mpu 44 (by omega) y
theorem mat_45 : z_at (mh h f g) (.ref 45) = zA 1 4 (g 45) := rfl
theorem mpu_45 : z_pu (mh h f g) 45 (zA 1 4 y) = mh h f (va_up g 45 y) := mpu 45 (by omega) y
theorem mat_46 : z_at (mh h f g) (.ref 46) = zA 3 32 (g 46) := rfl
theorem mpu_46 : z_pu (mh h f g) 46 (zA 3 32 y) = mh h f (va_up g 46 y) := mpu 46 (by omega) y
theorem mat_47 : z_at (mh h f g) (.ref 47) = zA 4 4 (g 47) := rfl
theorem mpu_47 : z_pu (mh h f g) 47 (zA 4 4 y) = mh h f (va_up g 47 y) := mpu 47 (by omega) y
theorem mat_48 : z_at (mh h f g) (.ref 48) = zLA 4 (g 48) := rfl
theorem mpu_48 : z_pu (mh h f g) 48 (zLA 4 y) = mh h f (va_up g 48 y) := mpu 48 (by omega) y
theorem mat_49 : z_at (mh h f g) (.ref 49) = zA 1 3 (g 49) := rfl
theorem mpu_49 : z_pu (mh h f g) 49 (zA 1 3 y) = mh h f (va_up g 49 y) := mpu 49 (by omega) y
theorem mat_50 : z_at (mh h f g) (.ref 50) = zLA 1224 (g 50) := rfl
theorem mpu_50 : z_pu (mh h f g) 50 (zLA 1224 y) = mh h f (va_up g 50 y) := mpu 50 (by omega) y
theorem mat_51 : z_at (mh h f g) (.ref 51) = zA 1 1224 (g 51) := rfl
theorem mpu_51 : z_pu (mh h f g) 51 (zA 1 1224 y) = mh h f (va_up g 51 y) := mpu 51 (by omega) y
theorem mat_52 : z_at (mh h f g) (.ref 52) = zA 3 16 (g 52) := rfl
theorem mpu_52 : z_pu (mh h f g) 52 (zA 3 16 y) = mh h f (va_up g 52 y) := mpu 52 (by omega) y
theorem mat_53 : z_at (mh h f g) (.ref 53) = zA 1 9000 (g 53) := rfl
theorem mpu_53 : z_pu (mh h f g) 53 (zA 1 9000 y) = mh h f (va_up g 53 y) := mpu 53 (by omega) y
theorem mat_54 : z_at (mh h f g) (.ref 54) = zA 1 1700 (g 54) := rfl
theorem mpu_54 : z_pu (mh h f g) 54 (zA 1 1700 y) = mh h f (va_up g 54 y) := mpu 54 (by omega) y
theorem mat_55 : z_at (mh h f g) (.ref 55) = zA 1 64 (g 55) := rfl
theorem mpu_55 : z_pu (mh h f g) 55 (zA 1 64 y) = mh h f (va_up g 55 y) := mpu 55 (by omega) y
theorem mat_56 : z_at (mh h f g) (.ref 56) = zA 1 64 (g 56) := rfl
theorem mpu_56 : z_pu (mh h f g) 56 (zA 1 64 y) = mh h f (va_up g 56 y) := mpu 56 (by omega) y
theorem mat_57 : z_at (mh h f g) (.ref 57) = zA 4 64 (g 57) := rfl
theorem mpu_57 : z_pu (mh h f g) 57 (zA 4 64 y) = mh h f (va_up g 57 y) := mpu 57 (by omega) y
theorem mat_58 : z_at (mh h f g) (.ref 58) = zA 3 512 (g 58) := rfl
theorem mpu_58 : z_pu (mh h f g) 58 (zA 3 512 y) = mh h f (va_up g 58 y) := mpu 58 (by omega) y
theorem mat_59 : z_at (mh h f g) (.ref 59) = zLA 1700 (g 59) := rfl
theorem mpu_59 : z_pu (mh h f g) 59 (zLA 1700 y) = mh h f (va_up g 59 y) := mpu 59 (by omega) y
theorem mat_60 : z_at (mh h f g) (.ref 60) = zLA 1700 (g 60) := rfl
theorem mpu_60 : z_pu (mh h f g) 60 (zLA 1700 y) = mh h f (va_up g 60 y) := mpu 60 (by omega) y
theorem mat_61 : z_at (mh h f g) (.ref 61) = zLA 64 (g 61) := rfl
theorem mpu_61 : z_pu (mh h f g) 61 (zLA 64 y) = mh h f (va_up g 61 y) := mpu 61 (by omega) y
theorem mgf_0 : z_gf (.inr (11, mfs f)) 11 0 = some (.ref 22) := rfl
theorem mgf_1 : z_gf (.inr (11, mfs f)) 11 1 = some (.ref 23) := rfl
theorem mgf_2 : z_gf (.inr (11, mfs f)) 11 2 = some (.ref 24) := rfl
theorem mgf_3 : z_gf (.inr (11, mfs f)) 11 3 = some (.ref 25) := rfl
theorem mgf_4 : z_gf (.inr (11, mfs f)) 11 4 = some (zi (f 4)) := rfl
theorem mpf_4 : z_pf (.inr (11, mfs f)) 11 4 (zi x) = some (.inr (11, mfs (va_up f 4 x))) := rfl
theorem mgf_5 : z_gf (.inr (11, mfs f)) 11 5 = some (.ref 26) := rfl
theorem mgf_6 : z_gf (.inr (11, mfs f)) 11 6 = some (zi (f 6)) := rfl
theorem mpf_6 : z_pf (.inr (11, mfs f)) 11 6 (zi x) = some (.inr (11, mfs (va_up f 6 x))) := rfl
theorem mgf_7 : z_gf (.inr (11, mfs f)) 11 7 = some (zi (f 7)) := rfl
theorem mpf_7 : z_pf (.inr (11, mfs f)) 11 7 (zi x) = some (.inr (11, mfs (va_up f 7 x))) := rfl
theorem mgf_8 : z_gf (.inr (11, mfs f)) 11 8 = some (.ref 27) := rfl
theorem mgf_9 : z_gf (.inr (11, mfs f)) 11 9 = some (.ref 28) := rfl
theorem mgf_10 : z_gf (.inr (11, mfs f)) 11 10 = some (zi (f 10)) := rfl
theorem mpf_10 : z_pf (.inr (11, mfs f)) 11 10 (zi x) = some (.inr (11, mfs (va_up f 10 x))) := rfl
theorem mgf_11 : z_gf (.inr (11, mfs f)) 11 11 = some (zi (f 11)) := rfl
theorem mpf_11 : z_pf (.inr (11, mfs f)) 11 11 (zi x) = some (.inr (11, mfs (va_up f 11 x))) := rfl
theorem mgf_12 : z_gf (.inr (11, mfs f)) 11 12 = some (zi (f 12)) := rfl
theorem mpf_12 : z_pf (.inr (11, mfs f)) 11 12 (zi x) = some (.inr (11, mfs (va_up f 12 x))) := rfl
theorem mgf_13 : z_gf (.inr (11, mfs f)) 11 13 = some (zi (f 13)) := rfl
theorem mpf_13 : z_pf (.inr (11, mfs f)) 11 13 (zi x) = some (.inr (11, mfs (va_up f 13 x))) := rfl
theorem mgf_14 : z_gf (.inr (11, mfs f)) 11 14 = some (zi (f 14)) := rfl
theorem mpf_14 : z_pf (.inr (11, mfs f)) 11 14 (zi x) = some (.inr (11, mfs (va_up f 14 x))) := rfl
theorem mgf_15 : z_gf (.inr (11, mfs f)) 11 15 = some (zi (f 15)) := rfl
theorem mpf_15 : z_pf (.inr (11, mfs f)) 11 15 (zi x) = some (.inr (11, mfs (va_up f 15 x))) := rfl
theorem mgf_16 : z_gf (.inr (11, mfs f)) 11 16 = some (.ref 29) := rfl
theorem mgf_17 : z_gf (.inr (11, mfs f)) 11 17 = some (.ref 30) := rfl
theorem mgf_18 : z_gf (.inr (11, mfs f)) 11 18 = some (.ref 31) := rfl
theorem mgf_19 : z_gf (.inr (11, mfs f)) 11 19 = some (.ref 32) := rfl
theorem mgf_20 : z_gf (.inr (11, mfs f)) 11 20 = some (.ref 33) := rfl
theorem mgf_21 : z_gf (.inr (11, mfs f)) 11 21 = some (.ref 34) := rfl
theorem mgf_22 : z_gf (.inr (11, mfs f)) 11 22 = some (.ref 35) := rfl
theorem mgf_23 : z_gf (.inr (11, mfs f)) 11 23 = some (.ref 36) := rfl
theorem mgf_24 : z_gf (.inr (11, mfs f)) 11 24 = some (.ref 37) := rfl
theorem mgf_25 : z_gf (.inr (11, mfs f)) 11 25 = some (.ref 38) := rfl
theorem mgf_26 : z_gf (.inr (11, mfs f)) 11 26 = some (.ref 39) := rfl
theorem mgf_27 : z_gf (.inr (11, mfs f)) 11 27 = some (.ref 40) := rfl
theorem mgf_28 : z_gf (.inr (11, mfs f)) 11 28 = some (zi (f 28)) := rfl
theorem mpf_28 : z_pf (.inr (11, mfs f)) 11 28 (zi x) = some (.inr (11, mfs (va_up f 28 x))) := rfl
theorem mgf_29 : z_gf (.inr (11, mfs f)) 11 29 = some (.ref 41) := rfl
theorem mgf_30 : z_gf (.inr (11, mfs f)) 11 30 = some (.ref 42) := rfl
theorem mgf_31 : z_gf (.inr (11, mfs f)) 11 31 = some (.ref 43) := rfl
theorem mgf_32 : z_gf (.inr (11, mfs f)) 11 32 = some (.ref 44) := rfl
theorem mgf_33 : z_gf (.inr (11, mfs f)) 11 33 = some (.ref 45) := rfl
theorem mgf_34 : z_gf (.inr (11, mfs f)) 11 34 = some (.ref 46) := rfl
theorem mgf_35 : z_gf (.inr (11, mfs f)) 11 35 = some (.ref 47) := rfl
theorem mgf_36 : z_gf (.inr (11, mfs f)) 11 36 = some (.ref 48) := rfl
theorem mgf_37 : z_gf (.inr (11, mfs f)) 11 37 = some (.ref 49) := rfl
theorem mgf_38 : z_gf (.inr (11, mfs f)) 11 38 = some (.ref 50) := rfl
theorem mgf_39 : z_gf (.inr (11, mfs f)) 11 39 = some (.ref 51) := rfl
theorem mgf_40 : z_gf (.inr (11, mfs f)) 11 40 = some (zi (f 40)) := rfl
theorem mpf_40 : z_pf (.inr (11, mfs f)) 11 40 (zi x) = some (.inr (11, mfs (va_up f 40 x))) := rfl
theorem mgf_41 : z_gf (.inr (11, mfs f)) 11 41 = some (zi (f 41)) := rfl
theorem mpf_41 : z_pf (.inr (11, mfs f)) 11 41 (zi x) = some (.inr (11, mfs (va_up f 41 x))) := rfl
theorem mgf_42 : z_gf (.inr (11, mfs f)) 11 42 = some (zi (f 42)) := rfl
theorem mpf_42 : z_pf (.inr (11, mfs f)) 11 42 (zi x) = some (.inr (11, mfs (va_up f 42 x))) := rfl
theorem mgf_43 : z_gf (.inr (11, mfs f)) 11 43 = some (zi (f 43)) := rfl
theorem mpf_43 : z_pf (.inr (11, mfs f)) 11 43 (zi x) = some (.inr (11, mfs (va_up f 43 x))) := rfl
theorem mgf_44 : z_gf (.inr (11, mfs f)) 11 44 = some (.ref 52) := rfl
theorem mgf_45 : z_gf (.inr (11, mfs f)) 11 45 = some (zi (f 45)) := rfl
theorem mpf_45 : z_pf (.inr (11, mfs f)) 11 45 (zi x) = some (.inr (11, mfs (va_up f 45 x))) := rfl
theorem mgf_46 : z_gf (.inr (11, mfs f)) 11 46 = some (zi (f 46)) := rfl
theorem mpf_46 : z_pf (.inr (11, mfs f)) 11 46 (zi x) = some (.inr (11, mfs (va_up f 46 x))) := rfl
theorem mgf_47 : z_gf (.inr (11, mfs f)) 11 47 = some (zi (f 47)) := rfl
theorem mpf_47 : z_pf (.inr (11, mfs f)) 11 47 (zi x) = some (.inr (11, mfs (va_up f 47 x))) := rfl
theorem mgf_48 : z_gf (.inr (11, mfs f)) 11 48 = some (.ref 53) := rfl
theorem mgf_49 : z_gf (.inr (11, mfs f)) 11 49 = some (.ref 54) := rfl
theorem mgf_50 : z_gf (.inr (11, mfs f)) 11 50 = some (.ref 55) := rfl
theorem mgf_51 : z_gf (.inr (11, mfs f)) 11 51 = some (.ref 56) := rfl
theorem mgf_52 : z_gf (.inr (11, mfs f)) 11 52 = some (.ref 57) := rfl
theorem mgf_53 : z_gf (.inr (11, mfs f)) 11 53 = some (.ref 58) := rfl
theorem mgf_54 : z_gf (.inr (11, mfs f)) 11 54 = some (.ref 59) := rfl
theorem mgf_55 : z_gf (.inr (11, mfs f)) 11 55 = some (.ref 60) := rfl
theorem mgf_56 : z_gf (.inr (11, mfs f)) 11 56 = some (zi (f 56)) := rfl
theorem mpf_56 : z_pf (.inr (11, mfs f)) 11 56 (zi x) = some (.inr (11, mfs (va_up f 56 x))) := rfl
theorem mgf_57 : z_gf (.inr (11, mfs f)) 11 57 = some (.ref 61) := rfl
theorem mgf_58 : z_gf (.inr (11, mfs f)) 11 58 = some (zi (f 58)) := rfl
theorem mpf_58 : z_pf (.inr (11, mfs f)) 11 58 (zi x) = some (.inr (11, mfs (va_up f 58 x))) := rfl
theorem mgf_59 : z_gf (.inr (11, mfs f)) 11 59 = some (zi (f 59)) := rfl
theorem mpf_59 : z_pf (.inr (11, mfs f)) 11 59 (zi x) = some (.inr (11, mfs (va_up f 59 x))) := rfl
theorem mgf_60 : z_gf (.inr (11, mfs f)) 11 60 = some (zi (f 60)) := rfl
theorem mpf_60 : z_pf (.inr (11, mfs f)) 11 60 (zi x) = some (.inr (11, mfs (va_up f 60 x))) := rfl
theorem mob : z_isob (.inr (11, mfs f)) 11 = true := rfl
end ZM
