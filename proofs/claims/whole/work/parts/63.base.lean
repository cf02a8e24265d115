/-! what every walk uses -/
section ZO
variable {h : zH} {f : Nat → Int} {g : Nat → Nat → Int} {Q : zO → zH → Prop} {a b c x y : Int}
theorem z_br_eq {c X : Prop} {i t q : Nat} {ls st : List Value} {h : zH} {Q : zO → zH → Prop} (h1 : c → z_Ev i t ls st h Q = X) (h2 : ¬ c → z_Ev i q ls st h Q = X) : z_br c i t q ls st h Q = X := by
  by_cases hc : c
  · rw [z_br_pos hc]; exact h1 hc
  · rw [z_br_neg hc]; exact h2 hc
/-- a truth value as a number -/
def zb (q : Bool) : Int := if q then 1 else 0
theorem zb_t : zb true = 1 := rfl
theorem zb_f : zb false = 0 := rfl
theorem zb_0 (q : Bool) : (zw (zb q) = 0) = (q = false) := by cases q <;> simp [zb] <;> decide
theorem zb_1 (q : Bool) : (zw (zb q) = 1) = (q = true) := by cases q <;> simp [zb] <;> decide
theorem zb_tf (q : Bool) : z_tf .boolean (zi (zb q)) = true := by cases q <;> decide
theorem zb_r (q : Bool) : zb q = 0 ∨ zb q = 1 := by cases q <;> simp [zb]
theorem zb_e {q : Bool} {P : Prop} (hq : q = true ↔ P) (x : Int) (h1 : P → x = 1) (h2 : ¬ P → x = 0) : x = zb q := by
  cases q
  · exact h2 (fun p => by simpa using hq.mpr p)
  · exact h1 (hq.mp rfl)
def zdig (c : Int) : Bool := decide (48 ≤ c) && decide (c ≤ 57)
theorem zdig_iff (c : Int) : zdig c = true ↔ 48 ≤ c ∧ c ≤ 57 := by simp [zdig]
end ZO
/-! the fields of a small object -/
section ZG
variable {c : Nat} {v0 v1 v2 v3 v4 v5 v6 v7 x : Value} {r : List Value}
theorem z_gf0 (ho : z_ok v0 = true) : z_gf (.inr (c, v0 :: r)) c 0 = some v0 := by simp [z_gf, ho]
theorem z_pf0 : z_pf (.inr (c, v0 :: r)) c 0 x = some (.inr (c, x :: r)) := by simp [z_pf]
theorem z_gf1 (ho : z_ok v1 = true) : z_gf (.inr (c, v0 :: v1 :: r)) c 1 = some v1 := by simp [z_gf, ho]
theorem z_pf1 : z_pf (.inr (c, v0 :: v1 :: r)) c 1 x = some (.inr (c, v0 :: x :: r)) := by simp [z_pf]
theorem z_gf2 (ho : z_ok v2 = true) : z_gf (.inr (c, v0 :: v1 :: v2 :: r)) c 2 = some v2 := by simp [z_gf, ho]
theorem z_pf2 : z_pf (.inr (c, v0 :: v1 :: v2 :: r)) c 2 x = some (.inr (c, v0 :: v1 :: x :: r)) := by simp [z_pf]
theorem z_gf3 (ho : z_ok v3 = true) : z_gf (.inr (c, v0 :: v1 :: v2 :: v3 :: r)) c 3 = some v3 := by simp [z_gf, ho]
theorem z_pf3 : z_pf (.inr (c, v0 :: v1 :: v2 :: v3 :: r)) c 3 x = some (.inr (c, v0 :: v1 :: v2 :: x :: r)) := by simp [z_pf]
theorem z_gf4 (ho : z_ok v4 = true) : z_gf (.inr (c, v0 :: v1 :: v2 :: v3 :: v4 :: r)) c 4 = some v4 := by simp [z_gf, ho]
theorem z_pf4 : z_pf (.inr (c, v0 :: v1 :: v2 :: v3 :: v4 :: r)) c 4 x = some (.inr (c, v0 :: v1 :: v2 :: v3 :: x :: r)) := by simp [z_pf]
theorem z_gf5 (ho : z_ok v5 = true) : z_gf (.inr (c, v0 :: v1 :: v2 :: v3 :: v4 :: v5 :: r)) c 5 = some v5 := by simp [z_gf, ho]
theorem z_pf5 : z_pf (.inr (c, v0 :: v1 :: v2 :: v3 :: v4 :: v5 :: r)) c 5 x = some (.inr (c, v0 :: v1 :: v2 :: v3 :: v4 :: x :: r)) := by simp [z_pf]
theorem z_gf6 (ho : z_ok v6 = true) : z_gf (.inr (c, v0 :: v1 :: v2 :: v3 :: v4 :: v5 :: v6 :: r)) c 6 = some v6 := by simp [z_gf, ho]
theorem z_pf6 : z_pf (.inr (c, v0 :: v1 :: v2 :: v3 :: v4 :: v5 :: v6 :: r)) c 6 x = some (.inr (c, v0 :: v1 :: v2 :: v3 :: v4 :: v5 :: x :: r)) := by simp [z_pf]
theorem z_gf7 (ho : z_ok v7 = true) : z_gf (.inr (c, v0 :: v1 :: v2 :: v3 :: v4 :: v5 :: v6 :: v7 :: r)) c 7 = some v7 := by simp [z_gf, ho]
theorem z_pf7 : z_pf (.inr (c, v0 :: v1 :: v2 :: v3 :: v4 :: v5 :: v6 :: v7 :: r)) c 7 x = some (.inr (c, v0 :: v1 :: v2 :: v3 :: v4 :: v5 :: v6 :: x :: r)) := by simp [z_pf]
theorem z_ob1 : z_isob (.inr (c, v0 :: r)) c = true := by simp [z_isob]
end ZG
/-! what a walk asks -/
theorem zq_r (a : Nat) : z_isref (.ref a) = true := rfl
theorem zq_k (a : Nat) : z_isref (.retAddr a) = true := rfl
theorem zq_n : z_isref .null = true := rfl
theorem zo_i (a : Int) : z_ok (zi a) = true := rfl
theorem zo_l (a : Int) : z_ok (zl a) = true := rfl
theorem zo_r (a : Nat) : z_ok (.ref a) = true := rfl
theorem zo_k (a : Nat) : z_ok (.retAddr a) = true := rfl
theorem zo_n : z_ok .null = true := rfl
theorem zc_i (a : Int) : (zi a).category = 1 := rfl
theorem zc_r (a : Nat) : (Value.ref a).category = 1 := rfl
theorem zc_rk (a : Nat) : (Value.retAddr a).category = 1 := rfl
theorem zn_0 : Nat.ble ([] : List Value).length 10 = true := rfl
theorem zn_1 (a : Value) : Nat.ble [a].length 10 = true := rfl
theorem zn_2 (a b : Value) : Nat.ble [a, b].length 10 = true := rfl
theorem zn_3 (a b c : Value) : Nat.ble [a, b, c].length 10 = true := rfl
theorem zn_4 (a b c d : Value) : Nat.ble [a, b, c, d].length 10 = true := rfl
theorem zn_5 (a b c d e : Value) : Nat.ble [a, b, c, d, e].length 10 = true := rfl
theorem zn_6 (a b c d e q : Value) : Nat.ble [a, b, c, d, e, q].length 10 = true := rfl
theorem z_brT {i t q : Nat} {ls st : List Value} {h : zH} {Q : zO → zH → Prop} : z_br True i t q ls st h Q = z_Ev i t ls st h Q := z_br_pos trivial
theorem z_brF {i t q : Nat} {ls st : List Value} {h : zH} {Q : zO → zH → Prop} : z_br False i t q ls st h Q = z_Ev i q ls st h Q := z_br_neg (fun x => x)
