/-! times: what they are -/
def zp59 (a b : Int) : Int := if zdig a = true ∧ zdig b = true ∧ 10 * (a - 48) + (b - 48) ≤ 59 then 10 * (a - 48) + (b - 48) else -1
def zt_2 (v : Int) : List Int → Int
  | [] => v
  | [_] => -1000000
  | [_, _] => -1000000
  | c :: a :: b :: t => if c = 58 ∧ 0 ≤ zp59 a b ∧ t = [] then v + zp59 a b else -1000000
def zt_1 (v : Int) : List Int → Int
  | [] => v
  | [_] => -1000000
  | [_, _] => -1000000
  | c :: a :: b :: t => if c = 58 ∧ 0 ≤ zp59 a b then zt_2 (v + 60 * zp59 a b) t else -1000000
def zt_h : List Int → Int
  | [] => -1000000
  | [a] => if zdig a = true then 3600 * (a - 48) else -1000000
  | a :: b :: t => if zdig a = true then (if zdig b = true then (if 10 * (a - 48) + (b - 48) ≤ 24 then zt_1 (3600 * (10 * (a - 48) + (b - 48))) t else -1000000) else zt_1 (3600 * (a - 48)) (b :: t)) else -1000000
def zneg (x : Int) : Int := if x = -1000000 then -1000000 else -x
def ztime : List Int → Int
  | [] => -1000000
  | c :: t => if c = 45 then zneg (zt_h t) else zt_h (c :: t)
theorem zp59_r (a b : Int) : zp59 a b = -1 ∨ (0 ≤ zp59 a b ∧ zp59 a b ≤ 59) := by
  unfold zp59
  split
  · rename_i h1
    have := (zdig_iff a).mp h1.1
    have := (zdig_iff b).mp h1.2.1
    omega
  · exact Or.inl rfl
/-- the sixtieths at the front -/
def zsx (R : List Int) : Int := if 3 ≤ R.length ∧ R.getD 0 0 = 58 ∧ zdgs (zsub R 1 3) 0 ≤ 59 then zdgs (zsub R 1 3) 0 else -1000000
theorem zgetD_drop (w : List Int) (e j : Nat) : w.getD (e + j) 0 = (w.drop e).getD j 0 := by
  simp only [List.getD_eq_getElem?_getD, List.getElem?_drop]
theorem zsub_drop (w : List Int) (e a b : Nat) : zsub w (e + a) (e + b) = zsub (w.drop e) a b := by
  unfold zsub
  rw [List.drop_drop, show e + b - (e + a) = b - a by omega]
theorem zsix_d (w : List Int) (e : Int) (he : 0 ≤ e ∧ e ≤ w.length) : zsix w e = zsx (w.drop e.toNat) := by
  unfold zsix zsx
  have h1 := zgetD_drop w e.toNat 0
  have h2 := zsub_drop w e.toNat 1 3
  rw [Nat.add_zero] at h1
  rw [h1, h2, List.length_drop]
  have : (e + 3 ≤ (w.length : Int)) = (3 ≤ w.length - e.toNat) := by apply propext; omega
  simp only [this]
theorem zsx_3 (c a b : Int) (t : List Int) : zsx (c :: a :: b :: t) = if c = 58 ∧ 0 ≤ zp59 a b then zp59 a b else -1000000 := by
  unfold zsx
  have e1 : zsub (c :: a :: b :: t) 1 3 = [a, b] := rfl
  rw [e1, zdgs_2]
  have e2 : (c :: a :: b :: t).getD 0 0 = c := rfl
  rw [e2]
  have e3 : 3 ≤ (c :: a :: b :: t).length := by simp
  by_cases hc : c = 58
  · by_cases hd : zdig a = true ∧ zdig b = true
    · have h1 := (zdig_iff a).mp hd.1
      have h2 := (zdig_iff b).mp hd.2
      by_cases hx : 10 * (a - 48) + (b - 48) ≤ 59
      · have hz : zp59 a b = 10 * (a - 48) + (b - 48) := by unfold zp59; rw [if_pos ⟨hd.1, hd.2, hx⟩]
        rw [hz, if_pos hd, if_pos ⟨e3, hc, hx⟩, if_pos ⟨hc, by omega⟩]
      · have hz : zp59 a b = -1 := by unfold zp59; rw [if_neg (fun q => hx q.2.2)]
        rw [hz, if_pos hd, if_neg (fun q => hx q.2.2), if_neg (fun q => by omega)]
    · have hz : zp59 a b = -1 := by unfold zp59; rw [if_neg (fun q => hd ⟨q.1, q.2.1⟩)]
      rw [hz, if_neg hd, if_pos ⟨e3, hc, by decide⟩, if_neg (fun q => by omega)]
  · rw [if_neg (fun q => hc q.2.1), if_neg (fun q => hc q.1)]
/-- what stands behind the hours -/
theorem zrest (R : List Int) (H : Int) (s : Int) (hs : s = 1 ∨ s = -1) (hR : R = [] ∨ R.getD 0 0 = 58) (hH : H = -1000000 ∨ 0 ≤ H) : (if (R.length : Int) ≠ 0 ∧ (R.length : Int) ≠ 3 ∧ (R.length : Int) ≠ 6 then -1000000 else if H = -1000000 ∨ ((R.length : Int) ≠ 0 ∧ zsx R = -1000000) ∨ ((R.length : Int) = 6 ∧ zsx (R.drop 3) = -1000000) then -1000000 else s * (H * 3600 + (if (R.length : Int) = 0 then 0 else zsx R) * 60 + (if (R.length : Int) < 6 then 0 else zsx (R.drop 3)))) = (if H = -1000000 then -1000000 else if s = 1 then zt_1 (3600 * H) R else zneg (zt_1 (3600 * H) R)) := by
  by_cases hH0 : H = -1000000
  · rw [if_pos hH0]
    split
    · rfl
    · rw [if_pos (Or.inl hH0)]
  rw [if_neg hH0]
  have hH1 : 0 ≤ H := by omega
  match R, hR with
  | [], _ => simp [hH0, zt_1, zneg]; rcases hs with rfl | rfl <;> simp <;> omega
  | [c], _ => simp [zt_1, zneg]
  | [c, d], _ => simp [zt_1, zneg]
  | [c, a, b], hR =>
    have hc : c = 58 := by simpa using hR
    subst hc
    rw [zsx_3]
    rcases zp59_r a b with hp | hp
    · simp [zt_1, zneg, hp, hH0]
    · have h1 : 0 ≤ zp59 a b := hp.1
      have h2 : zp59 a b ≠ -1000000 := by omega
      simp [zt_1, zt_2, zneg, h1, h2, hH0]
      rcases hs with rfl | rfl <;> simp <;> omega
  | [c, a, b, d], hR =>
    simp [zt_1, zneg, zt_2]
  | [c, a, b, d, e], hR =>
    simp [zt_1, zneg, zt_2]
  | [c, a, b, d, e, f], hR =>
    have hc : c = 58 := by simpa using hR
    subst hc
    have e9 : List.drop 3 [58, a, b, d, e, f] = [d, e, f] := rfl
    simp only [e9, zsx_3]
    rcases zp59_r a b with hp | hp
    · simp [zt_1, zneg, hp, hH0]
    · have h1 : 0 ≤ zp59 a b := hp.1
      have h2 : zp59 a b ≠ -1000000 := by omega
      by_cases hd : d = 58 ∧ 0 ≤ zp59 e f
      · have h3 : zp59 e f ≠ -1000000 := by omega
        simp [zt_1, zt_2, zneg, h1, h2, hH0, hd, h3]
        rcases hs with rfl | rfl <;> simp <;> omega
      · simp [zt_1, zt_2, zneg, h1, h2, hH0, hd]
  | c :: a :: b :: d :: e :: f :: g :: t, hR =>
    have e1 : zt_1 (3600 * H) (c :: a :: b :: d :: e :: f :: g :: t) = -1000000 := by
      simp [zt_1, zt_2]
    rw [e1, if_pos (by simp; omega)]
    simp [zneg]
