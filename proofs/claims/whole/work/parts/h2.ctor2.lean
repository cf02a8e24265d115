/-! the reference is made, as a whole -/
section ZCu
variable {h : zH} {Q : zO → zH → Prop}
theorem zMk_1 (hH : h.1 = 22) : (zM0 h).1 = 22 ∧ (zM1 h).1 = 23 ∧ (zM2 h).1 = 24 ∧ (zM3 h).1 = 25 ∧ (zM4 h).1 = 26 ∧ (zM5 h).1 = 27 ∧ (zM6 h).1 = 28 ∧ (zM7 h).1 = 29 ∧ (zM8 h).1 = 30 ∧ (zM9 h).1 = 31 ∧ (zM10 h).1 = 32 ∧ (zM11 h).1 = 33 ∧ (zM12 h).1 = 34 ∧ (zM13 h).1 = 35 ∧ (zM14 h).1 = 36 ∧ (zM15 h).1 = 37 ∧ (zM16 h).1 = 38 ∧ (zM17 h).1 = 39 ∧ (zM18 h).1 = 40 ∧ (zM19 h).1 = 41 ∧ (zM20 h).1 = 42 ∧ (zM21 h).1 = 43 ∧ (zM22 h).1 = 44 ∧ (zM23 h).1 = 45 ∧ (zM24 h).1 = 46 ∧ (zM25 h).1 = 47 ∧ (zM26 h).1 = 48 ∧ (zM27 h).1 = 49 ∧ (zM28 h).1 = 50 ∧ (zM29 h).1 = 51 ∧ (zM30 h).1 = 52 ∧ (zM31 h).1 = 53 ∧ (zM32 h).1 = 54 ∧ (zM33 h).1 = 55 ∧ (zM34 h).1 = 56 ∧ (zM35 h).1 = 57 ∧ (zM36 h).1 = 58 ∧ (zM37 h).1 = 59 ∧ (zM38 h).1 = 60 ∧ (zM39 h).1 = 61 ∧ (zM40 h).1 = 62 := by
  have a0 : (zM0 h).1 = 22 := hH
  have a1 : (zM1 h).1 = 23 := by show (zM0 h).1 + 1 = _; rw [a0]
  have a2 : (zM2 h).1 = 24 := by show (zM1 h).1 + 1 = _; rw [a1]
  have a3 : (zM3 h).1 = 25 := by show (zM2 h).1 + 1 = _; rw [a2]
  have a4 : (zM4 h).1 = 26 := by show (zM3 h).1 + 1 = _; rw [a3]
  have a5 : (zM5 h).1 = 27 := by show (zM4 h).1 + 1 = _; rw [a4]
  have a6 : (zM6 h).1 = 28 := by show (zM5 h).1 + 1 = _; rw [a5]
  have a7 : (zM7 h).1 = 29 := by show (zM6 h).1 + 1 = _; rw [a6]
  have a8 : (zM8 h).1 = 30 := by show (zM7 h).1 + 1 = _; rw [a7]
  have a9 : (zM9 h).1 = 31 := by show (zM8 h).1 + 1 = _; rw [a8]
  have a10 : (zM10 h).1 = 32 := by show (zM9 h).1 + 1 = _; rw [a9]
  have a11 : (zM11 h).1 = 33 := by show (zM10 h).1 + 1 = _; rw [a10]
  have a12 : (zM12 h).1 = 34 := by show (zM11 h).1 + 1 = _; rw [a11]
  have a13 : (zM13 h).1 = 35 := by show (zM12 h).1 + 1 = _; rw [a12]
  have a14 : (zM14 h).1 = 36 := by show (zM13 h).1 + 1 = _; rw [a13]
  have a15 : (zM15 h).1 = 37 := by show (zM14 h).1 + 1 = _; rw [a14]
  have a16 : (zM16 h).1 = 38 := by show (zM15 h).1 + 1 = _; rw [a15]
  have a17 : (zM17 h).1 = 39 := by show (zM16 h).1 + 1 = _; rw [a16]
  have a18 : (zM18 h).1 = 40 := by show (zM17 h).1 + 1 = _; rw [a17]
  have a19 : (zM19 h).1 = 41 := by show (zM18 h).1 + 1 = _; rw [a18]
  have a20 : (zM20 h).1 = 42 := by show (zM19 h).1 + 1 = _; rw [a19]
  have a21 : (zM21 h).1 = 43 := by show (zM20 h).1 + 1 = _; rw [a20]
  have a22 : (zM22 h).1 = 44 := by show (zM21 h).1 + 1 = _; rw [a21]
  have a23 : (zM23 h).1 = 45 := by show (zM22 h).1 + 1 = _; rw [a22]
  have a24 : (zM24 h).1 = 46 := by show (zM23 h).1 + 1 = _; rw [a23]
  have a25 : (zM25 h).1 = 47 := by show (zM24 h).1 + 1 = _; rw [a24]
  have a26 : (zM26 h).1 = 48 := by show (zM25 h).1 + 1 = _; rw [a25]
  have a27 : (zM27 h).1 = 49 := by show (zM26 h).1 + 1 = _; rw [a26]
  have a28 : (zM28 h).1 = 50 := by show (zM27 h).1 + 1 = _; rw [a27]
  have a29 : (zM29 h).1 = 51 := by show (zM28 h).1 + 1 = _; rw [a28]
  have a30 : (zM30 h).1 = 52 := by show (zM29 h).1 + 1 = _; rw [a29]
  have a31 : (zM31 h).1 = 53 := by show (zM30 h).1 + 1 = _; rw [a30]
  have a32 : (zM32 h).1 = 54 := by show (zM31 h).1 + 1 = _; rw [a31]
  have a33 : (zM33 h).1 = 55 := by show (zM32 h).1 + 1 = _; rw [a32]
  have a34 : (zM34 h).1 = 56 := by show (zM33 h).1 + 1 = _; rw [a33]
  have a35 : (zM35 h).1 = 57 := by show (zM34 h).1 + 1 = _; rw [a34]
  have a36 : (zM36 h).1 = 58 := by show (zM35 h).1 + 1 = _; rw [a35]
  have a37 : (zM37 h).1 = 59 := by show (zM36 h).1 + 1 = _; rw [a36]
  have a38 : (zM38 h).1 = 60 := by show (zM37 h).1 + 1 = _; rw [a37]
  have a39 : (zM39 h).1 = 61 := by show (zM38 h).1 + 1 = _; rw [a38]
  have a40 : (zM40 h).1 = 62 := by show (zM39 h).1 + 1 = _; rw [a39]
  exact ⟨a0, a1, a2, a3, a4, a5, a6, a7, a8, a9, a10, a11, a12, a13, a14, a15, a16, a17, a18, a19, a20, a21, a22, a23, a24, a25, a26, a27, a28, a29, a30, a31, a32, a33, a34, a35, a36, a37, a38, a39, a40⟩
theorem zMk_n0 (ha : (zM0 h).1 = 22) {a : Nat} (h1 : a ≠ 21) (h2 : a ≠ 22) : z_at (zM1 h) (.ref a) = z_at (zM0 h) (.ref a) := zN1_n h1 (by rw [ha]; exact h2)
theorem zMk_e0 (ha : (zM0 h).1 = 22) : z_at (zM1 h) (.ref 22) = zA 3 74 zca22 := zN1_e ha (by decide)
theorem zMk_n1 (ha : (zM1 h).1 = 23) {a : Nat} (h1 : a ≠ 21) (h2 : a ≠ 23) : z_at (zM2 h) (.ref a) = z_at (zM1 h) (.ref a) := zN1_n h1 (by rw [ha]; exact h2)
theorem zMk_e1 (ha : (zM1 h).1 = 23) : z_at (zM2 h) (.ref 23) = zA 3 50 zca23 := zN1_e ha (by decide)
theorem zMk_n2 (ha : (zM2 h).1 = 24) {a : Nat} (h1 : a ≠ 21) (h2 : a ≠ 24) : z_at (zM3 h) (.ref a) = z_at (zM2 h) (.ref a) := zN1_n h1 (by rw [ha]; exact h2)
theorem zMk_e2 (ha : (zM2 h).1 = 24) : z_at (zM3 h) (.ref 24) = zA 1 13 zca24 := zN1_e ha (by decide)
theorem zMk_n3 (ha : (zM3 h).1 = 25) {a : Nat} (h1 : a ≠ 21) (h2 : a ≠ 25) : z_at (zM4 h) (.ref a) = z_at (zM3 h) (.ref a) := zN1_n h1 (by rw [ha]; exact h2)
theorem zMk_e3 (ha : (zM3 h).1 = 25) : z_at (zM4 h) (.ref 25) = zA 1 8 zca25 := zN1_e ha (by decide)
theorem zMk_n4 (ha : (zM4 h).1 = 26) {a : Nat} (h1 : a ≠ 21) (h2 : a ≠ 26) : z_at (zM5 h) (.ref a) = z_at (zM4 h) (.ref a) := zN1_n h1 (by rw [ha]; exact h2)
theorem zMk_e4 (ha : (zM4 h).1 = 26) : z_at (zM5 h) (.ref 26) = zA 3 60 (fun _ => 0) := zN1_e ha (by decide)
theorem zMk_n5 (ha : (zM5 h).1 = 27) {a : Nat} (h1 : a ≠ 21) (h2 : a ≠ 27) : z_at (zM6 h) (.ref a) = z_at (zM5 h) (.ref a) := zN1_n h1 (by rw [ha]; exact h2)
theorem zMk_e5 (ha : (zM5 h).1 = 27) : z_at (zM6 h) (.ref 27) = zA 1 60 (fun _ => 0) := zN1_e ha (by decide)
theorem zMk_n6 (ha : (zM6 h).1 = 28) {a : Nat} (h1 : a ≠ 21) (h2 : a ≠ 28) : z_at (zM7 h) (.ref a) = z_at (zM6 h) (.ref a) := zN1_n h1 (by rw [ha]; exact h2)
theorem zMk_e6 (ha : (zM6 h).1 = 28) : z_at (zM7 h) (.ref 28) = zA 1 60 (fun _ => 0) := zN1_e ha (by decide)
theorem zMk_n7 (ha : (zM7 h).1 = 29) {a : Nat} (h1 : a ≠ 21) (h2 : a ≠ 29) : z_at (zM8 h) (.ref a) = z_at (zM7 h) (.ref a) := zN1_n h1 (by rw [ha]; exact h2)
theorem zMk_e7 (ha : (zM7 h).1 = 29) : z_at (zM8 h) (.ref 29) = zA 1 3 (fun _ => 0) := zN1_e ha (by decide)
theorem zMk_n8 (ha : (zM8 h).1 = 30) {a : Nat} (h1 : a ≠ 21) (h2 : a ≠ 30) : z_at (zM9 h) (.ref a) = z_at (zM8 h) (.ref a) := zN1_n h1 (by rw [ha]; exact h2)
theorem zMk_e8 (ha : (zM8 h).1 = 30) : z_at (zM9 h) (.ref 30) = zA 1 18 (fun _ => 0) := zN1_e ha (by decide)
theorem zMk_n9 (ha : (zM9 h).1 = 31) {a : Nat} (h1 : a ≠ 21) (h2 : a ≠ 31) : z_at (zM10 h) (.ref a) = z_at (zM9 h) (.ref a) := zN1_n h1 (by rw [ha]; exact h2)
theorem zMk_e9 (ha : (zM9 h).1 = 31) : z_at (zM10 h) (.ref 31) = zA 1 18 (fun _ => 0) := zN1_e ha (by decide)
theorem zMk_n10 (ha : (zM10 h).1 = 32) {a : Nat} (h1 : a ≠ 21) (h2 : a ≠ 32) : z_at (zM11 h) (.ref a) = z_at (zM10 h) (.ref a) := zN1_n h1 (by rw [ha]; exact h2)
theorem zMk_e10 (ha : (zM10 h).1 = 32) : z_at (zM11 h) (.ref 32) = zA 1 18 (fun _ => 0) := zN1_e ha (by decide)
theorem zMk_n11 (ha : (zM11 h).1 = 33) {a : Nat} (h1 : a ≠ 21) (h2 : a ≠ 33) : z_at (zM12 h) (.ref a) = z_at (zM11 h) (.ref a) := zN1_n h1 (by rw [ha]; exact h2)
theorem zMk_e11 (ha : (zM11 h).1 = 33) : z_at (zM12 h) (.ref 33) = zA 1 18 (fun _ => 0) := zN1_e ha (by decide)
theorem zMk_n12 (ha : (zM12 h).1 = 34) {a : Nat} (h1 : a ≠ 21) (h2 : a ≠ 34) : z_at (zM13 h) (.ref a) = z_at (zM12 h) (.ref a) := zN1_n h1 (by rw [ha]; exact h2)
theorem zMk_e12 (ha : (zM12 h).1 = 34) : z_at (zM13 h) (.ref 34) = zA 1 18 (fun _ => 0) := zN1_e ha (by decide)
theorem zMk_n13 (ha : (zM13 h).1 = 35) {a : Nat} (h1 : a ≠ 21) (h2 : a ≠ 35) : z_at (zM14 h) (.ref a) = z_at (zM13 h) (.ref a) := zN1_n h1 (by rw [ha]; exact h2)
theorem zMk_e13 (ha : (zM13 h).1 = 35) : z_at (zM14 h) (.ref 35) = zA 1 18 (fun _ => 0) := zN1_e ha (by decide)
theorem zMk_n14 (ha : (zM14 h).1 = 36) {a : Nat} (h1 : a ≠ 21) (h2 : a ≠ 36) : z_at (zM15 h) (.ref a) = z_at (zM14 h) (.ref a) := zN1_n h1 (by rw [ha]; exact h2)
theorem zMk_e14 (ha : (zM14 h).1 = 36) : z_at (zM15 h) (.ref 36) = zA 1 18 (fun _ => 0) := zN1_e ha (by decide)
theorem zMk_n15 (ha : (zM15 h).1 = 37) {a : Nat} (h1 : a ≠ 21) (h2 : a ≠ 37) : z_at (zM16 h) (.ref a) = z_at (zM15 h) (.ref a) := zN1_n h1 (by rw [ha]; exact h2)
theorem zMk_e15 (ha : (zM15 h).1 = 37) : z_at (zM16 h) (.ref 37) = zA 1 18 (fun _ => 0) := zN1_e ha (by decide)
theorem zMk_n16 (ha : (zM16 h).1 = 38) {a : Nat} (h1 : a ≠ 21) (h2 : a ≠ 38) : z_at (zM17 h) (.ref a) = z_at (zM16 h) (.ref a) := zN1_n h1 (by rw [ha]; exact h2)
theorem zMk_e16 (ha : (zM16 h).1 = 38) : z_at (zM17 h) (.ref 38) = zA 1 18 (fun _ => 0) := zN1_e ha (by decide)
theorem zMk_n17 (ha : (zM17 h).1 = 39) {a : Nat} (h1 : a ≠ 21) (h2 : a ≠ 39) : z_at (zM18 h) (.ref a) = z_at (zM17 h) (.ref a) := zN1_n h1 (by rw [ha]; exact h2)
theorem zMk_e17 (ha : (zM17 h).1 = 39) : z_at (zM18 h) (.ref 39) = zA 1 18 (fun _ => 0) := zN1_e ha (by decide)
theorem zMk_n18 (ha : (zM18 h).1 = 40) {a : Nat} (h1 : a ≠ 21) (h2 : a ≠ 40) : z_at (zM19 h) (.ref a) = z_at (zM18 h) (.ref a) := zN1_n h1 (by rw [ha]; exact h2)
theorem zMk_e18 (ha : (zM18 h).1 = 40) : z_at (zM19 h) (.ref 40) = zA 3 54 (fun _ => 0) := zN1_e ha (by decide)
theorem zMk_n19 (ha : (zM19 h).1 = 41) {a : Nat} (h1 : a ≠ 21) (h2 : a ≠ 41) : z_at (zM20 h) (.ref a) = z_at (zM19 h) (.ref a) := zN1_n h1 (by rw [ha]; exact h2)
theorem zMk_e19 (ha : (zM19 h).1 = 41) : z_at (zM20 h) (.ref 41) = zA 1 4 (fun _ => 0) := zN1_e ha (by decide)
theorem zMk_n20 (ha : (zM20 h).1 = 42) {a : Nat} (h1 : a ≠ 21) (h2 : a ≠ 42) : z_at (zM21 h) (.ref a) = z_at (zM20 h) (.ref a) := zN1_n h1 (by rw [ha]; exact h2)
theorem zMk_e20 (ha : (zM20 h).1 = 42) : z_at (zM21 h) (.ref 42) = zA 1 4 (fun _ => 0) := zN1_e ha (by decide)
theorem zMk_n21 (ha : (zM21 h).1 = 43) {a : Nat} (h1 : a ≠ 21) (h2 : a ≠ 43) : z_at (zM22 h) (.ref a) = z_at (zM21 h) (.ref a) := zN1_n h1 (by rw [ha]; exact h2)
theorem zMk_e21 (ha : (zM21 h).1 = 43) : z_at (zM22 h) (.ref 43) = zA 1 4 (fun _ => 0) := zN1_e ha (by decide)
theorem zMk_n22 (ha : (zM22 h).1 = 44) {a : Nat} (h1 : a ≠ 21) (h2 : a ≠ 44) : z_at (zM23 h) (.ref a) = z_at (zM22 h) (.ref a) := zN1_n h1 (by rw [ha]; exact h2)
theorem zMk_e22 (ha : (zM22 h).1 = 44) : z_at (zM23 h) (.ref 44) = zA 1 4 (fun _ => 0) := zN1_e ha (by decide)
theorem zMk_n23 (ha : (zM23 h).1 = 45) {a : Nat} (h1 : a ≠ 21) (h2 : a ≠ 45) : z_at (zM24 h) (.ref a) = z_at (zM23 h) (.ref a) := zN1_n h1 (by rw [ha]; exact h2)
theorem zMk_e23 (ha : (zM23 h).1 = 45) : z_at (zM24 h) (.ref 45) = zA 1 4 (fun _ => 0) := zN1_e ha (by decide)
theorem zMk_n24 (ha : (zM24 h).1 = 46) {a : Nat} (h1 : a ≠ 21) (h2 : a ≠ 46) : z_at (zM25 h) (.ref a) = z_at (zM24 h) (.ref a) := zN1_n h1 (by rw [ha]; exact h2)
theorem zMk_e24 (ha : (zM24 h).1 = 46) : z_at (zM25 h) (.ref 46) = zA 3 32 (fun _ => 0) := zN1_e ha (by decide)
theorem zMk_n25 (ha : (zM25 h).1 = 47) {a : Nat} (h1 : a ≠ 21) (h2 : a ≠ 47) : z_at (zM26 h) (.ref a) = z_at (zM25 h) (.ref a) := zN1_n h1 (by rw [ha]; exact h2)
theorem zMk_e25 (ha : (zM25 h).1 = 47) : z_at (zM26 h) (.ref 47) = zA 4 4 (fun _ => 0) := zN1_e ha (by decide)
theorem zMk_n26 (ha : (zM26 h).1 = 48) {a : Nat} (h1 : a ≠ 21) (h2 : a ≠ 48) : z_at (zM27 h) (.ref a) = z_at (zM26 h) (.ref a) := zN1_n h1 (by rw [ha]; exact h2)
theorem zMk_e26 (ha : (zM26 h).1 = 48) : z_at (zM27 h) (.ref 48) = zLA 4 (fun _ => 0) := zN1_e ha (by decide)
theorem zMk_n27 (ha : (zM27 h).1 = 49) {a : Nat} (h1 : a ≠ 21) (h2 : a ≠ 49) : z_at (zM28 h) (.ref a) = z_at (zM27 h) (.ref a) := zN1_n h1 (by rw [ha]; exact h2)
theorem zMk_e27 (ha : (zM27 h).1 = 49) : z_at (zM28 h) (.ref 49) = zA 1 3 (fun _ => 0) := zN1_e ha (by decide)
theorem zMk_n28 (ha : (zM28 h).1 = 50) {a : Nat} (h1 : a ≠ 21) (h2 : a ≠ 50) : z_at (zM29 h) (.ref a) = z_at (zM28 h) (.ref a) := zN1_n h1 (by rw [ha]; exact h2)
theorem zMk_e28 (ha : (zM28 h).1 = 50) : z_at (zM29 h) (.ref 50) = zLA 1224 (fun _ => 0) := zN1_e ha (by decide)
theorem zMk_n29 (ha : (zM29 h).1 = 51) {a : Nat} (h1 : a ≠ 21) (h2 : a ≠ 51) : z_at (zM30 h) (.ref a) = z_at (zM29 h) (.ref a) := zN1_n h1 (by rw [ha]; exact h2)
theorem zMk_e29 (ha : (zM29 h).1 = 51) : z_at (zM30 h) (.ref 51) = zA 1 1224 (fun _ => 0) := zN1_e ha (by decide)
theorem zMk_n30 (ha : (zM30 h).1 = 52) {a : Nat} (h1 : a ≠ 21) (h2 : a ≠ 52) : z_at (zM31 h) (.ref a) = z_at (zM30 h) (.ref a) := zN1_n h1 (by rw [ha]; exact h2)
theorem zMk_e30 (ha : (zM30 h).1 = 52) : z_at (zM31 h) (.ref 52) = zA 3 16 (fun _ => 0) := zN1_e ha (by decide)
theorem zMk_n31 (ha : (zM31 h).1 = 53) {a : Nat} (h1 : a ≠ 21) (h2 : a ≠ 53) : z_at (zM32 h) (.ref a) = z_at (zM31 h) (.ref a) := zN1_n h1 (by rw [ha]; exact h2)
theorem zMk_e31 (ha : (zM31 h).1 = 53) : z_at (zM32 h) (.ref 53) = zA 1 9000 (fun _ => 0) := zN1_e ha (by decide)
theorem zMk_n32 (ha : (zM32 h).1 = 54) {a : Nat} (h1 : a ≠ 21) (h2 : a ≠ 54) : z_at (zM33 h) (.ref a) = z_at (zM32 h) (.ref a) := zN1_n h1 (by rw [ha]; exact h2)
theorem zMk_e32 (ha : (zM32 h).1 = 54) : z_at (zM33 h) (.ref 54) = zA 1 1700 (fun _ => 0) := zN1_e ha (by decide)
theorem zMk_n33 (ha : (zM33 h).1 = 55) {a : Nat} (h1 : a ≠ 21) (h2 : a ≠ 55) : z_at (zM34 h) (.ref a) = z_at (zM33 h) (.ref a) := zN1_n h1 (by rw [ha]; exact h2)
theorem zMk_e33 (ha : (zM33 h).1 = 55) : z_at (zM34 h) (.ref 55) = zA 1 64 (fun _ => 0) := zN1_e ha (by decide)
theorem zMk_n34 (ha : (zM34 h).1 = 56) {a : Nat} (h1 : a ≠ 21) (h2 : a ≠ 56) : z_at (zM35 h) (.ref a) = z_at (zM34 h) (.ref a) := zN1_n h1 (by rw [ha]; exact h2)
theorem zMk_e34 (ha : (zM34 h).1 = 56) : z_at (zM35 h) (.ref 56) = zA 1 64 (fun _ => 0) := zN1_e ha (by decide)
theorem zMk_n35 (ha : (zM35 h).1 = 57) {a : Nat} (h1 : a ≠ 21) (h2 : a ≠ 57) : z_at (zM36 h) (.ref a) = z_at (zM35 h) (.ref a) := zN1_n h1 (by rw [ha]; exact h2)
theorem zMk_e35 (ha : (zM35 h).1 = 57) : z_at (zM36 h) (.ref 57) = zA 4 64 (fun _ => 0) := zN1_e ha (by decide)
theorem zMk_n36 (ha : (zM36 h).1 = 58) {a : Nat} (h1 : a ≠ 21) (h2 : a ≠ 58) : z_at (zM37 h) (.ref a) = z_at (zM36 h) (.ref a) := zN1_n h1 (by rw [ha]; exact h2)
theorem zMk_e36 (ha : (zM36 h).1 = 58) : z_at (zM37 h) (.ref 58) = zA 3 512 (fun _ => 0) := zN1_e ha (by decide)
theorem zMk_n37 (ha : (zM37 h).1 = 59) {a : Nat} (h1 : a ≠ 21) (h2 : a ≠ 59) : z_at (zM38 h) (.ref a) = z_at (zM37 h) (.ref a) := zN1_n h1 (by rw [ha]; exact h2)
theorem zMk_e37 (ha : (zM37 h).1 = 59) : z_at (zM38 h) (.ref 59) = zLA 1700 (fun _ => 0) := zN1_e ha (by decide)
theorem zMk_n38 (ha : (zM38 h).1 = 60) {a : Nat} (h1 : a ≠ 21) (h2 : a ≠ 60) : z_at (zM39 h) (.ref a) = z_at (zM38 h) (.ref a) := zN1_n h1 (by rw [ha]; exact h2)
theorem zMk_e38 (ha : (zM38 h).1 = 60) : z_at (zM39 h) (.ref 60) = zLA 1700 (fun _ => 0) := zN1_e ha (by decide)
theorem zMk_n39 (ha : (zM39 h).1 = 61) {a : Nat} (h1 : a ≠ 21) (h2 : a ≠ 61) : z_at (zM40 h) (.ref a) = z_at (zM39 h) (.ref a) := zN1_n h1 (by rw [ha]; exact h2)
theorem zMk_e39 (ha : (zM39 h).1 = 61) : z_at (zM40 h) (.ref 61) = zLA 64 (fun _ => 0) := zN1_e ha (by decide)
theorem s27 (hH : h.1 = 22) (ho : z_at h (.ref 21) = .inr (11, zCt 0)) : z_Cl 27 [.ref 21] h Q = Q (.inl none) (zM40 h) := by
  obtain ⟨a0, a1, a2, a3, a4, a5, a6, a7, a8, a9, a10, a11, a12, a13, a14, a15, a16, a17, a18, a19, a20, a21, a22, a23, a24, a25, a26, a27, a28, a29, a30, a31, a32, a33, a34, a35, a36, a37, a38, a39, a40⟩ := zMk_1 hH
  have s0 : z_Cl 27 [.ref 21] h Q = z_Ev 27 4 [.ref 21] [] (zM0 h) Q := by
    show _ = z_Ev 27 4 [.ref 21] [] h Q
    simp (disch := first | omega | assumption | exact zq_r _ | exact zn_0 | exact zo_i _ | exact zo_r _ | exact zq_k _ | exact zq_n | exact zn_1 _ | exact zn_2 _ _ | exact zn_3 _ _ _ | exact zn_4 _ _ _ _ | exact zn_5 _ _ _ _ _ | exact zc_i _ | exact zc_r _ | exact zo_l _ | exact zo_k _ | exact zo_n | exact zc_rk _ | (rw [zx_id (by omega)]; omega) | (rw [zw_id (by omega)]; omega) | (apply z_ok_v; assumption) | (simp only [z_new_1, z_pu_1, mh_1]; omega)) only [z_EvO_some, z_EvG_t, z_Bk_n, z_Bk_s, z_brT, z_brF, z_br_pos, z_br_neg, not_true_eq_false, not_false_eq_true, Bool.true_eq_false, Bool.false_eq_true, Bool.not_eq_false, Bool.not_eq_true, eq_self, z_kl_i, z_kl_l, z_kl_r, z_kl_k, z_kl_n, z_kl_u, z_kl_v, zi_f, zl_f, z_put_r, z_nul_n, z_nul_r, zcmp_lt, zcmp_le, zcmp_ge, zcmp_gt, zcmp_eq, zw_id, zx_id, Nat.reduceAdd, z_tf_i, z_tf_l, z_tf_z, zl_zx, zi_zw, z_gf0, z_gf1, z_gf2, z_gf3, z_gf4, z_gf5, z_gf6, z_gf7, z_pf0, z_pf1, z_pf2, z_pf3, z_pf4, z_pf5, z_pf6, z_pf7, z_ob1, zb_0, zb_1, zb_tf, e27, r27_0, r27_1]
  have o0 : z_at (zM0 h) (.ref 21) = .inr (11, zCt 0) := ho
  have o1 : z_at (zM1 h) (.ref 21) = .inr (11, zCt 1) := zN1_o
  have o2 : z_at (zM2 h) (.ref 21) = .inr (11, zCt 2) := zN1_o
  have o3 : z_at (zM3 h) (.ref 21) = .inr (11, zCt 3) := zN1_o
  have o4 : z_at (zM4 h) (.ref 21) = .inr (11, zCt 4) := zN1_o
  have o5 : z_at (zM5 h) (.ref 21) = .inr (11, zCt 5) := zN1_o
  have o6 : z_at (zM6 h) (.ref 21) = .inr (11, zCt 6) := zN1_o
  have o7 : z_at (zM7 h) (.ref 21) = .inr (11, zCt 7) := zN1_o
  have o8 : z_at (zM8 h) (.ref 21) = .inr (11, zCt 8) := zN1_o
  have o9 : z_at (zM9 h) (.ref 21) = .inr (11, zCt 9) := zN1_o
  have o10 : z_at (zM10 h) (.ref 21) = .inr (11, zCt 10) := zN1_o
  have o11 : z_at (zM11 h) (.ref 21) = .inr (11, zCt 11) := zN1_o
  have o12 : z_at (zM12 h) (.ref 21) = .inr (11, zCt 12) := zN1_o
  have o13 : z_at (zM13 h) (.ref 21) = .inr (11, zCt 13) := zN1_o
  have o14 : z_at (zM14 h) (.ref 21) = .inr (11, zCt 14) := zN1_o
  have o15 : z_at (zM15 h) (.ref 21) = .inr (11, zCt 15) := zN1_o
  have o16 : z_at (zM16 h) (.ref 21) = .inr (11, zCt 16) := zN1_o
  have o17 : z_at (zM17 h) (.ref 21) = .inr (11, zCt 17) := zN1_o
  have o18 : z_at (zM18 h) (.ref 21) = .inr (11, zCt 18) := zN1_o
  have o19 : z_at (zM19 h) (.ref 21) = .inr (11, zCt 19) := zN1_o
  have o20 : z_at (zM20 h) (.ref 21) = .inr (11, zCt 20) := zN1_o
  have o21 : z_at (zM21 h) (.ref 21) = .inr (11, zCt 21) := zN1_o
  have o22 : z_at (zM22 h) (.ref 21) = .inr (11, zCt 22) := zN1_o
  have o23 : z_at (zM23 h) (.ref 21) = .inr (11, zCt 23) := zN1_o
  have o24 : z_at (zM24 h) (.ref 21) = .inr (11, zCt 24) := zN1_o
  have o25 : z_at (zM25 h) (.ref 21) = .inr (11, zCt 25) := zN1_o
  have o26 : z_at (zM26 h) (.ref 21) = .inr (11, zCt 26) := zN1_o
  have o27 : z_at (zM27 h) (.ref 21) = .inr (11, zCt 27) := zN1_o
  have o28 : z_at (zM28 h) (.ref 21) = .inr (11, zCt 28) := zN1_o
  have o29 : z_at (zM29 h) (.ref 21) = .inr (11, zCt 29) := zN1_o
  have o30 : z_at (zM30 h) (.ref 21) = .inr (11, zCt 30) := zN1_o
  have o31 : z_at (zM31 h) (.ref 21) = .inr (11, zCt 31) := zN1_o
  have o32 : z_at (zM32 h) (.ref 21) = .inr (11, zCt 32) := zN1_o
  have o33 : z_at (zM33 h) (.ref 21) = .inr (11, zCt 33) := zN1_o
  have o34 : z_at (zM34 h) (.ref 21) = .inr (11, zCt 34) := zN1_o
  have o35 : z_at (zM35 h) (.ref 21) = .inr (11, zCt 35) := zN1_o
  have o36 : z_at (zM36 h) (.ref 21) = .inr (11, zCt 36) := zN1_o
  have o37 : z_at (zM37 h) (.ref 21) = .inr (11, zCt 37) := zN1_o
  have o38 : z_at (zM38 h) (.ref 21) = .inr (11, zCt 38) := zN1_o
  have o39 : z_at (zM39 h) (.ref 21) = .inr (11, zCt 39) := zN1_o
  rw [s0]
  refine (n27_0 (Q := Q) a0 o0).trans ?_
  show z_Ev 27 450 [.ref 21] [] (zM1 h) Q = _
  refine (n27_1 (Q := Q) a1 o1).trans ?_
  show z_Ev 27 752 [.ref 21] [] (zM2 h) Q = _
  refine (n27_2 (Q := Q) a2 o2).trans ?_
  show z_Ev 27 831 [.ref 21] [] (zM3 h) Q = _
  refine (n27_3 (Q := Q) a3 o3).trans ?_
  show z_Ev 27 880 [.ref 21] [] (zM4 h) Q = _
  refine (n27_4 (Q := Q) a4 o4).trans ?_
  show z_Ev 27 888 [.ref 21] [] (zM5 h) Q = _
  refine (n27_5 (Q := Q) a5 o5).trans ?_
  show z_Ev 27 896 [.ref 21] [] (zM6 h) Q = _
  refine (n27_6 (Q := Q) a6 o6).trans ?_
  show z_Ev 27 904 [.ref 21] [] (zM7 h) Q = _
  refine (n27_7 (Q := Q) a7 o7).trans ?_
  show z_Ev 27 911 [.ref 21] [] (zM8 h) Q = _
  refine (n27_8 (Q := Q) a8 o8).trans ?_
  show z_Ev 27 919 [.ref 21] [] (zM9 h) Q = _
  refine (n27_9 (Q := Q) a9 o9).trans ?_
  show z_Ev 27 927 [.ref 21] [] (zM10 h) Q = _
  refine (n27_10 (Q := Q) a10 o10).trans ?_
  show z_Ev 27 935 [.ref 21] [] (zM11 h) Q = _
  refine (n27_11 (Q := Q) a11 o11).trans ?_
  show z_Ev 27 943 [.ref 21] [] (zM12 h) Q = _
  refine (n27_12 (Q := Q) a12 o12).trans ?_
  show z_Ev 27 951 [.ref 21] [] (zM13 h) Q = _
  refine (n27_13 (Q := Q) a13 o13).trans ?_
  show z_Ev 27 959 [.ref 21] [] (zM14 h) Q = _
  refine (n27_14 (Q := Q) a14 o14).trans ?_
  show z_Ev 27 967 [.ref 21] [] (zM15 h) Q = _
  refine (n27_15 (Q := Q) a15 o15).trans ?_
  show z_Ev 27 975 [.ref 21] [] (zM16 h) Q = _
  refine (n27_16 (Q := Q) a16 o16).trans ?_
  show z_Ev 27 983 [.ref 21] [] (zM17 h) Q = _
  refine (n27_17 (Q := Q) a17 o17).trans ?_
  show z_Ev 27 991 [.ref 21] [] (zM18 h) Q = _
  refine (n27_18 (Q := Q) a18 o18).trans ?_
  show z_Ev 27 999 [.ref 21] [] (zM19 h) Q = _
  refine (n27_19 (Q := Q) a19 o19).trans ?_
  show z_Ev 27 1006 [.ref 21] [] (zM20 h) Q = _
  refine (n27_20 (Q := Q) a20 o20).trans ?_
  show z_Ev 27 1013 [.ref 21] [] (zM21 h) Q = _
  refine (n27_21 (Q := Q) a21 o21).trans ?_
  show z_Ev 27 1020 [.ref 21] [] (zM22 h) Q = _
  refine (n27_22 (Q := Q) a22 o22).trans ?_
  show z_Ev 27 1027 [.ref 21] [] (zM23 h) Q = _
  refine (n27_23 (Q := Q) a23 o23).trans ?_
  show z_Ev 27 1034 [.ref 21] [] (zM24 h) Q = _
  refine (n27_24 (Q := Q) a24 o24).trans ?_
  show z_Ev 27 1042 [.ref 21] [] (zM25 h) Q = _
  refine (n27_25 (Q := Q) a25 o25).trans ?_
  show z_Ev 27 1049 [.ref 21] [] (zM26 h) Q = _
  refine (n27_26 (Q := Q) a26 o26).trans ?_
  show z_Ev 27 1056 [.ref 21] [] (zM27 h) Q = _
  refine (n27_27 (Q := Q) a27 o27).trans ?_
  show z_Ev 27 1063 [.ref 21] [] (zM28 h) Q = _
  refine (n27_28 (Q := Q) a28 o28).trans ?_
  show z_Ev 27 1072 [.ref 21] [] (zM29 h) Q = _
  refine (n27_29 (Q := Q) a29 o29).trans ?_
  show z_Ev 27 1081 [.ref 21] [] (zM30 h) Q = _
  refine (n27_30 (Q := Q) a30 o30).trans ?_
  show z_Ev 27 1089 [.ref 21] [] (zM31 h) Q = _
  refine (n27_31 (Q := Q) a31 o31).trans ?_
  show z_Ev 27 1098 [.ref 21] [] (zM32 h) Q = _
  refine (n27_32 (Q := Q) a32 o32).trans ?_
  show z_Ev 27 1107 [.ref 21] [] (zM33 h) Q = _
  refine (n27_33 (Q := Q) a33 o33).trans ?_
  show z_Ev 27 1115 [.ref 21] [] (zM34 h) Q = _
  refine (n27_34 (Q := Q) a34 o34).trans ?_
  show z_Ev 27 1123 [.ref 21] [] (zM35 h) Q = _
  refine (n27_35 (Q := Q) a35 o35).trans ?_
  show z_Ev 27 1131 [.ref 21] [] (zM36 h) Q = _
  refine (n27_36 (Q := Q) a36 o36).trans ?_
  show z_Ev 27 1140 [.ref 21] [] (zM37 h) Q = _
  refine (n27_37 (Q := Q) a37 o37).trans ?_
  show z_Ev 27 1149 [.ref 21] [] (zM38 h) Q = _
  refine (n27_38 (Q := Q) a38 o38).trans ?_
  show z_Ev 27 1158 [.ref 21] [] (zM39 h) Q = _
  refine (n27_39 (Q := Q) a39 o39).trans ?_
  show z_Ev 27 1166 [.ref 21] [] (zM40 h) Q = _
  exact r27_1166
theorem zMk_lo (hH : h.1 = 22) {a : Nat} (ha : a < 21 ∨ 61 < a) : z_at (zM40 h) (.ref a) = z_at h (.ref a) := by
  obtain ⟨a0, a1, a2, a3, a4, a5, a6, a7, a8, a9, a10, a11, a12, a13, a14, a15, a16, a17, a18, a19, a20, a21, a22, a23, a24, a25, a26, a27, a28, a29, a30, a31, a32, a33, a34, a35, a36, a37, a38, a39, a40⟩ := zMk_1 hH
  rw [zMk_n39 a39 (by omega) (by omega), zMk_n38 a38 (by omega) (by omega), zMk_n37 a37 (by omega) (by omega), zMk_n36 a36 (by omega) (by omega), zMk_n35 a35 (by omega) (by omega), zMk_n34 a34 (by omega) (by omega), zMk_n33 a33 (by omega) (by omega), zMk_n32 a32 (by omega) (by omega), zMk_n31 a31 (by omega) (by omega), zMk_n30 a30 (by omega) (by omega), zMk_n29 a29 (by omega) (by omega), zMk_n28 a28 (by omega) (by omega), zMk_n27 a27 (by omega) (by omega), zMk_n26 a26 (by omega) (by omega), zMk_n25 a25 (by omega) (by omega), zMk_n24 a24 (by omega) (by omega), zMk_n23 a23 (by omega) (by omega), zMk_n22 a22 (by omega) (by omega), zMk_n21 a21 (by omega) (by omega), zMk_n20 a20 (by omega) (by omega), zMk_n19 a19 (by omega) (by omega), zMk_n18 a18 (by omega) (by omega), zMk_n17 a17 (by omega) (by omega), zMk_n16 a16 (by omega) (by omega), zMk_n15 a15 (by omega) (by omega), zMk_n14 a14 (by omega) (by omega), zMk_n13 a13 (by omega) (by omega), zMk_n12 a12 (by omega) (by omega), zMk_n11 a11 (by omega) (by omega), zMk_n10 a10 (by omega) (by omega), zMk_n9 a9 (by omega) (by omega), zMk_n8 a8 (by omega) (by omega), zMk_n7 a7 (by omega) (by omega), zMk_n6 a6 (by omega) (by omega), zMk_n5 a5 (by omega) (by omega), zMk_n4 a4 (by omega) (by omega), zMk_n3 a3 (by omega) (by omega), zMk_n2 a2 (by omega) (by omega), zMk_n1 a1 (by omega) (by omega), zMk_n0 a0 (by omega) (by omega)]
  rfl
theorem zMk_a0 (hH : h.1 = 22) : z_at (zM40 h) (.ref 22) = marr 22 (zg0 22) := by
  obtain ⟨a0, a1, a2, a3, a4, a5, a6, a7, a8, a9, a10, a11, a12, a13, a14, a15, a16, a17, a18, a19, a20, a21, a22, a23, a24, a25, a26, a27, a28, a29, a30, a31, a32, a33, a34, a35, a36, a37, a38, a39, a40⟩ := zMk_1 hH
  rw [zMk_n39 a39 (by decide) (by decide), zMk_n38 a38 (by decide) (by decide), zMk_n37 a37 (by decide) (by decide), zMk_n36 a36 (by decide) (by decide), zMk_n35 a35 (by decide) (by decide), zMk_n34 a34 (by decide) (by decide), zMk_n33 a33 (by decide) (by decide), zMk_n32 a32 (by decide) (by decide), zMk_n31 a31 (by decide) (by decide), zMk_n30 a30 (by decide) (by decide), zMk_n29 a29 (by decide) (by decide), zMk_n28 a28 (by decide) (by decide), zMk_n27 a27 (by decide) (by decide), zMk_n26 a26 (by decide) (by decide), zMk_n25 a25 (by decide) (by decide), zMk_n24 a24 (by decide) (by decide), zMk_n23 a23 (by decide) (by decide), zMk_n22 a22 (by decide) (by decide), zMk_n21 a21 (by decide) (by decide), zMk_n20 a20 (by decide) (by decide), zMk_n19 a19 (by decide) (by decide), zMk_n18 a18 (by decide) (by decide), zMk_n17 a17 (by decide) (by decide), zMk_n16 a16 (by decide) (by decide), zMk_n15 a15 (by decide) (by decide), zMk_n14 a14 (by decide) (by decide), zMk_n13 a13 (by decide) (by decide), zMk_n12 a12 (by decide) (by decide), zMk_n11 a11 (by decide) (by decide), zMk_n10 a10 (by decide) (by decide), zMk_n9 a9 (by decide) (by decide), zMk_n8 a8 (by decide) (by decide), zMk_n7 a7 (by decide) (by decide), zMk_n6 a6 (by decide) (by decide), zMk_n5 a5 (by decide) (by decide), zMk_n4 a4 (by decide) (by decide), zMk_n3 a3 (by decide) (by decide), zMk_n2 a2 (by decide) (by decide), zMk_n1 a1 (by decide) (by decide)]
  exact (zMk_e0 a0).trans rfl
theorem zMk_a1 (hH : h.1 = 22) : z_at (zM40 h) (.ref 23) = marr 23 (zg0 23) := by
  obtain ⟨a0, a1, a2, a3, a4, a5, a6, a7, a8, a9, a10, a11, a12, a13, a14, a15, a16, a17, a18, a19, a20, a21, a22, a23, a24, a25, a26, a27, a28, a29, a30, a31, a32, a33, a34, a35, a36, a37, a38, a39, a40⟩ := zMk_1 hH
  rw [zMk_n39 a39 (by decide) (by decide), zMk_n38 a38 (by decide) (by decide), zMk_n37 a37 (by decide) (by decide), zMk_n36 a36 (by decide) (by decide), zMk_n35 a35 (by decide) (by decide), zMk_n34 a34 (by decide) (by decide), zMk_n33 a33 (by decide) (by decide), zMk_n32 a32 (by decide) (by decide), zMk_n31 a31 (by decide) (by decide), zMk_n30 a30 (by decide) (by decide), zMk_n29 a29 (by decide) (by decide), zMk_n28 a28 (by decide) (by decide), zMk_n27 a27 (by decide) (by decide), zMk_n26 a26 (by decide) (by decide), zMk_n25 a25 (by decide) (by decide), zMk_n24 a24 (by decide) (by decide), zMk_n23 a23 (by decide) (by decide), zMk_n22 a22 (by decide) (by decide), zMk_n21 a21 (by decide) (by decide), zMk_n20 a20 (by decide) (by decide), zMk_n19 a19 (by decide) (by decide), zMk_n18 a18 (by decide) (by decide), zMk_n17 a17 (by decide) (by decide), zMk_n16 a16 (by decide) (by decide), zMk_n15 a15 (by decide) (by decide), zMk_n14 a14 (by decide) (by decide), zMk_n13 a13 (by decide) (by decide), zMk_n12 a12 (by decide) (by decide), zMk_n11 a11 (by decide) (by decide), zMk_n10 a10 (by decide) (by decide), zMk_n9 a9 (by decide) (by decide), zMk_n8 a8 (by decide) (by decide), zMk_n7 a7 (by decide) (by decide), zMk_n6 a6 (by decide) (by decide), zMk_n5 a5 (by decide) (by decide), zMk_n4 a4 (by decide) (by decide), zMk_n3 a3 (by decide) (by decide), zMk_n2 a2 (by decide) (by decide)]
  exact (zMk_e1 a1).trans rfl
theorem zMk_a2 (hH : h.1 = 22) : z_at (zM40 h) (.ref 24) = marr 24 (zg0 24) := by
  obtain ⟨a0, a1, a2, a3, a4, a5, a6, a7, a8, a9, a10, a11, a12, a13, a14, a15, a16, a17, a18, a19, a20, a21, a22, a23, a24, a25, a26, a27, a28, a29, a30, a31, a32, a33, a34, a35, a36, a37, a38, a39, a40⟩ := zMk_1 hH
  rw [zMk_n39 a39 (by decide) (by decide), zMk_n38 a38 (by decide) (by decide), zMk_n37 a37 (by decide) (by decide), zMk_n36 a36 (by decide) (by decide), zMk_n35 a35 (by decide) (by decide), zMk_n34 a34 (by decide) (by decide), zMk_n33 a33 (by decide) (by decide), zMk_n32 a32 (by decide) (by decide), zMk_n31 a31 (by decide) (by decide), zMk_n30 a30 (by decide) (by decide), zMk_n29 a29 (by decide) (by decide), zMk_n28 a28 (by decide) (by decide), zMk_n27 a27 (by decide) (by decide), zMk_n26 a26 (by decide) (by decide), zMk_n25 a25 (by decide) (by decide), zMk_n24 a24 (by decide) (by decide), zMk_n23 a23 (by decide) (by decide), zMk_n22 a22 (by decide) (by decide), zMk_n21 a21 (by decide) (by decide), zMk_n20 a20 (by decide) (by decide), zMk_n19 a19 (by decide) (by decide), zMk_n18 a18 (by decide) (by decide), zMk_n17 a17 (by decide) (by decide), zMk_n16 a16 (by decide) (by decide), zMk_n15 a15 (by decide) (by decide), zMk_n14 a14 (by decide) (by decide), zMk_n13 a13 (by decide) (by decide), zMk_n12 a12 (by decide) (by decide), zMk_n11 a11 (by decide) (by decide), zMk_n10 a10 (by decide) (by decide), zMk_n9 a9 (by decide) (by decide), zMk_n8 a8 (by decide) (by decide), zMk_n7 a7 (by decide) (by decide), zMk_n6 a6 (by decide) (by decide), zMk_n5 a5 (by decide) (by decide), zMk_n4 a4 (by decide) (by decide), zMk_n3 a3 (by decide) (by decide)]
  exact (zMk_e2 a2).trans rfl
theorem zMk_a3 (hH : h.1 = 22) : z_at (zM40 h) (.ref 25) = marr 25 (zg0 25) := by
  obtain ⟨a0, a1, a2, a3, a4, a5, a6, a7, a8, a9, a10, a11, a12, a13, a14, a15, a16, a17, a18, a19, a20, a21, a22, a23, a24, a25, a26, a27, a28, a29, a30, a31, a32, a33, a34, a35, a36, a37, a38, a39, a40⟩ := zMk_1 hH
  rw [zMk_n39 a39 (by decide) (by decide), zMk_n38 a38 (by decide) (by decide), zMk_n37 a37 (by decide) (by decide), zMk_n36 a36 (by decide) (by decide), zMk_n35 a35 (by decide) (by decide), zMk_n34 a34 (by decide) (by decide), zMk_n33 a33 (by decide) (by decide), zMk_n32 a32 (by decide) (by decide), zMk_n31 a31 (by decide) (by decide), zMk_n30 a30 (by decide) (by decide), zMk_n29 a29 (by decide) (by decide), zMk_n28 a28 (by decide) (by decide), zMk_n27 a27 (by decide) (by decide), zMk_n26 a26 (by decide) (by decide), zMk_n25 a25 (by decide) (by decide), zMk_n24 a24 (by decide) (by decide), zMk_n23 a23 (by decide) (by decide), zMk_n22 a22 (by decide) (by decide), zMk_n21 a21 (by decide) (by decide), zMk_n20 a20 (by decide) (by decide), zMk_n19 a19 (by decide) (by decide), zMk_n18 a18 (by decide) (by decide), zMk_n17 a17 (by decide) (by decide), zMk_n16 a16 (by decide) (by decide), zMk_n15 a15 (by decide) (by decide), zMk_n14 a14 (by decide) (by decide), zMk_n13 a13 (by decide) (by decide), zMk_n12 a12 (by decide) (by decide), zMk_n11 a11 (by decide) (by decide), zMk_n10 a10 (by decide) (by decide), zMk_n9 a9 (by decide) (by decide), zMk_n8 a8 (by decide) (by decide), zMk_n7 a7 (by decide) (by decide), zMk_n6 a6 (by decide) (by decide), zMk_n5 a5 (by decide) (by decide), zMk_n4 a4 (by decide) (by decide)]
  exact (zMk_e3 a3).trans rfl
theorem zMk_a4 (hH : h.1 = 22) : z_at (zM40 h) (.ref 26) = marr 26 (zg0 26) := by
  obtain ⟨a0, a1, a2, a3, a4, a5, a6, a7, a8, a9, a10, a11, a12, a13, a14, a15, a16, a17, a18, a19, a20, a21, a22, a23, a24, a25, a26, a27, a28, a29, a30, a31, a32, a33, a34, a35, a36, a37, a38, a39, a40⟩ := zMk_1 hH
  rw [zMk_n39 a39 (by decide) (by decide), zMk_n38 a38 (by decide) (by decide), zMk_n37 a37 (by decide) (by decide), zMk_n36 a36 (by decide) (by decide), zMk_n35 a35 (by decide) (by decide), zMk_n34 a34 (by decide) (by decide), zMk_n33 a33 (by decide) (by decide), zMk_n32 a32 (by decide) (by decide), zMk_n31 a31 (by decide) (by decide), zMk_n30 a30 (by decide) (by decide), zMk_n29 a29 (by decide) (by decide), zMk_n28 a28 (by decide) (by decide), zMk_n27 a27 (by decide) (by decide), zMk_n26 a26 (by decide) (by decide), zMk_n25 a25 (by decide) (by decide), zMk_n24 a24 (by decide) (by decide), zMk_n23 a23 (by decide) (by decide), zMk_n22 a22 (by decide) (by decide), zMk_n21 a21 (by decide) (by decide), zMk_n20 a20 (by decide) (by decide), zMk_n19 a19 (by decide) (by decide), zMk_n18 a18 (by decide) (by decide), zMk_n17 a17 (by decide) (by decide), zMk_n16 a16 (by decide) (by decide), zMk_n15 a15 (by decide) (by decide), zMk_n14 a14 (by decide) (by decide), zMk_n13 a13 (by decide) (by decide), zMk_n12 a12 (by decide) (by decide), zMk_n11 a11 (by decide) (by decide), zMk_n10 a10 (by decide) (by decide), zMk_n9 a9 (by decide) (by decide), zMk_n8 a8 (by decide) (by decide), zMk_n7 a7 (by decide) (by decide), zMk_n6 a6 (by decide) (by decide), zMk_n5 a5 (by decide) (by decide)]
  exact (zMk_e4 a4).trans rfl
theorem zMk_a5 (hH : h.1 = 22) : z_at (zM40 h) (.ref 27) = marr 27 (zg0 27) := by
  obtain ⟨a0, a1, a2, a3, a4, a5, a6, a7, a8, a9, a10, a11, a12, a13, a14, a15, a16, a17, a18, a19, a20, a21, a22, a23, a24, a25, a26, a27, a28, a29, a30, a31, a32, a33, a34, a35, a36, a37, a38, a39, a40⟩ := zMk_1 hH
  rw [zMk_n39 a39 (by decide) (by decide), zMk_n38 a38 (by decide) (by decide), zMk_n37 a37 (by decide) (by decide), zMk_n36 a36 (by decide) (by decide), zMk_n35 a35 (by decide) (by decide), zMk_n34 a34 (by decide) (by decide), zMk_n33 a33 (by decide) (by decide), zMk_n32 a32 (by decide) (by decide), zMk_n31 a31 (by decide) (by decide), zMk_n30 a30 (by decide) (by decide), zMk_n29 a29 (by decide) (by decide), zMk_n28 a28 (by decide) (by decide), zMk_n27 a27 (by decide) (by decide), zMk_n26 a26 (by decide) (by decide), zMk_n25 a25 (by decide) (by decide), zMk_n24 a24 (by decide) (by decide), zMk_n23 a23 (by decide) (by decide), zMk_n22 a22 (by decide) (by decide), zMk_n21 a21 (by decide) (by decide), zMk_n20 a20 (by decide) (by decide), zMk_n19 a19 (by decide) (by decide), zMk_n18 a18 (by decide) (by decide), zMk_n17 a17 (by decide) (by decide), zMk_n16 a16 (by decide) (by decide), zMk_n15 a15 (by decide) (by decide), zMk_n14 a14 (by decide) (by decide), zMk_n13 a13 (by decide) (by decide), zMk_n12 a12 (by decide) (by decide), zMk_n11 a11 (by decide) (by decide), zMk_n10 a10 (by decide) (by decide), zMk_n9 a9 (by decide) (by decide), zMk_n8 a8 (by decide) (by decide), zMk_n7 a7 (by decide) (by decide), zMk_n6 a6 (by decide) (by decide)]
  exact (zMk_e5 a5).trans rfl
theorem zMk_a6 (hH : h.1 = 22) : z_at (zM40 h) (.ref 28) = marr 28 (zg0 28) := by
  obtain ⟨a0, a1, a2, a3, a4, a5, a6, a7, a8, a9, a10, a11, a12, a13, a14, a15, a16, a17, a18, a19, a20, a21, a22, a23, a24, a25, a26, a27, a28, a29, a30, a31, a32, a33, a34, a35, a36, a37, a38, a39, a40⟩ := zMk_1 hH
  rw [zMk_n39 a39 (by decide) (by decide), zMk_n38 a38 (by decide) (by decide), zMk_n37 a37 (by decide) (by decide), zMk_n36 a36 (by decide) (by decide), zMk_n35 a35 (by decide) (by decide), zMk_n34 a34 (by decide) (by decide), zMk_n33 a33 (by decide) (by decide), zMk_n32 a32 (by decide) (by decide), zMk_n31 a31 (by decide) (by decide), zMk_n30 a30 (by decide) (by decide), zMk_n29 a29 (by decide) (by decide), zMk_n28 a28 (by decide) (by decide), zMk_n27 a27 (by decide) (by decide), zMk_n26 a26 (by decide) (by decide), zMk_n25 a25 (by decide) (by decide), zMk_n24 a24 (by decide) (by decide), zMk_n23 a23 (by decide) (by decide), zMk_n22 a22 (by decide) (by decide), zMk_n21 a21 (by decide) (by decide), zMk_n20 a20 (by decide) (by decide), zMk_n19 a19 (by decide) (by decide), zMk_n18 a18 (by decide) (by decide), zMk_n17 a17 (by decide) (by decide), zMk_n16 a16 (by decide) (by decide), zMk_n15 a15 (by decide) (by decide), zMk_n14 a14 (by decide) (by decide), zMk_n13 a13 (by decide) (by decide), zMk_n12 a12 (by decide) (by decide), zMk_n11 a11 (by decide) (by decide), zMk_n10 a10 (by decide) (by decide), zMk_n9 a9 (by decide) (by decide), zMk_n8 a8 (by decide) (by decide), zMk_n7 a7 (by decide) (by decide)]
  exact (zMk_e6 a6).trans rfl
theorem zMk_a7 (hH : h.1 = 22) : z_at (zM40 h) (.ref 29) = marr 29 (zg0 29) := by
  obtain ⟨a0, a1, a2, a3, a4, a5, a6, a7, a8, a9, a10, a11, a12, a13, a14, a15, a16, a17, a18, a19, a20, a21, a22, a23, a24, a25, a26, a27, a28, a29, a30, a31, a32, a33, a34, a35, a36, a37, a38, a39, a40⟩ := zMk_1 hH
  rw [zMk_n39 a39 (by decide) (by decide), zMk_n38 a38 (by decide) (by decide), zMk_n37 a37 (by decide) (by decide), zMk_n36 a36 (by decide) (by decide), zMk_n35 a35 (by decide) (by decide), zMk_n34 a34 (by decide) (by decide), zMk_n33 a33 (by decide) (by decide), zMk_n32 a32 (by decide) (by decide), zMk_n31 a31 (by decide) (by decide), zMk_n30 a30 (by decide) (by decide), zMk_n29 a29 (by decide) (by decide), zMk_n28 a28 (by decide) (by decide), zMk_n27 a27 (by decide) (by decide), zMk_n26 a26 (by decide) (by decide), zMk_n25 a25 (by decide) (by decide), zMk_n24 a24 (by decide) (by decide), zMk_n23 a23 (by decide) (by decide), zMk_n22 a22 (by decide) (by decide), zMk_n21 a21 (by decide) (by decide), zMk_n20 a20 (by decide) (by decide), zMk_n19 a19 (by decide) (by decide), zMk_n18 a18 (by decide) (by decide), zMk_n17 a17 (by decide) (by decide), zMk_n16 a16 (by decide) (by decide), zMk_n15 a15 (by decide) (by decide), zMk_n14 a14 (by decide) (by decide), zMk_n13 a13 (by decide) (by decide), zMk_n12 a12 (by decide) (by decide), zMk_n11 a11 (by decide) (by decide), zMk_n10 a10 (by decide) (by decide), zMk_n9 a9 (by decide) (by decide), zMk_n8 a8 (by decide) (by decide)]
  exact (zMk_e7 a7).trans rfl
theorem zMk_a8 (hH : h.1 = 22) : z_at (zM40 h) (.ref 30) = marr 30 (zg0 30) := by
  obtain ⟨a0, a1, a2, a3, a4, a5, a6, a7, a8, a9, a10, a11, a12, a13, a14, a15, a16, a17, a18, a19, a20, a21, a22, a23, a24, a25, a26, a27, a28, a29, a30, a31, a32, a33, a34, a35, a36, a37, a38, a39, a40⟩ := zMk_1 hH
  rw [zMk_n39 a39 (by decide) (by decide), zMk_n38 a38 (by decide) (by decide), zMk_n37 a37 (by decide) (by decide), zMk_n36 a36 (by decide) (by decide), zMk_n35 a35 (by decide) (by decide), zMk_n34 a34 (by decide) (by decide), zMk_n33 a33 (by decide) (by decide), zMk_n32 a32 (by decide) (by decide), zMk_n31 a31 (by decide) (by decide), zMk_n30 a30 (by decide) (by decide), zMk_n29 a29 (by decide) (by decide), zMk_n28 a28 (by decide) (by decide), zMk_n27 a27 (by decide) (by decide), zMk_n26 a26 (by decide) (by decide), zMk_n25 a25 (by decide) (by decide), zMk_n24 a24 (by decide) (by decide), zMk_n23 a23 (by decide) (by decide), zMk_n22 a22 (by decide) (by decide), zMk_n21 a21 (by decide) (by decide), zMk_n20 a20 (by decide) (by decide), zMk_n19 a19 (by decide) (by decide), zMk_n18 a18 (by decide) (by decide), zMk_n17 a17 (by decide) (by decide), zMk_n16 a16 (by decide) (by decide), zMk_n15 a15 (by decide) (by decide), zMk_n14 a14 (by decide) (by decide), zMk_n13 a13 (by decide) (by decide), zMk_n12 a12 (by decide) (by decide), zMk_n11 a11 (by decide) (by decide), zMk_n10 a10 (by decide) (by decide), zMk_n9 a9 (by decide) (by decide)]
  exact (zMk_e8 a8).trans rfl
theorem zMk_a9 (hH : h.1 = 22) : z_at (zM40 h) (.ref 31) = marr 31 (zg0 31) := by
  obtain ⟨a0, a1, a2, a3, a4, a5, a6, a7, a8, a9, a10, a11, a12, a13, a14, a15, a16, a17, a18, a19, a20, a21, a22, a23, a24, a25, a26, a27, a28, a29, a30, a31, a32, a33, a34, a35, a36, a37, a38, a39, a40⟩ := zMk_1 hH
  rw [zMk_n39 a39 (by decide) (by decide), zMk_n38 a38 (by decide) (by decide), zMk_n37 a37 (by decide) (by decide), zMk_n36 a36 (by decide) (by decide), zMk_n35 a35 (by decide) (by decide), zMk_n34 a34 (by decide) (by decide), zMk_n33 a33 (by decide) (by decide), zMk_n32 a32 (by decide) (by decide), zMk_n31 a31 (by decide) (by decide), zMk_n30 a30 (by decide) (by decide), zMk_n29 a29 (by decide) (by decide), zMk_n28 a28 (by decide) (by decide), zMk_n27 a27 (by decide) (by decide), zMk_n26 a26 (by decide) (by decide), zMk_n25 a25 (by decide) (by decide), zMk_n24 a24 (by decide) (by decide), zMk_n23 a23 (by decide) (by decide), zMk_n22 a22 (by decide) (by decide), zMk_n21 a21 (by decide) (by decide), zMk_n20 a20 (by decide) (by decide), zMk_n19 a19 (by decide) (by decide), zMk_n18 a18 (by decide) (by decide), zMk_n17 a17 (by decide) (by decide), zMk_n16 a16 (by decide) (by decide), zMk_n15 a15 (by decide) (by decide), zMk_n14 a14 (by decide) (by decide), zMk_n13 a13 (by decide) (by decide), zMk_n12 a12 (by decide) (by decide), zMk_n11 a11 (by decide) (by decide), zMk_n10 a10 (by decide) (by decide)]
  exact (zMk_e9 a9).trans rfl
theorem zMk_a10 (hH : h.1 = 22) : z_at (zM40 h) (.ref 32) = marr 32 (zg0 32) := by
  obtain ⟨a0, a1, a2, a3, a4, a5, a6, a7, a8, a9, a10, a11, a12, a13, a14, a15, a16, a17, a18, a19, a20, a21, a22, a23, a24, a25, a26, a27, a28, a29, a30, a31, a32, a33, a34, a35, a36, a37, a38, a39, a40⟩ := zMk_1 hH
  rw [zMk_n39 a39 (by decide) (by decide), zMk_n38 a38 (by decide) (by decide), zMk_n37 a37 (by decide) (by decide), zMk_n36 a36 (by decide) (by decide), zMk_n35 a35 (by decide) (by decide), zMk_n34 a34 (by decide) (by decide), zMk_n33 a33 (by decide) (by decide), zMk_n32 a32 (by decide) (by decide), zMk_n31 a31 (by decide) (by decide), zMk_n30 a30 (by decide) (by decide), zMk_n29 a29 (by decide) (by decide), zMk_n28 a28 (by decide) (by decide), zMk_n27 a27 (by decide) (by decide), zMk_n26 a26 (by decide) (by decide), zMk_n25 a25 (by decide) (by decide), zMk_n24 a24 (by decide) (by decide), zMk_n23 a23 (by decide) (by decide), zMk_n22 a22 (by decide) (by decide), zMk_n21 a21 (by decide) (by decide), zMk_n20 a20 (by decide) (by decide), zMk_n19 a19 (by decide) (by decide), zMk_n18 a18 (by decide) (by decide), zMk_n17 a17 (by decide) (by decide), zMk_n16 a16 (by decide) (by decide), zMk_n15 a15 (by decide) (by decide), zMk_n14 a14 (by decide) (by decide), zMk_n13 a13 (by decide) (by decide), zMk_n12 a12 (by decide) (by decide), zMk_n11 a11 (by decide) (by decide)]
  exact (zMk_e10 a10).trans rfl
theorem zMk_a11 (hH : h.1 = 22) : z_at (zM40 h) (.ref 33) = marr 33 (zg0 33) := by
  obtain ⟨a0, a1, a2, a3, a4, a5, a6, a7, a8, a9, a10, a11, a12, a13, a14, a15, a16, a17, a18, a19, a20, a21, a22, a23, a24, a25, a26, a27, a28, a29, a30, a31, a32, a33, a34, a35, a36, a37, a38, a39, a40⟩ := zMk_1 hH
  rw [zMk_n39 a39 (by decide) (by decide), zMk_n38 a38 (by decide) (by decide), zMk_n37 a37 (by decide) (by decide), zMk_n36 a36 (by decide) (by decide), zMk_n35 a35 (by decide) (by decide), zMk_n34 a34 (by decide) (by decide), zMk_n33 a33 (by decide) (by decide), zMk_n32 a32 (by decide) (by decide), zMk_n31 a31 (by decide) (by decide), zMk_n30 a30 (by decide) (by decide), zMk_n29 a29 (by decide) (by decide), zMk_n28 a28 (by decide) (by decide), zMk_n27 a27 (by decide) (by decide), zMk_n26 a26 (by decide) (by decide), zMk_n25 a25 (by decide) (by decide), zMk_n24 a24 (by decide) (by decide), zMk_n23 a23 (by decide) (by decide), zMk_n22 a22 (by decide) (by decide), zMk_n21 a21 (by decide) (by decide), zMk_n20 a20 (by decide) (by decide), zMk_n19 a19 (by decide) (by decide), zMk_n18 a18 (by decide) (by decide), zMk_n17 a17 (by decide) (by decide), zMk_n16 a16 (by decide) (by decide), zMk_n15 a15 (by decide) (by decide), zMk_n14 a14 (by decide) (by decide), zMk_n13 a13 (by decide) (by decide), zMk_n12 a12 (by decide) (by decide)]
  exact (zMk_e11 a11).trans rfl
theorem zMk_a12 (hH : h.1 = 22) : z_at (zM40 h) (.ref 34) = marr 34 (zg0 34) := by
  obtain ⟨a0, a1, a2, a3, a4, a5, a6, a7, a8, a9, a10, a11, a12, a13, a14, a15, a16, a17, a18, a19, a20, a21, a22, a23, a24, a25, a26, a27, a28, a29, a30, a31, a32, a33, a34, a35, a36, a37, a38, a39, a40⟩ := zMk_1 hH
  rw [zMk_n39 a39 (by decide) (by decide), zMk_n38 a38 (by decide) (by decide), zMk_n37 a37 (by decide) (by decide), zMk_n36 a36 (by decide) (by decide), zMk_n35 a35 (by decide) (by decide), zMk_n34 a34 (by decide) (by decide), zMk_n33 a33 (by decide) (by decide), zMk_n32 a32 (by decide) (by decide), zMk_n31 a31 (by decide) (by decide), zMk_n30 a30 (by decide) (by decide), zMk_n29 a29 (by decide) (by decide), zMk_n28 a28 (by decide) (by decide), zMk_n27 a27 (by decide) (by decide), zMk_n26 a26 (by decide) (by decide), zMk_n25 a25 (by decide) (by decide), zMk_n24 a24 (by decide) (by decide), zMk_n23 a23 (by decide) (by decide), zMk_n22 a22 (by decide) (by decide), zMk_n21 a21 (by decide) (by decide), zMk_n20 a20 (by decide) (by decide), zMk_n19 a19 (by decide) (by decide), zMk_n18 a18 (by decide) (by decide), zMk_n17 a17 (by decide) (by decide), zMk_n16 a16 (by decide) (by decide), zMk_n15 a15 (by decide) (by decide), zMk_n14 a14 (by decide) (by decide), zMk_n13 a13 (by decide) (by decide)]
  exact (zMk_e12 a12).trans rfl
theorem zMk_a13 (hH : h.1 = 22) : z_at (zM40 h) (.ref 35) = marr 35 (zg0 35) := by
  obtain ⟨a0, a1, a2, a3, a4, a5, a6, a7, a8, a9, a10, a11, a12, a13, a14, a15, a16, a17, a18, a19, a20, a21, a22, a23, a24, a25, a26, a27, a28, a29, a30, a31, a32, a33, a34, a35, a36, a37, a38, a39, a40⟩ := zMk_1 hH
  rw [zMk_n39 a39 (by decide) (by decide), zMk_n38 a38 (by decide) (by decide), zMk_n37 a37 (by decide) (by decide), zMk_n36 a36 (by decide) (by decide), zMk_n35 a35 (by decide) (by decide), zMk_n34 a34 (by decide) (by decide), zMk_n33 a33 (by decide) (by decide), zMk_n32 a32 (by decide) (by decide), zMk_n31 a31 (by decide) (by decide), zMk_n30 a30 (by decide) (by decide), zMk_n29 a29 (by decide) (by decide), zMk_n28 a28 (by decide) (by decide), zMk_n27 a27 (by decide) (by decide), zMk_n26 a26 (by decide) (by decide), zMk_n25 a25 (by decide) (by decide), zMk_n24 a24 (by decide) (by decide), zMk_n23 a23 (by decide) (by decide), zMk_n22 a22 (by decide) (by decide), zMk_n21 a21 (by decide) (by decide), zMk_n20 a20 (by decide) (by decide), zMk_n19 a19 (by decide) (by decide), zMk_n18 a18 (by decide) (by decide), zMk_n17 a17 (by decide) (by decide), zMk_n16 a16 (by decide) (by decide), zMk_n15 a15 (by decide) (by decide), zMk_n14 a14 (by decide) (by decide)]
  exact (zMk_e13 a13).trans rfl
theorem zMk_a14 (hH : h.1 = 22) : z_at (zM40 h) (.ref 36) = marr 36 (zg0 36) := by
  obtain ⟨a0, a1, a2, a3, a4, a5, a6, a7, a8, a9, a10, a11, a12, a13, a14, a15, a16, a17, a18, a19, a20, a21, a22, a23, a24, a25, a26, a27, a28, a29, a30, a31, a32, a33, a34, a35, a36, a37, a38, a39, a40⟩ := zMk_1 hH
  rw [zMk_n39 a39 (by decide) (by decide), zMk_n38 a38 (by decide) (by decide), zMk_n37 a37 (by decide) (by decide), zMk_n36 a36 (by decide) (by decide), zMk_n35 a35 (by decide) (by decide), zMk_n34 a34 (by decide) (by decide), zMk_n33 a33 (by decide) (by decide), zMk_n32 a32 (by decide) (by decide), zMk_n31 a31 (by decide) (by decide), zMk_n30 a30 (by decide) (by decide), zMk_n29 a29 (by decide) (by decide), zMk_n28 a28 (by decide) (by decide), zMk_n27 a27 (by decide) (by decide), zMk_n26 a26 (by decide) (by decide), zMk_n25 a25 (by decide) (by decide), zMk_n24 a24 (by decide) (by decide), zMk_n23 a23 (by decide) (by decide), zMk_n22 a22 (by decide) (by decide), zMk_n21 a21 (by decide) (by decide), zMk_n20 a20 (by decide) (by decide), zMk_n19 a19 (by decide) (by decide), zMk_n18 a18 (by decide) (by decide), zMk_n17 a17 (by decide) (by decide), zMk_n16 a16 (by decide) (by decide), zMk_n15 a15 (by decide) (by decide)]
  exact (zMk_e14 a14).trans rfl
theorem zMk_a15 (hH : h.1 = 22) : z_at (zM40 h) (.ref 37) = marr 37 (zg0 37) := by
  obtain ⟨a0, a1, a2, a3, a4, a5, a6, a7, a8, a9, a10, a11, a12, a13, a14, a15, a16, a17, a18, a19, a20, a21, a22, a23, a24, a25, a26, a27, a28, a29, a30, a31, a32, a33, a34, a35, a36, a37, a38, a39, a40⟩ := zMk_1 hH
  rw [zMk_n39 a39 (by decide) (by decide), zMk_n38 a38 (by decide) (by decide), zMk_n37 a37 (by decide) (by decide), zMk_n36 a36 (by decide) (by decide), zMk_n35 a35 (by decide) (by decide), zMk_n34 a34 (by decide) (by decide), zMk_n33 a33 (by decide) (by decide), zMk_n32 a32 (by decide) (by decide), zMk_n31 a31 (by decide) (by decide), zMk_n30 a30 (by decide) (by decide), zMk_n29 a29 (by decide) (by decide), zMk_n28 a28 (by decide) (by decide), zMk_n27 a27 (by decide) (by decide), zMk_n26 a26 (by decide) (by decide), zMk_n25 a25 (by decide) (by decide), zMk_n24 a24 (by decide) (by decide), zMk_n23 a23 (by decide) (by decide), zMk_n22 a22 (by decide) (by decide), zMk_n21 a21 (by decide) (by decide), zMk_n20 a20 (by decide) (by decide), zMk_n19 a19 (by decide) (by decide), zMk_n18 a18 (by decide) (by decide), zMk_n17 a17 (by decide) (by decide), zMk_n16 a16 (by decide) (by decide)]
  exact (zMk_e15 a15).trans rfl
theorem zMk_a16 (hH : h.1 = 22) : z_at (zM40 h) (.ref 38) = marr 38 (zg0 38) := by
  obtain ⟨a0, a1, a2, a3, a4, a5, a6, a7, a8, a9, a10, a11, a12, a13, a14, a15, a16, a17, a18, a19, a20, a21, a22, a23, a24, a25, a26, a27, a28, a29, a30, a31, a32, a33, a34, a35, a36, a37, a38, a39, a40⟩ := zMk_1 hH
  rw [zMk_n39 a39 (by decide) (by decide), zMk_n38 a38 (by decide) (by decide), zMk_n37 a37 (by decide) (by decide), zMk_n36 a36 (by decide) (by decide), zMk_n35 a35 (by decide) (by decide), zMk_n34 a34 (by decide) (by decide), zMk_n33 a33 (by decide) (by decide), zMk_n32 a32 (by decide) (by decide), zMk_n31 a31 (by decide) (by decide), zMk_n30 a30 (by decide) (by decide), zMk_n29 a29 (by decide) (by decide), zMk_n28 a28 (by decide) (by decide), zMk_n27 a27 (by decide) (by decide), zMk_n26 a26 (by decide) (by decide), zMk_n25 a25 (by decide) (by decide), zMk_n24 a24 (by decide) (by decide), zMk_n23 a23 (by decide) (by decide), zMk_n22 a22 (by decide) (by decide), zMk_n21 a21 (by decide) (by decide), zMk_n20 a20 (by decide) (by decide), zMk_n19 a19 (by decide) (by decide), zMk_n18 a18 (by decide) (by decide), zMk_n17 a17 (by decide) (by decide)]
  exact (zMk_e16 a16).trans rfl
theorem zMk_a17 (hH : h.1 = 22) : z_at (zM40 h) (.ref 39) = marr 39 (zg0 39) := by
  obtain ⟨a0, a1, a2, a3, a4, a5, a6, a7, a8, a9, a10, a11, a12, a13, a14, a15, a16, a17, a18, a19, a20, a21, a22, a23, a24, a25, a26, a27, a28, a29, a30, a31, a32, a33, a34, a35, a36, a37, a38, a39, a40⟩ := zMk_1 hH
  rw [zMk_n39 a39 (by decide) (by decide), zMk_n38 a38 (by decide) (by decide), zMk_n37 a37 (by decide) (by decide), zMk_n36 a36 (by decide) (by decide), zMk_n35 a35 (by decide) (by decide), zMk_n34 a34 (by decide) (by decide), zMk_n33 a33 (by decide) (by decide), zMk_n32 a32 (by decide) (by decide), zMk_n31 a31 (by decide) (by decide), zMk_n30 a30 (by decide) (by decide), zMk_n29 a29 (by decide) (by decide), zMk_n28 a28 (by decide) (by decide), zMk_n27 a27 (by decide) (by decide), zMk_n26 a26 (by decide) (by decide), zMk_n25 a25 (by decide) (by decide), zMk_n24 a24 (by decide) (by decide), zMk_n23 a23 (by decide) (by decide), zMk_n22 a22 (by decide) (by decide), zMk_n21 a21 (by decide) (by decide), zMk_n20 a20 (by decide) (by decide), zMk_n19 a19 (by decide) (by decide), zMk_n18 a18 (by decide) (by decide)]
  exact (zMk_e17 a17).trans rfl
theorem zMk_a18 (hH : h.1 = 22) : z_at (zM40 h) (.ref 40) = marr 40 (zg0 40) := by
  obtain ⟨a0, a1, a2, a3, a4, a5, a6, a7, a8, a9, a10, a11, a12, a13, a14, a15, a16, a17, a18, a19, a20, a21, a22, a23, a24, a25, a26, a27, a28, a29, a30, a31, a32, a33, a34, a35, a36, a37, a38, a39, a40⟩ := zMk_1 hH
  rw [zMk_n39 a39 (by decide) (by decide), zMk_n38 a38 (by decide) (by decide), zMk_n37 a37 (by decide) (by decide), zMk_n36 a36 (by decide) (by decide), zMk_n35 a35 (by decide) (by decide), zMk_n34 a34 (by decide) (by decide), zMk_n33 a33 (by decide) (by decide), zMk_n32 a32 (by decide) (by decide), zMk_n31 a31 (by decide) (by decide), zMk_n30 a30 (by decide) (by decide), zMk_n29 a29 (by decide) (by decide), zMk_n28 a28 (by decide) (by decide), zMk_n27 a27 (by decide) (by decide), zMk_n26 a26 (by decide) (by decide), zMk_n25 a25 (by decide) (by decide), zMk_n24 a24 (by decide) (by decide), zMk_n23 a23 (by decide) (by decide), zMk_n22 a22 (by decide) (by decide), zMk_n21 a21 (by decide) (by decide), zMk_n20 a20 (by decide) (by decide), zMk_n19 a19 (by decide) (by decide)]
  exact (zMk_e18 a18).trans rfl
theorem zMk_a19 (hH : h.1 = 22) : z_at (zM40 h) (.ref 41) = marr 41 (zg0 41) := by
  obtain ⟨a0, a1, a2, a3, a4, a5, a6, a7, a8, a9, a10, a11, a12, a13, a14, a15, a16, a17, a18, a19, a20, a21, a22, a23, a24, a25, a26, a27, a28, a29, a30, a31, a32, a33, a34, a35, a36, a37, a38, a39, a40⟩ := zMk_1 hH
  rw [zMk_n39 a39 (by decide) (by decide), zMk_n38 a38 (by decide) (by decide), zMk_n37 a37 (by decide) (by decide), zMk_n36 a36 (by decide) (by decide), zMk_n35 a35 (by decide) (by decide), zMk_n34 a34 (by decide) (by decide), zMk_n33 a33 (by decide) (by decide), zMk_n32 a32 (by decide) (by decide), zMk_n31 a31 (by decide) (by decide), zMk_n30 a30 (by decide) (by decide), zMk_n29 a29 (by decide) (by decide), zMk_n28 a28 (by decide) (by decide), zMk_n27 a27 (by decide) (by decide), zMk_n26 a26 (by decide) (by decide), zMk_n25 a25 (by decide) (by decide), zMk_n24 a24 (by decide) (by decide), zMk_n23 a23 (by decide) (by decide), zMk_n22 a22 (by decide) (by decide), zMk_n21 a21 (by decide) (by decide), zMk_n20 a20 (by decide) (by decide)]
  exact (zMk_e19 a19).trans rfl
theorem zMk_a20 (hH : h.1 = 22) : z_at (zM40 h) (.ref 42) = marr 42 (zg0 42) := by
  obtain ⟨a0, a1, a2, a3, a4, a5, a6, a7, a8, a9, a10, a11, a12, a13, a14, a15, a16, a17, a18, a19, a20, a21, a22, a23, a24, a25, a26, a27, a28, a29, a30, a31, a32, a33, a34, a35, a36, a37, a38, a39, a40⟩ := zMk_1 hH
  rw [zMk_n39 a39 (by decide) (by decide), zMk_n38 a38 (by decide) (by decide), zMk_n37 a37 (by decide) (by decide), zMk_n36 a36 (by decide) (by decide), zMk_n35 a35 (by decide) (by decide), zMk_n34 a34 (by decide) (by decide), zMk_n33 a33 (by decide) (by decide), zMk_n32 a32 (by decide) (by decide), zMk_n31 a31 (by decide) (by decide), zMk_n30 a30 (by decide) (by decide), zMk_n29 a29 (by decide) (by decide), zMk_n28 a28 (by decide) (by decide), zMk_n27 a27 (by decide) (by decide), zMk_n26 a26 (by decide) (by decide), zMk_n25 a25 (by decide) (by decide), zMk_n24 a24 (by decide) (by decide), zMk_n23 a23 (by decide) (by decide), zMk_n22 a22 (by decide) (by decide), zMk_n21 a21 (by decide) (by decide)]
  exact (zMk_e20 a20).trans rfl
theorem zMk_a21 (hH : h.1 = 22) : z_at (zM40 h) (.ref 43) = marr 43 (zg0 43) := by
  obtain ⟨a0, a1, a2, a3, a4, a5, a6, a7, a8, a9, a10, a11, a12, a13, a14, a15, a16, a17, a18, a19, a20, a21, a22, a23, a24, a25, a26, a27, a28, a29, a30, a31, a32, a33, a34, a35, a36, a37, a38, a39, a40⟩ := zMk_1 hH
  rw [zMk_n39 a39 (by decide) (by decide), zMk_n38 a38 (by decide) (by decide), zMk_n37 a37 (by decide) (by decide), zMk_n36 a36 (by decide) (by decide), zMk_n35 a35 (by decide) (by decide), zMk_n34 a34 (by decide) (by decide), zMk_n33 a33 (by decide) (by decide), zMk_n32 a32 (by decide) (by decide), zMk_n31 a31 (by decide) (by decide), zMk_n30 a30 (by decide) (by decide), zMk_n29 a29 (by decide) (by decide), zMk_n28 a28 (by decide) (by decide), zMk_n27 a27 (by decide) (by decide), zMk_n26 a26 (by decide) (by decide), zMk_n25 a25 (by decide) (by decide), zMk_n24 a24 (by decide) (by decide), zMk_n23 a23 (by decide) (by decide), zMk_n22 a22 (by decide) (by decide)]
  exact (zMk_e21 a21).trans rfl
theorem zMk_a22 (hH : h.1 = 22) : z_at (zM40 h) (.ref 44) = marr 44 (zg0 44) := by
  obtain ⟨a0, a1, a2, a3, a4, a5, a6, a7, a8, a9, a10, a11, a12, a13, a14, a15, a16, a17, a18, a19, a20, a21, a22, a23, a24, a25, a26, a27, a28, a29, a30, a31, a32, a33, a34, a35, a36, a37, a38, a39, a40⟩ := zMk_1 hH
  rw [zMk_n39 a39 (by decide) (by decide), zMk_n38 a38 (by decide) (by decide), zMk_n37 a37 (by decide) (by decide), zMk_n36 a36 (by decide) (by decide), zMk_n35 a35 (by decide) (by decide), zMk_n34 a34 (by decide) (by decide), zMk_n33 a33 (by decide) (by decide), zMk_n32 a32 (by decide) (by decide), zMk_n31 a31 (by decide) (by decide), zMk_n30 a30 (by decide) (by decide), zMk_n29 a29 (by decide) (by decide), zMk_n28 a28 (by decide) (by decide), zMk_n27 a27 (by decide) (by decide), zMk_n26 a26 (by decide) (by decide), zMk_n25 a25 (by decide) (by decide), zMk_n24 a24 (by decide) (by decide), zMk_n23 a23 (by decide) (by decide)]
  exact (zMk_e22 a22).trans rfl
theorem zMk_a23 (hH : h.1 = 22) : z_at (zM40 h) (.ref 45) = marr 45 (zg0 45) := by
  obtain ⟨a0, a1, a2, a3, a4, a5, a6, a7, a8, a9, a10, a11, a12, a13, a14, a15, a16, a17, a18, a19, a20, a21, a22, a23, a24, a25, a26, a27, a28, a29, a30, a31, a32, a33, a34, a35, a36, a37, a38, a39, a40⟩ := zMk_1 hH
  rw [zMk_n39 a39 (by decide) (by decide), zMk_n38 a38 (by decide) (by decide), zMk_n37 a37 (by decide) (by decide), zMk_n36 a36 (by decide) (by decide), zMk_n35 a35 (by decide) (by decide), zMk_n34 a34 (by decide) (by decide), zMk_n33 a33 (by decide) (by decide), zMk_n32 a32 (by decide) (by decide), zMk_n31 a31 (by decide) (by decide), zMk_n30 a30 (by decide) (by decide), zMk_n29 a29 (by decide) (by decide), zMk_n28 a28 (by decide) (by decide), zMk_n27 a27 (by decide) (by decide), zMk_n26 a26 (by decide) (by decide), zMk_n25 a25 (by decide) (by decide), zMk_n24 a24 (by decide) (by decide)]
  exact (zMk_e23 a23).trans rfl
theorem zMk_a24 (hH : h.1 = 22) : z_at (zM40 h) (.ref 46) = marr 46 (zg0 46) := by
  obtain ⟨a0, a1, a2, a3, a4, a5, a6, a7, a8, a9, a10, a11, a12, a13, a14, a15, a16, a17, a18, a19, a20, a21, a22, a23, a24, a25, a26, a27, a28, a29, a30, a31, a32, a33, a34, a35, a36, a37, a38, a39, a40⟩ := zMk_1 hH
  rw [zMk_n39 a39 (by decide) (by decide), zMk_n38 a38 (by decide) (by decide), zMk_n37 a37 (by decide) (by decide), zMk_n36 a36 (by decide) (by decide), zMk_n35 a35 (by decide) (by decide), zMk_n34 a34 (by decide) (by decide), zMk_n33 a33 (by decide) (by decide), zMk_n32 a32 (by decide) (by decide), zMk_n31 a31 (by decide) (by decide), zMk_n30 a30 (by decide) (by decide), zMk_n29 a29 (by decide) (by decide), zMk_n28 a28 (by decide) (by decide), zMk_n27 a27 (by decide) (by decide), zMk_n26 a26 (by decide) (by decide), zMk_n25 a25 (by decide) (by decide)]
  exact (zMk_e24 a24).trans rfl
theorem zMk_a25 (hH : h.1 = 22) : z_at (zM40 h) (.ref 47) = marr 47 (zg0 47) := by
  obtain ⟨a0, a1, a2, a3, a4, a5, a6, a7, a8, a9, a10, a11, a12, a13, a14, a15, a16, a17, a18, a19, a20, a21, a22, a23, a24, a25, a26, a27, a28, a29, a30, a31, a32, a33, a34, a35, a36, a37, a38, a39, a40⟩ := zMk_1 hH
  rw [zMk_n39 a39 (by decide) (by decide), zMk_n38 a38 (by decide) (by decide), zMk_n37 a37 (by decide) (by decide), zMk_n36 a36 (by decide) (by decide), zMk_n35 a35 (by decide) (by decide), zMk_n34 a34 (by decide) (by decide), zMk_n33 a33 (by decide) (by decide), zMk_n32 a32 (by decide) (by decide), zMk_n31 a31 (by decide) (by decide), zMk_n30 a30 (by decide) (by decide), zMk_n29 a29 (by decide) (by decide), zMk_n28 a28 (by decide) (by decide), zMk_n27 a27 (by decide) (by decide), zMk_n26 a26 (by decide) (by decide)]
  exact (zMk_e25 a25).trans rfl
theorem zMk_a26 (hH : h.1 = 22) : z_at (zM40 h) (.ref 48) = marr 48 (zg0 48) := by
  obtain ⟨a0, a1, a2, a3, a4, a5, a6, a7, a8, a9, a10, a11, a12, a13, a14, a15, a16, a17, a18, a19, a20, a21, a22, a23, a24, a25, a26, a27, a28, a29, a30, a31, a32, a33, a34, a35, a36, a37, a38, a39, a40⟩ := zMk_1 hH
  rw [zMk_n39 a39 (by decide) (by decide), zMk_n38 a38 (by decide) (by decide), zMk_n37 a37 (by decide) (by decide), zMk_n36 a36 (by decide) (by decide), zMk_n35 a35 (by decide) (by decide), zMk_n34 a34 (by decide) (by decide), zMk_n33 a33 (by decide) (by decide), zMk_n32 a32 (by decide) (by decide), zMk_n31 a31 (by decide) (by decide), zMk_n30 a30 (by decide) (by decide), zMk_n29 a29 (by decide) (by decide), zMk_n28 a28 (by decide) (by decide), zMk_n27 a27 (by decide) (by decide)]
  exact (zMk_e26 a26).trans rfl
theorem zMk_a27 (hH : h.1 = 22) : z_at (zM40 h) (.ref 49) = marr 49 (zg0 49) := by
  obtain ⟨a0, a1, a2, a3, a4, a5, a6, a7, a8, a9, a10, a11, a12, a13, a14, a15, a16, a17, a18, a19, a20, a21, a22, a23, a24, a25, a26, a27, a28, a29, a30, a31, a32, a33, a34, a35, a36, a37, a38, a39, a40⟩ := zMk_1 hH
  rw [zMk_n39 a39 (by decide) (by decide), zMk_n38 a38 (by decide) (by decide), zMk_n37 a37 (by decide) (by decide), zMk_n36 a36 (by decide) (by decide), zMk_n35 a35 (by decide) (by decide), zMk_n34 a34 (by decide) (by decide), zMk_n33 a33 (by decide) (by decide), zMk_n32 a32 (by decide) (by decide), zMk_n31 a31 (by decide) (by decide), zMk_n30 a30 (by decide) (by decide), zMk_n29 a29 (by decide) (by decide), zMk_n28 a28 (by decide) (by decide)]
  exact (zMk_e27 a27).trans rfl
theorem zMk_a28 (hH : h.1 = 22) : z_at (zM40 h) (.ref 50) = marr 50 (zg0 50) := by
  obtain ⟨a0, a1, a2, a3, a4, a5, a6, a7, a8, a9, a10, a11, a12, a13, a14, a15, a16, a17, a18, a19, a20, a21, a22, a23, a24, a25, a26, a27, a28, a29, a30, a31, a32, a33, a34, a35, a36, a37, a38, a39, a40⟩ := zMk_1 hH
  rw [zMk_n39 a39 (by decide) (by decide), zMk_n38 a38 (by decide) (by decide), zMk_n37 a37 (by decide) (by decide), zMk_n36 a36 (by decide) (by decide), zMk_n35 a35 (by decide) (by decide), zMk_n34 a34 (by decide) (by decide), zMk_n33 a33 (by decide) (by decide), zMk_n32 a32 (by decide) (by decide), zMk_n31 a31 (by decide) (by decide), zMk_n30 a30 (by decide) (by decide), zMk_n29 a29 (by decide) (by decide)]
  exact (zMk_e28 a28).trans rfl
theorem zMk_a29 (hH : h.1 = 22) : z_at (zM40 h) (.ref 51) = marr 51 (zg0 51) := by
  obtain ⟨a0, a1, a2, a3, a4, a5, a6, a7, a8, a9, a10, a11, a12, a13, a14, a15, a16, a17, a18, a19, a20, a21, a22, a23, a24, a25, a26, a27, a28, a29, a30, a31, a32, a33, a34, a35, a36, a37, a38, a39, a40⟩ := zMk_1 hH
  rw [zMk_n39 a39 (by decide) (by decide), zMk_n38 a38 (by decide) (by decide), zMk_n37 a37 (by decide) (by decide), zMk_n36 a36 (by decide) (by decide), zMk_n35 a35 (by decide) (by decide), zMk_n34 a34 (by decide) (by decide), zMk_n33 a33 (by decide) (by decide), zMk_n32 a32 (by decide) (by decide), zMk_n31 a31 (by decide) (by decide), zMk_n30 a30 (by decide) (by decide)]
  exact (zMk_e29 a29).trans rfl
theorem zMk_a30 (hH : h.1 = 22) : z_at (zM40 h) (.ref 52) = marr 52 (zg0 52) := by
  obtain ⟨a0, a1, a2, a3, a4, a5, a6, a7, a8, a9, a10, a11, a12, a13, a14, a15, a16, a17, a18, a19, a20, a21, a22, a23, a24, a25, a26, a27, a28, a29, a30, a31, a32, a33, a34, a35, a36, a37, a38, a39, a40⟩ := zMk_1 hH
  rw [zMk_n39 a39 (by decide) (by decide), zMk_n38 a38 (by decide) (by decide), zMk_n37 a37 (by decide) (by decide), zMk_n36 a36 (by decide) (by decide), zMk_n35 a35 (by decide) (by decide), zMk_n34 a34 (by decide) (by decide), zMk_n33 a33 (by decide) (by decide), zMk_n32 a32 (by decide) (by decide), zMk_n31 a31 (by decide) (by decide)]
  exact (zMk_e30 a30).trans rfl
theorem zMk_a31 (hH : h.1 = 22) : z_at (zM40 h) (.ref 53) = marr 53 (zg0 53) := by
  obtain ⟨a0, a1, a2, a3, a4, a5, a6, a7, a8, a9, a10, a11, a12, a13, a14, a15, a16, a17, a18, a19, a20, a21, a22, a23, a24, a25, a26, a27, a28, a29, a30, a31, a32, a33, a34, a35, a36, a37, a38, a39, a40⟩ := zMk_1 hH
  rw [zMk_n39 a39 (by decide) (by decide), zMk_n38 a38 (by decide) (by decide), zMk_n37 a37 (by decide) (by decide), zMk_n36 a36 (by decide) (by decide), zMk_n35 a35 (by decide) (by decide), zMk_n34 a34 (by decide) (by decide), zMk_n33 a33 (by decide) (by decide), zMk_n32 a32 (by decide) (by decide)]
  exact (zMk_e31 a31).trans rfl
theorem zMk_a32 (hH : h.1 = 22) : z_at (zM40 h) (.ref 54) = marr 54 (zg0 54) := by
  obtain ⟨a0, a1, a2, a3, a4, a5, a6, a7, a8, a9, a10, a11, a12, a13, a14, a15, a16, a17, a18, a19, a20, a21, a22, a23, a24, a25, a26, a27, a28, a29, a30, a31, a32, a33, a34, a35, a36, a37, a38, a39, a40⟩ := zMk_1 hH
  rw [zMk_n39 a39 (by decide) (by decide), zMk_n38 a38 (by decide) (by decide), zMk_n37 a37 (by decide) (by decide), zMk_n36 a36 (by decide) (by decide), zMk_n35 a35 (by decide) (by decide), zMk_n34 a34 (by decide) (by decide), zMk_n33 a33 (by decide) (by decide)]
  exact (zMk_e32 a32).trans rfl
theorem zMk_a33 (hH : h.1 = 22) : z_at (zM40 h) (.ref 55) = marr 55 (zg0 55) := by
  obtain ⟨a0, a1, a2, a3, a4, a5, a6, a7, a8, a9, a10, a11, a12, a13, a14, a15, a16, a17, a18, a19, a20, a21, a22, a23, a24, a25, a26, a27, a28, a29, a30, a31, a32, a33, a34, a35, a36, a37, a38, a39, a40⟩ := zMk_1 hH
  rw [zMk_n39 a39 (by decide) (by decide), zMk_n38 a38 (by decide) (by decide), zMk_n37 a37 (by decide) (by decide), zMk_n36 a36 (by decide) (by decide), zMk_n35 a35 (by decide) (by decide), zMk_n34 a34 (by decide) (by decide)]
  exact (zMk_e33 a33).trans rfl
theorem zMk_a34 (hH : h.1 = 22) : z_at (zM40 h) (.ref 56) = marr 56 (zg0 56) := by
  obtain ⟨a0, a1, a2, a3, a4, a5, a6, a7, a8, a9, a10, a11, a12, a13, a14, a15, a16, a17, a18, a19, a20, a21, a22, a23, a24, a25, a26, a27, a28, a29, a30, a31, a32, a33, a34, a35, a36, a37, a38, a39, a40⟩ := zMk_1 hH
  rw [zMk_n39 a39 (by decide) (by decide), zMk_n38 a38 (by decide) (by decide), zMk_n37 a37 (by decide) (by decide), zMk_n36 a36 (by decide) (by decide), zMk_n35 a35 (by decide) (by decide)]
  exact (zMk_e34 a34).trans rfl
theorem zMk_a35 (hH : h.1 = 22) : z_at (zM40 h) (.ref 57) = marr 57 (zg0 57) := by
  obtain ⟨a0, a1, a2, a3, a4, a5, a6, a7, a8, a9, a10, a11, a12, a13, a14, a15, a16, a17, a18, a19, a20, a21, a22, a23, a24, a25, a26, a27, a28, a29, a30, a31, a32, a33, a34, a35, a36, a37, a38, a39, a40⟩ := zMk_1 hH
  rw [zMk_n39 a39 (by decide) (by decide), zMk_n38 a38 (by decide) (by decide), zMk_n37 a37 (by decide) (by decide), zMk_n36 a36 (by decide) (by decide)]
  exact (zMk_e35 a35).trans rfl
theorem zMk_a36 (hH : h.1 = 22) : z_at (zM40 h) (.ref 58) = marr 58 (zg0 58) := by
  obtain ⟨a0, a1, a2, a3, a4, a5, a6, a7, a8, a9, a10, a11, a12, a13, a14, a15, a16, a17, a18, a19, a20, a21, a22, a23, a24, a25, a26, a27, a28, a29, a30, a31, a32, a33, a34, a35, a36, a37, a38, a39, a40⟩ := zMk_1 hH
  rw [zMk_n39 a39 (by decide) (by decide), zMk_n38 a38 (by decide) (by decide), zMk_n37 a37 (by decide) (by decide)]
  exact (zMk_e36 a36).trans rfl
theorem zMk_a37 (hH : h.1 = 22) : z_at (zM40 h) (.ref 59) = marr 59 (zg0 59) := by
  obtain ⟨a0, a1, a2, a3, a4, a5, a6, a7, a8, a9, a10, a11, a12, a13, a14, a15, a16, a17, a18, a19, a20, a21, a22, a23, a24, a25, a26, a27, a28, a29, a30, a31, a32, a33, a34, a35, a36, a37, a38, a39, a40⟩ := zMk_1 hH
  rw [zMk_n39 a39 (by decide) (by decide), zMk_n38 a38 (by decide) (by decide)]
  exact (zMk_e37 a37).trans rfl
theorem zMk_a38 (hH : h.1 = 22) : z_at (zM40 h) (.ref 60) = marr 60 (zg0 60) := by
  obtain ⟨a0, a1, a2, a3, a4, a5, a6, a7, a8, a9, a10, a11, a12, a13, a14, a15, a16, a17, a18, a19, a20, a21, a22, a23, a24, a25, a26, a27, a28, a29, a30, a31, a32, a33, a34, a35, a36, a37, a38, a39, a40⟩ := zMk_1 hH
  rw [zMk_n39 a39 (by decide) (by decide)]
  exact (zMk_e38 a38).trans rfl
theorem zMk_a39 (hH : h.1 = 22) : z_at (zM40 h) (.ref 61) = marr 61 (zg0 61) := by
  obtain ⟨a0, a1, a2, a3, a4, a5, a6, a7, a8, a9, a10, a11, a12, a13, a14, a15, a16, a17, a18, a19, a20, a21, a22, a23, a24, a25, a26, a27, a28, a29, a30, a31, a32, a33, a34, a35, a36, a37, a38, a39, a40⟩ := zMk_1 hH
  exact (zMk_e39 a39).trans rfl
theorem zMk_mh (hH : h.1 = 22) : mh (zM40 h) (fun _ => 0) zg0 = zM40 h := by
  refine mh_of (h := zM40 h) (fun a ha => ?_)
  obtain ⟨b, hb⟩ : ∃ b : Nat, b = a := ⟨a, rfl⟩
  subst hb
  have ha : 21 ≤ b ∧ b ≤ 61 := ha
  have hs : b = 21 ∨ b = 22 ∨ b = 23 ∨ b = 24 ∨ b = 25 ∨ b = 26 ∨ b = 27 ∨ b = 28 ∨ b = 29 ∨ b = 30 ∨ b = 31 ∨ b = 32 ∨ b = 33 ∨ b = 34 ∨ b = 35 ∨ b = 36 ∨ b = 37 ∨ b = 38 ∨ b = 39 ∨ b = 40 ∨ b = 41 ∨ b = 42 ∨ b = 43 ∨ b = 44 ∨ b = 45 ∨ b = 46 ∨ b = 47 ∨ b = 48 ∨ b = 49 ∨ b = 50 ∨ b = 51 ∨ b = 52 ∨ b = 53 ∨ b = 54 ∨ b = 55 ∨ b = 56 ∨ b = 57 ∨ b = 58 ∨ b = 59 ∨ b = 60 ∨ b = 61 := by omega
  rcases hs with rfl | rfl | rfl | rfl | rfl | rfl | rfl | rfl | rfl | rfl | rfl | rfl | rfl | rfl | rfl | rfl | rfl | rfl | rfl | rfl | rfl | rfl | rfl | rfl | rfl | rfl | rfl | rfl | rfl | rfl | rfl | rfl | rfl | rfl | rfl | rfl | rfl | rfl | rfl | rfl | rfl
  · exact (zN1_o (k := 40)).trans rfl
  · exact (zMk_a0 hH).trans rfl
  · exact (zMk_a1 hH).trans rfl
  · exact (zMk_a2 hH).trans rfl
  · exact (zMk_a3 hH).trans rfl
  · exact (zMk_a4 hH).trans rfl
  · exact (zMk_a5 hH).trans rfl
  · exact (zMk_a6 hH).trans rfl
  · exact (zMk_a7 hH).trans rfl
  · exact (zMk_a8 hH).trans rfl
  · exact (zMk_a9 hH).trans rfl
  · exact (zMk_a10 hH).trans rfl
  · exact (zMk_a11 hH).trans rfl
  · exact (zMk_a12 hH).trans rfl
  · exact (zMk_a13 hH).trans rfl
  · exact (zMk_a14 hH).trans rfl
  · exact (zMk_a15 hH).trans rfl
  · exact (zMk_a16 hH).trans rfl
  · exact (zMk_a17 hH).trans rfl
  · exact (zMk_a18 hH).trans rfl
  · exact (zMk_a19 hH).trans rfl
  · exact (zMk_a20 hH).trans rfl
  · exact (zMk_a21 hH).trans rfl
  · exact (zMk_a22 hH).trans rfl
  · exact (zMk_a23 hH).trans rfl
  · exact (zMk_a24 hH).trans rfl
  · exact (zMk_a25 hH).trans rfl
  · exact (zMk_a26 hH).trans rfl
  · exact (zMk_a27 hH).trans rfl
  · exact (zMk_a28 hH).trans rfl
  · exact (zMk_a29 hH).trans rfl
  · exact (zMk_a30 hH).trans rfl
  · exact (zMk_a31 hH).trans rfl
  · exact (zMk_a32 hH).trans rfl
  · exact (zMk_a33 hH).trans rfl
  · exact (zMk_a34 hH).trans rfl
  · exact (zMk_a35 hH).trans rfl
  · exact (zMk_a36 hH).trans rfl
  · exact (zMk_a37 hH).trans rfl
  · exact (zMk_a38 hH).trans rfl
  · exact (zMk_a39 hH).trans rfl
theorem zMk_2 (hH : h.1 = 22) : (zM40 h).1 = 62 ∧ (zM40 h).2.1 = h.2.1 + 17957 ∧ (zM40 h).2.2.2 = h.2.2.2 := by
  refine ⟨(zMk_1 hH).2.2.2.2.2.2.2.2.2.2.2.2.2.2.2.2.2.2.2.2.2.2.2.2.2.2.2.2.2.2.2.2.2.2.2.2.2.2.2.2, ?_, rfl⟩
  show h.2.1 + 74 + 50 + 13 + 8 + 60 + 60 + 60 + 3 + 18 + 18 + 18 + 18 + 18 + 18 + 18 + 18 + 18 + 18 + 54 + 4 + 4 + 4 + 4 + 4 + 32 + 4 + 4 + 3 + 1224 + 1224 + 16 + 9000 + 1700 + 64 + 64 + 64 + 512 + 1700 + 1700 + 64 = _
  omega
theorem zg0_t : zTab zg0 := by
  unfold zTab zg0
  decide +kernel
end ZCu
