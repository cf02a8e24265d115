/-! the tables of names -/
def zwkC : List Int := [83, 117, 110, 100, 97, 121, 77, 111, 110, 100, 97, 121, 84, 117, 101, 115, 100, 97, 121, 87, 101, 100, 110, 101, 115, 100, 97, 121, 84, 104, 117, 114, 115, 100, 97, 121, 70, 114, 105, 100, 97, 121, 83, 97, 116, 117, 114, 100, 97, 121]
def zwkA : List Int := [0, 6, 12, 19, 28, 36, 42, 50]
def zmoC : List Int := [74, 97, 110, 117, 97, 114, 121, 70, 101, 98, 114, 117, 97, 114, 121, 77, 97, 114, 99, 104, 65, 112, 114, 105, 108, 77, 97, 121, 74, 117, 110, 101, 74, 117, 108, 121, 65, 117, 103, 117, 115, 116, 83, 101, 112, 116, 101, 109, 98, 101, 114, 79, 99, 116, 111, 98, 101, 114, 78, 111, 118, 101, 109, 98, 101, 114, 68, 101, 99, 101, 109, 98, 101, 114]
def zmoA : List Int := [0, 7, 15, 20, 25, 28, 32, 36, 42, 51, 58, 66, 74]
/-- the reference's constant rows -/
def zTab (g : Nat → Nat → Int) : Prop := (∀ j, j < 74 → g 22 j = zmoC.getD j 0) ∧ (∀ j, j < 50 → g 23 j = zwkC.getD j 0) ∧ (∀ j, j ≤ 12 → g 24 j = zmoA.getD j 0) ∧ (∀ j, j ≤ 7 → g 25 j = zwkA.getD j 0)
theorem zwk_t : ∀ m, m < 7 → 0 ≤ zwkA.getD m 0 ∧ zwkA.getD m 0 ≤ zwkA.getD (m + 1) 0 ∧ zwkA.getD (m + 1) 0 - zwkA.getD m 0 ≤ 9 ∧ zwkA.getD (m + 1) 0 ≤ 50 ∧ zWEEK.getD (10 * m + (zwkA.getD (m + 1) 0 - zwkA.getD m 0).toNat) 0 = 32 ∧ ∀ j : Nat, j < 10 → (j : Int) < zwkA.getD (m + 1) 0 - zwkA.getD m 0 → zWEEK.getD (10 * m + j) 0 = zwkC.getD ((zwkA.getD m 0).toNat + j) 0 := by decide +kernel
theorem zmo_t : ∀ m, m < 12 → 0 ≤ zmoA.getD m 0 ∧ zmoA.getD m 0 ≤ zmoA.getD (m + 1) 0 ∧ zmoA.getD (m + 1) 0 - zmoA.getD m 0 ≤ 9 ∧ zmoA.getD (m + 1) 0 ≤ 74 ∧ zMONTHS.getD (10 * m + (zmoA.getD (m + 1) 0 - zmoA.getD m 0).toNat) 0 = 32 ∧ ∀ j : Nat, j < 10 → (j : Int) < zmoA.getD (m + 1) 0 - zmoA.getD m 0 → zMONTHS.getD (10 * m + j) 0 = zmoC.getD ((zmoA.getD m 0).toNat + j) 0 := by decide +kernel
theorem zbm_eq {d C A : Nat → Int} {S : List Int} {p n m : Nat} (hA : 0 ≤ A m ∧ A m ≤ A (m + 1) ∧ A (m + 1) - A m ≤ 9) (hS : ∀ j : Nat, (j : Int) < A (m + 1) - A m → S.getD (10 * m + j) 0 = C ((A m).toNat + j)) (h32 : S.getD (10 * m + (A (m + 1) - A m).toNat) 0 = 32) (hn : ∀ j, j < n → d (p + j) ≠ 32) : zmb d C A p n m = zbg S (10 * m) (zms d p (p + n)) := by
  have hl : (zms d p (p + n)).length = n := by rw [zms_len]; omega
  have hg : ∀ j, j < n → (zms d p (p + n)).getD j 0 = d (p + j) := fun j hj => zms_getD d (by omega)
  rw [Bool.eq_iff_iff, zmb_iff, zbg_iff, hl]
  constructor
  · rintro ⟨h1, h2, h3⟩
    refine ⟨h1, by omega, fun j hj => ?_⟩
    rw [hS j (by omega), hg j hj, h3 j hj]
  · rintro ⟨h1, h2, h3⟩
    have h4 : (n : Int) ≤ A (m + 1) - A m := by
      apply Int.not_lt.mp
      intro h9
      have h5 := h3 (A (m + 1) - A m).toNat (by omega)
      rw [h32, hg _ (by omega)] at h5
      exact hn _ (by omega) h5.symm
    refine ⟨h1, h4, fun k hk => ?_⟩
    have h5 := h3 k hk
    rw [hS k (by omega), hg k hk] at h5
    exact h5.symm
section ZTb
variable {h : zH} {f : Nat → Int} {g : Nat → Nat → Int} {Q : zO → zH → Prop} {a b c p q wh n m x y : Int}
theorem t49 (hT : zTab g) (hd : ∀ j, j < 60 → 0 ≤ g 26 j ∧ g 26 j ≤ 65535) (hp : 0 ≤ p ∧ p ≤ q) (hq : q ≤ 60) (hb : ∀ j : Nat, p ≤ j → (j : Int) < q → g 26 j ≠ 32) : z_Cl 49 [.ref 21, zi p, zi q] (mh h f g) Q = Q (.inl (some (zi (if zdnm (zms (g 26) p.toNat q.toNat) = -1000000 then -1 else zdnm (zms (g 26) p.toNat q.toNat))))) (mh h f g) := by
  obtain ⟨t1, t2, t3, t4⟩ := hT
  rw [s49 (B := fun m => zbg zWEEK (10 * m) (zms (g 26) p.toNat q.toNat)) hd (fun j hj => by
      rw [t2 j hj]
      have h9 : ∀ j, j < 50 → 0 ≤ zwkC.getD j 0 ∧ zwkC.getD j 0 ≤ 65535 := by decide +kernel
      exact h9 j hj) (fun j hj => by
      rw [t4 j hj]
      have h9 : ∀ j, j ≤ 7 → 0 ≤ zwkA.getD j 0 ∧ zwkA.getD j 0 ≤ 50 := by decide +kernel
      exact h9 j hj) hp hq (fun m hm => by
      obtain ⟨w1, w2, w3, w4, w5, w6⟩ := zwk_t m hm
      rw [zbm_eq (S := zWEEK) (by rw [t4 m (by omega), t4 (m + 1) (by omega)]; omega) (fun j hj => by
          rw [t4 m (by omega), t4 (m + 1) (by omega)] at hj
          rw [t4 m (by omega), w6 j (by omega) hj, t2 _ (by omega)]) (by rw [t4 m (by omega), t4 (m + 1) (by omega)]; exact w5) (fun j hj => hb _ (by omega) (by omega)), show p.toNat + (q - p).toNat = q.toNat by omega])]
  have hr := zls_r (fun m => zbg zWEEK (10 * m) (zms (g 26) p.toNat q.toNat)) 7
  have hz : zdnm (zms (g 26) p.toNat q.toNat) = if zcn (fun m => zbg zWEEK (10 * m) (zms (g 26) p.toNat q.toNat)) 7 = 1 then zls (fun m => zbg zWEEK (10 * m) (zms (g 26) p.toNat q.toNat)) 7 else -1000000 := rfl
  rw [hz]
  exact z_qi (by (repeat' split) <;> omega)
theorem t43 (hT : zTab g) (hd : ∀ j, j < 60 → 0 ≤ g 26 j ∧ g 26 j ≤ 65535) (hp : 0 ≤ p ∧ p ≤ q) (hq : q ≤ 60) (hb : ∀ j : Nat, p ≤ j → (j : Int) < q → g 26 j ≠ 32) : z_Cl 43 [.ref 21, zi p, zi q] (mh h f g) Q = Q (.inl (some (zi (if zmnm (zms (g 26) p.toNat q.toNat) = -1000000 then -1 else zmnm (zms (g 26) p.toNat q.toNat) + 1)))) (mh h f g) := by
  obtain ⟨t1, t2, t3, t4⟩ := hT
  rw [s43 (B := fun m => zbg zMONTHS (10 * m) (zms (g 26) p.toNat q.toNat)) hd (fun j hj => by
      rw [t1 j hj]
      have h9 : ∀ j, j < 74 → 0 ≤ zmoC.getD j 0 ∧ zmoC.getD j 0 ≤ 65535 := by decide +kernel
      exact h9 j hj) (fun j hj => by
      rw [t3 j hj]
      have h9 : ∀ j, j ≤ 12 → 0 ≤ zmoA.getD j 0 ∧ zmoA.getD j 0 ≤ 74 := by decide +kernel
      exact h9 j hj) hp hq (fun m hm => by
      obtain ⟨w1, w2, w3, w4, w5, w6⟩ := zmo_t m hm
      rw [zbm_eq (S := zMONTHS) (by rw [t3 m (by omega), t3 (m + 1) (by omega)]; omega) (fun j hj => by
          rw [t3 m (by omega), t3 (m + 1) (by omega)] at hj
          rw [t3 m (by omega), w6 j (by omega) hj, t1 _ (by omega)]) (by rw [t3 m (by omega), t3 (m + 1) (by omega)]; exact w5) (fun j hj => hb _ (by omega) (by omega)), show p.toNat + (q - p).toNat = q.toNat by omega])]
  have hr := zls_r (fun m => zbg zMONTHS (10 * m) (zms (g 26) p.toNat q.toNat)) 12
  have hz : zmnm (zms (g 26) p.toNat q.toNat) = if zcn (fun m => zbg zMONTHS (10 * m) (zms (g 26) p.toNat q.toNat)) 12 = 1 then zls (fun m => zbg zMONTHS (10 * m) (zms (g 26) p.toNat q.toNat)) 12 else -1000000 := rfl
  rw [hz]
  exact z_qi (by (repeat' split) <;> omega)
end ZTb
/-- no day's name has such a character -/
theorem zdnm_no {t : List Int} {j : Nat} (hj : j < t.length) (hc : zWEEK.contains (t.getD j 0) = false) : zdnm t = -1000000 := by
  have hb : ∀ m, zbg zWEEK (10 * m) t = true → m < 7 → False := by
    intro m hm h7
    have := ((zbg_iff _ _ _).mp hm)
    have h3 := this.2.2 j hj
    have hlt : 10 * m + j < zWEEK.length := by
      have : zWEEK.length = 70 := by decide
      omega
    have h4 : zWEEK.getD (10 * m + j) 0 ∈ zWEEK := by
      rw [List.getD_eq_getElem?_getD, List.getElem?_eq_getElem hlt]
      exact List.getElem_mem hlt
    rw [h3] at h4
    rw [List.contains_iff_mem.mpr h4] at hc
    cases hc
  have hz : ∀ m, m ≤ 7 → zcn (fun m => zbg zWEEK (10 * m) t) m = 0 := by
    intro m
    induction m with
    | zero => intro _; rfl
    | succ m ih =>
      intro hm
      rw [zcn, if_neg (fun q => hb m q (by omega))]
      exact ih (by omega)
  unfold zdnm zun
  rw [if_neg (by rw [hz 7 (by omega)]; decide)]
