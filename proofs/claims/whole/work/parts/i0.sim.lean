/-! both side by side -/
section ZSi
variable {s : Nat} {K K' h : zH} {Q : zO → zH → Prop} {G G' : Nat → Nat → Int} {f f' : Nat → Int} {g g' : Nat → Nat → Int} {w : List Int} {S : zStt} {A B A2 B2 : Nat} {im : Option (List zTy × List (Int × Int))}
theorem zSm.mh (hm : mh K f g = K) (y : zSm K K' A B) : mh K' f g = K' := by
  refine mh_of (h := K) (fun a ha => ?_)
  obtain ⟨b, hb⟩ : ∃ b : Nat, b = a := ⟨a, rfl⟩
  subst hb
  have ha : 21 ≤ b ∧ b ≤ 61 := ha
  rw [hm]
  exact y.2.2.2.2.1 b (by omega)
theorem zSm.refl : zSm K K 0 0 := ⟨Nat.le_refl _, Nat.le_refl _, Nat.le_refl _, Nat.le_refl _, fun _ _ => rfl, fun _ => rfl⟩
theorem zSm.trans {K2 : zH} (x : zSm K K' A B) (y : zSm K' K2 A2 B2) : zSm K K2 (A + A2) (B + B2) := by
  obtain ⟨a1, a2, a3, a4, a5, a6⟩ := x
  obtain ⟨b1, b2, b3, b4, b5, b6⟩ := y
  exact ⟨by omega, by omega, by omega, by omega, fun a ha => (b5 a ha).trans (a5 a ha), fun k => (b6 k).trans (a6 k)⟩
theorem zSm.mono (x : zSm K K' A B) (h1 : A ≤ A2) (h2 : B ≤ B2) : zSm K K' A2 B2 := by
  obtain ⟨a1, a2, a3, a4, a5, a6⟩ := x
  exact ⟨a1, by omega, a3, by omega, a5, a6⟩
theorem zCV.mh (hv : zCV s K G w S) : zCV s (mh K f g) G w S := by
  obtain ⟨hi, hc, hsb, hs, hl⟩ := hv
  obtain ⟨hF, hLk, h63, hCB, hok, hoc, hG⟩ := hi
  obtain ⟨m, N, u, q1, q2, q3⟩ := hsb
  refine ⟨⟨fun x hx => ?_, hLk, h63, hCB.ag (fun x hx _ => mat_o (by have := hx.1; omega)) hF (fun x hx => mat_o (by omega)), hok, hoc, hG⟩, ?_, ⟨m, N, u, by rw [mat_o (by omega)]; exact q1, by rw [mat_o (by omega)]; exact q2, q3⟩, hs, hl⟩
  · have hx : K.1 ≤ x := hx
    rw [mat_o (by omega)]
    exact hF x hx
  · rw [← ch_mh, hc]
/-- the class's own numbers have changed -/
theorem zCV.gg (hv : zCV s K G w S) (h3 : G' 0 3 = G 0 3) : zCV s (ch K G') G' w S ∧ zSm K (ch K G') 0 0 := by
  obtain ⟨hi, hc, hsb, hs, hl⟩ := hv
  obtain ⟨hF, hLk, h63, hCB, hok, hoc, hG⟩ := hi
  obtain ⟨m, N, u, q1, q2, q3⟩ := hsb
  refine ⟨⟨⟨fun x hx => ?_, hLk, h63, hCB.onch hF, hok, hoc, by rw [h3]; exact hG⟩, ch_ch, ⟨m, N, u, by rw [cat_o (by omega)]; exact q1, by rw [cat_o (by omega)]; exact q2, q3⟩, hs, hl⟩, Nat.le_refl _, Nat.le_refl _, Nat.le_refl _, Nat.le_refl _, fun a ha => cat_o (by omega), fun _ => rfl⟩
  have hx : K.1 ≤ x := hx
  rw [cat_o (by omega)]
  exact hF x hx
/-- something thrown -/
theorem zCV.thr (hv : zCV s K G w S) (c : Nat) : zCV s (z_new K 6 (.inr (c, []))) G w S ∧ zSm K (z_new K 6 (.inr (c, []))) 1 6 := by
  have hF := hv.1.1
  have h63 := hv.1.2.2.1
  have x : zEx K (z_new K 6 (.inr (c, []))) 1 6 := ((zEx.refl hF).new (n := 6)).mono (by omega) (by omega)
  obtain ⟨m, N, u, q1, q2, q3⟩ := id hv.2.2.1
  have hs := hv.2.2.2.1
  exact ⟨hv.ey x.ey ⟨m, N, u, x.at hF rfl q1 (zo_jk (by decide)), x.at hF rfl q2 zA_jk, q3⟩, (x.ey (X := fun a => a = 1 ∨ a = s)).sm h63 (fun a ha => by omega)⟩
/-- the answer put by -/
theorem zCV.out (hv : zCV s K G w S) (e : zE) : zCV s (z_pu K 62 e) G w S := by
  obtain ⟨hi, hc, hsb, hs, hl⟩ := hv
  obtain ⟨hF, hLk, h63, hCB, hok, hoc, hG⟩ := hi
  obtain ⟨m, N, u, q1, q2, q3⟩ := hsb
  refine ⟨⟨fun x hx => ?_, hLk, h63, hCB.ag (fun x hx _ => z_at_pu_n (by have := hx.1; omega)) hF (fun x hx => z_at_pu_n (by omega)), hok, hoc, hG⟩, ?_, ⟨m, N, u, by rw [z_at_pu_n (by omega)]; exact q1, by rw [z_at_pu_n (by omega)]; exact q2, q3⟩, hs, hl⟩
  · have hx : K.1 ≤ x := hx
    rw [z_at_pu_n (by omega)]
    exact hF x hx
  · rw [← cpu_o (by decide), hc]
theorem mh_out (hm : mh K f g = K) (e : zE) : mh (z_pu K 62 e) f g = z_pu K 62 e := by
  refine mh_of (h := K) (fun a ha => ?_)
  obtain ⟨b, hb⟩ : ∃ b : Nat, b = a := ⟨a, rfl⟩
  subst hb
  have ha : 21 ≤ b ∧ b ≤ 61 := ha
  rw [hm, z_at_pu_n (by omega)]
/-- what a call of the reference may leave as it was -/
def zKp (f f' : Nat → Int) (g g' : Nat → Nat → Int) : Prop := f' 6 = f 6 ∧ f' 28 = f 28 ∧ f' 45 = f 45 ∧ f' 46 = f 46 ∧ ∀ a : Nat, ¬ (a = 52 ∨ a = 56 ∨ a = 58 ∨ a = 60 ∨ a = 61) → g' a = g a
theorem zDr.cg (hd : zDr f g w) (h6 : f' 6 = f 6) (hg : ∀ a : Nat, 22 ≤ a ∧ a ≤ 26 → g' a = g a) : zDr f' g' w := by
  unfold zDr zTab at hd ⊢
  rw [h6, hg 22 (by omega), hg 23 (by omega), hg 24 (by omega), hg 25 (by omega), hg 26 (by omega)]
  exact hd
theorem zIm.cg (hd : zIm f g im) (h5 : f' 45 = f 45) (h6 : f' 46 = f 46) (hg : ∀ a : Nat, a = 53 ∨ a = 54 ∨ a = 55 ∨ a = 57 ∨ a = 59 → g' a = g a) : zIm f' g' im := by
  cases im with
  | none => exact h5.trans hd
  | some p =>
    obtain ⟨ts, cs⟩ := p
    obtain ⟨j1, j2, j3, j4, j5⟩ := hd
    refine ⟨h5.trans j1, h6.trans j2, ?_, ?_, ?_⟩
    · rw [hg 53 (by omega)]; exact j3
    · rw [hg 59 (by omega), hg 54 (by omega)]; exact j4
    · rw [hg 55 (by omega), hg 57 (by omega)]; exact j5
theorem zIc.cg (hd : zIc G im) (h1 : G' 7 1 = G 7 1) (h2 : G' 7 2 = G 7 2) (h8 : G' 8 = G 8) : zIc G' im := by
  cases im with
  | none => exact h1.trans hd
  | some p =>
    obtain ⟨ts, cs⟩ := p
    obtain ⟨j1, j2, j3, j4, j5, j6⟩ := hd
    exact ⟨h1.trans j1, h2.trans j2, j3, j4, by rw [h8]; exact j5, j6⟩
/-- the class and the reference at one -/
def zSim (L : Nat) (X : Nat → Int) (K : zH) : Prop := ∃ (s : Nat) (G : Nat → Nat → Int) (f : Nat → Int) (g : Nat → Nat → Int) (w : List Int) (S : zStt) (im : Option (List zTy × List (Int × Int))) (u : Nat → Int), zCV s K G w S ∧ mh K f g = K ∧ zMS f g S.1 S.2.1 S.2.2 ∧ zDr f g w ∧ zIc G im ∧ zIm f g im ∧ zSp S ∧ z_at K (.ref 62) = zLA 1 u ∧ z_at K (.retAddr 98) = zA 1 L X
/-- behind a call of the class (K to K1) and one of the reference (f, g to f', g') -/
theorem zSim.mk2 {L : Nat} {X : Nat → Int} {K1 : zH} {s' : Nat} {w' : List Int} {S' : zStt} {im' : Option (List zTy × List (Int × Int))} {u : Nat → Int} (hv : zCV s' K1 G' w' S') (hs : zMS f' g' S'.1 S'.2.1 S'.2.2) (hd : zDr f' g' w') (hc : zIc G' im') (hm : zIm f' g' im') (hp : zSp S') (hu : z_at K1 (.ref 62) = zLA 1 u) (h98 : z_at K1 (.retAddr 98) = zA 1 L X) : zSim L X (mh K1 f' g') := ⟨s', G', f', g', w', S', im', u, hv.mh, mh_mh, hs, hd, hc, hm, hp, by rw [mat_o (by decide)]; exact hu, h98⟩
/-- keys lie apart, with a rule's own put in -/
theorem zKsp_d {ks : List Int} (h : zKsp ks) : ks.reverse.Pairwise (fun a b => a % 8 = b % 8 → b + 248140800 ≤ a) := by
  rw [List.pairwise_reverse, List.pairwise_iff_getElem]
  intro i j hi hj hij he
  have := h i j hij hj
  rw [List.getD_eq_getElem?_getD, List.getD_eq_getElem?_getD, List.getElem?_eq_getElem hi, List.getElem?_eq_getElem hj] at this
  exact this he.symm
theorem zKsp_u {l : List Int} (h : l.Pairwise (fun a b => a % 8 = b % 8 → b + 248140800 ≤ a)) : zKsp l.reverse := by
  intro i j hij hj he
  have h2 : l.reverse.Pairwise (fun a b => b % 8 = a % 8 → a + 248140800 ≤ b) := List.pairwise_reverse.mpr h
  rw [List.pairwise_iff_getElem] at h2
  rw [List.getD_eq_getElem?_getD, List.getD_eq_getElem?_getD, List.getElem?_eq_getElem hj, List.getElem?_eq_getElem (show i < l.reverse.length by omega)] at he ⊢
  exact h2 i j (by omega) hj hij he.symm
theorem zin_sp {x : Int} : ∀ {os : List Int}, (∀ o ∈ os, o % 8 = x % 8 → o + 248140800 ≤ x) → os.Pairwise (fun a b => a % 8 = b % 8 → b + 248140800 ≤ a) → (zin x os).Pairwise (fun a b => a % 8 = b % 8 → b + 248140800 ≤ a) := by
  intro os
  induction os with
  | nil => intro _ _; simp [zin]
  | cons o os ih =>
    intro h1 h2
    obtain ⟨h3, h4⟩ := List.pairwise_cons.mp h2
    have ho := h1 o List.mem_cons_self
    unfold zin
    split
    · rename_i hlt
      refine List.pairwise_cons.mpr ⟨fun y hy => ?_, ih (fun o' h' => h1 o' (List.mem_cons_of_mem _ h')) h4⟩
      rcases zin_mem hy with rfl | hy
      · intro he
        have := ho he
        omega
      · exact h3 y hy
    · refine List.pairwise_cons.mpr ⟨fun y hy he => ?_, h2⟩
      exact h1 y hy he.symm
theorem zKa_sp {ks : List Int} {rs : List zRu} {R : zRu} (hk : zKok ks rs) (hs : zKsp ks) (hR : zRok R) (h6 : rs.length < 6) : zKsp (zKa ks R rs.length) := by
  have r1 := hR.2.1
  have key : ∀ n : Nat, (n : Int) ≤ R.1 2 - R.1 1 + 1 → (zmf ks.reverse (zdl (fun j => zky R rs.length (R.1 1 + j)) n)).Pairwise (fun a b => a % 8 = b % 8 → b + 248140800 ≤ a) := by
    intro n
    induction n with
    | zero => intro _; exact zKsp_d hs
    | succ n ih =>
      intro hn
      show (zin (zky R rs.length (R.1 1 + n)) (zmf ks.reverse (zdl (fun j => zky R rs.length (R.1 1 + j)) n))).Pairwise _
      have hz := zky_r hR (p := rs.length) (y := R.1 1 + n) (by omega) (by omega)
      refine zin_sp (fun o ho he => ?_) (ih (by omega))
      rcases zmf_mem ho with ho | ho
      · exfalso
        obtain ⟨i, hi, e⟩ := List.getElem_of_mem (List.mem_reverse.mp ho)
        have := (hk.2.1 i hi).1
        rw [List.getD_eq_getElem?_getD, List.getElem?_eq_getElem hi] at this
        have this : ks[i] % 8 < rs.length := this
        rw [e] at this
        omega
      · obtain ⟨j, hj, rfl⟩ := zdl_mem ho
        show zky R rs.length (R.1 1 + j) + 248140800 ≤ _
        have h1 := zky_up (R := R) (p := rs.length) (y := R.1 1 + j) (by omega)
        have h2 := zky_mono (R := R) (p := rs.length) (y := R.1 1 + j + 1) (n - (j + 1)) (by omega)
        rw [show R.1 1 + (j : Int) + 1 + ((n - (j + 1) : Nat) : Int) = R.1 1 + n by omega] at h2
        omega
  exact zKsp_u (key (R.1 2 - R.1 1 + 1).toNat (by omega))
theorem zline_sp (hp : zSp S) (ho : zOk S.1 S.2.1 S.2.2) (h6 : ∀ k, k < 3 → (S.2.2 k).length ≤ 6) : zSp (zline w S).2.2 := by
  unfold zline
  split
  · exact hp
  · split
    · cases hz : zruleP (zwd_ w) with
      | none => exact hp
      | some R =>
        show zSp (if (S.2.2 (R.1 0).toNat).length = 6 then (2, 0, S) else (0, 1, S.1, va_up S.2.1 (R.1 0).toNat (zKa (S.2.1 (R.1 0).toNat) R (S.2.2 (R.1 0).toNat).length), va_up S.2.2 (R.1 0).toNat (S.2.2 (R.1 0).toNat ++ [R]))).2.2
        split
        · exact hp
        · rename_i hne
          have hR := zruleP_ok hz
          have hk : (R.1 0).toNat < 3 := by have := hR.1; omega
          intro k hk'
          show zKsp (va_up S.2.1 (R.1 0).toNat (zKa (S.2.1 (R.1 0).toNat) R (S.2.2 (R.1 0).toNat).length) k)
          by_cases hkk : k = (R.1 0).toNat
          · rw [hkk, va_up_self]
            have := h6 _ hk
            exact zKa_sp (ho.2 _ hk) (hp _ hk) hR (by omega)
          · rw [va_up_ne _ _ hkk]
            exact hp k hk'
    · split
      · cases hz : zeraP (zwn w) (zwd_ w) with
        | none => exact hp
        | some E =>
          show zSp (if zfull S.1 then (2, 0, S) else (0, 2, S.1 ++ [E], S.2)).2.2
          split
          · exact hp
          · exact hp
      · exact hp
end ZSi
