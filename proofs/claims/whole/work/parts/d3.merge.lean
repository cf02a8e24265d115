/-! firings put in order -/
/-- the first n of a row, from the end on -/
def zdl (K : Nat → Int) : Nat → List Int
  | 0 => []
  | n + 1 => K n :: zdl K n
/-- one put in, from the end on -/
def zin (x : Int) : List Int → List Int
  | [] => [x]
  | o :: os => if x < o then o :: zin x os else x :: o :: os
def zmf (os : List Int) : List Int → List Int
  | [] => os
  | y :: ys => zin y (zmf os ys)
theorem zdl_len (K : Nat → Int) (n : Nat) : (zdl K n).length = n := by
  induction n with
  | zero => rfl
  | succ n ih => unfold zdl; rw [List.length_cons, ih]
theorem zdl_congr {K K' : Nat → Int} {n : Nat} (h : ∀ j, j < n → K j = K' j) : zdl K n = zdl K' n := by
  induction n with
  | zero => rfl
  | succ n ih => unfold zdl; rw [h n (by omega), ih (fun j hj => h j (by omega))]
theorem zdl_mem {K : Nat → Int} {n : Nat} {x : Int} (h : x ∈ zdl K n) : ∃ j, j < n ∧ x = K j := by
  induction n with
  | zero => cases h
  | succ n ih =>
    unfold zdl at h
    rcases List.mem_cons.mp h with h | h
    · exact ⟨n, by omega, h⟩
    · obtain ⟨j, h1, h2⟩ := ih h
      exact ⟨j, by omega, h2⟩
theorem zdl_get {K : Nat → Int} {n j : Nat} (h : j < n) : (zdl K n).reverse.getD j 0 = K j := by
  induction n with
  | zero => omega
  | succ n ih =>
    unfold zdl
    rw [List.reverse_cons, List.getD_eq_getElem?_getD]
    by_cases hj : j < n
    · rw [List.getElem?_append_left (by rw [List.length_reverse, zdl_len]; exact hj), ← List.getD_eq_getElem?_getD]
      exact ih hj
    · have : j = n := by omega
      subst this
      rw [List.getElem?_append_right (by rw [List.length_reverse, zdl_len]; exact Nat.le_refl _), List.length_reverse, zdl_len]
      simp
/-- a list is its own row -/
theorem zdl_list (ks : List Int) : zdl (fun j => ks.getD j 0) ks.length = ks.reverse := by
  apply List.ext_getElem?
  intro j
  by_cases hj : j < ks.length
  · have h1 := zdl_get (K := fun j => ks.getD j 0) (n := ks.length) (j := ks.length - 1 - j) (by omega)
    have h2 : (zdl (fun j => ks.getD j 0) ks.length)[j]? = some (ks.getD (ks.length - 1 - j) 0) := by
      rw [List.getD_eq_getElem?_getD, List.getElem?_reverse (by rw [zdl_len]; omega), zdl_len] at h1
      rw [show ks.length - 1 - (ks.length - 1 - j) = j by omega] at h1
      rw [List.getElem?_eq_getElem (by rw [zdl_len]; exact hj)] at h1 ⊢
      rw [← h1]
      rfl
    rw [h2, List.getElem?_reverse hj, List.getD_eq_getElem?_getD, List.getElem?_eq_getElem (by omega)]
    rfl
  · rw [List.getElem?_eq_none (by rw [zdl_len]; omega), List.getElem?_eq_none (by rw [List.length_reverse]; omega)]
theorem zin_len (x : Int) (os : List Int) : (zin x os).length = os.length + 1 := by
  induction os with
  | nil => rfl
  | cons o os ih =>
    unfold zin
    split
    · rw [List.length_cons, ih, List.length_cons]
    · rfl
theorem zin_mem {x y : Int} {os : List Int} (h : y ∈ zin x os) : y = x ∨ y ∈ os := by
  induction os with
  | nil => exact Or.inl (by simpa [zin] using h)
  | cons o os ih =>
    unfold zin at h
    split at h
    · rcases List.mem_cons.mp h with h | h
      · exact Or.inr (List.mem_cons.mpr (Or.inl h))
      · rcases ih h with h | h
        · exact Or.inl h
        · exact Or.inr (List.mem_cons_of_mem _ h)
    · rcases List.mem_cons.mp h with h | h
      · exact Or.inl h
      · exact Or.inr h
theorem zin_srt {x : Int} {os : List Int} (h : os.Pairwise (fun a b => b ≤ a)) : (zin x os).Pairwise (fun a b => b ≤ a) := by
  induction os with
  | nil => simp [zin]
  | cons o os ih =>
    obtain ⟨h1, h2⟩ := List.pairwise_cons.mp h
    unfold zin
    split
    · refine List.pairwise_cons.mpr ⟨fun y hy => ?_, ih h2⟩
      rcases zin_mem hy with rfl | hy
      · omega
      · exact h1 y hy
    · refine List.pairwise_cons.mpr ⟨fun y hy => ?_, h⟩
      rcases List.mem_cons.mp hy with rfl | hy
      · omega
      · have := h1 y hy
        omega
theorem zmf_len (os ys : List Int) : (zmf os ys).length = os.length + ys.length := by
  induction ys with
  | nil => rfl
  | cons y ys ih => unfold zmf; rw [zin_len, ih, List.length_cons]; omega
theorem zmf_mem {x : Int} {os ys : List Int} (h : x ∈ zmf os ys) : x ∈ os ∨ x ∈ ys := by
  induction ys with
  | nil => exact Or.inl h
  | cons y ys ih =>
    unfold zmf at h
    rcases zin_mem h with rfl | h
    · exact Or.inr (List.mem_cons_self)
    · rcases ih h with h | h
      · exact Or.inl h
      · exact Or.inr (List.mem_cons_of_mem _ h)
theorem zmf_srt {os ys : List Int} (h : os.Pairwise (fun a b => b ≤ a)) : (zmf os ys).Pairwise (fun a b => b ≤ a) := by
  induction ys with
  | nil => exact h
  | cons y ys ih => exact zin_srt ih
theorem zmf_1 {o : Int} {os ys : List Int} (h : ∀ y ∈ ys, y < o) : zmf (o :: os) ys = o :: zmf os ys := by
  induction ys with
  | nil => rfl
  | cons y ys ih =>
    unfold zmf
    rw [ih (fun z hz => h z (List.mem_cons_of_mem _ hz))]
    show (if y < o then _ else _) = _
    rw [if_pos (h y List.mem_cons_self)]
theorem zin_top {y : Int} {l : List Int} (h : ∀ z, l.head? = some z → z ≤ y) : zin y l = y :: l := by
  cases l with
  | nil => rfl
  | cons o os =>
    have := h o rfl
    show (if y < o then _ else _) = _
    rw [if_neg (by omega)]
theorem zmf_hd {os ys : List Int} {z : Int} (h : (zmf os ys).head? = some z) : os.head? = some z ∨ z ∈ ys := by
  induction ys generalizing z with
  | nil => exact Or.inl h
  | cons y ys ih =>
    unfold zmf at h
    cases hl : zmf os ys with
    | nil =>
      rw [hl] at h
      have : y = z := by simpa [zin] using h
      subst this
      exact Or.inr List.mem_cons_self
    | cons o t =>
      rw [hl] at h
      have hz : z = o ∨ z = y := by
        change (if y < o then o :: zin y t else y :: o :: t).head? = some z at h
        split at h
        · exact Or.inl (Option.some.inj h).symm
        · exact Or.inr (Option.some.inj h).symm
      rcases hz with rfl | rfl
      · rcases ih (by rw [hl]; rfl) with h | h
        · exact Or.inl h
        · exact Or.inr (List.mem_cons_of_mem _ h)
      · exact Or.inr List.mem_cons_self
theorem zmf_2 {y : Int} {os ys : List Int} (h1 : ∀ z ∈ ys, z ≤ y) (h2 : ∀ z, os.head? = some z → z ≤ y) : zmf os (y :: ys) = y :: zmf os ys := by
  refine zin_top (fun z hz => ?_)
  rcases zmf_hd hz with h | h
  · exact h2 z h
  · exact h1 z h
/-- a rule's firing, as a number -/
def zky (R : zRu) (p y : Int) : Int := (zday y (R.1 3) (R.1 4) (R.1 6) (R.1 5) * 86400 + R.1 7) * 8 + p
theorem zdays_up {y m d : Int} (hy : 1900 ≤ y ∧ y ≤ 3000) : zdays y m d + 365 ≤ zdays (y + 1) m d ∧ zdays (y + 1) m d ≤ zdays y m d + 366 := by
  unfold zdays
  split <;> omega
theorem zdn_up {y m d : Int} (hy : 1900 ≤ y ∧ y ≤ 2999) : zdn y m d + 365 ≤ zdn (y + 1) m d ∧ zdn (y + 1) m d ≤ zdn y m d + 366 := by
  unfold zdn
  split
  · exact zdays_up (by omega)
  · exact zdays_up (by omega)
theorem zday_up {y m how num which : Int} (hy : 1900 ≤ y ∧ y ≤ 2999) : zday y m how num which + 359 ≤ zday (y + 1) m how num which ∧ zday (y + 1) m how num which ≤ zday y m how num which + 372 := by
  have h1 := zdn_up (y := y) (m := m) (d := 1) hy
  have h2 := zdays_up (y := y) (m := m) (d := 1) (by omega)
  unfold zday
  split
  · omega
  · split
    · omega
    · split <;> omega
theorem zky_up {R : zRu} {p y : Int} (hy : 1900 ≤ y ∧ y ≤ 2999) : zky R p y + 8 * 86400 * 359 ≤ zky R p (y + 1) := by
  have := zday_up (y := y) (m := R.1 3) (how := R.1 4) (num := R.1 6) (which := R.1 5) hy
  unfold zky
  omega
theorem zky_mono {R : zRu} {p y : Int} (n : Nat) (hy : 1900 ≤ y ∧ y + n ≤ 2999) : zky R p y ≤ zky R p (y + n) := by
  induction n with
  | zero => simp
  | succ n ih =>
    have h1 := ih (by omega)
    have h2 := zky_up (R := R) (p := p) (y := y + n) (by omega)
    rw [show y + ((n + 1 : Nat) : Int) = y + n + 1 by omega]
    omega
theorem zky_r {R : zRu} (hR : zRok R) {p y : Int} (hp : 0 ≤ p ∧ p < 8) (hy : 1969 ≤ y ∧ y ≤ 2037) : -400 * 691200 ≤ zky R p y ∧ zky R p y ≤ 17178000000 ∧ (1970 ≤ y → -8000000 ≤ zky R p y) ∧ zky R p y % 8 = p ∧ zky R p y / 8 = zday y (R.1 3) (R.1 4) (R.1 6) (R.1 5) * 86400 + R.1 7 := by
  obtain ⟨r0, r1, r3, r4, r5, r6, r7, r8⟩ := hR
  have h1 := zday_r (if y < 1970 then 1970 else y) (R.1 3) (R.1 4) (R.1 6) (R.1 5) (by split <;> omega) r3 (by omega)
  have h2 := zday_up (y := y) (m := R.1 3) (how := R.1 4) (num := R.1 6) (which := R.1 5) (by omega)
  unfold zky
  by_cases hc : y < 1970
  · have e : y = 1969 := by omega
    subst e
    rw [if_pos (by decide)] at h1
    rw [show (1969 : Int) + 1 = 1970 by decide] at h2
    omega
  · rw [if_neg hc] at h1
    omega
section ZMg
variable {h : zH} {Q : zO → zH → Prop} {a S F r0 : Nat} {R : zRu} {H : (Nat → Int) → zH} {p n y : Int}
/-- a rule's cells, as a merge needs them -/
def zRc (h : zH) (a : Nat) (R : zRu) : Prop := ∃ (d c : Nat) (v : Value), z_at h (.ref a) = .inr (9, [zi (R.1 0), zi (R.1 1), zi (R.1 2), zi (R.1 3), .ref d, .ref c, zi (R.1 9), v]) ∧ z_at h (.ref d) = .inr (7, [zi (R.1 4), zi (R.1 5), zi (R.1 6)]) ∧ z_at h (.ref c) = .inr (8, [zi (R.1 7), zi (R.1 8)])
theorem t154 (hS : z_at h (.ref S) = .inr (5, [.ref r0, zi p, .ref F, zi n])) (ha : zRc h a R) (hR : zRok R) (hp : 0 ≤ p ∧ p < 8) (hy : 1969 ≤ y ∧ y ≤ 2037) : z_Cl 154 [.ref S, .ref a, zi y] h Q = Q (.inl (some (zl (zky R p y)))) h := by
  obtain ⟨d, c, v, a1, a2, a3⟩ := ha
  have hz := zky_r hR hp hy
  obtain ⟨r0, r1, r3, r4, r5, r6, r7, r8⟩ := id hR
  have x1 : ∀ Q' : zO → zH → Prop, z_Cl 115 [.ref d, zi y, zi (R.1 3)] h Q' = _ := fun Q' => s115 a2 (by omega) r3 r4 (by omega) r5
  have e8 : zw (R.1 8) = R.1 8 := zw_id (by omega)
  unfold zky at hz ⊢
  simp (disch := first | omega | assumption | exact zq_r _ | exact zn_0 | exact zo_i _ | exact zo_r _ | exact zq_k _ | exact zq_n | exact zn_1 _ | exact zn_2 _ _ | exact zn_3 _ _ _ | exact zn_4 _ _ _ _ | exact zn_5 _ _ _ _ _ | exact zc_i _ | exact zc_r _ | exact zo_l _ | exact zo_k _ | exact zo_n | exact zc_rk _ | (rw [zx_id (by omega)]; omega) | (rw [zw_id (by omega)]; omega) | (apply z_ok_v; assumption) | (simp only [z_new_1, z_pu_1, mh_1]; omega)) only [z_EvO_some, z_EvG_t, z_Bk_n, z_Bk_s, z_brT, z_brF, z_br_pos, z_br_neg, not_true_eq_false, not_false_eq_true, Bool.true_eq_false, Bool.false_eq_true, Bool.not_eq_false, Bool.not_eq_true, eq_self, z_kl_i, z_kl_l, z_kl_r, z_kl_k, z_kl_n, z_kl_u, z_kl_v, zi_f, zl_f, z_put_r, z_nul_n, z_nul_r, zcmp_lt, zcmp_le, zcmp_ge, zcmp_gt, zcmp_eq, zw_id, zx_id, Nat.reduceAdd, z_tf_i, z_tf_l, z_tf_z, zl_zx, zi_zw, z_gf0, z_gf1, z_gf2, z_gf3, z_gf4, z_gf5, z_gf6, z_gf7, z_pf0, z_pf1, z_pf2, z_pf3, z_pf4, z_pf5, z_pf6, z_pf7, z_ob1, zb_0, zb_1, zb_tf, e154, r154_0, r154_1, r154_2, r154_5, r154_6, r154_7, r154_8, r154_11, r154_12, r154_13, e138, r138_0, r138_1, r138_4, r138_5, r138_6, r138_9, r138_12, r138_15, r138_16, r138_17, r138_20, r138_23, r138_24, r138_25, hS, a1, a2, a3, x1, z_shl3]
theorem l170 (hS : ∀ K, z_at (H K) (.ref S) = .inr (5, [.ref r0, zi p, .ref F, zi n])) (hK : ∀ K, z_at (H K) (.ref F) = zLA 408 K) (hU : ∀ K K', z_pu (H K) F (zLA 408 K') = H K') (ha : ∀ K, zRc (H K) a R) (hR : zRok R) (hp : 0 ≤ p ∧ p < 8) :
    ∀ (N b q : Nat) (K : Nat → Int), N = b + q → N ≤ 408 → R.1 1 + q ≤ R.1 2 + 1 → (∀ j, j < b → -9223372036854775808 ≤ K j ∧ K j ≤ 9223372036854775807) →
    (∀ K', zdl K' N = zmf (zdl K b) (zdl (fun j => zky R p (R.1 1 + j)) q) → (∀ j, N ≤ j → K' j = K j) → Q (.inl none) (H K')) →
    ∀ l5, z_Ev 170 48 [.ref S, .ref a, zi (b - 1), zi (R.1 1 + q - 1), zl (zky R p (R.1 1 + q - 1)), l5, zi (N - 1)] [] (H K) Q := by
  have r1 := hR.2.1
  intro N
  induction N with
  | zero =>
    intro b q K hN hN4 hq hKr kk l5
    have : b = 0 := by omega
    have : q = 0 := by omega
    subst b q
    have := kk K rfl (fun _ _ => rfl)
    have e0 : ((0 : Nat) : Int) - 1 = -1 := by decide
    rw [e0, k170_48]
    simp (disch := first | omega | assumption | exact zq_r _ | exact zn_0 | exact zo_i _ | exact zo_r _ | exact zq_k _ | exact zq_n | exact zn_1 _ | exact zn_2 _ _ | exact zn_3 _ _ _ | exact zn_4 _ _ _ _ | exact zn_5 _ _ _ _ _ | exact zc_i _ | exact zc_r _ | exact zo_l _ | exact zo_k _ | exact zo_n | exact zc_rk _ | (rw [zx_id (by omega)]; omega) | (rw [zw_id (by omega)]; omega) | (apply z_ok_v; assumption) | (simp only [z_new_1, z_pu_1, mh_1]; omega)) only [z_EvO_some, z_EvG_t, z_Bk_n, z_Bk_s, z_brT, z_brF, z_br_pos, z_br_neg, not_true_eq_false, not_false_eq_true, Bool.true_eq_false, Bool.false_eq_true, Bool.not_eq_false, Bool.not_eq_true, eq_self, z_kl_i, z_kl_l, z_kl_r, z_kl_k, z_kl_n, z_kl_u, z_kl_v, zi_f, zl_f, z_put_r, z_nul_n, z_nul_r, zcmp_lt, zcmp_le, zcmp_ge, zcmp_gt, zcmp_eq, zw_id, zx_id, Nat.reduceAdd, z_tf_i, z_tf_l, z_tf_z, zl_zx, zi_zw, z_gf0, z_gf1, z_gf2, z_gf3, z_gf4, z_gf5, z_gf6, z_gf7, z_pf0, z_pf1, z_pf2, z_pf3, z_pf4, z_pf5, z_pf6, z_pf7, z_ob1, zb_0, zb_1, zb_tf, r170_0, r170_1, r170_4, r170_5, r170_6, r170_7, r170_8, r170_11, r170_12, r170_13, r170_14, r170_17, r170_18, r170_21, r170_22, r170_23, r170_26, r170_27, r170_28, r170_29, r170_32, r170_33, r170_34, r170_35, r170_38, r170_40, r170_41, r170_44, r170_45, r170_46, r170_50, r170_53, r170_54, r170_55, r170_58, r170_61, r170_62, r170_65, r170_66, r170_69, r170_70, r170_71, r170_73, r170_74, r170_77, r170_78, r170_81, r170_83, r170_84, r170_87, r170_88, r170_89, r170_90, r170_93, r170_96, r170_97, r170_100, r170_102, r170_104, r170_105, r170_108, r170_109, r170_110, r170_111, r170_114, r170_116, r170_119, r170_122]
    exact this
  | succ N ih =>
    intro b q K hN hN4 hq hKr kk l5
    obtain ⟨d, c, v, a1, a2, a3⟩ := ha K
    cases q with
    | zero =>
      have := kk K (by rw [hN]; rfl) (fun _ _ => rfl)
      have e0 : R.1 1 + ((0 : Nat) : Int) - 1 = R.1 1 - 1 := by omega
      have e1 : ((N + 1 : Nat) : Int) - 1 = N := by omega
      rw [e0, e1, k170_48]
      simp (disch := first | omega | assumption | exact zq_r _ | exact zn_0 | exact zo_i _ | exact zo_r _ | exact zq_k _ | exact zq_n | exact zn_1 _ | exact zn_2 _ _ | exact zn_3 _ _ _ | exact zn_4 _ _ _ _ | exact zn_5 _ _ _ _ _ | exact zc_i _ | exact zc_r _ | exact zo_l _ | exact zo_k _ | exact zo_n | exact zc_rk _ | (rw [zx_id (by omega)]; omega) | (rw [zw_id (by omega)]; omega) | (apply z_ok_v; assumption) | (simp only [z_new_1, z_pu_1, mh_1]; omega)) only [z_EvO_some, z_EvG_t, z_Bk_n, z_Bk_s, z_brT, z_brF, z_br_pos, z_br_neg, not_true_eq_false, not_false_eq_true, Bool.true_eq_false, Bool.false_eq_true, Bool.not_eq_false, Bool.not_eq_true, eq_self, z_kl_i, z_kl_l, z_kl_r, z_kl_k, z_kl_n, z_kl_u, z_kl_v, zi_f, zl_f, z_put_r, z_nul_n, z_nul_r, zcmp_lt, zcmp_le, zcmp_ge, zcmp_gt, zcmp_eq, zw_id, zx_id, Nat.reduceAdd, z_tf_i, z_tf_l, z_tf_z, zl_zx, zi_zw, z_gf0, z_gf1, z_gf2, z_gf3, z_gf4, z_gf5, z_gf6, z_gf7, z_pf0, z_pf1, z_pf2, z_pf3, z_pf4, z_pf5, z_pf6, z_pf7, z_ob1, zb_0, zb_1, zb_tf, r170_0, r170_1, r170_4, r170_5, r170_6, r170_7, r170_8, r170_11, r170_12, r170_13, r170_14, r170_17, r170_18, r170_21, r170_22, r170_23, r170_26, r170_27, r170_28, r170_29, r170_32, r170_33, r170_34, r170_35, r170_38, r170_40, r170_41, r170_44, r170_45, r170_46, r170_50, r170_53, r170_54, r170_55, r170_58, r170_61, r170_62, r170_65, r170_66, r170_69, r170_70, r170_71, r170_73, r170_74, r170_77, r170_78, r170_81, r170_83, r170_84, r170_87, r170_88, r170_89, r170_90, r170_93, r170_96, r170_97, r170_100, r170_102, r170_104, r170_105, r170_108, r170_109, r170_110, r170_111, r170_114, r170_116, r170_119, r170_122, a1]
      exact this
    | succ q =>
      have e0 : R.1 1 + ((q + 1 : Nat) : Int) - 1 = R.1 1 + q := by omega
      have e1 : ((N + 1 : Nat) : Int) - 1 = N := by omega
      have hz := zky_r hR (p := p) (y := R.1 1 + q) hp (by omega)
      have hmono : ∀ j : Nat, j ≤ q → zky R p (R.1 1 + j) ≤ zky R p (R.1 1 + q) := fun j hj => by
        have := zky_mono (R := R) (p := p) (y := R.1 1 + j) (q - j) (by omega)
        rw [show R.1 1 + (j : Int) + ((q - j : Nat) : Int) = R.1 1 + q by omega] at this
        exact this
      rw [e0, e1]
      -- the new one next
      have mine : (∀ z, (zdl K b).head? = some z → z ≤ zky R p (R.1 1 + q)) → ∀ l5, z_Ev 170 96 [.ref S, .ref a, zi (b - 1), zi (R.1 1 + q), zl (zky R p (R.1 1 + q)), l5, zi N] [] (H K) Q := by
        intro hh l5
        have xr := ih b q (va_up K N (zky R p (R.1 1 + q))) (by omega) (by omega) (by omega) (fun j hj => by rw [va_up_ne _ _ (by omega)]; exact hKr j hj) (fun K' h1 h2 => kk K' (by
            show K' N :: zdl K' N = _
            rw [h1, h2 N (Nat.le_refl _), va_up_self, zdl_congr (K := va_up K N _) (K' := K) (fun j hj => va_up_ne _ _ (by omega))]
            exact (zmf_2 (fun z hz => by
              obtain ⟨j, hj, rfl⟩ := zdl_mem hz
              exact hmono j (by omega)) hh).symm) (fun j hj => by rw [h2 j (by omega), va_up_ne _ _ (by omega)]))
        have x154 : ∀ (Q' : zO → zH → Prop) (K : Nat → Int), z_Cl 154 [.ref S, .ref a, zi (R.1 1 + q - 1)] (H K) Q' = _ := fun Q' K => t154 (hS K) (ha K) hR hp (by omega)
        have eN : ((N : Nat) : Int).toNat = N := by omega
        have e9 : R.1 1 + (q : Int) + -1 = R.1 1 + q - 1 := by omega
        have e10 : (N : Int) + -1 = N - 1 := by omega
        obtain ⟨d', c', v', a1', -⟩ := ha (va_up K N (zky R p (R.1 1 + q)))
        simp (disch := first | omega | assumption | exact zq_r _ | exact zn_0 | exact zo_i _ | exact zo_r _ | exact zq_k _ | exact zq_n | exact zn_1 _ | exact zn_2 _ _ | exact zn_3 _ _ _ | exact zn_4 _ _ _ _ | exact zn_5 _ _ _ _ _ | exact zc_i _ | exact zc_r _ | exact zo_l _ | exact zo_k _ | exact zo_n | exact zc_rk _ | (rw [zx_id (by omega)]; omega) | (rw [zw_id (by omega)]; omega) | (apply z_ok_v; assumption) | (simp only [z_new_1, z_pu_1, mh_1]; omega)) only [z_EvO_some, z_EvG_t, z_Bk_n, z_Bk_s, z_brT, z_brF, z_br_pos, z_br_neg, not_true_eq_false, not_false_eq_true, Bool.true_eq_false, Bool.false_eq_true, Bool.not_eq_false, Bool.not_eq_true, eq_self, z_kl_i, z_kl_l, z_kl_r, z_kl_k, z_kl_n, z_kl_u, z_kl_v, zi_f, zl_f, z_put_r, z_nul_n, z_nul_r, zcmp_lt, zcmp_le, zcmp_ge, zcmp_gt, zcmp_eq, zw_id, zx_id, Nat.reduceAdd, z_tf_i, z_tf_l, z_tf_z, zl_zx, zi_zw, z_gf0, z_gf1, z_gf2, z_gf3, z_gf4, z_gf5, z_gf6, z_gf7, z_pf0, z_pf1, z_pf2, z_pf3, z_pf4, z_pf5, z_pf6, z_pf7, z_ob1, zb_0, zb_1, zb_tf, r170_0, r170_1, r170_4, r170_5, r170_6, r170_7, r170_8, r170_11, r170_12, r170_13, r170_14, r170_17, r170_18, r170_21, r170_22, r170_23, r170_26, r170_27, r170_28, r170_29, r170_32, r170_33, r170_34, r170_35, r170_38, r170_40, r170_41, r170_44, r170_45, r170_46, r170_50, r170_53, r170_54, r170_55, r170_58, r170_61, r170_62, r170_65, r170_66, r170_69, r170_70, r170_71, r170_73, r170_74, r170_77, r170_78, r170_81, r170_83, r170_84, r170_87, r170_88, r170_89, r170_90, r170_93, r170_96, r170_97, r170_100, r170_102, r170_104, r170_105, r170_108, r170_109, r170_110, r170_111, r170_114, r170_116, r170_119, r170_122, hS, hK, hU, a1, a1', zg_sl_A, eN, x154, e9, e10]
        exact xr _
      by_cases hb : b = 0
      · subst hb
        have e2 : ((0 : Nat) : Int) - 1 = -1 := by decide
        have xm := mine (fun z hz => by cases hz)
        rw [e2] at xm ⊢
        rw [k170_48]
        simp (disch := first | omega | assumption | exact zq_r _ | exact zn_0 | exact zo_i _ | exact zo_r _ | exact zq_k _ | exact zq_n | exact zn_1 _ | exact zn_2 _ _ | exact zn_3 _ _ _ | exact zn_4 _ _ _ _ | exact zn_5 _ _ _ _ _ | exact zc_i _ | exact zc_r _ | exact zo_l _ | exact zo_k _ | exact zo_n | exact zc_rk _ | (rw [zx_id (by omega)]; omega) | (rw [zw_id (by omega)]; omega) | (apply z_ok_v; assumption) | (simp only [z_new_1, z_pu_1, mh_1]; omega)) only [z_EvO_some, z_EvG_t, z_Bk_n, z_Bk_s, z_brT, z_brF, z_br_pos, z_br_neg, not_true_eq_false, not_false_eq_true, Bool.true_eq_false, Bool.false_eq_true, Bool.not_eq_false, Bool.not_eq_true, eq_self, z_kl_i, z_kl_l, z_kl_r, z_kl_k, z_kl_n, z_kl_u, z_kl_v, zi_f, zl_f, z_put_r, z_nul_n, z_nul_r, zcmp_lt, zcmp_le, zcmp_ge, zcmp_gt, zcmp_eq, zw_id, zx_id, Nat.reduceAdd, z_tf_i, z_tf_l, z_tf_z, zl_zx, zi_zw, z_gf0, z_gf1, z_gf2, z_gf3, z_gf4, z_gf5, z_gf6, z_gf7, z_pf0, z_pf1, z_pf2, z_pf3, z_pf4, z_pf5, z_pf6, z_pf7, z_ob1, zb_0, zb_1, zb_tf, r170_0, r170_1, r170_4, r170_5, r170_6, r170_7, r170_8, r170_11, r170_12, r170_13, r170_14, r170_17, r170_18, r170_21, r170_22, r170_23, r170_26, r170_27, r170_28, r170_29, r170_32, r170_33, r170_34, r170_35, r170_38, r170_40, r170_41, r170_44, r170_45, r170_46, r170_50, r170_53, r170_54, r170_55, r170_58, r170_61, r170_62, r170_65, r170_66, r170_69, r170_70, r170_71, r170_73, r170_74, r170_77, r170_78, r170_81, r170_83, r170_84, r170_87, r170_88, r170_89, r170_90, r170_93, r170_97, r170_100, r170_102, r170_104, r170_105, r170_108, r170_109, r170_110, r170_111, r170_114, r170_116, r170_119, r170_122, a1]
        exact xm _
      · obtain ⟨b', rfl⟩ : ∃ b', b = b' + 1 := ⟨b - 1, by omega⟩
        have e2 : ((b' + 1 : Nat) : Int) - 1 = b' := by omega
        have eb : ((b' : Nat) : Int).toNat = b' := by omega
        have hk := hKr b' (by omega)
        by_cases hc : zky R p (R.1 1 + q) < K b'
        · have xr := ih b' (q + 1) (va_up K N (K b')) (by omega) (by omega) (by omega) (fun j hj => by rw [va_up_ne _ _ (by omega)]; exact hKr j (by omega)) (fun K' h1 h2 => kk K' (by
              show K' N :: zdl K' N = _
              rw [h1, h2 N (Nat.le_refl _), va_up_self, zdl_congr (K := va_up K N _) (K' := K) (fun j hj => va_up_ne _ _ (by omega))]
              exact (zmf_1 (fun z hz => by
                obtain ⟨j, hj, rfl⟩ := zdl_mem hz
                have := hmono j (by omega)
                omega)).symm) (fun j hj => by rw [h2 j (by omega), va_up_ne _ _ (by omega)]))
          have eN : ((N : Nat) : Int).toNat = N := by omega
          have e10 : (N : Int) + -1 = N - 1 := by omega
          have e11 : (b' : Int) + -1 = b' - 1 := by omega
          rw [e0] at xr
          rw [e2, k170_48]
          simp (disch := first | omega | assumption | exact zq_r _ | exact zn_0 | exact zo_i _ | exact zo_r _ | exact zq_k _ | exact zq_n | exact zn_1 _ | exact zn_2 _ _ | exact zn_3 _ _ _ | exact zn_4 _ _ _ _ | exact zn_5 _ _ _ _ _ | exact zc_i _ | exact zc_r _ | exact zo_l _ | exact zo_k _ | exact zo_n | exact zc_rk _ | (rw [zx_id (by omega)]; omega) | (rw [zw_id (by omega)]; omega) | (apply z_ok_v; assumption) | (simp only [z_new_1, z_pu_1, mh_1]; omega)) only [z_EvO_some, z_EvG_t, z_Bk_n, z_Bk_s, z_brT, z_brF, z_br_pos, z_br_neg, not_true_eq_false, not_false_eq_true, Bool.true_eq_false, Bool.false_eq_true, Bool.not_eq_false, Bool.not_eq_true, eq_self, z_kl_i, z_kl_l, z_kl_r, z_kl_k, z_kl_n, z_kl_u, z_kl_v, zi_f, zl_f, z_put_r, z_nul_n, z_nul_r, zcmp_lt, zcmp_le, zcmp_ge, zcmp_gt, zcmp_eq, zw_id, zx_id, Nat.reduceAdd, z_tf_i, z_tf_l, z_tf_z, zl_zx, zi_zw, z_gf0, z_gf1, z_gf2, z_gf3, z_gf4, z_gf5, z_gf6, z_gf7, z_pf0, z_pf1, z_pf2, z_pf3, z_pf4, z_pf5, z_pf6, z_pf7, z_ob1, zb_0, zb_1, zb_tf, r170_0, r170_1, r170_4, r170_5, r170_6, r170_7, r170_8, r170_11, r170_12, r170_13, r170_14, r170_17, r170_18, r170_21, r170_22, r170_23, r170_26, r170_27, r170_28, r170_29, r170_32, r170_33, r170_34, r170_35, r170_38, r170_40, r170_41, r170_44, r170_45, r170_46, r170_50, r170_53, r170_54, r170_55, r170_58, r170_61, r170_62, r170_65, r170_66, r170_69, r170_70, r170_71, r170_73, r170_74, r170_77, r170_78, r170_81, r170_83, r170_84, r170_87, r170_88, r170_89, r170_90, r170_93, r170_97, r170_100, r170_102, r170_104, r170_105, r170_108, r170_109, r170_110, r170_111, r170_114, r170_116, r170_119, r170_122, hS, hK, hU, a1, zg_al_A, zg_sl_A, eN, eb, e10, e11]
          exact xr _
        · have xm := mine (fun z hz => by
            have : K b' = z := by simpa [zdl] using hz
            omega)
          rw [e2] at xm ⊢
          rw [k170_48]
          simp (disch := first | omega | assumption | exact zq_r _ | exact zn_0 | exact zo_i _ | exact zo_r _ | exact zq_k _ | exact zq_n | exact zn_1 _ | exact zn_2 _ _ | exact zn_3 _ _ _ | exact zn_4 _ _ _ _ | exact zn_5 _ _ _ _ _ | exact zc_i _ | exact zc_r _ | exact zo_l _ | exact zo_k _ | exact zo_n | exact zc_rk _ | (rw [zx_id (by omega)]; omega) | (rw [zw_id (by omega)]; omega) | (apply z_ok_v; assumption) | (simp only [z_new_1, z_pu_1, mh_1]; omega)) only [z_EvO_some, z_EvG_t, z_Bk_n, z_Bk_s, z_brT, z_brF, z_br_pos, z_br_neg, not_true_eq_false, not_false_eq_true, Bool.true_eq_false, Bool.false_eq_true, Bool.not_eq_false, Bool.not_eq_true, eq_self, z_kl_i, z_kl_l, z_kl_r, z_kl_k, z_kl_n, z_kl_u, z_kl_v, zi_f, zl_f, z_put_r, z_nul_n, z_nul_r, zcmp_lt, zcmp_le, zcmp_ge, zcmp_gt, zcmp_eq, zw_id, zx_id, Nat.reduceAdd, z_tf_i, z_tf_l, z_tf_z, zl_zx, zi_zw, z_gf0, z_gf1, z_gf2, z_gf3, z_gf4, z_gf5, z_gf6, z_gf7, z_pf0, z_pf1, z_pf2, z_pf3, z_pf4, z_pf5, z_pf6, z_pf7, z_ob1, zb_0, zb_1, zb_tf, r170_0, r170_1, r170_4, r170_5, r170_6, r170_7, r170_8, r170_11, r170_12, r170_13, r170_14, r170_17, r170_18, r170_21, r170_22, r170_23, r170_26, r170_27, r170_28, r170_29, r170_32, r170_33, r170_34, r170_35, r170_38, r170_40, r170_41, r170_44, r170_45, r170_46, r170_50, r170_53, r170_54, r170_55, r170_58, r170_61, r170_62, r170_65, r170_66, r170_69, r170_70, r170_71, r170_73, r170_74, r170_77, r170_78, r170_81, r170_83, r170_84, r170_87, r170_88, r170_89, r170_90, r170_93, r170_97, r170_100, r170_102, r170_104, r170_105, r170_108, r170_109, r170_110, r170_111, r170_114, r170_116, r170_119, r170_122, hS, hK, hU, a1, zg_al_A, eb]
          exact xm _
end ZMg
