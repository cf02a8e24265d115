/-! texts cut -/
theorem z_at_pu_e {h : zH} {a b : Nat} {e : zE} (hb : b = a) : z_at (z_pu h a e) (.ref b) = e := by rw [hb, z_at_pu_s]
theorem z_at_new_e {h : zH} {n b : Nat} {e : zE} (hb : b = h.1) : z_at (z_new h n e) (.ref b) = e := by rw [hb, z_at_new_s]
theorem z_atr_r (h : zH) (a : Nat) : z_atr h (.ref a) = z_at h (.ref a) := rfl
/-- nothing stands behind what was made -/
def zFr (h : zH) : Prop := ∀ a, h.1 ≤ a → z_at h (.ref a) = z_jk
/-- only new cells: at most A, of B slots -/
def zEx (h h' : zH) (A B : Nat) : Prop := h.1 ≤ h'.1 ∧ h'.1 ≤ h.1 + A ∧ h.2.1 ≤ h'.2.1 ∧ h'.2.1 ≤ h.2.1 + B ∧ (∀ a, a < h.1 → z_at h' (.ref a) = z_at h (.ref a)) ∧ (∀ k, z_at h' (.retAddr k) = z_at h (.retAddr k)) ∧ zFr h'
theorem zEx.refl {h : zH} (hF : zFr h) : zEx h h 0 0 := ⟨Nat.le_refl _, Nat.le_refl _, Nat.le_refl _, Nat.le_refl _, fun _ _ => rfl, fun _ => rfl, hF⟩
theorem zEx.trans {h h1 h2 : zH} {A B A2 B2 : Nat} (x : zEx h h1 A B) (y : zEx h1 h2 A2 B2) : zEx h h2 (A + A2) (B + B2) := by
  obtain ⟨a1, a2, a3, a4, a5, a6, a7⟩ := x
  obtain ⟨b1, b2, b3, b4, b5, b6, b7⟩ := y
  exact ⟨by omega, by omega, by omega, by omega, fun a ha => (b5 a (by omega)).trans (a5 a ha), fun k => (b6 k).trans (a6 k), b7⟩
theorem zEx.mono {h h1 : zH} {A B A2 B2 : Nat} (x : zEx h h1 A B) (h2 : A ≤ A2) (h3 : B ≤ B2) : zEx h h1 A2 B2 := by
  obtain ⟨a1, a2, a3, a4, a5, a6, a7⟩ := x
  exact ⟨a1, by omega, a3, by omega, a5, a6, a7⟩
theorem zFr_lt {h : zH} (hF : zFr h) {a : Nat} {e : zE} (he : z_at h (.ref a) = e) (hn : e ≠ z_jk) : a < h.1 := by
  apply Nat.lt_of_not_le
  intro hle
  exact hn (he.symm.trans (hF a hle))
theorem zEx.at {h h1 : zH} {A B : Nat} (x : zEx h h1 A B) (hF : zFr h) {v : Value} (hv : z_isref v = true) {e : zE} (he : z_at h v = e) (hn : e ≠ z_jk) : z_at h1 v = e := by
  obtain ⟨a1, a2, a3, a4, a5, a6, a7⟩ := x
  cases v with
  | ref a => rw [a5 a (zFr_lt hF he hn)]; exact he
  | retAddr k => rw [a6 k]; exact he
  | null => exact he
  | _ => simp [z_isref] at hv
theorem zA_jk {t n : Nat} {u : Nat → Int} : zA t n u ≠ z_jk := by unfold zA z_jk; exact fun q => by cases q
theorem zo_jk {c : Nat} {fs : List Value} (hc : c ≠ 9999) : (.inr (c, fs) : zE) ≠ z_jk := by
  unfold z_jk
  intro q
  exact hc (Prod.mk.inj (Sum.inr.inj q)).1
theorem zSt.ex {h h1 : zH} {A B : Nat} {v : Value} {w : List Int} (hs : zSt h v w) (x : zEx h h1 A B) (hF : zFr h) : zSt h1 v w := by
  obtain ⟨vv, r, u, q1, q2, q3, q4, q5⟩ := hs
  exact ⟨vv, r, u, q1, x.at hF q1 q2 (zo_jk (by decide)), q3, x.at hF q3 q4 zA_jk, q5⟩
/-- a String that was made here -/
def zSd (L : Nat) (h : zH) (p : Nat) (w : List Int) : Prop := ∃ (q : Nat) (r : List Value) (u : Nat → Int), (L ≤ p ∧ L ≤ q) ∧ z_at h (.ref p) = .inr (2, .ref q :: zi 0 :: r) ∧ z_at h (.ref q) = zA 2 w.length u ∧ zT w u ∧ w.length ≤ 1000 ∧ ∀ c ∈ w, 0 ≤ c ∧ c ≤ 127
theorem zSd.st {L : Nat} {h : zH} {p : Nat} {w : List Int} (hs : zSd L h p w) : zSt h (.ref p) w := by
  obtain ⟨q, r, u, -, q1, q2, q3⟩ := hs
  exact ⟨.ref q, r, u, rfl, q1, rfl, q2, q3⟩
theorem zSd.ex {L : Nat} {h h1 : zH} {A B : Nat} {p : Nat} {w : List Int} (hs : zSd L h p w) (x : zEx h h1 A B) (hF : zFr h) : zSd L h1 p w := by
  obtain ⟨q, r, u, q0, q1, q2, q3⟩ := hs
  exact ⟨q, r, u, q0, x.at hF rfl q1 (zo_jk (by decide)), x.at hF rfl q2 zA_jk, q3⟩
/-- ... or the empty one -/
def zSv (L : Nat) (h : zH) (v : Value) (w : List Int) : Prop := (∃ p, v = .ref p ∧ zSd L h p w) ∨ (v = .retAddr 8 ∧ w = [] ∧ zSt h v w)
theorem zSv.st {L : Nat} {h : zH} {v : Value} {w : List Int} (hs : zSv L h v w) : zSt h v w := by
  rcases hs with ⟨p, rfl, h1⟩ | ⟨rfl, rfl, h1⟩
  · exact h1.st
  · exact h1
theorem z_cpy_A {n0 n1 : Nat} {u y : Nat → Int} {s d n : Int} (hs : 0 ≤ s ∧ 0 ≤ d ∧ 0 ≤ n) (h0 : s + n ≤ n0) (h1 : d + n ≤ n1) (hn : n0 ≤ 2147483647 ∧ n1 ≤ 2147483647) : z_cpy (zA 2 n0 u) (zA 2 n1 y) (Int32.ofInt s) (Int32.ofInt d) (Int32.ofInt n) = some (zA 2 n1 (va_cpy u y s.toNat d.toNat n.toNat)) := by
  have e1 := z_tnc (a := s) (by omega)
  have e2 := z_tnc (a := d) (by omega)
  have e3 := z_tnc (a := n) (by omega)
  have f1 := z_notneg (a := s) (by omega)
  have f2 := z_notneg (a := d) (by omega)
  have f3 := z_notneg (a := n) (by omega)
  unfold z_cpy zA
  dsimp only
  rw [e1, e2, e3, if_pos ⟨rfl, rfl, f1, f2, f3, by omega, by omega⟩]
  congr 4
  congr 1
  funext j
  unfold va_cpy
  split <;> rfl
section ZSb
variable {h : zH} {Q : zO → zH → Prop} {a b c x y : Int} {v vv : Value} {w : List Int} {p q n : Nat} {u : Nat → Int} {r : List Value}
theorem s71 (ha : a ≤ b) (h1 : -2147483648 ≤ a ∧ b ≤ 2147483647) : z_Cl 71 [zi a, zi b] h Q = Q (.inl none) h := by
  simp (disch := first | omega | assumption | exact zq_r _ | exact zn_0 | exact zo_i _ | exact zo_r _ | exact zq_k _ | exact zq_n | exact zn_1 _ | exact zn_2 _ _ | exact zn_3 _ _ _ | exact zn_4 _ _ _ _ | exact zn_5 _ _ _ _ _ | exact zc_i _ | exact zc_r _ | exact zo_l _ | exact zo_k _ | exact zo_n | exact zc_rk _ | (rw [zx_id (by omega)]; omega) | (rw [zw_id (by omega)]; omega) | (apply z_ok_v; assumption) | (simp only [z_new_1, z_pu_1, mh_1]; omega)) only [z_EvO_some, z_EvG_t, z_Bk_n, z_Bk_s, z_brT, z_brF, z_br_pos, z_br_neg, not_true_eq_false, not_false_eq_true, Bool.true_eq_false, Bool.false_eq_true, Bool.not_eq_false, Bool.not_eq_true, eq_self, z_kl_i, z_kl_l, z_kl_r, z_kl_k, z_kl_n, z_kl_u, z_kl_v, zi_f, zl_f, z_put_r, z_nul_n, z_nul_r, zcmp_lt, zcmp_le, zcmp_ge, zcmp_gt, zcmp_eq, zw_id, zx_id, Nat.reduceAdd, z_tf_i, z_tf_l, z_tf_z, zl_zx, zi_zw, z_gf0, z_gf1, z_gf2, z_gf3, z_gf4, z_gf5, z_gf6, z_gf7, z_pf0, z_pf1, z_pf2, z_pf3, z_pf4, z_pf5, z_pf6, z_pf7, z_ob1, zb_0, zb_1, zb_tf, e71, r71_0, r71_1, r71_2, r71_8, r71_9, r71_12, r71_16, r71_21, r71_26, r71_37]
theorem s108 (hq : z_at h (.ref q) = zA 2 n u) (hqh : q < h.1) (ha : 0 ≤ a ∧ a ≤ b) (hb : b ≤ n) (hn : n ≤ 1000) : z_Cl 108 [.ref q, zi a, zi b] h Q = Q (.inl (some (.ref h.1))) (z_pu (z_new h (b - a).toNat (zA 2 (b - a).toNat (fun _ => 0))) h.1 (zA 2 (b - a).toNat (va_cpy u (fun _ => 0) a.toNat 0 (b - a).toNat))) := by
  have e1 : min ((n : Int) - a) (b - a) = b - a := by omega
  simp (disch := first | omega | assumption | exact zq_r _ | exact zn_0 | exact zo_i _ | exact zo_r _ | exact zq_k _ | exact zq_n | exact zn_1 _ | exact zn_2 _ _ | exact zn_3 _ _ _ | exact zn_4 _ _ _ _ | exact zn_5 _ _ _ _ _ | exact zc_i _ | exact zc_r _ | exact zo_l _ | exact zo_k _ | exact zo_n | exact zc_rk _ | (rw [zx_id (by omega)]; omega) | (rw [zw_id (by omega)]; omega) | (apply z_ok_v; assumption) | (simp only [z_new_1, z_pu_1, mh_1]; omega)) only [z_EvO_some, z_EvG_t, z_Bk_n, z_Bk_s, z_brT, z_brF, z_br_pos, z_br_neg, not_true_eq_false, not_false_eq_true, Bool.true_eq_false, Bool.false_eq_true, Bool.not_eq_false, Bool.not_eq_true, eq_self, z_kl_i, z_kl_l, z_kl_r, z_kl_k, z_kl_n, z_kl_u, z_kl_v, zi_f, zl_f, z_put_r, z_nul_n, z_nul_r, zcmp_lt, zcmp_le, zcmp_ge, zcmp_gt, zcmp_eq, zw_id, zx_id, Nat.reduceAdd, z_tf_i, z_tf_l, z_tf_z, zl_zx, zi_zw, z_gf0, z_gf1, z_gf2, z_gf3, z_gf4, z_gf5, z_gf6, z_gf7, z_pf0, z_pf1, z_pf2, z_pf3, z_pf4, z_pf5, z_pf6, z_pf7, z_ob1, zb_0, zb_1, zb_tf, z_at_pu_e, z_at_pu_n, z_at_pu_k, z_at_new_e, z_at_new_n, z_at_new_k, z_new_1, z_pu_1, z_atr_r, e108, r108_0, r108_1, r108_2, r108_5, r108_6, r108_7, r108_8, r108_9, r108_10, r108_12, r108_14, r108_15, r108_16, r108_18, r108_19, r108_20, r108_21, r108_22, r108_23, r108_24, r108_27, r108_30, r108_32, s71, hq, z_len_A, s62, e1, z_cpy_A]
  rfl
theorem s133 (hq : z_at h (.ref q) = zA 2 n u) (hqh : q < h.1) (ha : 0 ≤ a ∧ a ≤ b) (hb : b ≤ n) (hn : n ≤ 1000) (hne : ¬ (a = 0 ∧ b = n)) : z_Cl 133 [.ref q, zi a, zi b] h Q = Q (.inl (some (.ref h.1))) (z_pu (z_new h (b - a).toNat (zA 2 (b - a).toNat (fun _ => 0))) h.1 (zA 2 (b - a).toNat (va_cpy u (fun _ => 0) a.toNat 0 (b - a).toNat))) := by
  by_cases h0 : a = 0
  · simp (disch := first | omega | assumption | exact zq_r _ | exact zn_0 | exact zo_i _ | exact zo_r _ | exact zq_k _ | exact zq_n | exact zn_1 _ | exact zn_2 _ _ | exact zn_3 _ _ _ | exact zn_4 _ _ _ _ | exact zn_5 _ _ _ _ _ | exact zc_i _ | exact zc_r _ | exact zo_l _ | exact zo_k _ | exact zo_n | exact zc_rk _ | (rw [zx_id (by omega)]; omega) | (rw [zw_id (by omega)]; omega) | (apply z_ok_v; assumption) | (simp only [z_new_1, z_pu_1, mh_1]; omega)) only [z_EvO_some, z_EvG_t, z_Bk_n, z_Bk_s, z_brT, z_brF, z_br_pos, z_br_neg, not_true_eq_false, not_false_eq_true, Bool.true_eq_false, Bool.false_eq_true, Bool.not_eq_false, Bool.not_eq_true, eq_self, z_kl_i, z_kl_l, z_kl_r, z_kl_k, z_kl_n, z_kl_u, z_kl_v, zi_f, zl_f, z_put_r, z_nul_n, z_nul_r, zcmp_lt, zcmp_le, zcmp_ge, zcmp_gt, zcmp_eq, zw_id, zx_id, Nat.reduceAdd, z_tf_i, z_tf_l, z_tf_z, zl_zx, zi_zw, z_gf0, z_gf1, z_gf2, z_gf3, z_gf4, z_gf5, z_gf6, z_gf7, z_pf0, z_pf1, z_pf2, z_pf3, z_pf4, z_pf5, z_pf6, z_pf7, z_ob1, zb_0, zb_1, zb_tf, e133, r133_0, r133_1, r133_4, r133_5, r133_6, r133_7, r133_10, r133_11, r133_12, r133_13, r133_16, r133_17, r133_18, r133_21, r133_24, hq, z_len_A, s108 hq hqh ha hb hn]
  · simp (disch := first | omega | assumption | exact zq_r _ | exact zn_0 | exact zo_i _ | exact zo_r _ | exact zq_k _ | exact zq_n | exact zn_1 _ | exact zn_2 _ _ | exact zn_3 _ _ _ | exact zn_4 _ _ _ _ | exact zn_5 _ _ _ _ _ | exact zc_i _ | exact zc_r _ | exact zo_l _ | exact zo_k _ | exact zo_n | exact zc_rk _ | (rw [zx_id (by omega)]; omega) | (rw [zw_id (by omega)]; omega) | (apply z_ok_v; assumption) | (simp only [z_new_1, z_pu_1, mh_1]; omega)) only [z_EvO_some, z_EvG_t, z_Bk_n, z_Bk_s, z_brT, z_brF, z_br_pos, z_br_neg, not_true_eq_false, not_false_eq_true, Bool.true_eq_false, Bool.false_eq_true, Bool.not_eq_false, Bool.not_eq_true, eq_self, z_kl_i, z_kl_l, z_kl_r, z_kl_k, z_kl_n, z_kl_u, z_kl_v, zi_f, zl_f, z_put_r, z_nul_n, z_nul_r, zcmp_lt, zcmp_le, zcmp_ge, zcmp_gt, zcmp_eq, zw_id, zx_id, Nat.reduceAdd, z_tf_i, z_tf_l, z_tf_z, zl_zx, zi_zw, z_gf0, z_gf1, z_gf2, z_gf3, z_gf4, z_gf5, z_gf6, z_gf7, z_pf0, z_pf1, z_pf2, z_pf3, z_pf4, z_pf5, z_pf6, z_pf7, z_ob1, zb_0, zb_1, zb_tf, e133, r133_0, r133_1, r133_4, r133_5, r133_6, r133_7, r133_10, r133_11, r133_12, r133_13, r133_16, r133_17, r133_18, r133_21, r133_24, hq, z_len_A, s108 hq hqh ha hb hn]
end ZSb
