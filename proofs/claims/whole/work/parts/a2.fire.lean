/-! firings: the class's sets -/
def zR0 : zRu := (fun _ => 0, [])
/-- the rule of a firing -/
def zrl (rs : List zRu) (k : Int) : zRu := rs.getD (k % 8).toNat zR0
def zbf (ks : List Int) (rs : List zRu) (j : Int) : Int := if j ≤ 0 then 0 else (zrl rs (ks.getD (j - 1).toNat 0)).1 9
def zled (cb t off sv : Int) : Int := if cb = 2 then t else if cb = 1 then t - off else t - off - sv
/-- the instant of a firing -/
def zfa (ks : List Int) (rs : List zRu) (off j : Int) : Int := zled ((zrl rs (ks.getD j.toNat 0)).1 8) (ks.getD j.toNat 0 / 8) off (zbf ks rs j)
/-- the last number below n of which p holds, or -1 -/
def zlf (p : Nat → Bool) : Nat → Int
  | 0 => -1
  | n + 1 => if p n then (n : Int) else zlf p n
theorem zlf_skip {p : Nat → Bool} {c n : Nat} (h : c ≤ n) (hp : ∀ j, c ≤ j → j < n → p j = false) : zlf p n = zlf p c := by
  induction n with
  | zero => rw [show c = 0 by omega]
  | succ n ih =>
    by_cases hc : c = n + 1
    · rw [hc]
    · show (if p n then (n : Int) else zlf p n) = _
      rw [hp n (by omega) (by omega)]
      exact ih (by omega) (fun j h1 h2 => hp j h1 (by omega))
theorem zlf_r (p : Nat → Bool) (n : Nat) : zlf p n = -1 ∨ (0 ≤ zlf p n ∧ zlf p n < n) := by
  induction n with
  | zero => exact Or.inl rfl
  | succ n ih =>
    unfold zlf
    split <;> omega
theorem zlf_p (p : Nat → Bool) (n : Nat) (h : 0 ≤ zlf p n) : p (zlf p n).toNat = true := by
  induction n with
  | zero => exact absurd h (show ¬ (0 : Int) ≤ -1 by decide)
  | succ n ih =>
    unfold zlf at h ⊢
    split
    · rename_i h1; simpa using h1
    · rename_i h1
      rw [if_neg h1] at h
      exact ih h
theorem zlf_a (p : Nat → Bool) (n : Nat) : ∀ j : Nat, zlf p n < j → j < n → p j = false := by
  induction n with
  | zero => intro j _ h; omega
  | succ n ih =>
    intro j h1 h2
    unfold zlf at h1
    split at h1
    · omega
    · rename_i h3
      by_cases hj : j = n
      · subst hj; simpa using h3
      · exact ih j h1 (by omega)
/-- a rule's object, as it is read -/
def zRq (h : zH) (a : Nat) (R : zRu) : Prop := ∃ (d c : Nat) (v : Value), z_at h (.ref a) = .inr (9, [zi (R.1 0), zi (R.1 1), zi (R.1 2), zi (R.1 3), .ref d, .ref c, zi (R.1 9), v]) ∧ z_at h (.ref d) = .inr (7, [zi (R.1 4), zi (R.1 5), zi (R.1 6)]) ∧ z_at h (.ref c) = .inr (8, [zi (R.1 7), zi (R.1 8)]) ∧ zSt h v R.2
theorem zRb.q {L a : Nat} {h : zH} {R : zRu} (hr : zRb L h a R) : zRq h a R := by
  obtain ⟨d, c, v, -, h1, h2, h3, h4⟩ := hr
  exact ⟨d, c, v, h1, h2, h3, h4.st⟩
/-- a set's object with its firings ks and rules rs -/
def zRS (h : zH) (s : Nat) (ks : List Int) (rs : List zRu) : Prop := ∃ (rr ff : Nat) (P : Nat → Option Nat) (K : Nat → Int), z_at h (.ref s) = .inr (5, [.ref rr, zi rs.length, .ref ff, zi ks.length]) ∧ z_at h (.ref rr) = zQA 8 6 P ∧ z_at h (.ref ff) = zLA 408 K ∧ rs.length ≤ 6 ∧ ks.length ≤ 408 ∧ (∀ j, j < ks.length → K j = ks.getD j 0) ∧ (∀ r, r < rs.length → ∃ a, P r = some a ∧ zRq h a (rs.getD r zR0))
/-- what holds of firings and rules -/
def zKok (ks : List Int) (rs : List zRu) : Prop := (∀ i j, i ≤ j → j < ks.length → ks.getD i 0 ≤ ks.getD j 0) ∧ (∀ j, j < ks.length → ks.getD j 0 % 8 < rs.length ∧ -8000000 ≤ ks.getD j 0 ∧ ks.getD j 0 ≤ 17178000000) ∧ (∀ R ∈ rs, zRok R)
theorem zKok.R {ks : List Int} {rs : List zRu} (h : zKok ks rs) {r : Nat} (hr : r < rs.length) : zRok (rs.getD r zR0) := by
  rw [List.getD_eq_getElem?_getD, List.getElem?_eq_getElem hr]
  exact h.2.2 _ (List.getElem_mem hr)
theorem zKok.rl {ks : List Int} {rs : List zRu} (h : zKok ks rs) {j : Nat} (hj : j < ks.length) : zRok (zrl rs (ks.getD j 0)) := by
  have := (h.2.1 j hj).1
  have h0 := Int.emod_nonneg (ks.getD j 0) (show (8 : Int) ≠ 0 by decide)
  exact h.R (by omega)
section ZFi
variable {h : zH} {Q : zO → zH → Prop} {ks : List Int} {rs : List zRu} {s c : Nat} {j off t x y b u l : Int} {v v0 : Value}
theorem s9 (hc : z_at h (.ref c) = .inr (8, [v0, zi b])) (hb : 0 ≤ b ∧ b ≤ 2) (hx : -200000 ≤ x ∧ x ≤ 200000) (hy : -200000 ≤ y ∧ y ≤ 200000) : z_Cl 9 [.ref c, zl t, zi x, zi y] h Q = Q (.inl (some (zl (zled b t x y)))) h := by
  unfold zled
  simp (disch := first | omega | assumption | exact zq_r _ | exact zn_0 | exact zo_i _ | exact zo_r _ | exact zq_k _ | exact zq_n | exact zn_1 _ | exact zn_2 _ _ | exact zn_3 _ _ _ | exact zn_4 _ _ _ _ | exact zn_5 _ _ _ _ _ | exact zc_i _ | exact zc_r _ | exact zo_l _ | exact zo_k _ | exact zo_n | exact zc_rk _ | (rw [zx_id (by omega)]; omega) | (rw [zw_id (by omega)]; omega) | (apply z_ok_v; assumption) | (simp only [z_new_1, z_pu_1, mh_1]; omega)) only [z_EvO_some, z_EvG_t, z_Bk_n, z_Bk_s, z_brT, z_brF, z_br_pos, z_br_neg, not_true_eq_false, not_false_eq_true, Bool.true_eq_false, Bool.false_eq_true, Bool.not_eq_false, Bool.not_eq_true, eq_self, z_kl_i, z_kl_l, z_kl_r, z_kl_k, z_kl_n, z_kl_u, z_kl_v, zi_f, zl_f, z_put_r, z_nul_n, z_nul_r, zcmp_lt, zcmp_le, zcmp_ge, zcmp_gt, zcmp_eq, zw_id, zx_id, Nat.reduceAdd, z_tf_i, z_tf_l, z_tf_z, zl_zx, zi_zw, z_gf0, z_gf1, z_gf2, z_gf3, z_gf4, z_gf5, z_gf6, z_gf7, z_pf0, z_pf1, z_pf2, z_pf3, z_pf4, z_pf5, z_pf6, z_pf7, z_ob1, zb_0, zb_1, zb_tf, e9, r9_0, r9_1, r9_4, r9_5, r9_8, r9_9, r9_10, r9_11, r9_14, r9_15, r9_18, r9_19, r9_20, r9_21, r9_22, r9_25, r9_26, r9_27, r9_28, r9_29, r9_31, r9_32, r9_33, hc]
  repeat' (first | refine z_br_eq (fun _ => ?_) (fun _ => ?_) | simp (disch := first | omega | assumption | exact zq_r _ | exact zn_0 | exact zo_i _ | exact zo_r _ | exact zq_k _ | exact zq_n | exact zn_1 _ | exact zn_2 _ _ | exact zn_3 _ _ _ | exact zn_4 _ _ _ _ | exact zn_5 _ _ _ _ _ | exact zc_i _ | exact zc_r _ | exact zo_l _ | exact zo_k _ | exact zo_n | exact zc_rk _ | (rw [zx_id (by omega)]; omega) | (rw [zw_id (by omega)]; omega) | (apply z_ok_v; assumption) | (simp only [z_new_1, z_pu_1, mh_1]; omega)) only [z_EvO_some, z_EvG_t, z_Bk_n, z_Bk_s, z_brT, z_brF, z_br_pos, z_br_neg, not_true_eq_false, not_false_eq_true, Bool.true_eq_false, Bool.false_eq_true, Bool.not_eq_false, Bool.not_eq_true, eq_self, z_kl_i, z_kl_l, z_kl_r, z_kl_k, z_kl_n, z_kl_u, z_kl_v, zi_f, zl_f, z_put_r, z_nul_n, z_nul_r, zcmp_lt, zcmp_le, zcmp_ge, zcmp_gt, zcmp_eq, zw_id, zx_id, Nat.reduceAdd, z_tf_i, z_tf_l, z_tf_z, zl_zx, zi_zw, z_gf0, z_gf1, z_gf2, z_gf3, z_gf4, z_gf5, z_gf6, z_gf7, z_pf0, z_pf1, z_pf2, z_pf3, z_pf4, z_pf5, z_pf6, z_pf7, z_ob1, zb_0, zb_1, zb_tf, r9_0, r9_1, r9_4, r9_5, r9_8, r9_9, r9_10, r9_11, r9_14, r9_15, r9_18, r9_19, r9_20, r9_21, r9_22, r9_25, r9_26, r9_27, r9_28, r9_29, r9_31, r9_32, r9_33, hc])
  all_goals ((repeat' split) <;> first | rfl | (exfalso; omega) | exact z_qi (by omega) | exact z_ql (by omega))
theorem t26 (hs : zRS h s ks rs) (hk : zKok ks rs) (hj : 0 ≤ j ∧ j < ks.length)
    (kk : ∀ a, zRq h a (zrl rs (ks.getD j.toNat 0)) → Q (.inl (some (.ref a))) h) : z_Cl 26 [.ref s, zi j] h Q := by
  obtain ⟨rr, ff, P, K, h1, h2, h3, h4, h5, h6, h7⟩ := hs
  have e1 := h6 j.toNat (by omega)
  have e2 := (hk.2.1 j.toNat (by omega)).1
  have h0 := Int.emod_nonneg (ks.getD j.toNat 0) (show (8 : Int) ≠ 0 by decide)
  obtain ⟨a, e3, e4⟩ := h7 (ks.getD j.toNat 0 % 8).toNat (by omega)
  have e5 : zg_aq (zQA 8 6 P) (ks.getD j.toNat 0 % 8) = some (.ref a) := by
    show z_aq _ _ = _
    rw [z_aq_A (by omega) (by omega) (by omega), e3]
    rfl
  simp (disch := first | omega | assumption | exact zq_r _ | exact zn_0 | exact zo_i _ | exact zo_r _ | exact zq_k _ | exact zq_n | exact zn_1 _ | exact zn_2 _ _ | exact zn_3 _ _ _ | exact zn_4 _ _ _ _ | exact zn_5 _ _ _ _ _ | exact zc_i _ | exact zc_r _ | exact zo_l _ | exact zo_k _ | exact zo_n | exact zc_rk _ | (rw [zx_id (by omega)]; omega) | (rw [zw_id (by omega)]; omega) | (apply z_ok_v; assumption) | (simp only [z_new_1, z_pu_1, mh_1]; omega)) only [z_EvO_some, z_EvG_t, z_Bk_n, z_Bk_s, z_brT, z_brF, z_br_pos, z_br_neg, not_true_eq_false, not_false_eq_true, Bool.true_eq_false, Bool.false_eq_true, Bool.not_eq_false, Bool.not_eq_true, eq_self, z_kl_i, z_kl_l, z_kl_r, z_kl_k, z_kl_n, z_kl_u, z_kl_v, zi_f, zl_f, z_put_r, z_nul_n, z_nul_r, zcmp_lt, zcmp_le, zcmp_ge, zcmp_gt, zcmp_eq, zw_id, zx_id, Nat.reduceAdd, z_tf_i, z_tf_l, z_tf_z, zl_zx, zi_zw, z_gf0, z_gf1, z_gf2, z_gf3, z_gf4, z_gf5, z_gf6, z_gf7, z_pf0, z_pf1, z_pf2, z_pf3, z_pf4, z_pf5, z_pf6, z_pf7, z_ob1, zb_0, zb_1, zb_tf, e26, r26_0, r26_1, r26_4, r26_5, r26_6, r26_9, r26_12, r26_13, r26_14, r26_15, r26_18, r26_19, r26_20, r26_23, r26_24, r26_25, r26_26, r26_27, r26_28, r26_31, r26_34, r26_35, r26_38, r26_39, r26_40, r26_43, r26_44, h1, h2, h3, zg_al_A, e1, z_and7, e5]
  exact kk a e4
theorem t26n (hs : zRS h s ks rs) (hj : (j < 0 ∨ ks.length ≤ j) ∧ -1000 ≤ j ∧ j ≤ 1000) : z_Cl 26 [.ref s, zi j] h Q = Q (.inl (some .null)) h := by
  obtain ⟨rr, ff, P, K, h1, h2, h3, h4, h5, h6, h7⟩ := hs
  rcases hj.1 with hj | hj
  · simp (disch := first | omega | assumption | exact zq_r _ | exact zn_0 | exact zo_i _ | exact zo_r _ | exact zq_k _ | exact zq_n | exact zn_1 _ | exact zn_2 _ _ | exact zn_3 _ _ _ | exact zn_4 _ _ _ _ | exact zn_5 _ _ _ _ _ | exact zc_i _ | exact zc_r _ | exact zo_l _ | exact zo_k _ | exact zo_n | exact zc_rk _ | (rw [zx_id (by omega)]; omega) | (rw [zw_id (by omega)]; omega) | (apply z_ok_v; assumption) | (simp only [z_new_1, z_pu_1, mh_1]; omega)) only [z_EvO_some, z_EvG_t, z_Bk_n, z_Bk_s, z_brT, z_brF, z_br_pos, z_br_neg, not_true_eq_false, not_false_eq_true, Bool.true_eq_false, Bool.false_eq_true, Bool.not_eq_false, Bool.not_eq_true, eq_self, z_kl_i, z_kl_l, z_kl_r, z_kl_k, z_kl_n, z_kl_u, z_kl_v, zi_f, zl_f, z_put_r, z_nul_n, z_nul_r, zcmp_lt, zcmp_le, zcmp_ge, zcmp_gt, zcmp_eq, zw_id, zx_id, Nat.reduceAdd, z_tf_i, z_tf_l, z_tf_z, zl_zx, zi_zw, z_gf0, z_gf1, z_gf2, z_gf3, z_gf4, z_gf5, z_gf6, z_gf7, z_pf0, z_pf1, z_pf2, z_pf3, z_pf4, z_pf5, z_pf6, z_pf7, z_ob1, zb_0, zb_1, zb_tf, e26, r26_0, r26_1, r26_4, r26_5, r26_6, r26_9, r26_12, r26_13, r26_14, r26_15, r26_18, r26_19, r26_20, r26_23, r26_24, r26_25, r26_26, r26_27, r26_28, r26_31, r26_34, r26_35, r26_38, r26_39, r26_40, r26_43, r26_44, h1]
  · simp (disch := first | omega | assumption | exact zq_r _ | exact zn_0 | exact zo_i _ | exact zo_r _ | exact zq_k _ | exact zq_n | exact zn_1 _ | exact zn_2 _ _ | exact zn_3 _ _ _ | exact zn_4 _ _ _ _ | exact zn_5 _ _ _ _ _ | exact zc_i _ | exact zc_r _ | exact zo_l _ | exact zo_k _ | exact zo_n | exact zc_rk _ | (rw [zx_id (by omega)]; omega) | (rw [zw_id (by omega)]; omega) | (apply z_ok_v; assumption) | (simp only [z_new_1, z_pu_1, mh_1]; omega)) only [z_EvO_some, z_EvG_t, z_Bk_n, z_Bk_s, z_brT, z_brF, z_br_pos, z_br_neg, not_true_eq_false, not_false_eq_true, Bool.true_eq_false, Bool.false_eq_true, Bool.not_eq_false, Bool.not_eq_true, eq_self, z_kl_i, z_kl_l, z_kl_r, z_kl_k, z_kl_n, z_kl_u, z_kl_v, zi_f, zl_f, z_put_r, z_nul_n, z_nul_r, zcmp_lt, zcmp_le, zcmp_ge, zcmp_gt, zcmp_eq, zw_id, zx_id, Nat.reduceAdd, z_tf_i, z_tf_l, z_tf_z, zl_zx, zi_zw, z_gf0, z_gf1, z_gf2, z_gf3, z_gf4, z_gf5, z_gf6, z_gf7, z_pf0, z_pf1, z_pf2, z_pf3, z_pf4, z_pf5, z_pf6, z_pf7, z_ob1, zb_0, zb_1, zb_tf, e26, r26_0, r26_1, r26_4, r26_5, r26_6, r26_9, r26_12, r26_13, r26_14, r26_15, r26_18, r26_19, r26_20, r26_23, r26_24, r26_25, r26_26, r26_27, r26_28, r26_31, r26_34, r26_35, r26_38, r26_39, r26_40, r26_43, r26_44, h1]
theorem zRS_ob (hs : zRS h s ks rs) : z_isob (z_at h (.ref s)) 5 = true := by
  obtain ⟨rr, ff, P, K, h1, -⟩ := hs
  rw [h1]; rfl
theorem zfa_r (hk : zKok ks rs) (hj : 0 ≤ j ∧ j < ks.length) (ho : -89999 ≤ off ∧ off ≤ 89999) : ks.getD j.toNat 0 / 8 - 179998 ≤ zfa ks rs off j ∧ zfa ks rs off j ≤ ks.getD j.toNat 0 / 8 + 179998 ∧ (-89999 ≤ zbf ks rs j ∧ zbf ks rs j ≤ 89999) := by
  have hb : -89999 ≤ zbf ks rs j ∧ zbf ks rs j ≤ 89999 := by
    unfold zbf
    split
    · omega
    · have := (hk.rl (j := (j - 1).toNat) (by omega)).2.2.2.2.2.2.2.2.1
      exact this
  refine ⟨?_, ?_, hb⟩ <;> (unfold zfa zled; (repeat' split) <;> omega)
theorem t85 (hs : zRS h s ks rs) (hk : zKok ks rs) (hj : 0 ≤ j ∧ j < ks.length) (ho : -89999 ≤ off ∧ off ≤ 89999) : z_Cl 85 [.ref s, zi j, zi off] h Q = Q (.inl (some (zl (zfa ks rs off j)))) h := by
  apply z_Cl_eq
  obtain ⟨rr, ff, P, K, h1, h2, h3, h4, h5, h6, h7⟩ := id hs
  have e1 := h6 j.toNat (by omega)
  have hb := (zfa_r hk hj ho).2.2
  have hr := hk.2.1 j.toNat (by omega)
  have hR := hk.rl (j := j.toNat) (by omega)
  have hcb := hR.2.2.2.2.2.2.2.1
  simp (disch := first | omega | assumption | exact zq_r _ | exact zn_0 | exact zo_i _ | exact zo_r _ | exact zq_k _ | exact zq_n | exact zn_1 _ | exact zn_2 _ _ | exact zn_3 _ _ _ | exact zn_4 _ _ _ _ | exact zn_5 _ _ _ _ _ | exact zc_i _ | exact zc_r _ | exact zo_l _ | exact zo_k _ | exact zo_n | exact zc_rk _ | (rw [zx_id (by omega)]; omega) | (rw [zw_id (by omega)]; omega) | (apply z_ok_v; assumption) | (simp only [z_new_1, z_pu_1, mh_1]; omega)) only [z_EvO_some, z_EvG_t, z_Bk_n, z_Bk_s, z_brT, z_brF, z_br_pos, z_br_neg, not_true_eq_false, not_false_eq_true, Bool.true_eq_false, Bool.false_eq_true, Bool.not_eq_false, Bool.not_eq_true, eq_self, z_kl_i, z_kl_l, z_kl_r, z_kl_k, z_kl_n, z_kl_u, z_kl_v, zi_f, zl_f, z_put_r, z_nul_n, z_nul_r, zcmp_lt, zcmp_le, zcmp_ge, zcmp_gt, zcmp_eq, zw_id, zx_id, Nat.reduceAdd, z_tf_i, z_tf_l, z_tf_z, zl_zx, zi_zw, z_gf0, z_gf1, z_gf2, z_gf3, z_gf4, z_gf5, z_gf6, z_gf7, z_pf0, z_pf1, z_pf2, z_pf3, z_pf4, z_pf5, z_pf6, z_pf7, z_ob1, zb_0, zb_1, zb_tf, e85, r85_0, r85_1, r85_2, r85_5, r85_6, r85_7, r85_10, r85_13, r85_14, r85_15, r85_16, r85_17, r85_18, r85_21, r85_23, r85_24, r85_27, r85_28, r85_31, r85_32, r85_33, r85_34, r85_35, r85_36, r85_38, r85_41, r85_42, r85_45, r85_47, r85_50, r85_53, zRS_ob hs]
  refine t26 hs hk hj (fun a ha => ?_)
  obtain ⟨d, c, v, a1, a2, a3, a4⟩ := ha
  simp (disch := first | omega | assumption | exact zq_r _ | exact zn_0 | exact zo_i _ | exact zo_r _ | exact zq_k _ | exact zq_n | exact zn_1 _ | exact zn_2 _ _ | exact zn_3 _ _ _ | exact zn_4 _ _ _ _ | exact zn_5 _ _ _ _ _ | exact zc_i _ | exact zc_r _ | exact zo_l _ | exact zo_k _ | exact zo_n | exact zc_rk _ | (rw [zx_id (by omega)]; omega) | (rw [zw_id (by omega)]; omega) | (apply z_ok_v; assumption) | (simp only [z_new_1, z_pu_1, mh_1]; omega)) only [z_EvO_some, z_EvG_t, z_Bk_n, z_Bk_s, z_brT, z_brF, z_br_pos, z_br_neg, not_true_eq_false, not_false_eq_true, Bool.true_eq_false, Bool.false_eq_true, Bool.not_eq_false, Bool.not_eq_true, eq_self, z_kl_i, z_kl_l, z_kl_r, z_kl_k, z_kl_n, z_kl_u, z_kl_v, zi_f, zl_f, z_put_r, z_nul_n, z_nul_r, zcmp_lt, zcmp_le, zcmp_ge, zcmp_gt, zcmp_eq, zw_id, zx_id, Nat.reduceAdd, z_tf_i, z_tf_l, z_tf_z, zl_zx, zi_zw, z_gf0, z_gf1, z_gf2, z_gf3, z_gf4, z_gf5, z_gf6, z_gf7, z_pf0, z_pf1, z_pf2, z_pf3, z_pf4, z_pf5, z_pf6, z_pf7, z_ob1, zb_0, zb_1, zb_tf, r85_0, r85_1, r85_2, r85_5, r85_6, r85_7, r85_10, r85_13, r85_14, r85_15, r85_16, r85_17, r85_18, r85_21, r85_23, r85_24, r85_27, r85_28, r85_31, r85_32, r85_33, r85_34, r85_35, r85_36, r85_38, r85_41, r85_42, r85_45, r85_47, r85_50, r85_53, zRS_ob hs]
  by_cases hj0 : j = 0
  · have e2 : zbf ks rs j = 0 := by unfold zbf; rw [if_pos (by omega)]
    rw [t26n hs (by omega)]
    simp (disch := first | omega | assumption | exact zq_r _ | exact zn_0 | exact zo_i _ | exact zo_r _ | exact zq_k _ | exact zq_n | exact zn_1 _ | exact zn_2 _ _ | exact zn_3 _ _ _ | exact zn_4 _ _ _ _ | exact zn_5 _ _ _ _ _ | exact zc_i _ | exact zc_r _ | exact zo_l _ | exact zo_k _ | exact zo_n | exact zc_rk _ | (rw [zx_id (by omega)]; omega) | (rw [zw_id (by omega)]; omega) | (apply z_ok_v; assumption) | (simp only [z_new_1, z_pu_1, mh_1]; omega)) only [z_EvO_some, z_EvG_t, z_Bk_n, z_Bk_s, z_brT, z_brF, z_br_pos, z_br_neg, not_true_eq_false, not_false_eq_true, Bool.true_eq_false, Bool.false_eq_true, Bool.not_eq_false, Bool.not_eq_true, eq_self, z_kl_i, z_kl_l, z_kl_r, z_kl_k, z_kl_n, z_kl_u, z_kl_v, zi_f, zl_f, z_put_r, z_nul_n, z_nul_r, zcmp_lt, zcmp_le, zcmp_ge, zcmp_gt, zcmp_eq, zw_id, zx_id, Nat.reduceAdd, z_tf_i, z_tf_l, z_tf_z, zl_zx, zi_zw, z_gf0, z_gf1, z_gf2, z_gf3, z_gf4, z_gf5, z_gf6, z_gf7, z_pf0, z_pf1, z_pf2, z_pf3, z_pf4, z_pf5, z_pf6, z_pf7, z_ob1, zb_0, zb_1, zb_tf, r85_0, r85_1, r85_2, r85_5, r85_6, r85_7, r85_10, r85_13, r85_14, r85_15, r85_16, r85_17, r85_18, r85_21, r85_23, r85_24, r85_27, r85_28, r85_31, r85_32, r85_33, r85_34, r85_35, r85_36, r85_38, r85_41, r85_42, r85_45, r85_47, r85_50, r85_53, a1, h1, h3, zg_al_A, e1, z_shr3, a3, s9 a3]
    refine ⟨?_, trivial⟩
    unfold zfa
    rw [e2]
  · refine t26 hs hk (by omega) (fun a' ha' => ?_)
    obtain ⟨d', c', v', b1, b2, b3, b4⟩ := ha'
    have e2 : zbf ks rs j = (zrl rs (ks.getD (j - 1).toNat 0)).1 9 := by unfold zbf; rw [if_neg (by omega)]
    rw [e2] at hb
    simp (disch := first | omega | assumption | exact zq_r _ | exact zn_0 | exact zo_i _ | exact zo_r _ | exact zq_k _ | exact zq_n | exact zn_1 _ | exact zn_2 _ _ | exact zn_3 _ _ _ | exact zn_4 _ _ _ _ | exact zn_5 _ _ _ _ _ | exact zc_i _ | exact zc_r _ | exact zo_l _ | exact zo_k _ | exact zo_n | exact zc_rk _ | (rw [zx_id (by omega)]; omega) | (rw [zw_id (by omega)]; omega) | (apply z_ok_v; assumption) | (simp only [z_new_1, z_pu_1, mh_1]; omega)) only [z_EvO_some, z_EvG_t, z_Bk_n, z_Bk_s, z_brT, z_brF, z_br_pos, z_br_neg, not_true_eq_false, not_false_eq_true, Bool.true_eq_false, Bool.false_eq_true, Bool.not_eq_false, Bool.not_eq_true, eq_self, z_kl_i, z_kl_l, z_kl_r, z_kl_k, z_kl_n, z_kl_u, z_kl_v, zi_f, zl_f, z_put_r, z_nul_n, z_nul_r, zcmp_lt, zcmp_le, zcmp_ge, zcmp_gt, zcmp_eq, zw_id, zx_id, Nat.reduceAdd, z_tf_i, z_tf_l, z_tf_z, zl_zx, zi_zw, z_gf0, z_gf1, z_gf2, z_gf3, z_gf4, z_gf5, z_gf6, z_gf7, z_pf0, z_pf1, z_pf2, z_pf3, z_pf4, z_pf5, z_pf6, z_pf7, z_ob1, zb_0, zb_1, zb_tf, r85_0, r85_1, r85_2, r85_5, r85_6, r85_7, r85_10, r85_13, r85_14, r85_15, r85_16, r85_17, r85_18, r85_21, r85_23, r85_24, r85_27, r85_28, r85_31, r85_32, r85_33, r85_34, r85_35, r85_36, r85_38, r85_41, r85_42, r85_45, r85_47, r85_50, r85_53, a1, h1, h3, zg_al_A, e1, z_shr3, a3, b1, s9 a3]
    refine ⟨?_, trivial⟩
    unfold zfa
    rw [e2]
end ZFi
