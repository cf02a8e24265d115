/-! firings: looked up by the class -/
section ZFj
variable {h : zH} {Q : zO → zH → Prop} {ks : List Int} {rs : List zRu} {s c : Nat} {j off t x y b u l : Int} {v v0 : Value}
theorem l24 (hs : zRS h s ks rs) (hk : zKok ks rs) (hl : -9223372036854775808 ≤ l ∧ l ≤ 9223372036854775807) (hr : 0 ≤ b ∧ b ≤ 200000)
    (kk : ∀ c : Int, 0 ≤ c ∧ c ≤ ks.length → (∀ i : Nat, (i : Int) < c → ks.getD i 0 / 8 - b ≤ l) → (∀ i : Nat, c ≤ i → i < ks.length → l < ks.getD i 0 / 8 - b) → Q (.inl (some (zi c))) h) :
    ∀ (n : Nat) (lo hi : Int) (l7 : Value), 0 ≤ lo → lo ≤ hi → hi ≤ ks.length → (hi - lo).toNat ≤ n → (∀ i : Nat, (i : Int) < lo → ks.getD i 0 / 8 - b ≤ l) → (∀ i : Nat, hi ≤ i → i < ks.length → l < ks.getD i 0 / 8 - b) → z_Ev 24 9 [.ref s, zl l, z_um, zl b, z_um, zi lo, zi hi, l7] [] h Q := by
  obtain ⟨rr, ff, P, K, h1, h2, h3, h4, h5, h6, h7⟩ := id hs
  intro n
  induction n with
  | zero =>
    intro lo hi l7 p1 p2 p3 p4 p5 p6
    have e : lo = hi := by omega
    have := kk lo (by omega) p5 (by rw [e]; exact p6)
    rw [k24_9]
    simp (disch := first | omega | assumption | exact zq_r _ | exact zn_0 | exact zo_i _ | exact zo_r _ | exact zq_k _ | exact zq_n | exact zn_1 _ | exact zn_2 _ _ | exact zn_3 _ _ _ | exact zn_4 _ _ _ _ | exact zn_5 _ _ _ _ _ | exact zc_i _ | exact zc_r _ | exact zo_l _ | exact zo_k _ | exact zo_n | exact zc_rk _ | (rw [zx_id (by omega)]; omega) | (rw [zw_id (by omega)]; omega) | (apply z_ok_v; assumption) | (simp only [z_new_1, z_pu_1, mh_1]; omega)) only [z_EvO_some, z_EvG_t, z_Bk_n, z_Bk_s, z_brT, z_brF, z_br_pos, z_br_neg, not_true_eq_false, not_false_eq_true, Bool.true_eq_false, Bool.false_eq_true, Bool.not_eq_false, Bool.not_eq_true, eq_self, z_kl_i, z_kl_l, z_kl_r, z_kl_k, z_kl_n, z_kl_u, z_kl_v, zi_f, zl_f, z_put_r, z_nul_n, z_nul_r, zcmp_lt, zcmp_le, zcmp_ge, zcmp_gt, zcmp_eq, zw_id, zx_id, Nat.reduceAdd, z_tf_i, z_tf_l, z_tf_z, zl_zx, zi_zw, z_gf0, z_gf1, z_gf2, z_gf3, z_gf4, z_gf5, z_gf6, z_gf7, z_pf0, z_pf1, z_pf2, z_pf3, z_pf4, z_pf5, z_pf6, z_pf7, z_ob1, zb_0, zb_1, zb_tf, r24_0, r24_1, r24_3, r24_4, r24_7, r24_11, r24_13, r24_16, r24_18, r24_20, r24_21, r24_22, r24_23, r24_25, r24_26, r24_29, r24_31, r24_32, r24_33, r24_34, r24_35, r24_36, r24_37, r24_38, r24_41, r24_43, r24_44, r24_45, r24_47, r24_50, r24_52, r24_54, r24_57, r24_59]
    exact this
  | succ n ih =>
    intro lo hi l7 p1 p2 p3 p4 p5 p6
    by_cases e : lo = hi
    · have := kk lo (by omega) p5 (by rw [e]; exact p6)
      rw [k24_9]
      simp (disch := first | omega | assumption | exact zq_r _ | exact zn_0 | exact zo_i _ | exact zo_r _ | exact zq_k _ | exact zq_n | exact zn_1 _ | exact zn_2 _ _ | exact zn_3 _ _ _ | exact zn_4 _ _ _ _ | exact zn_5 _ _ _ _ _ | exact zc_i _ | exact zc_r _ | exact zo_l _ | exact zo_k _ | exact zo_n | exact zc_rk _ | (rw [zx_id (by omega)]; omega) | (rw [zw_id (by omega)]; omega) | (apply z_ok_v; assumption) | (simp only [z_new_1, z_pu_1, mh_1]; omega)) only [z_EvO_some, z_EvG_t, z_Bk_n, z_Bk_s, z_brT, z_brF, z_br_pos, z_br_neg, not_true_eq_false, not_false_eq_true, Bool.true_eq_false, Bool.false_eq_true, Bool.not_eq_false, Bool.not_eq_true, eq_self, z_kl_i, z_kl_l, z_kl_r, z_kl_k, z_kl_n, z_kl_u, z_kl_v, zi_f, zl_f, z_put_r, z_nul_n, z_nul_r, zcmp_lt, zcmp_le, zcmp_ge, zcmp_gt, zcmp_eq, zw_id, zx_id, Nat.reduceAdd, z_tf_i, z_tf_l, z_tf_z, zl_zx, zi_zw, z_gf0, z_gf1, z_gf2, z_gf3, z_gf4, z_gf5, z_gf6, z_gf7, z_pf0, z_pf1, z_pf2, z_pf3, z_pf4, z_pf5, z_pf6, z_pf7, z_ob1, zb_0, zb_1, zb_tf, r24_0, r24_1, r24_3, r24_4, r24_7, r24_11, r24_13, r24_16, r24_18, r24_20, r24_21, r24_22, r24_23, r24_25, r24_26, r24_29, r24_31, r24_32, r24_33, r24_34, r24_35, r24_36, r24_37, r24_38, r24_41, r24_43, r24_44, r24_45, r24_47, r24_50, r24_52, r24_54, r24_57, r24_59]
      exact this
    · have em : (lo + hi).tdiv 2 = (lo + hi) / 2 := Int.tdiv_eq_ediv_of_nonneg (by omega)
      have hm : lo ≤ (lo + hi) / 2 ∧ (lo + hi) / 2 < hi := by omega
      have e1 := h6 ((lo + hi) / 2).toNat (by omega)
      have hr2 := hk.2.1 ((lo + hi) / 2).toNat (by omega)
      rw [k24_9]
      by_cases hc : ks.getD ((lo + hi) / 2).toNat 0 / 8 - b ≤ l
      · have := ih ((lo + hi) / 2 + 1) hi (zi ((lo + hi) / 2)) (by omega) (by omega) p3 (by omega) (fun i hi' => by
          have := hk.1 i ((lo + hi) / 2).toNat (by omega) (by omega)
          omega) p6
        simp (disch := first | omega | assumption | exact zq_r _ | exact zn_0 | exact zo_i _ | exact zo_r _ | exact zq_k _ | exact zq_n | exact zn_1 _ | exact zn_2 _ _ | exact zn_3 _ _ _ | exact zn_4 _ _ _ _ | exact zn_5 _ _ _ _ _ | exact zc_i _ | exact zc_r _ | exact zo_l _ | exact zo_k _ | exact zo_n | exact zc_rk _ | (rw [zx_id (by omega)]; omega) | (rw [zw_id (by omega)]; omega) | (apply z_ok_v; assumption) | (simp only [z_new_1, z_pu_1, mh_1]; omega)) only [z_EvO_some, z_EvG_t, z_Bk_n, z_Bk_s, z_brT, z_brF, z_br_pos, z_br_neg, not_true_eq_false, not_false_eq_true, Bool.true_eq_false, Bool.false_eq_true, Bool.not_eq_false, Bool.not_eq_true, eq_self, z_kl_i, z_kl_l, z_kl_r, z_kl_k, z_kl_n, z_kl_u, z_kl_v, zi_f, zl_f, z_put_r, z_nul_n, z_nul_r, zcmp_lt, zcmp_le, zcmp_ge, zcmp_gt, zcmp_eq, zw_id, zx_id, Nat.reduceAdd, z_tf_i, z_tf_l, z_tf_z, zl_zx, zi_zw, z_gf0, z_gf1, z_gf2, z_gf3, z_gf4, z_gf5, z_gf6, z_gf7, z_pf0, z_pf1, z_pf2, z_pf3, z_pf4, z_pf5, z_pf6, z_pf7, z_ob1, zb_0, zb_1, zb_tf, r24_0, r24_1, r24_3, r24_4, r24_7, r24_11, r24_13, r24_16, r24_18, r24_20, r24_21, r24_22, r24_23, r24_25, r24_26, r24_29, r24_31, r24_32, r24_33, r24_34, r24_35, r24_36, r24_37, r24_38, r24_41, r24_43, r24_44, r24_45, r24_47, r24_50, r24_52, r24_54, r24_57, r24_59, h1, h3, zg_al_A, em, e1, z_shr3]
        exact this
      · have := ih lo ((lo + hi) / 2) (zi ((lo + hi) / 2)) p1 (by omega) (by omega) (by omega) p5 (fun i hi' hi2 => by
          have := hk.1 ((lo + hi) / 2).toNat i (by omega) (by omega)
          omega)
        simp (disch := first | omega | assumption | exact zq_r _ | exact zn_0 | exact zo_i _ | exact zo_r _ | exact zq_k _ | exact zq_n | exact zn_1 _ | exact zn_2 _ _ | exact zn_3 _ _ _ | exact zn_4 _ _ _ _ | exact zn_5 _ _ _ _ _ | exact zc_i _ | exact zc_r _ | exact zo_l _ | exact zo_k _ | exact zo_n | exact zc_rk _ | (rw [zx_id (by omega)]; omega) | (rw [zw_id (by omega)]; omega) | (apply z_ok_v; assumption) | (simp only [z_new_1, z_pu_1, mh_1]; omega)) only [z_EvO_some, z_EvG_t, z_Bk_n, z_Bk_s, z_brT, z_brF, z_br_pos, z_br_neg, not_true_eq_false, not_false_eq_true, Bool.true_eq_false, Bool.false_eq_true, Bool.not_eq_false, Bool.not_eq_true, eq_self, z_kl_i, z_kl_l, z_kl_r, z_kl_k, z_kl_n, z_kl_u, z_kl_v, zi_f, zl_f, z_put_r, z_nul_n, z_nul_r, zcmp_lt, zcmp_le, zcmp_ge, zcmp_gt, zcmp_eq, zw_id, zx_id, Nat.reduceAdd, z_tf_i, z_tf_l, z_tf_z, zl_zx, zi_zw, z_gf0, z_gf1, z_gf2, z_gf3, z_gf4, z_gf5, z_gf6, z_gf7, z_pf0, z_pf1, z_pf2, z_pf3, z_pf4, z_pf5, z_pf6, z_pf7, z_ob1, zb_0, zb_1, zb_tf, r24_0, r24_1, r24_3, r24_4, r24_7, r24_11, r24_13, r24_16, r24_18, r24_20, r24_21, r24_22, r24_23, r24_25, r24_26, r24_29, r24_31, r24_32, r24_33, r24_34, r24_35, r24_36, r24_37, r24_38, r24_41, r24_43, r24_44, r24_45, r24_47, r24_50, r24_52, r24_54, r24_57, r24_59, h1, h3, zg_al_A, em, e1, z_shr3]
        exact this
theorem t24 (hs : zRS h s ks rs) (hk : zKok ks rs) (hl : -9223372036854775808 ≤ l ∧ l ≤ 9223372036854775807) (hr : 0 ≤ b ∧ b ≤ 200000)
    (kk : ∀ c : Int, 0 ≤ c ∧ c ≤ ks.length → (∀ i : Nat, (i : Int) < c → ks.getD i 0 / 8 - b ≤ l) → (∀ i : Nat, c ≤ i → i < ks.length → l < ks.getD i 0 / 8 - b) → Q (.inl (some (zi c))) h) : z_Cl 24 [.ref s, zl l, zl b] h Q := by
  obtain ⟨rr, ff, P, K, h1, h2, h3, h4, h5, h6, h7⟩ := id hs
  simp (disch := first | omega | assumption | exact zq_r _ | exact zn_0 | exact zo_i _ | exact zo_r _ | exact zq_k _ | exact zq_n | exact zn_1 _ | exact zn_2 _ _ | exact zn_3 _ _ _ | exact zn_4 _ _ _ _ | exact zn_5 _ _ _ _ _ | exact zc_i _ | exact zc_r _ | exact zo_l _ | exact zo_k _ | exact zo_n | exact zc_rk _ | (rw [zx_id (by omega)]; omega) | (rw [zw_id (by omega)]; omega) | (apply z_ok_v; assumption) | (simp only [z_new_1, z_pu_1, mh_1]; omega)) only [z_EvO_some, z_EvG_t, z_Bk_n, z_Bk_s, z_brT, z_brF, z_br_pos, z_br_neg, not_true_eq_false, not_false_eq_true, Bool.true_eq_false, Bool.false_eq_true, Bool.not_eq_false, Bool.not_eq_true, eq_self, z_kl_i, z_kl_l, z_kl_r, z_kl_k, z_kl_n, z_kl_u, z_kl_v, zi_f, zl_f, z_put_r, z_nul_n, z_nul_r, zcmp_lt, zcmp_le, zcmp_ge, zcmp_gt, zcmp_eq, zw_id, zx_id, Nat.reduceAdd, z_tf_i, z_tf_l, z_tf_z, zl_zx, zi_zw, z_gf0, z_gf1, z_gf2, z_gf3, z_gf4, z_gf5, z_gf6, z_gf7, z_pf0, z_pf1, z_pf2, z_pf3, z_pf4, z_pf5, z_pf6, z_pf7, z_ob1, zb_0, zb_1, zb_tf, e24, r24_0, r24_1, r24_3, r24_4, r24_7, r24_11, r24_13, r24_16, r24_18, r24_20, r24_21, r24_22, r24_23, r24_25, r24_26, r24_29, r24_31, r24_32, r24_33, r24_34, r24_35, r24_36, r24_37, r24_38, r24_41, r24_43, r24_44, r24_45, r24_47, r24_50, r24_52, r24_54, r24_57, r24_59, h1]
  exact l24 hs hk hl hr kk ks.length 0 ks.length _ (by omega) (by omega) (by omega) (by omega) (fun i hi => by omega) (fun i h1 h2 => by omega)
/-- the last firing by its nominal time; its save -/
def zln (ks : List Int) (u : Int) : Int := zlf (fun i => decide (ks.getD i 0 / 8 ≤ u)) ks.length
def zsn (ks : List Int) (rs : List zRu) (u : Int) : Int := if zln ks u < 0 then 0 else (zrl rs (ks.getD (zln ks u).toNat 0)).1 9
theorem t86 (hs : zRS h s ks rs) (hk : zKok ks rs) (hu : -9223372036854775808 ≤ u ∧ u ≤ 9223372036854775807) : z_Cl 86 [.ref s, zl u] h Q = Q (.inl (some (zi (zsn ks rs u)))) h := by
  apply z_Cl_eq
  obtain ⟨rr, ff, P, K, h1, h2, h3, h4, h5, h6, h7⟩ := id hs
  simp (disch := first | omega | assumption | exact zq_r _ | exact zn_0 | exact zo_i _ | exact zo_r _ | exact zq_k _ | exact zq_n | exact zn_1 _ | exact zn_2 _ _ | exact zn_3 _ _ _ | exact zn_4 _ _ _ _ | exact zn_5 _ _ _ _ _ | exact zc_i _ | exact zc_r _ | exact zo_l _ | exact zo_k _ | exact zo_n | exact zc_rk _ | (rw [zx_id (by omega)]; omega) | (rw [zw_id (by omega)]; omega) | (apply z_ok_v; assumption) | (simp only [z_new_1, z_pu_1, mh_1]; omega)) only [z_EvO_some, z_EvG_t, z_Bk_n, z_Bk_s, z_brT, z_brF, z_br_pos, z_br_neg, not_true_eq_false, not_false_eq_true, Bool.true_eq_false, Bool.false_eq_true, Bool.not_eq_false, Bool.not_eq_true, eq_self, z_kl_i, z_kl_l, z_kl_r, z_kl_k, z_kl_n, z_kl_u, z_kl_v, zi_f, zl_f, z_put_r, z_nul_n, z_nul_r, zcmp_lt, zcmp_le, zcmp_ge, zcmp_gt, zcmp_eq, zw_id, zx_id, Nat.reduceAdd, z_tf_i, z_tf_l, z_tf_z, zl_zx, zi_zw, z_gf0, z_gf1, z_gf2, z_gf3, z_gf4, z_gf5, z_gf6, z_gf7, z_pf0, z_pf1, z_pf2, z_pf3, z_pf4, z_pf5, z_pf6, z_pf7, z_ob1, zb_0, zb_1, zb_tf, e86, r86_0, r86_1, r86_2, r86_3, r86_4, r86_7, r86_8, r86_9, r86_12, r86_13, r86_14, r86_17, r86_18, r86_21, r86_22, r86_25, zRS_ob hs]
  refine t24 hs hk hu (by omega) (fun c c1 c2 c3 => ?_)
  simp (disch := first | omega | assumption | exact zq_r _ | exact zn_0 | exact zo_i _ | exact zo_r _ | exact zq_k _ | exact zq_n | exact zn_1 _ | exact zn_2 _ _ | exact zn_3 _ _ _ | exact zn_4 _ _ _ _ | exact zn_5 _ _ _ _ _ | exact zc_i _ | exact zc_r _ | exact zo_l _ | exact zo_k _ | exact zo_n | exact zc_rk _ | (rw [zx_id (by omega)]; omega) | (rw [zw_id (by omega)]; omega) | (apply z_ok_v; assumption) | (simp only [z_new_1, z_pu_1, mh_1]; omega)) only [z_EvO_some, z_EvG_t, z_Bk_n, z_Bk_s, z_brT, z_brF, z_br_pos, z_br_neg, not_true_eq_false, not_false_eq_true, Bool.true_eq_false, Bool.false_eq_true, Bool.not_eq_false, Bool.not_eq_true, eq_self, z_kl_i, z_kl_l, z_kl_r, z_kl_k, z_kl_n, z_kl_u, z_kl_v, zi_f, zl_f, z_put_r, z_nul_n, z_nul_r, zcmp_lt, zcmp_le, zcmp_ge, zcmp_gt, zcmp_eq, zw_id, zx_id, Nat.reduceAdd, z_tf_i, z_tf_l, z_tf_z, zl_zx, zi_zw, z_gf0, z_gf1, z_gf2, z_gf3, z_gf4, z_gf5, z_gf6, z_gf7, z_pf0, z_pf1, z_pf2, z_pf3, z_pf4, z_pf5, z_pf6, z_pf7, z_ob1, zb_0, zb_1, zb_tf, r86_0, r86_1, r86_2, r86_3, r86_4, r86_7, r86_8, r86_9, r86_12, r86_13, r86_14, r86_17, r86_18, r86_21, r86_22, r86_25, zRS_ob hs]
  have e1 : zln ks u = zlf (fun i => decide (ks.getD i 0 / 8 ≤ u)) c.toNat := zlf_skip (by omega) (fun i g1 g2 => decide_eq_false (by have := c3 i (by omega) g2; omega))
  by_cases h0 : c = 0
  · have e2 : zln ks u = -1 := by rw [e1, h0]; rfl
    rw [t26n hs (by omega)]
    simp (disch := first | omega | assumption | exact zq_r _ | exact zn_0 | exact zo_i _ | exact zo_r _ | exact zq_k _ | exact zq_n | exact zn_1 _ | exact zn_2 _ _ | exact zn_3 _ _ _ | exact zn_4 _ _ _ _ | exact zn_5 _ _ _ _ _ | exact zc_i _ | exact zc_r _ | exact zo_l _ | exact zo_k _ | exact zo_n | exact zc_rk _ | (rw [zx_id (by omega)]; omega) | (rw [zw_id (by omega)]; omega) | (apply z_ok_v; assumption) | (simp only [z_new_1, z_pu_1, mh_1]; omega)) only [z_EvO_some, z_EvG_t, z_Bk_n, z_Bk_s, z_brT, z_brF, z_br_pos, z_br_neg, not_true_eq_false, not_false_eq_true, Bool.true_eq_false, Bool.false_eq_true, Bool.not_eq_false, Bool.not_eq_true, eq_self, z_kl_i, z_kl_l, z_kl_r, z_kl_k, z_kl_n, z_kl_u, z_kl_v, zi_f, zl_f, z_put_r, z_nul_n, z_nul_r, zcmp_lt, zcmp_le, zcmp_ge, zcmp_gt, zcmp_eq, zw_id, zx_id, Nat.reduceAdd, z_tf_i, z_tf_l, z_tf_z, zl_zx, zi_zw, z_gf0, z_gf1, z_gf2, z_gf3, z_gf4, z_gf5, z_gf6, z_gf7, z_pf0, z_pf1, z_pf2, z_pf3, z_pf4, z_pf5, z_pf6, z_pf7, z_ob1, zb_0, zb_1, zb_tf, r86_0, r86_1, r86_2, r86_3, r86_4, r86_7, r86_8, r86_9, r86_12, r86_13, r86_14, r86_17, r86_18, r86_21, r86_22, r86_25]
    refine ⟨?_, trivial⟩
    unfold zsn
    rw [if_pos (by omega)]
  · have e2 : zln ks u = c - 1 := by
      rw [e1, show c.toNat = (c - 1).toNat + 1 by omega]
      show (if decide (ks.getD (c - 1).toNat 0 / 8 ≤ u) then (((c - 1).toNat : Nat) : Int) else _) = c - 1
      rw [if_pos (decide_eq_true (by have := c2 (c - 1).toNat (by omega); omega))]
      omega
    refine t26 hs hk (by omega) (fun a ha => ?_)
    obtain ⟨d, cc, v, a1, a2, a3, a4⟩ := ha
    have hR := (hk.rl (j := (c - 1).toNat) (by omega)).2.2.2.2.2.2.2.2.1
    simp (disch := first | omega | assumption | exact zq_r _ | exact zn_0 | exact zo_i _ | exact zo_r _ | exact zq_k _ | exact zq_n | exact zn_1 _ | exact zn_2 _ _ | exact zn_3 _ _ _ | exact zn_4 _ _ _ _ | exact zn_5 _ _ _ _ _ | exact zc_i _ | exact zc_r _ | exact zo_l _ | exact zo_k _ | exact zo_n | exact zc_rk _ | (rw [zx_id (by omega)]; omega) | (rw [zw_id (by omega)]; omega) | (apply z_ok_v; assumption) | (simp only [z_new_1, z_pu_1, mh_1]; omega)) only [z_EvO_some, z_EvG_t, z_Bk_n, z_Bk_s, z_brT, z_brF, z_br_pos, z_br_neg, not_true_eq_false, not_false_eq_true, Bool.true_eq_false, Bool.false_eq_true, Bool.not_eq_false, Bool.not_eq_true, eq_self, z_kl_i, z_kl_l, z_kl_r, z_kl_k, z_kl_n, z_kl_u, z_kl_v, zi_f, zl_f, z_put_r, z_nul_n, z_nul_r, zcmp_lt, zcmp_le, zcmp_ge, zcmp_gt, zcmp_eq, zw_id, zx_id, Nat.reduceAdd, z_tf_i, z_tf_l, z_tf_z, zl_zx, zi_zw, z_gf0, z_gf1, z_gf2, z_gf3, z_gf4, z_gf5, z_gf6, z_gf7, z_pf0, z_pf1, z_pf2, z_pf3, z_pf4, z_pf5, z_pf6, z_pf7, z_ob1, zb_0, zb_1, zb_tf, r86_0, r86_1, r86_2, r86_3, r86_4, r86_7, r86_8, r86_9, r86_12, r86_13, r86_14, r86_17, r86_18, r86_21, r86_22, r86_25, a1]
    refine ⟨?_, trivial⟩
    unfold zsn
    rw [if_neg (by omega), e2]
/-- the last firing by its instant -/
def zlt (ks : List Int) (rs : List zRu) (off t : Int) : Int := zlf (fun i => decide (zfa ks rs off i ≤ t)) ks.length
theorem l122 (hs : zRS h s ks rs) (hk : zKok ks rs) (ho : -89999 ≤ off ∧ off ≤ 89999) (ht : -9223372036854775808 ≤ t ∧ t ≤ 9223372036854775807) :
    ∀ n : Nat, n ≤ ks.length → z_Ev 122 12 [.ref s, zl t, z_um, zi off, zi ((n : Int) - 1)] [] h Q = Q (.inl (some (zi (zlf (fun i => decide (zfa ks rs off i ≤ t)) n)))) h := by
  obtain ⟨rr, ff, P, K, h1, h2, h3, h4, h5, h6, h7⟩ := id hs
  intro n
  induction n with
  | zero =>
    intro hn
    rw [k122_12]
    simp (disch := first | omega | assumption | exact zq_r _ | exact zn_0 | exact zo_i _ | exact zo_r _ | exact zq_k _ | exact zq_n | exact zn_1 _ | exact zn_2 _ _ | exact zn_3 _ _ _ | exact zn_4 _ _ _ _ | exact zn_5 _ _ _ _ _ | exact zc_i _ | exact zc_r _ | exact zo_l _ | exact zo_k _ | exact zo_n | exact zc_rk _ | (rw [zx_id (by omega)]; omega) | (rw [zw_id (by omega)]; omega) | (apply z_ok_v; assumption) | (simp only [z_new_1, z_pu_1, mh_1]; omega)) only [z_EvO_some, z_EvG_t, z_Bk_n, z_Bk_s, z_brT, z_brF, z_br_pos, z_br_neg, not_true_eq_false, not_false_eq_true, Bool.true_eq_false, Bool.false_eq_true, Bool.not_eq_false, Bool.not_eq_true, eq_self, z_kl_i, z_kl_l, z_kl_r, z_kl_k, z_kl_n, z_kl_u, z_kl_v, zi_f, zl_f, z_put_r, z_nul_n, z_nul_r, zcmp_lt, zcmp_le, zcmp_ge, zcmp_gt, zcmp_eq, zw_id, zx_id, Nat.reduceAdd, z_tf_i, z_tf_l, z_tf_z, zl_zx, zi_zw, z_gf0, z_gf1, z_gf2, z_gf3, z_gf4, z_gf5, z_gf6, z_gf7, z_pf0, z_pf1, z_pf2, z_pf3, z_pf4, z_pf5, z_pf6, z_pf7, z_ob1, zb_0, zb_1, zb_tf, r122_0, r122_1, r122_2, r122_5, r122_8, r122_9, r122_10, r122_14, r122_17, r122_18, r122_20, r122_21, r122_24, r122_25, r122_26, r122_29, r122_32, r122_35, r122_37]
    rfl
  | succ n ih =>
    intro hn
    have e : (((n + 1 : Nat) : Int) - 1) = n := by omega
    have hf := zfa_r hk (j := (n : Int)) (by omega) ho
    have hr2 := hk.2.1 (n : Int).toNat (by omega)
    rw [k122_12, e]
    by_cases hc : zfa ks rs off n ≤ t
    · simp (disch := first | omega | assumption | exact zq_r _ | exact zn_0 | exact zo_i _ | exact zo_r _ | exact zq_k _ | exact zq_n | exact zn_1 _ | exact zn_2 _ _ | exact zn_3 _ _ _ | exact zn_4 _ _ _ _ | exact zn_5 _ _ _ _ _ | exact zc_i _ | exact zc_r _ | exact zo_l _ | exact zo_k _ | exact zo_n | exact zc_rk _ | (rw [zx_id (by omega)]; omega) | (rw [zw_id (by omega)]; omega) | (apply z_ok_v; assumption) | (simp only [z_new_1, z_pu_1, mh_1]; omega)) only [z_EvO_some, z_EvG_t, z_Bk_n, z_Bk_s, z_brT, z_brF, z_br_pos, z_br_neg, not_true_eq_false, not_false_eq_true, Bool.true_eq_false, Bool.false_eq_true, Bool.not_eq_false, Bool.not_eq_true, eq_self, z_kl_i, z_kl_l, z_kl_r, z_kl_k, z_kl_n, z_kl_u, z_kl_v, zi_f, zl_f, z_put_r, z_nul_n, z_nul_r, zcmp_lt, zcmp_le, zcmp_ge, zcmp_gt, zcmp_eq, zw_id, zx_id, Nat.reduceAdd, z_tf_i, z_tf_l, z_tf_z, zl_zx, zi_zw, z_gf0, z_gf1, z_gf2, z_gf3, z_gf4, z_gf5, z_gf6, z_gf7, z_pf0, z_pf1, z_pf2, z_pf3, z_pf4, z_pf5, z_pf6, z_pf7, z_ob1, zb_0, zb_1, zb_tf, r122_0, r122_1, r122_2, r122_5, r122_8, r122_9, r122_10, r122_14, r122_17, r122_18, r122_20, r122_21, r122_24, r122_25, r122_26, r122_29, r122_32, r122_35, r122_37, zRS_ob hs, t85 hs hk]
      show _ = Q (.inl (some (zi (if decide (zfa ks rs off n ≤ t) then (n : Int) else _)))) h
      rw [if_pos (decide_eq_true hc)]
    · have := ih (by omega)
      simp (disch := first | omega | assumption | exact zq_r _ | exact zn_0 | exact zo_i _ | exact zo_r _ | exact zq_k _ | exact zq_n | exact zn_1 _ | exact zn_2 _ _ | exact zn_3 _ _ _ | exact zn_4 _ _ _ _ | exact zn_5 _ _ _ _ _ | exact zc_i _ | exact zc_r _ | exact zo_l _ | exact zo_k _ | exact zo_n | exact zc_rk _ | (rw [zx_id (by omega)]; omega) | (rw [zw_id (by omega)]; omega) | (apply z_ok_v; assumption) | (simp only [z_new_1, z_pu_1, mh_1]; omega)) only [z_EvO_some, z_EvG_t, z_Bk_n, z_Bk_s, z_brT, z_brF, z_br_pos, z_br_neg, not_true_eq_false, not_false_eq_true, Bool.true_eq_false, Bool.false_eq_true, Bool.not_eq_false, Bool.not_eq_true, eq_self, z_kl_i, z_kl_l, z_kl_r, z_kl_k, z_kl_n, z_kl_u, z_kl_v, zi_f, zl_f, z_put_r, z_nul_n, z_nul_r, zcmp_lt, zcmp_le, zcmp_ge, zcmp_gt, zcmp_eq, zw_id, zx_id, Nat.reduceAdd, z_tf_i, z_tf_l, z_tf_z, zl_zx, zi_zw, z_gf0, z_gf1, z_gf2, z_gf3, z_gf4, z_gf5, z_gf6, z_gf7, z_pf0, z_pf1, z_pf2, z_pf3, z_pf4, z_pf5, z_pf6, z_pf7, z_ob1, zb_0, zb_1, zb_tf, r122_0, r122_1, r122_2, r122_5, r122_8, r122_9, r122_10, r122_14, r122_17, r122_18, r122_20, r122_21, r122_24, r122_25, r122_26, r122_29, r122_32, r122_35, r122_37, zRS_ob hs, t85 hs hk]
      rw [show (n : Int) + -1 = (n : Int) - 1 by omega, this]
      show _ = Q (.inl (some (zi (if decide (zfa ks rs off n ≤ t) then (n : Int) else _)))) h
      rw [decide_eq_false hc]
      rfl
theorem t122 (hs : zRS h s ks rs) (hk : zKok ks rs) (ho : -89999 ≤ off ∧ off ≤ 89999) (ht : -9223372036854775808 ≤ t ∧ t ≤ 9223372036854775807) : z_Cl 122 [.ref s, zl t, zi off] h Q = Q (.inl (some (zi (zlt ks rs off t)))) h := by
  apply z_Cl_eq
  simp (disch := first | omega | assumption | exact zq_r _ | exact zn_0 | exact zo_i _ | exact zo_r _ | exact zq_k _ | exact zq_n | exact zn_1 _ | exact zn_2 _ _ | exact zn_3 _ _ _ | exact zn_4 _ _ _ _ | exact zn_5 _ _ _ _ _ | exact zc_i _ | exact zc_r _ | exact zo_l _ | exact zo_k _ | exact zo_n | exact zc_rk _ | (rw [zx_id (by omega)]; omega) | (rw [zw_id (by omega)]; omega) | (apply z_ok_v; assumption) | (simp only [z_new_1, z_pu_1, mh_1]; omega)) only [z_EvO_some, z_EvG_t, z_Bk_n, z_Bk_s, z_brT, z_brF, z_br_pos, z_br_neg, not_true_eq_false, not_false_eq_true, Bool.true_eq_false, Bool.false_eq_true, Bool.not_eq_false, Bool.not_eq_true, eq_self, z_kl_i, z_kl_l, z_kl_r, z_kl_k, z_kl_n, z_kl_u, z_kl_v, zi_f, zl_f, z_put_r, z_nul_n, z_nul_r, zcmp_lt, zcmp_le, zcmp_ge, zcmp_gt, zcmp_eq, zw_id, zx_id, Nat.reduceAdd, z_tf_i, z_tf_l, z_tf_z, zl_zx, zi_zw, z_gf0, z_gf1, z_gf2, z_gf3, z_gf4, z_gf5, z_gf6, z_gf7, z_pf0, z_pf1, z_pf2, z_pf3, z_pf4, z_pf5, z_pf6, z_pf7, z_ob1, zb_0, zb_1, zb_tf, e122, r122_0, r122_1, r122_2, r122_5, r122_8, r122_9, r122_10, r122_14, r122_17, r122_18, r122_20, r122_21, r122_24, r122_25, r122_26, r122_29, r122_32, r122_35, r122_37, zRS_ob hs]
  have hl : ks.length ≤ 408 := by obtain ⟨rr, ff, P, K, h1, h2, h3, h4, h5, h6, h7⟩ := id hs; exact h5
  refine t24 hs hk ht (by omega) (fun c c1 c2 c3 => ?_)
  simp (disch := first | omega | assumption | exact zq_r _ | exact zn_0 | exact zo_i _ | exact zo_r _ | exact zq_k _ | exact zq_n | exact zn_1 _ | exact zn_2 _ _ | exact zn_3 _ _ _ | exact zn_4 _ _ _ _ | exact zn_5 _ _ _ _ _ | exact zc_i _ | exact zc_r _ | exact zo_l _ | exact zo_k _ | exact zo_n | exact zc_rk _ | (rw [zx_id (by omega)]; omega) | (rw [zw_id (by omega)]; omega) | (apply z_ok_v; assumption) | (simp only [z_new_1, z_pu_1, mh_1]; omega)) only [z_EvO_some, z_EvG_t, z_Bk_n, z_Bk_s, z_brT, z_brF, z_br_pos, z_br_neg, not_true_eq_false, not_false_eq_true, Bool.true_eq_false, Bool.false_eq_true, Bool.not_eq_false, Bool.not_eq_true, eq_self, z_kl_i, z_kl_l, z_kl_r, z_kl_k, z_kl_n, z_kl_u, z_kl_v, zi_f, zl_f, z_put_r, z_nul_n, z_nul_r, zcmp_lt, zcmp_le, zcmp_ge, zcmp_gt, zcmp_eq, zw_id, zx_id, Nat.reduceAdd, z_tf_i, z_tf_l, z_tf_z, zl_zx, zi_zw, z_gf0, z_gf1, z_gf2, z_gf3, z_gf4, z_gf5, z_gf6, z_gf7, z_pf0, z_pf1, z_pf2, z_pf3, z_pf4, z_pf5, z_pf6, z_pf7, z_ob1, zb_0, zb_1, zb_tf, r122_0, r122_1, r122_2, r122_5, r122_8, r122_9, r122_10, r122_14, r122_17, r122_18, r122_20, r122_21, r122_24, r122_25, r122_26, r122_29, r122_32, r122_35, r122_37]
  have := l122 (Q := fun o1 h1 => o1 = .inl (some (zi (zlt ks rs off t))) ∧ h1 = h) hs hk ho ht c.toNat (by omega)
  rw [show ((c.toNat : Nat) : Int) = c by omega] at this
  rw [this]
  refine ⟨?_, rfl⟩
  have e1 : zlt ks rs off t = zlf (fun i => decide (zfa ks rs off i ≤ t)) c.toNat := zlf_skip (by omega) (fun i g1 g2 => decide_eq_false (by
    have g3 := c3 i (by omega) g2
    have g4 := zfa_r hk (j := (i : Int)) (by omega) ho
    rw [show ((i : Int)).toNat = i by omega] at g4
    omega))
  rw [e1]
end ZFj
