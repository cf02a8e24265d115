/-! the law's helpers -/
theorem z_Bk_x {i pc pc' c : Nat} {ls r : List Value} {h : zH} {Q : zO → zH → Prop} (hh : zt_hnd i pc c = some pc') : z_Bk i pc ls r Q (.inr h.1) (z_new h 6 (.inr (c, []))) = z_Ev i pc' ls [.ref h.1] (z_new h 6 (.inr (c, []))) Q := by
  have e1 : (z_new h 6 (.inr (c, []))).2.2.1 h.1 = .inr (c, []) := va_up_self _ _ _
  have e2 : z_ty (.inr (c, [])) = c := rfl
  show (match zt_hnd i pc (z_ty ((z_new h 6 (.inr (c, []))).2.2.1 h.1)) with
    | some pc' => z_Ev i pc' ls [.ref h.1] (z_new h 6 (.inr (c, []))) Q
    | none => False) = _
  rw [e1, e2, hh]
/-- a call with its answer put by -/
def zOu (K K' : zH) : Prop := (∀ f g, mh K f g = K → mh K' f g = K') ∧ K'.1 ≤ K.1 + 60 ∧ K'.2.1 ≤ K.2.1 + 13400 ∧ ∀ k, z_at K' (.retAddr k) = z_at K (.retAddr k)
section ZHl
variable {s : Nat} {K K1 : zH} {Q : zO → zH → Prop} {G : Nat → Nat → Int} {w : List Int} {S : zStt} {A B : Nat} {u : Nat → Int} {t q : Int} {im : Option (List zTy × List (Int × Int))}
theorem zSm.ou (y : zSm K K1 A B) (h1 : A ≤ 60) (h2 : B ≤ 13400) : zOu K K1 := ⟨fun f g hm => y.mh hm, by have := y.2.1; omega, by have := y.2.2.2.1; omega, y.2.2.2.2.2⟩
theorem zOu.pu (y : zOu K K1) (e : zE) : zOu K (z_pu K1 62 e) := ⟨fun f g hm => mh_out (y.1 f g hm) e, y.2.1, y.2.2.1, y.2.2.2⟩
theorem zline_c : (zline w S).1 = 0 ∨ (zline w S).1 = 1 ∨ (zline w S).1 = 2 := by
  unfold zline
  split
  · exact Or.inl rfl
  · split
    · split
      · exact Or.inr (Or.inl rfl)
      · split
        · exact Or.inr (Or.inr rfl)
        · exact Or.inl rfl
    · split
      · split
        · exact Or.inr (Or.inl rfl)
        · split
          · exact Or.inr (Or.inr rfl)
          · exact Or.inl rfl
      · exact Or.inr (Or.inl rfl)
theorem zHn : zt_hnd 217 3 13 = some 11 ∧ zt_hnd 217 3 12 = some 14 ∧ zt_hnd 176 6 12 = some 14 ∧ zt_hnd 176 6 13 = some 18 ∧ zt_hnd 212 6 14 = some 13 ∧ zt_hnd 215 3 12 = some 11 ∧ zt_hnd 157 6 12 = some 14 ∧ zt_hnd 157 6 13 = some 18 ∧ zt_hnd 213 3 13 = some 10 := by decide +kernel
theorem p217 (hv : zCV s K G w S) (hu : z_at K (.ref 62) = zLA 1 u)
    (kk : ∀ K' G' u', zOu K K' → z_at K' (.ref 62) = zLA 1 u' → zCV s K' G' [] (zline w S).2.2 → (∀ a : Nat, a ≠ 0 → G' a = G a) → ((zline w S).1 = 0 → u' 0 = zw (zline w S).2.1) → Q (.inl (some (zi (zline w S).1))) K') : z_Cl 217 [.ref 0, .ref 62] K Q := by
  have at0 := hv.at0
  have h63 := hv.1.2.2.1
  simp (disch := first | omega | assumption | exact zq_r _ | exact zn_0 | exact zo_i _ | exact zo_r _ | exact zq_k _ | exact zq_n | exact zn_1 _ | exact zn_2 _ _ | exact zn_3 _ _ _ | exact zn_4 _ _ _ _ | exact zn_5 _ _ _ _ _ | exact zc_i _ | exact zc_r _ | exact zo_l _ | exact zo_k _ | exact zo_n | exact zc_rk _ | (rw [zx_id (by omega)]; omega) | (rw [zw_id (by omega)]; omega) | (apply z_ok_v; assumption) | (simp only [z_new_1, z_pu_1, mh_1]; omega)) only [z_EvO_some, z_EvG_t, z_Bk_n, z_Bk_s, z_brT, z_brF, z_br_pos, z_br_neg, not_true_eq_false, not_false_eq_true, Bool.true_eq_false, Bool.false_eq_true, Bool.not_eq_false, Bool.not_eq_true, eq_self, z_kl_i, z_kl_l, z_kl_r, z_kl_k, z_kl_n, z_kl_u, z_kl_v, zi_f, zl_f, z_put_r, z_nul_n, z_nul_r, zcmp_lt, zcmp_le, zcmp_ge, zcmp_gt, zcmp_eq, zw_id, zx_id, Nat.reduceAdd, z_tf_i, z_tf_l, z_tf_z, zl_zx, zi_zw, z_gf0, z_gf1, z_gf2, z_gf3, z_gf4, z_gf5, z_gf6, z_gf7, z_pf0, z_pf1, z_pf2, z_pf3, z_pf4, z_pf5, z_pf6, z_pf7, z_ob1, zb_0, zb_1, zb_tf, cat_o, cat_k, ch_1, cgf0_0, cgf0_1, cgf0_2, cgf0_3, cpf0_3, cgf0_4, cgf0_5, cgf0_6, cgf0_7, cpf0_7, cob_0, cat_0, cpu_0, cgf5_0, cgf5_1, cpf5_1, cob_5, cat_5, cpu_5, cat_6, cpu_6, cgf7_0, cgf7_1, cpf7_1, cgf7_2, cpf7_2, cgf7_3, cpf7_3, cgf7_4, cgf7_5, cgf7_6, cpf7_6, cgf7_7, cpf7_7, cob_7, cat_7, cpu_7, cat_8, cpu_8, cat_9, cpu_9, cat_10, cpu_10, cat_11, cpu_11, zg_ai_A, zg_al_A, zg_si_A, zg_sl_A, zg_ab_b, zg_sb_b, z_len_A, z_len_L, e217, r217_0, r217_1, r217_2, r217_3, r217_6, r217_7, r217_8, r217_11, r217_12, r217_13, r217_14, r217_15, r217_16, r217_17, r217_18, at0]
  refine t216 hv (fun K1 G1 y hg hv1 => ?_)
  have hu1 : z_at K1 (.ref 62) = zLA 1 u := by rw [y.2.2.2.2.1 62 (by omega)]; exact hu
  unfold zTh
  rcases zline_c (w := w) (S := S) with hc | hc | hc
  · rw [if_pos hc]
    have fin := kk (z_pu K1 62 (zLA 1 (va_up u 0 (zw (zline w S).2.1)))) G1 _ ((y.ou (by omega) (by omega)).pu _) (z_at_pu_s _ _ _) (hv1.out _) hg (fun _ => va_up_self _ _ _)
    rw [hc] at fin
    simp (disch := first | omega | assumption | exact zq_r _ | exact zn_0 | exact zo_i _ | exact zo_r _ | exact zq_k _ | exact zq_n | exact zn_1 _ | exact zn_2 _ _ | exact zn_3 _ _ _ | exact zn_4 _ _ _ _ | exact zn_5 _ _ _ _ _ | exact zc_i _ | exact zc_r _ | exact zo_l _ | exact zo_k _ | exact zo_n | exact zc_rk _ | (rw [zx_id (by omega)]; omega) | (rw [zw_id (by omega)]; omega) | (apply z_ok_v; assumption) | (simp only [z_new_1, z_pu_1, mh_1]; omega)) only [z_EvO_some, z_EvG_t, z_Bk_n, z_Bk_s, z_brT, z_brF, z_br_pos, z_br_neg, not_true_eq_false, not_false_eq_true, Bool.true_eq_false, Bool.false_eq_true, Bool.not_eq_false, Bool.not_eq_true, eq_self, z_kl_i, z_kl_l, z_kl_r, z_kl_k, z_kl_n, z_kl_u, z_kl_v, zi_f, zl_f, z_put_r, z_nul_n, z_nul_r, zcmp_lt, zcmp_le, zcmp_ge, zcmp_gt, zcmp_eq, zw_id, zx_id, Nat.reduceAdd, z_tf_i, z_tf_l, z_tf_z, zl_zx, zi_zw, z_gf0, z_gf1, z_gf2, z_gf3, z_gf4, z_gf5, z_gf6, z_gf7, z_pf0, z_pf1, z_pf2, z_pf3, z_pf4, z_pf5, z_pf6, z_pf7, z_ob1, zb_0, zb_1, zb_tf, r217_0, r217_1, r217_2, r217_3, r217_6, r217_7, r217_8, r217_11, r217_12, r217_13, r217_14, r217_15, r217_16, r217_17, r217_18, hu1, zg_sl_A, Int.reduceToNat]
    exact fin
  · rw [if_neg (by omega), if_pos hc, z_Bk_x zHn.1]
    have ht := hv1.thr 13
    have y2 := y.trans ht.2
    have fin := kk _ G1 u (y2.ou (by omega) (by omega)) (by rw [y2.2.2.2.2.1 62 (by omega)]; exact hu) ht.1 hg (fun h => by omega)
    rw [hc] at fin
    simp (disch := first | omega | assumption | exact zq_r _ | exact zn_0 | exact zo_i _ | exact zo_r _ | exact zq_k _ | exact zq_n | exact zn_1 _ | exact zn_2 _ _ | exact zn_3 _ _ _ | exact zn_4 _ _ _ _ | exact zn_5 _ _ _ _ _ | exact zc_i _ | exact zc_r _ | exact zo_l _ | exact zo_k _ | exact zo_n | exact zc_rk _ | (rw [zx_id (by omega)]; omega) | (rw [zw_id (by omega)]; omega) | (apply z_ok_v; assumption) | (simp only [z_new_1, z_pu_1, mh_1]; omega)) only [z_EvO_some, z_EvG_t, z_Bk_n, z_Bk_s, z_brT, z_brF, z_br_pos, z_br_neg, not_true_eq_false, not_false_eq_true, Bool.true_eq_false, Bool.false_eq_true, Bool.not_eq_false, Bool.not_eq_true, eq_self, z_kl_i, z_kl_l, z_kl_r, z_kl_k, z_kl_n, z_kl_u, z_kl_v, zi_f, zl_f, z_put_r, z_nul_n, z_nul_r, zcmp_lt, zcmp_le, zcmp_ge, zcmp_gt, zcmp_eq, zw_id, zx_id, Nat.reduceAdd, z_tf_i, z_tf_l, z_tf_z, zl_zx, zi_zw, z_gf0, z_gf1, z_gf2, z_gf3, z_gf4, z_gf5, z_gf6, z_gf7, z_pf0, z_pf1, z_pf2, z_pf3, z_pf4, z_pf5, z_pf6, z_pf7, z_ob1, zb_0, zb_1, zb_tf, r217_0, r217_1, r217_2, r217_3, r217_6, r217_7, r217_8, r217_11, r217_12, r217_13, r217_14, r217_15, r217_16, r217_17, r217_18]
    exact fin
  · rw [if_neg (by omega), if_neg (by omega), z_Bk_x zHn.2.1]
    have ht := hv1.thr 12
    have y2 := y.trans ht.2
    have fin := kk _ G1 u (y2.ou (by omega) (by omega)) (by rw [y2.2.2.2.2.1 62 (by omega)]; exact hu) ht.1 hg (fun h => by omega)
    rw [hc] at fin
    simp (disch := first | omega | assumption | exact zq_r _ | exact zn_0 | exact zo_i _ | exact zo_r _ | exact zq_k _ | exact zq_n | exact zn_1 _ | exact zn_2 _ _ | exact zn_3 _ _ _ | exact zn_4 _ _ _ _ | exact zn_5 _ _ _ _ _ | exact zc_i _ | exact zc_r _ | exact zo_l _ | exact zo_k _ | exact zo_n | exact zc_rk _ | (rw [zx_id (by omega)]; omega) | (rw [zw_id (by omega)]; omega) | (apply z_ok_v; assumption) | (simp only [z_new_1, z_pu_1, mh_1]; omega)) only [z_EvO_some, z_EvG_t, z_Bk_n, z_Bk_s, z_brT, z_brF, z_br_pos, z_br_neg, not_true_eq_false, not_false_eq_true, Bool.true_eq_false, Bool.false_eq_true, Bool.not_eq_false, Bool.not_eq_true, eq_self, z_kl_i, z_kl_l, z_kl_r, z_kl_k, z_kl_n, z_kl_u, z_kl_v, zi_f, zl_f, z_put_r, z_nul_n, z_nul_r, zcmp_lt, zcmp_le, zcmp_ge, zcmp_gt, zcmp_eq, zw_id, zx_id, Nat.reduceAdd, z_tf_i, z_tf_l, z_tf_z, zl_zx, zi_zw, z_gf0, z_gf1, z_gf2, z_gf3, z_gf4, z_gf5, z_gf6, z_gf7, z_pf0, z_pf1, z_pf2, z_pf3, z_pf4, z_pf5, z_pf6, z_pf7, z_ob1, zb_0, zb_1, zb_tf, r217_0, r217_1, r217_2, r217_3, r217_6, r217_7, r217_8, r217_11, r217_12, r217_13, r217_14, r217_15, r217_16, r217_17, r217_18]
    exact fin
/-- what holds tells: the throw's number -/
def zhc (Es : List zEr) (q : Int) : Int := if Es.length = 0 then 1 else if q < 0 ∨ 2 < q then 2 else 0
theorem p176 (hv : zCV s K G w S) (hu : z_at K (.ref 62) = zLA 1 u) (ht : -9223372036854775808 ≤ t ∧ t ≤ 9223372036854775807) (hq : -2147483648 ≤ q ∧ q ≤ 2147483647)
    (kk : ∀ K' u', zOu K K' → z_at K' (.ref 62) = zLA 1 u' → zCV s K' G w S → (zhc S.1 q = 0 → u' 0 = zw (zhA S.2.1 S.2.2 S.1 t q)) → Q (.inl (some (zi (zhc S.1 q)))) K') : z_Cl 176 [.ref 0, zl t, zi q, .ref 62] K Q := by
  have at0 := hv.at0
  have x147 : ∀ Q' : zO → zH → Prop, z_Cl 147 [.ref 0, zl t, zi q] (ch K G) Q' = _ := fun Q' => t147 hv.1 ht hq
  simp only [hv.2.1] at x147
  by_cases h0 : S.1.length = 0
  · have ec : zhc S.1 q = 1 := if_pos h0
    simp only [if_pos h0] at x147
    have hh := hv.thr 12
    have fin := kk _ u (hh.2.ou (by omega) (by omega)) (by rw [hh.2.2.2.2.2.1 62 (by omega)]; exact hu) hh.1 (fun h => by omega)
    rw [ec] at fin
    simp (disch := first | omega | assumption | exact zq_r _ | exact zn_0 | exact zo_i _ | exact zo_r _ | exact zq_k _ | exact zq_n | exact zn_1 _ | exact zn_2 _ _ | exact zn_3 _ _ _ | exact zn_4 _ _ _ _ | exact zn_5 _ _ _ _ _ | exact zc_i _ | exact zc_r _ | exact zo_l _ | exact zo_k _ | exact zo_n | exact zc_rk _ | (rw [zx_id (by omega)]; omega) | (rw [zw_id (by omega)]; omega) | (apply z_ok_v; assumption) | (simp only [z_new_1, z_pu_1, mh_1]; omega)) only [z_EvO_some, z_EvG_t, z_Bk_n, z_Bk_s, z_brT, z_brF, z_br_pos, z_br_neg, not_true_eq_false, not_false_eq_true, Bool.true_eq_false, Bool.false_eq_true, Bool.not_eq_false, Bool.not_eq_true, eq_self, z_kl_i, z_kl_l, z_kl_r, z_kl_k, z_kl_n, z_kl_u, z_kl_v, zi_f, zl_f, z_put_r, z_nul_n, z_nul_r, zcmp_lt, zcmp_le, zcmp_ge, zcmp_gt, zcmp_eq, zw_id, zx_id, Nat.reduceAdd, z_tf_i, z_tf_l, z_tf_z, zl_zx, zi_zw, z_gf0, z_gf1, z_gf2, z_gf3, z_gf4, z_gf5, z_gf6, z_gf7, z_pf0, z_pf1, z_pf2, z_pf3, z_pf4, z_pf5, z_pf6, z_pf7, z_ob1, zb_0, zb_1, zb_tf, cat_o, cat_k, ch_1, cgf0_0, cgf0_1, cgf0_2, cgf0_3, cpf0_3, cgf0_4, cgf0_5, cgf0_6, cgf0_7, cpf0_7, cob_0, cat_0, cpu_0, cgf5_0, cgf5_1, cpf5_1, cob_5, cat_5, cpu_5, cat_6, cpu_6, cgf7_0, cgf7_1, cpf7_1, cgf7_2, cpf7_2, cgf7_3, cpf7_3, cgf7_4, cgf7_5, cgf7_6, cpf7_6, cgf7_7, cpf7_7, cob_7, cat_7, cpu_7, cat_8, cpu_8, cat_9, cpu_9, cat_10, cpu_10, cat_11, cpu_11, zg_ai_A, zg_al_A, zg_si_A, zg_sl_A, zg_ab_b, zg_sb_b, z_len_A, z_len_L, e176, r176_0, r176_2, r176_3, r176_4, r176_5, r176_6, r176_9, r176_10, r176_11, r176_14, r176_16, r176_17, r176_18, r176_20, r176_21, r176_22, r176_23, at0, x147, z_Bk_x zHn.2.2.1]
    exact fin
  · simp only [if_neg h0] at x147
    by_cases hb : q < 0 ∨ 2 < q
    · have ec : zhc S.1 q = 2 := by unfold zhc; rw [if_neg h0, if_pos hb]
      simp only [if_pos hb] at x147
      have hh := hv.thr 13
      have fin := kk _ u (hh.2.ou (by omega) (by omega)) (by rw [hh.2.2.2.2.2.1 62 (by omega)]; exact hu) hh.1 (fun h => by omega)
      rw [ec] at fin
      simp (disch := first | omega | assumption | exact zq_r _ | exact zn_0 | exact zo_i _ | exact zo_r _ | exact zq_k _ | exact zq_n | exact zn_1 _ | exact zn_2 _ _ | exact zn_3 _ _ _ | exact zn_4 _ _ _ _ | exact zn_5 _ _ _ _ _ | exact zc_i _ | exact zc_r _ | exact zo_l _ | exact zo_k _ | exact zo_n | exact zc_rk _ | (rw [zx_id (by omega)]; omega) | (rw [zw_id (by omega)]; omega) | (apply z_ok_v; assumption) | (simp only [z_new_1, z_pu_1, mh_1]; omega)) only [z_EvO_some, z_EvG_t, z_Bk_n, z_Bk_s, z_brT, z_brF, z_br_pos, z_br_neg, not_true_eq_false, not_false_eq_true, Bool.true_eq_false, Bool.false_eq_true, Bool.not_eq_false, Bool.not_eq_true, eq_self, z_kl_i, z_kl_l, z_kl_r, z_kl_k, z_kl_n, z_kl_u, z_kl_v, zi_f, zl_f, z_put_r, z_nul_n, z_nul_r, zcmp_lt, zcmp_le, zcmp_ge, zcmp_gt, zcmp_eq, zw_id, zx_id, Nat.reduceAdd, z_tf_i, z_tf_l, z_tf_z, zl_zx, zi_zw, z_gf0, z_gf1, z_gf2, z_gf3, z_gf4, z_gf5, z_gf6, z_gf7, z_pf0, z_pf1, z_pf2, z_pf3, z_pf4, z_pf5, z_pf6, z_pf7, z_ob1, zb_0, zb_1, zb_tf, cat_o, cat_k, ch_1, cgf0_0, cgf0_1, cgf0_2, cgf0_3, cpf0_3, cgf0_4, cgf0_5, cgf0_6, cgf0_7, cpf0_7, cob_0, cat_0, cpu_0, cgf5_0, cgf5_1, cpf5_1, cob_5, cat_5, cpu_5, cat_6, cpu_6, cgf7_0, cgf7_1, cpf7_1, cgf7_2, cpf7_2, cgf7_3, cpf7_3, cgf7_4, cgf7_5, cgf7_6, cpf7_6, cgf7_7, cpf7_7, cob_7, cat_7, cpu_7, cat_8, cpu_8, cat_9, cpu_9, cat_10, cpu_10, cat_11, cpu_11, zg_ai_A, zg_al_A, zg_si_A, zg_sl_A, zg_ab_b, zg_sb_b, z_len_A, z_len_L, e176, r176_0, r176_2, r176_3, r176_4, r176_5, r176_6, r176_9, r176_10, r176_11, r176_14, r176_16, r176_17, r176_18, r176_20, r176_21, r176_22, r176_23, at0, x147, z_Bk_x zHn.2.2.2.1]
      exact fin
    · have ec : zhc S.1 q = 0 := by unfold zhc; rw [if_neg h0, if_neg hb]
      simp only [if_neg hb] at x147
      have fin := kk (z_pu K 62 (zLA 1 (va_up u 0 (zw (zhA S.2.1 S.2.2 S.1 t q))))) _ ((zSm.refl.ou (by omega) (by omega)).pu _) (z_at_pu_s _ _ _) (hv.out _) (fun _ => va_up_self _ _ _)
      rw [ec] at fin
      generalize zhA S.2.1 S.2.2 S.1 t q = v at *
      simp (disch := first | omega | assumption | exact zq_r _ | exact zn_0 | exact zo_i _ | exact zo_r _ | exact zq_k _ | exact zq_n | exact zn_1 _ | exact zn_2 _ _ | exact zn_3 _ _ _ | exact zn_4 _ _ _ _ | exact zn_5 _ _ _ _ _ | exact zc_i _ | exact zc_r _ | exact zo_l _ | exact zo_k _ | exact zo_n | exact zc_rk _ | (rw [zx_id (by omega)]; omega) | (rw [zw_id (by omega)]; omega) | (apply z_ok_v; assumption) | (simp only [z_new_1, z_pu_1, mh_1]; omega)) only [z_EvO_some, z_EvG_t, z_Bk_n, z_Bk_s, z_brT, z_brF, z_br_pos, z_br_neg, not_true_eq_false, not_false_eq_true, Bool.true_eq_false, Bool.false_eq_true, Bool.not_eq_false, Bool.not_eq_true, eq_self, z_kl_i, z_kl_l, z_kl_r, z_kl_k, z_kl_n, z_kl_u, z_kl_v, zi_f, zl_f, z_put_r, z_nul_n, z_nul_r, zcmp_lt, zcmp_le, zcmp_ge, zcmp_gt, zcmp_eq, zw_id, zx_id, Nat.reduceAdd, z_tf_i, z_tf_l, z_tf_z, zl_zx, zi_zw, z_gf0, z_gf1, z_gf2, z_gf3, z_gf4, z_gf5, z_gf6, z_gf7, z_pf0, z_pf1, z_pf2, z_pf3, z_pf4, z_pf5, z_pf6, z_pf7, z_ob1, zb_0, zb_1, zb_tf, cat_o, cat_k, ch_1, cgf0_0, cgf0_1, cgf0_2, cgf0_3, cpf0_3, cgf0_4, cgf0_5, cgf0_6, cgf0_7, cpf0_7, cob_0, cat_0, cpu_0, cgf5_0, cgf5_1, cpf5_1, cob_5, cat_5, cpu_5, cat_6, cpu_6, cgf7_0, cgf7_1, cpf7_1, cgf7_2, cpf7_2, cgf7_3, cpf7_3, cgf7_4, cgf7_5, cgf7_6, cpf7_6, cgf7_7, cpf7_7, cob_7, cat_7, cpu_7, cat_8, cpu_8, cat_9, cpu_9, cat_10, cpu_10, cat_11, cpu_11, zg_ai_A, zg_al_A, zg_si_A, zg_sl_A, zg_ab_b, zg_sb_b, z_len_A, z_len_L, e176, r176_0, r176_2, r176_3, r176_4, r176_5, r176_6, r176_9, r176_10, r176_11, r176_14, r176_16, r176_17, r176_18, r176_20, r176_21, r176_22, r176_23, at0, x147, hu, zg_sl_A, Int.reduceToNat]
      exact fin
/-- an instant that shows: the throw's number -/
def zic (S : zStt) (t q : Int) : Int := if q < 0 ∨ ((zfd S.2.1 S.2.2 S.1 t).length : Int) ≤ q then 1 else 0
theorem p212 (hv : zCV s K G w S) (hu : z_at K (.ref 62) = zLA 1 u) (ht : -9223372036854775808 ≤ t ∧ t ≤ 9223372036854775807) (hq : -2147483648 ≤ q ∧ q ≤ 2147483647)
    (kk : ∀ K' G' u', zOu K K' → z_at K' (.ref 62) = zLA 1 u' → zCV s K' G' w S → zG0 G G' → (zic S t q = 0 → u' 0 = (zfd S.2.1 S.2.2 S.1 t).getD q.toNat 0) → Q (.inl (some (zi (zic S t q)))) K') : z_Cl 212 [.ref 0, zl t, zi q, .ref 62] K Q := by
  have at0 := hv.at0
  suffices hsf : ∀ Q' : zO → zH → Prop, ((q < 0 ∨ ((zfd S.2.1 S.2.2 S.1 t).length : Int) ≤ q) → ∀ G', zG0 G G' → Q' (.inr (ch K G').1) (z_new (ch K G') 6 (.inr (14, [])))) → (¬ (q < 0 ∨ ((zfd S.2.1 S.2.2 S.1 t).length : Int) ≤ q) → ∀ G', zG0 G G' → Q' (.inl (some (zl ((zfd S.2.1 S.2.2 S.1 t).getD q.toNat 0)))) (ch K G')) → z_Cl 199 [.ref 0, zl t, zi q] K Q' by
    simp (disch := first | omega | assumption | exact zq_r _ | exact zn_0 | exact zo_i _ | exact zo_r _ | exact zq_k _ | exact zq_n | exact zn_1 _ | exact zn_2 _ _ | exact zn_3 _ _ _ | exact zn_4 _ _ _ _ | exact zn_5 _ _ _ _ _ | exact zc_i _ | exact zc_r _ | exact zo_l _ | exact zo_k _ | exact zo_n | exact zc_rk _ | (rw [zx_id (by omega)]; omega) | (rw [zw_id (by omega)]; omega) | (apply z_ok_v; assumption) | (simp only [z_new_1, z_pu_1, mh_1]; omega)) only [z_EvO_some, z_EvG_t, z_Bk_n, z_Bk_s, z_brT, z_brF, z_br_pos, z_br_neg, not_true_eq_false, not_false_eq_true, Bool.true_eq_false, Bool.false_eq_true, Bool.not_eq_false, Bool.not_eq_true, eq_self, z_kl_i, z_kl_l, z_kl_r, z_kl_k, z_kl_n, z_kl_u, z_kl_v, zi_f, zl_f, z_put_r, z_nul_n, z_nul_r, zcmp_lt, zcmp_le, zcmp_ge, zcmp_gt, zcmp_eq, zw_id, zx_id, Nat.reduceAdd, z_tf_i, z_tf_l, z_tf_z, zl_zx, zi_zw, z_gf0, z_gf1, z_gf2, z_gf3, z_gf4, z_gf5, z_gf6, z_gf7, z_pf0, z_pf1, z_pf2, z_pf3, z_pf4, z_pf5, z_pf6, z_pf7, z_ob1, zb_0, zb_1, zb_tf, cat_o, cat_k, ch_1, cgf0_0, cgf0_1, cgf0_2, cgf0_3, cpf0_3, cgf0_4, cgf0_5, cgf0_6, cgf0_7, cpf0_7, cob_0, cat_0, cpu_0, cgf5_0, cgf5_1, cpf5_1, cob_5, cat_5, cpu_5, cat_6, cpu_6, cgf7_0, cgf7_1, cpf7_1, cgf7_2, cpf7_2, cgf7_3, cpf7_3, cgf7_4, cgf7_5, cgf7_6, cpf7_6, cgf7_7, cpf7_7, cob_7, cat_7, cpu_7, cat_8, cpu_8, cat_9, cpu_9, cat_10, cpu_10, cat_11, cpu_11, zg_ai_A, zg_al_A, zg_si_A, zg_sl_A, zg_ab_b, zg_sb_b, z_len_A, z_len_L, e212, r212_0, r212_2, r212_3, r212_4, r212_5, r212_6, r212_9, r212_10, r212_13, r212_15, r212_16, r212_17, r212_18, at0]
    refine hsf _ (fun hb G' hg => ?_) (fun hb G' hg => ?_)
    · have hgg := hv.gg (G' := G') (hg.2 3 (by decide))
      have hh := hgg.1.thr 14
      have y2 := hgg.2.trans hh.2
      have ec : zic S t q = 1 := if_pos hb
      have fin := kk _ G' u (y2.ou (by omega) (by omega)) (by rw [y2.2.2.2.2.1 62 (by omega)]; exact hu) hh.1 hg (fun h => by omega)
      rw [ec] at fin
      rw [z_Bk_x zHn.2.2.2.2.1]
      simp (disch := first | omega | assumption | exact zq_r _ | exact zn_0 | exact zo_i _ | exact zo_r _ | exact zq_k _ | exact zq_n | exact zn_1 _ | exact zn_2 _ _ | exact zn_3 _ _ _ | exact zn_4 _ _ _ _ | exact zn_5 _ _ _ _ _ | exact zc_i _ | exact zc_r _ | exact zo_l _ | exact zo_k _ | exact zo_n | exact zc_rk _ | (rw [zx_id (by omega)]; omega) | (rw [zw_id (by omega)]; omega) | (apply z_ok_v; assumption) | (simp only [z_new_1, z_pu_1, mh_1]; omega)) only [z_EvO_some, z_EvG_t, z_Bk_n, z_Bk_s, z_brT, z_brF, z_br_pos, z_br_neg, not_true_eq_false, not_false_eq_true, Bool.true_eq_false, Bool.false_eq_true, Bool.not_eq_false, Bool.not_eq_true, eq_self, z_kl_i, z_kl_l, z_kl_r, z_kl_k, z_kl_n, z_kl_u, z_kl_v, zi_f, zl_f, z_put_r, z_nul_n, z_nul_r, zcmp_lt, zcmp_le, zcmp_ge, zcmp_gt, zcmp_eq, zw_id, zx_id, Nat.reduceAdd, z_tf_i, z_tf_l, z_tf_z, zl_zx, zi_zw, z_gf0, z_gf1, z_gf2, z_gf3, z_gf4, z_gf5, z_gf6, z_gf7, z_pf0, z_pf1, z_pf2, z_pf3, z_pf4, z_pf5, z_pf6, z_pf7, z_ob1, zb_0, zb_1, zb_tf, r212_0, r212_2, r212_3, r212_4, r212_5, r212_6, r212_9, r212_10, r212_13, r212_15, r212_16, r212_17, r212_18]
      exact fin
    · have hgg := hv.gg (G' := G') (hg.2 3 (by decide))
      have ec : zic S t q = 0 := if_neg hb
      have hu1 : z_at (ch K G') (.ref 62) = zLA 1 u := by rw [cat_o (by decide)]; exact hu
      have fin := kk (z_pu (ch K G') 62 (zLA 1 (va_up u 0 ((zfd S.2.1 S.2.2 S.1 t).getD q.toNat 0)))) G' _ ((hgg.2.ou (by omega) (by omega)).pu _) (z_at_pu_s _ _ _) (hgg.1.out _) hg (fun _ => va_up_self _ _ _)
      rw [ec] at fin
      simp (disch := first | omega | assumption | exact zq_r _ | exact zn_0 | exact zo_i _ | exact zo_r _ | exact zq_k _ | exact zq_n | exact zn_1 _ | exact zn_2 _ _ | exact zn_3 _ _ _ | exact zn_4 _ _ _ _ | exact zn_5 _ _ _ _ _ | exact zc_i _ | exact zc_r _ | exact zo_l _ | exact zo_k _ | exact zo_n | exact zc_rk _ | (rw [zx_id (by omega)]; omega) | (rw [zw_id (by omega)]; omega) | (apply z_ok_v; assumption) | (simp only [z_new_1, z_pu_1, mh_1]; omega)) only [z_EvO_some, z_EvG_t, z_Bk_n, z_Bk_s, z_brT, z_brF, z_br_pos, z_br_neg, not_true_eq_false, not_false_eq_true, Bool.true_eq_false, Bool.false_eq_true, Bool.not_eq_false, Bool.not_eq_true, eq_self, z_kl_i, z_kl_l, z_kl_r, z_kl_k, z_kl_n, z_kl_u, z_kl_v, zi_f, zl_f, z_put_r, z_nul_n, z_nul_r, zcmp_lt, zcmp_le, zcmp_ge, zcmp_gt, zcmp_eq, zw_id, zx_id, Nat.reduceAdd, z_tf_i, z_tf_l, z_tf_z, zl_zx, zi_zw, z_gf0, z_gf1, z_gf2, z_gf3, z_gf4, z_gf5, z_gf6, z_gf7, z_pf0, z_pf1, z_pf2, z_pf3, z_pf4, z_pf5, z_pf6, z_pf7, z_ob1, zb_0, zb_1, zb_tf, r212_0, r212_2, r212_3, r212_4, r212_5, r212_6, r212_9, r212_10, r212_13, r212_15, r212_16, r212_17, r212_18, hu1, zg_sl_A, Int.reduceToNat]
      exact fin
  intro Q' f1 f2
  have := t199 (Q := Q') hv.1 ht hq f1 f2
  rw [hv.2.1] at this
  exact this
theorem p215 (hv : zCV s K G w S) (hsp : zSp S) (hu : z_at K (.ref 62) = zLA 1 u)
    (k0 : znoc S.1 → ∀ K' u', zOu K K' → z_at K' (.ref 62) = zLA 1 u' → zCV s K' G w S → Q (.inl (some (zi 1))) K')
    (k1 : ¬ znoc S.1 → ∀ K' G' u', zOu K K' → z_at K' (.ref 62) = zLA 1 u' → zCV s K' G' w S → zIc G' (some (zimg S)) → u' 0 = zw (zimg S).2.length → Q (.inl (some (zi 0))) K') : z_Cl 215 [.ref 0, .ref 62] K Q := by
  have at0 := hv.at0
  by_cases hn : znoc S.1
  · have x209 : ∀ Q' : zO → zH → Prop, z_Cl 209 [.ref 0] (ch K G) Q' = _ := fun Q' => t209n hv.1 hn
    simp only [hv.2.1] at x209
    have hh := hv.thr 12
    have fin := k0 hn _ u (hh.2.ou (by omega) (by omega)) (by rw [hh.2.2.2.2.2.1 62 (by omega)]; exact hu) hh.1
    simp (disch := first | omega | assumption | exact zq_r _ | exact zn_0 | exact zo_i _ | exact zo_r _ | exact zq_k _ | exact zq_n | exact zn_1 _ | exact zn_2 _ _ | exact zn_3 _ _ _ | exact zn_4 _ _ _ _ | exact zn_5 _ _ _ _ _ | exact zc_i _ | exact zc_r _ | exact zo_l _ | exact zo_k _ | exact zo_n | exact zc_rk _ | (rw [zx_id (by omega)]; omega) | (rw [zw_id (by omega)]; omega) | (apply z_ok_v; assumption) | (simp only [z_new_1, z_pu_1, mh_1]; omega)) only [z_EvO_some, z_EvG_t, z_Bk_n, z_Bk_s, z_brT, z_brF, z_br_pos, z_br_neg, not_true_eq_false, not_false_eq_true, Bool.true_eq_false, Bool.false_eq_true, Bool.not_eq_false, Bool.not_eq_true, eq_self, z_kl_i, z_kl_l, z_kl_r, z_kl_k, z_kl_n, z_kl_u, z_kl_v, zi_f, zl_f, z_put_r, z_nul_n, z_nul_r, zcmp_lt, zcmp_le, zcmp_ge, zcmp_gt, zcmp_eq, zw_id, zx_id, Nat.reduceAdd, z_tf_i, z_tf_l, z_tf_z, zl_zx, zi_zw, z_gf0, z_gf1, z_gf2, z_gf3, z_gf4, z_gf5, z_gf6, z_gf7, z_pf0, z_pf1, z_pf2, z_pf3, z_pf4, z_pf5, z_pf6, z_pf7, z_ob1, zb_0, zb_1, zb_tf, cat_o, cat_k, ch_1, cgf0_0, cgf0_1, cgf0_2, cgf0_3, cpf0_3, cgf0_4, cgf0_5, cgf0_6, cgf0_7, cpf0_7, cob_0, cat_0, cpu_0, cgf5_0, cgf5_1, cpf5_1, cob_5, cat_5, cpu_5, cat_6, cpu_6, cgf7_0, cgf7_1, cpf7_1, cgf7_2, cpf7_2, cgf7_3, cpf7_3, cgf7_4, cgf7_5, cgf7_6, cpf7_6, cgf7_7, cpf7_7, cob_7, cat_7, cpu_7, cat_8, cpu_8, cat_9, cpu_9, cat_10, cpu_10, cat_11, cpu_11, zg_ai_A, zg_al_A, zg_si_A, zg_sl_A, zg_ab_b, zg_sb_b, z_len_A, z_len_L, e215, r215_0, r215_1, r215_2, r215_3, r215_6, r215_7, r215_8, r215_11, r215_12, r215_13, r215_14, r215_15, at0, x209, z_Bk_x zHn.2.2.2.2.2.1]
    exact fin
  · suffices hsf : ∀ Q' : zO → zH → Prop, (∀ G', (∀ a : Nat, ¬ (5 ≤ a ∧ a ≤ 10) → G' a = G a) → zIc G' (some (zimg S)) → Q' (.inl (some (zi (zimg S).2.length))) (ch K G')) → z_Cl 209 [.ref 0] K Q' by
      simp (disch := first | omega | assumption | exact zq_r _ | exact zn_0 | exact zo_i _ | exact zo_r _ | exact zq_k _ | exact zq_n | exact zn_1 _ | exact zn_2 _ _ | exact zn_3 _ _ _ | exact zn_4 _ _ _ _ | exact zn_5 _ _ _ _ _ | exact zc_i _ | exact zc_r _ | exact zo_l _ | exact zo_k _ | exact zo_n | exact zc_rk _ | (rw [zx_id (by omega)]; omega) | (rw [zw_id (by omega)]; omega) | (apply z_ok_v; assumption) | (simp only [z_new_1, z_pu_1, mh_1]; omega)) only [z_EvO_some, z_EvG_t, z_Bk_n, z_Bk_s, z_brT, z_brF, z_br_pos, z_br_neg, not_true_eq_false, not_false_eq_true, Bool.true_eq_false, Bool.false_eq_true, Bool.not_eq_false, Bool.not_eq_true, eq_self, z_kl_i, z_kl_l, z_kl_r, z_kl_k, z_kl_n, z_kl_u, z_kl_v, zi_f, zl_f, z_put_r, z_nul_n, z_nul_r, zcmp_lt, zcmp_le, zcmp_ge, zcmp_gt, zcmp_eq, zw_id, zx_id, Nat.reduceAdd, z_tf_i, z_tf_l, z_tf_z, zl_zx, zi_zw, z_gf0, z_gf1, z_gf2, z_gf3, z_gf4, z_gf5, z_gf6, z_gf7, z_pf0, z_pf1, z_pf2, z_pf3, z_pf4, z_pf5, z_pf6, z_pf7, z_ob1, zb_0, zb_1, zb_tf, cat_o, cat_k, ch_1, cgf0_0, cgf0_1, cgf0_2, cgf0_3, cpf0_3, cgf0_4, cgf0_5, cgf0_6, cgf0_7, cpf0_7, cob_0, cat_0, cpu_0, cgf5_0, cgf5_1, cpf5_1, cob_5, cat_5, cpu_5, cat_6, cpu_6, cgf7_0, cgf7_1, cpf7_1, cgf7_2, cpf7_2, cgf7_3, cpf7_3, cgf7_4, cgf7_5, cgf7_6, cpf7_6, cgf7_7, cpf7_7, cob_7, cat_7, cpu_7, cat_8, cpu_8, cat_9, cpu_9, cat_10, cpu_10, cat_11, cpu_11, zg_ai_A, zg_al_A, zg_si_A, zg_sl_A, zg_ab_b, zg_sb_b, z_len_A, z_len_L, e215, r215_0, r215_1, r215_2, r215_3, r215_6, r215_7, r215_8, r215_11, r215_12, r215_13, r215_14, r215_15, at0]
      refine hsf _ (fun G' hg hc => ?_)
      have hgg := hv.gg (G' := G') (by rw [hg 0 (by omega)])
      have hu1 : z_at (ch K G') (.ref 62) = zLA 1 u := by rw [cat_o (by decide)]; exact hu
      have fin := k1 hn (z_pu (ch K G') 62 (zLA 1 (va_up u 0 (zw (zimg S).2.length)))) G' _ ((hgg.2.ou (by omega) (by omega)).pu _) (z_at_pu_s _ _ _) (hgg.1.out _) hc (va_up_self _ _ _)
      generalize ((zimg S).2.length : Int) = v at *
      simp (disch := first | omega | assumption | exact zq_r _ | exact zn_0 | exact zo_i _ | exact zo_r _ | exact zq_k _ | exact zq_n | exact zn_1 _ | exact zn_2 _ _ | exact zn_3 _ _ _ | exact zn_4 _ _ _ _ | exact zn_5 _ _ _ _ _ | exact zc_i _ | exact zc_r _ | exact zo_l _ | exact zo_k _ | exact zo_n | exact zc_rk _ | (rw [zx_id (by omega)]; omega) | (rw [zw_id (by omega)]; omega) | (apply z_ok_v; assumption) | (simp only [z_new_1, z_pu_1, mh_1]; omega)) only [z_EvO_some, z_EvG_t, z_Bk_n, z_Bk_s, z_brT, z_brF, z_br_pos, z_br_neg, not_true_eq_false, not_false_eq_true, Bool.true_eq_false, Bool.false_eq_true, Bool.not_eq_false, Bool.not_eq_true, eq_self, z_kl_i, z_kl_l, z_kl_r, z_kl_k, z_kl_n, z_kl_u, z_kl_v, zi_f, zl_f, z_put_r, z_nul_n, z_nul_r, zcmp_lt, zcmp_le, zcmp_ge, zcmp_gt, zcmp_eq, zw_id, zx_id, Nat.reduceAdd, z_tf_i, z_tf_l, z_tf_z, zl_zx, zi_zw, z_gf0, z_gf1, z_gf2, z_gf3, z_gf4, z_gf5, z_gf6, z_gf7, z_pf0, z_pf1, z_pf2, z_pf3, z_pf4, z_pf5, z_pf6, z_pf7, z_ob1, zb_0, zb_1, zb_tf, r215_0, r215_1, r215_2, r215_3, r215_6, r215_7, r215_8, r215_11, r215_12, r215_13, r215_14, r215_15, hu1, zg_sl_A, Int.reduceToNat]
      exact fin
    intro Q' f1
    have := t209 (Q := Q') hv.1 hsp hn f1
    rw [hv.2.1] at this
    exact this
theorem zlk_c : (zlk im t q).1 = 0 ∨ (zlk im t q).1 = 1 ∨ (zlk im t q).1 = 2 := by
  cases im with
  | none => exact Or.inr (Or.inl rfl)
  | some p =>
    obtain ⟨ts, cs⟩ := p
    by_cases hb : q < 0 ∨ 3 < q
    · have : zlk (some (ts, cs)) t q = (2, 0) := if_pos hb
      rw [this]
      exact Or.inr (Or.inr rfl)
    · refine Or.inl ?_
      show (if q < 0 ∨ 3 < q then ((2, 0) : Int × Int) else (0, _)).1 = 0
      rw [if_neg hb]
theorem p157 (hv : zCV s K G w S) (hI : zIc G im) (hu : z_at K (.ref 62) = zLA 1 u) (ht : -9223372036854775808 ≤ t ∧ t ≤ 9223372036854775807) (hq : -2147483648 ≤ q ∧ q ≤ 2147483647)
    (kk : ∀ K' G' u', zOu K K' → z_at K' (.ref 62) = zLA 1 u' → zCV s K' G' w S → ((∀ a : Nat, a ≠ 7 → G' a = G a) ∧ ∀ j, j ≠ 3 → G' 7 j = G 7 j) → ((zlk im t q).1 = 0 → u' 0 = zw (zlk im t q).2) → Q (.inl (some (zi (zlk im t q).1))) K') : z_Cl 157 [.ref 0, zl t, zi q, .ref 62] K Q := by
  have at0 := hv.at0
  suffices hsf : ∀ Q' : zO → zH → Prop, (∀ s' : Int, (if (zlk im t q).1 = 0 then Q' (.inl (some (zi (zlk im t q).2))) (ch K (va_up G 7 (va_up (G 7) 3 s'))) else if (zlk im t q).1 = 1 then Q' (.inr K.1) (z_new K 6 (.inr (12, []))) else Q' (.inr K.1) (z_new K 6 (.inr (13, []))))) → z_Cl 135 [.ref 0, zl t, zi q] K Q' by
    simp (disch := first | omega | assumption | exact zq_r _ | exact zn_0 | exact zo_i _ | exact zo_r _ | exact zq_k _ | exact zq_n | exact zn_1 _ | exact zn_2 _ _ | exact zn_3 _ _ _ | exact zn_4 _ _ _ _ | exact zn_5 _ _ _ _ _ | exact zc_i _ | exact zc_r _ | exact zo_l _ | exact zo_k _ | exact zo_n | exact zc_rk _ | (rw [zx_id (by omega)]; omega) | (rw [zw_id (by omega)]; omega) | (apply z_ok_v; assumption) | (simp only [z_new_1, z_pu_1, mh_1]; omega)) only [z_EvO_some, z_EvG_t, z_Bk_n, z_Bk_s, z_brT, z_brF, z_br_pos, z_br_neg, not_true_eq_false, not_false_eq_true, Bool.true_eq_false, Bool.false_eq_true, Bool.not_eq_false, Bool.not_eq_true, eq_self, z_kl_i, z_kl_l, z_kl_r, z_kl_k, z_kl_n, z_kl_u, z_kl_v, zi_f, zl_f, z_put_r, z_nul_n, z_nul_r, zcmp_lt, zcmp_le, zcmp_ge, zcmp_gt, zcmp_eq, zw_id, zx_id, Nat.reduceAdd, z_tf_i, z_tf_l, z_tf_z, zl_zx, zi_zw, z_gf0, z_gf1, z_gf2, z_gf3, z_gf4, z_gf5, z_gf6, z_gf7, z_pf0, z_pf1, z_pf2, z_pf3, z_pf4, z_pf5, z_pf6, z_pf7, z_ob1, zb_0, zb_1, zb_tf, cat_o, cat_k, ch_1, cgf0_0, cgf0_1, cgf0_2, cgf0_3, cpf0_3, cgf0_4, cgf0_5, cgf0_6, cgf0_7, cpf0_7, cob_0, cat_0, cpu_0, cgf5_0, cgf5_1, cpf5_1, cob_5, cat_5, cpu_5, cat_6, cpu_6, cgf7_0, cgf7_1, cpf7_1, cgf7_2, cpf7_2, cgf7_3, cpf7_3, cgf7_4, cgf7_5, cgf7_6, cpf7_6, cgf7_7, cpf7_7, cob_7, cat_7, cpu_7, cat_8, cpu_8, cat_9, cpu_9, cat_10, cpu_10, cat_11, cpu_11, zg_ai_A, zg_al_A, zg_si_A, zg_sl_A, zg_ab_b, zg_sb_b, z_len_A, z_len_L, e157, r157_0, r157_2, r157_3, r157_4, r157_5, r157_6, r157_9, r157_10, r157_11, r157_14, r157_16, r157_17, r157_18, r157_20, r157_21, r157_22, r157_23, at0]
    refine hsf _ (fun s' => ?_)
    rcases zlk_c (im := im) (t := t) (q := q) with hc | hc | hc
    · rw [if_pos hc]
      have hgg := hv.gg (G' := va_up G 7 (va_up (G 7) 3 s')) (by rw [va_up_ne _ _ (by decide)])
      have hu1 : z_at (ch K (va_up G 7 (va_up (G 7) 3 s'))) (.ref 62) = zLA 1 u := by rw [cat_o (by decide)]; exact hu
      have fin := kk (z_pu (ch K (va_up G 7 (va_up (G 7) 3 s'))) 62 (zLA 1 (va_up u 0 (zw (zlk im t q).2)))) _ _ ((hgg.2.ou (by omega) (by omega)).pu _) (z_at_pu_s _ _ _) (hgg.1.out _) ⟨fun a ha => va_up_ne _ _ ha, fun j hj => by rw [va_up_self, va_up_ne _ _ hj]⟩ (fun _ => va_up_self _ _ _)
      rw [hc] at fin
      generalize (zlk im t q).2 = v at *
      simp (disch := first | omega | assumption | exact zq_r _ | exact zn_0 | exact zo_i _ | exact zo_r _ | exact zq_k _ | exact zq_n | exact zn_1 _ | exact zn_2 _ _ | exact zn_3 _ _ _ | exact zn_4 _ _ _ _ | exact zn_5 _ _ _ _ _ | exact zc_i _ | exact zc_r _ | exact zo_l _ | exact zo_k _ | exact zo_n | exact zc_rk _ | (rw [zx_id (by omega)]; omega) | (rw [zw_id (by omega)]; omega) | (apply z_ok_v; assumption) | (simp only [z_new_1, z_pu_1, mh_1]; omega)) only [z_EvO_some, z_EvG_t, z_Bk_n, z_Bk_s, z_brT, z_brF, z_br_pos, z_br_neg, not_true_eq_false, not_false_eq_true, Bool.true_eq_false, Bool.false_eq_true, Bool.not_eq_false, Bool.not_eq_true, eq_self, z_kl_i, z_kl_l, z_kl_r, z_kl_k, z_kl_n, z_kl_u, z_kl_v, zi_f, zl_f, z_put_r, z_nul_n, z_nul_r, zcmp_lt, zcmp_le, zcmp_ge, zcmp_gt, zcmp_eq, zw_id, zx_id, Nat.reduceAdd, z_tf_i, z_tf_l, z_tf_z, zl_zx, zi_zw, z_gf0, z_gf1, z_gf2, z_gf3, z_gf4, z_gf5, z_gf6, z_gf7, z_pf0, z_pf1, z_pf2, z_pf3, z_pf4, z_pf5, z_pf6, z_pf7, z_ob1, zb_0, zb_1, zb_tf, r157_0, r157_2, r157_3, r157_4, r157_5, r157_6, r157_9, r157_10, r157_11, r157_14, r157_16, r157_17, r157_18, r157_20, r157_21, r157_22, r157_23, hu1, zg_sl_A, Int.reduceToNat]
      exact fin
    · rw [if_neg (by omega), if_pos hc, z_Bk_x zHn.2.2.2.2.2.2.1]
      have hh := hv.thr 12
      have fin := kk _ G u (hh.2.ou (by omega) (by omega)) (by rw [hh.2.2.2.2.2.1 62 (by omega)]; exact hu) hh.1 ⟨fun _ _ => rfl, fun _ _ => rfl⟩ (fun h => by omega)
      rw [hc] at fin
      simp (disch := first | omega | assumption | exact zq_r _ | exact zn_0 | exact zo_i _ | exact zo_r _ | exact zq_k _ | exact zq_n | exact zn_1 _ | exact zn_2 _ _ | exact zn_3 _ _ _ | exact zn_4 _ _ _ _ | exact zn_5 _ _ _ _ _ | exact zc_i _ | exact zc_r _ | exact zo_l _ | exact zo_k _ | exact zo_n | exact zc_rk _ | (rw [zx_id (by omega)]; omega) | (rw [zw_id (by omega)]; omega) | (apply z_ok_v; assumption) | (simp only [z_new_1, z_pu_1, mh_1]; omega)) only [z_EvO_some, z_EvG_t, z_Bk_n, z_Bk_s, z_brT, z_brF, z_br_pos, z_br_neg, not_true_eq_false, not_false_eq_true, Bool.true_eq_false, Bool.false_eq_true, Bool.not_eq_false, Bool.not_eq_true, eq_self, z_kl_i, z_kl_l, z_kl_r, z_kl_k, z_kl_n, z_kl_u, z_kl_v, zi_f, zl_f, z_put_r, z_nul_n, z_nul_r, zcmp_lt, zcmp_le, zcmp_ge, zcmp_gt, zcmp_eq, zw_id, zx_id, Nat.reduceAdd, z_tf_i, z_tf_l, z_tf_z, zl_zx, zi_zw, z_gf0, z_gf1, z_gf2, z_gf3, z_gf4, z_gf5, z_gf6, z_gf7, z_pf0, z_pf1, z_pf2, z_pf3, z_pf4, z_pf5, z_pf6, z_pf7, z_ob1, zb_0, zb_1, zb_tf, r157_0, r157_2, r157_3, r157_4, r157_5, r157_6, r157_9, r157_10, r157_11, r157_14, r157_16, r157_17, r157_18, r157_20, r157_21, r157_22, r157_23]
      exact fin
    · rw [if_neg (by omega), if_neg (by omega), z_Bk_x zHn.2.2.2.2.2.2.2.1]
      have hh := hv.thr 13
      have fin := kk _ G u (hh.2.ou (by omega) (by omega)) (by rw [hh.2.2.2.2.2.1 62 (by omega)]; exact hu) hh.1 ⟨fun _ _ => rfl, fun _ _ => rfl⟩ (fun h => by omega)
      rw [hc] at fin
      simp (disch := first | omega | assumption | exact zq_r _ | exact zn_0 | exact zo_i _ | exact zo_r _ | exact zq_k _ | exact zq_n | exact zn_1 _ | exact zn_2 _ _ | exact zn_3 _ _ _ | exact zn_4 _ _ _ _ | exact zn_5 _ _ _ _ _ | exact zc_i _ | exact zc_r _ | exact zo_l _ | exact zo_k _ | exact zo_n | exact zc_rk _ | (rw [zx_id (by omega)]; omega) | (rw [zw_id (by omega)]; omega) | (apply z_ok_v; assumption) | (simp only [z_new_1, z_pu_1, mh_1]; omega)) only [z_EvO_some, z_EvG_t, z_Bk_n, z_Bk_s, z_brT, z_brF, z_br_pos, z_br_neg, not_true_eq_false, not_false_eq_true, Bool.true_eq_false, Bool.false_eq_true, Bool.not_eq_false, Bool.not_eq_true, eq_self, z_kl_i, z_kl_l, z_kl_r, z_kl_k, z_kl_n, z_kl_u, z_kl_v, zi_f, zl_f, z_put_r, z_nul_n, z_nul_r, zcmp_lt, zcmp_le, zcmp_ge, zcmp_gt, zcmp_eq, zw_id, zx_id, Nat.reduceAdd, z_tf_i, z_tf_l, z_tf_z, zl_zx, zi_zw, z_gf0, z_gf1, z_gf2, z_gf3, z_gf4, z_gf5, z_gf6, z_gf7, z_pf0, z_pf1, z_pf2, z_pf3, z_pf4, z_pf5, z_pf6, z_pf7, z_ob1, zb_0, zb_1, zb_tf, r157_0, r157_2, r157_3, r157_4, r157_5, r157_6, r157_9, r157_10, r157_11, r157_14, r157_16, r157_17, r157_18, r157_20, r157_21, r157_22, r157_23]
      exact fin
  intro Q' f1
  have := t135 (Q := Q') (h := K) (G := G) im hI ht hq (fun s' => by
    have := f1 s'
    rw [hv.2.1]
    exact this)
  rw [hv.2.1] at this
  exact this
theorem p213 (hv : zCV s K G w S) (hu : z_at K (.ref 62) = zLA 1 u)
    (kk : ∀ K' u', zOu K K' → z_at K' (.ref 62) = zLA 1 u' → zCV s K' G [] S → (if zro (fun j => w.getD j 0) w.length then u' 0 = zri (fun j => w.getD j 0) ∧ True else True) → Q (.inl (some (zi (if zro (fun j => w.getD j 0) w.length then 0 else 1)))) K') : z_Cl 213 [.ref 0, .ref 62] K Q := by
  have at0 := hv.at0
  simp (disch := first | omega | assumption | exact zq_r _ | exact zn_0 | exact zo_i _ | exact zo_r _ | exact zq_k _ | exact zq_n | exact zn_1 _ | exact zn_2 _ _ | exact zn_3 _ _ _ | exact zn_4 _ _ _ _ | exact zn_5 _ _ _ _ _ | exact zc_i _ | exact zc_r _ | exact zo_l _ | exact zo_k _ | exact zo_n | exact zc_rk _ | (rw [zx_id (by omega)]; omega) | (rw [zw_id (by omega)]; omega) | (apply z_ok_v; assumption) | (simp only [z_new_1, z_pu_1, mh_1]; omega)) only [z_EvO_some, z_EvG_t, z_Bk_n, z_Bk_s, z_brT, z_brF, z_br_pos, z_br_neg, not_true_eq_false, not_false_eq_true, Bool.true_eq_false, Bool.false_eq_true, Bool.not_eq_false, Bool.not_eq_true, eq_self, z_kl_i, z_kl_l, z_kl_r, z_kl_k, z_kl_n, z_kl_u, z_kl_v, zi_f, zl_f, z_put_r, z_nul_n, z_nul_r, zcmp_lt, zcmp_le, zcmp_ge, zcmp_gt, zcmp_eq, zw_id, zx_id, Nat.reduceAdd, z_tf_i, z_tf_l, z_tf_z, zl_zx, zi_zw, z_gf0, z_gf1, z_gf2, z_gf3, z_gf4, z_gf5, z_gf6, z_gf7, z_pf0, z_pf1, z_pf2, z_pf3, z_pf4, z_pf5, z_pf6, z_pf7, z_ob1, zb_0, zb_1, zb_tf, cat_o, cat_k, ch_1, cgf0_0, cgf0_1, cgf0_2, cgf0_3, cpf0_3, cgf0_4, cgf0_5, cgf0_6, cgf0_7, cpf0_7, cob_0, cat_0, cpu_0, cgf5_0, cgf5_1, cpf5_1, cob_5, cat_5, cpu_5, cat_6, cpu_6, cgf7_0, cgf7_1, cpf7_1, cgf7_2, cpf7_2, cgf7_3, cpf7_3, cgf7_4, cgf7_5, cgf7_6, cpf7_6, cgf7_7, cpf7_7, cob_7, cat_7, cpu_7, cat_8, cpu_8, cat_9, cpu_9, cat_10, cpu_10, cat_11, cpu_11, zg_ai_A, zg_al_A, zg_si_A, zg_sl_A, zg_ab_b, zg_sb_b, z_len_A, z_len_L, e213, r213_0, r213_1, r213_2, r213_3, r213_6, r213_7, r213_10, r213_11, r213_12, r213_13, r213_14, at0]
  refine t201 hv (fun K1 y hv1 => ?_)
  have hu1 : z_at K1 (.ref 62) = zLA 1 u := by rw [y.2.2.2.2.1 62 (by omega)]; exact hu
  by_cases hz : zro (fun j => w.getD j 0) w.length
  · rw [if_pos hz]
    have fin := kk (z_pu K1 62 (zLA 1 (va_up u 0 (zri (fun j => w.getD j 0))))) _ ((y.ou (by omega) (by omega)).pu _) (z_at_pu_s _ _ _) (hv1.out _) (by rw [if_pos hz]; exact ⟨va_up_self _ _ _, trivial⟩)
    rw [if_pos hz] at fin
    generalize zri (fun j => w.getD j 0) = v at *
    simp (disch := first | omega | assumption | exact zq_r _ | exact zn_0 | exact zo_i _ | exact zo_r _ | exact zq_k _ | exact zq_n | exact zn_1 _ | exact zn_2 _ _ | exact zn_3 _ _ _ | exact zn_4 _ _ _ _ | exact zn_5 _ _ _ _ _ | exact zc_i _ | exact zc_r _ | exact zo_l _ | exact zo_k _ | exact zo_n | exact zc_rk _ | (rw [zx_id (by omega)]; omega) | (rw [zw_id (by omega)]; omega) | (apply z_ok_v; assumption) | (simp only [z_new_1, z_pu_1, mh_1]; omega)) only [z_EvO_some, z_EvG_t, z_Bk_n, z_Bk_s, z_brT, z_brF, z_br_pos, z_br_neg, not_true_eq_false, not_false_eq_true, Bool.true_eq_false, Bool.false_eq_true, Bool.not_eq_false, Bool.not_eq_true, eq_self, z_kl_i, z_kl_l, z_kl_r, z_kl_k, z_kl_n, z_kl_u, z_kl_v, zi_f, zl_f, z_put_r, z_nul_n, z_nul_r, zcmp_lt, zcmp_le, zcmp_ge, zcmp_gt, zcmp_eq, zw_id, zx_id, Nat.reduceAdd, z_tf_i, z_tf_l, z_tf_z, zl_zx, zi_zw, z_gf0, z_gf1, z_gf2, z_gf3, z_gf4, z_gf5, z_gf6, z_gf7, z_pf0, z_pf1, z_pf2, z_pf3, z_pf4, z_pf5, z_pf6, z_pf7, z_ob1, zb_0, zb_1, zb_tf, r213_0, r213_1, r213_2, r213_3, r213_6, r213_7, r213_10, r213_11, r213_12, r213_13, r213_14, hu1, zg_sl_A, Int.reduceToNat]
    exact fin
  · rw [if_neg hz, z_Bk_x zHn.2.2.2.2.2.2.2.2]
    have hh := hv1.thr 13
    have y2 := y.trans hh.2
    have fin := kk _ u (y2.ou (by omega) (by omega)) (by rw [y2.2.2.2.2.1 62 (by omega)]; exact hu) hh.1 (by rw [if_neg hz]; trivial)
    rw [if_neg hz] at fin
    simp (disch := first | omega | assumption | exact zq_r _ | exact zn_0 | exact zo_i _ | exact zo_r _ | exact zq_k _ | exact zq_n | exact zn_1 _ | exact zn_2 _ _ | exact zn_3 _ _ _ | exact zn_4 _ _ _ _ | exact zn_5 _ _ _ _ _ | exact zc_i _ | exact zc_r _ | exact zo_l _ | exact zo_k _ | exact zo_n | exact zc_rk _ | (rw [zx_id (by omega)]; omega) | (rw [zw_id (by omega)]; omega) | (apply z_ok_v; assumption) | (simp only [z_new_1, z_pu_1, mh_1]; omega)) only [z_EvO_some, z_EvG_t, z_Bk_n, z_Bk_s, z_brT, z_brF, z_br_pos, z_br_neg, not_true_eq_false, not_false_eq_true, Bool.true_eq_false, Bool.false_eq_true, Bool.not_eq_false, Bool.not_eq_true, eq_self, z_kl_i, z_kl_l, z_kl_r, z_kl_k, z_kl_n, z_kl_u, z_kl_v, zi_f, zl_f, z_put_r, z_nul_n, z_nul_r, zcmp_lt, zcmp_le, zcmp_ge, zcmp_gt, zcmp_eq, zw_id, zx_id, Nat.reduceAdd, z_tf_i, z_tf_l, z_tf_z, zl_zx, zi_zw, z_gf0, z_gf1, z_gf2, z_gf3, z_gf4, z_gf5, z_gf6, z_gf7, z_pf0, z_pf1, z_pf2, z_pf3, z_pf4, z_pf5, z_pf6, z_pf7, z_ob1, zb_0, zb_1, zb_tf, r213_0, r213_1, r213_2, r213_3, r213_6, r213_7, r213_10, r213_11, r213_12, r213_13, r213_14]
    exact fin
end ZHl
