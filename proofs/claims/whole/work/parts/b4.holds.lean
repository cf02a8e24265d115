/-! holds and letter -/
def zCI (s : Nat) (h : zH) (G : Nat → Nat → Int) (Es : List zEr) (Ks : Nat → List Int) (Rs : Nat → List zRu) : Prop := zFr h ∧ zLk h ∧ 63 ≤ h.1 ∧ zCB s h Es Ks Rs ∧ zOk Es Ks Rs ∧ zOc Es Rs ∧ G 0 3 = Es.length
section ZHo
variable {s k : Nat} {h : zH} {G : Nat → Nat → Int} {Es : List zEr} {Ks : Nat → List Int} {Rs : Nat → List zRu} {Q : zO → zH → Prop} {f : Nat → Int} {g : Nat → Nat → Int} {t q j i : Int} {ks : List Int} {rs : List zRu} {a : Nat} {E : zEr}
theorem zCI.S (hi : zCI s h G Es Ks Rs) : zCS (ch h G) Es Ks Rs := hi.2.2.2.1.toS hi.1 (zLk.lit (h := ch h G) hi.2.1) hi.2.2.2.2.2.2
theorem zCI.frc (hi : zCI s h G Es Ks Rs) : zFr (ch h G) := by
  intro a ha
  have h1 : h.1 ≤ a := ha
  have := hi.2.2.1
  rw [cat_o (by omega)]
  exact hi.1 a h1
theorem zRk.offch {R : zRu} (hs : zRk s (ch h G) a R) (hF : zFr (ch h G)) : zRk s h a R := hs.ag (fun x hx _ => (cat_o (by unfold zok3 at hx; omega)).symm) hF
theorem t26k (hs : zRB s h k ks rs) (hk : zKok ks rs) (hj : 0 ≤ j ∧ j < ks.length)
    (kk : ∀ a, zRk s h a (zrl rs (ks.getD j.toNat 0)) → Q (.inl (some (.ref a))) h) : z_Cl 26 [.ref (12 + 3 * k), zi j] h Q := by
  obtain ⟨P, K, h1, h2, h3, h4, h5, h6, h7⟩ := hs
  have e1 := h6 j.toNat (by omega)
  have e2 := (hk.2.1 j.toNat (by omega)).1
  have h0 := Int.emod_nonneg (ks.getD j.toNat 0) (show (8 : Int) ≠ 0 by decide)
  obtain ⟨a, e3, e4⟩ := h7 (ks.getD j.toNat 0 % 8).toNat (by omega)
  have e5 : zg_aq (zQA 8 6 P) (ks.getD j.toNat 0 % 8) = some (.ref a) := by
    show z_aq _ _ = _
    rw [z_aq_A (by omega) (by omega) (by omega), e3]
    rfl
  simp (disch := first | omega | assumption | exact zq_r _ | exact zn_0 | exact zo_i _ | exact zo_r _ | exact zq_k _ | exact zq_n | exact zn_1 _ | exact zn_2 _ _ | exact zn_3 _ _ _ | exact zn_4 _ _ _ _ | exact zn_5 _ _ _ _ _ | exact zc_i _ | exact zc_r _ | exact zo_l _ | exact zo_k _ | exact zo_n | exact zc_rk _ | (rw [zx_id (by omega)]; omega) | (rw [zw_id (by omega)]; omega) | (apply z_ok_v; assumption) | (simp only [z_new_1, z_pu_1, mh_1]; omega)) only [z_EvO_some, z_EvG_t, z_Bk_n, z_Bk_s, z_brT, z_brF, z_br_pos, z_br_neg, not_true_eq_false, not_false_eq_true, Bool.true_eq_false, Bool.false_eq_true, Bool.not_eq_false, Bool.not_eq_true, eq_self, z_kl_i, z_kl_l, z_kl_r, z_kl_k, z_kl_n, z_kl_u, z_kl_v, zi_f, zl_f, z_put_r, z_nul_n, z_nul_r, zcmp_lt, zcmp_le, zcmp_ge, zcmp_gt, zcmp_eq, zw_id, zx_id, Nat.reduceAdd, z_tf_i, z_tf_l, z_tf_z, zl_zx, zi_zw, z_gf0, z_gf1, z_gf2, z_gf3, z_gf4, z_gf5, z_gf6, z_gf7, z_pf0, z_pf1, z_pf2, z_pf3, z_pf4, z_pf5, z_pf6, z_pf7, z_ob1, zb_0, zb_1, zb_tf, e26, r26_0, r26_1, r26_4, r26_5, r26_6, r26_9, r26_12, r26_13, r26_14, r26_15, r26_18, r26_19, r26_20, r26_23, r26_24, r26_25, r26_26, r26_27, r26_28, r26_31, r26_34, r26_35, r26_38, r26_39, r26_40, r26_43, r26_44, h1, h2, h3, zg_al_A, e1, z_and7, e5]
  exact kk a e4
theorem t136k (hi : zCI s h G Es Ks Rs) (he : zEk s h a E) (hE : zEok E) (ht : -9223372036854775808 ≤ t ∧ t ≤ 9223372036854775807)
    (kk : ∀ v, zRw s h v (zru Ks Rs E t) → Q (.inl (some v)) (ch h G)) : z_Cl 136 [.ref 0, .ref a, zl t] (ch h G) Q := by
  obtain ⟨PE, fc, h1, h2, h3, h4, h5, h6⟩ := id hi.S
  obtain ⟨hF, hLk, h63, hCB, ho, hoc, hG⟩ := id hi
  obtain ⟨PE', d1, d2, d3, d4, d5⟩ := hCB.onch (G := G) hF
  obtain ⟨c, p, ss, -, a1, a2, a3⟩ := id (he.onch (G := G) hF)
  have r2 := hE.1
  have r4 := hE.2.1
  by_cases hc : E.1 1 < 0
  · have e1 : E.1 1 = -1 := by omega
    have := kk .null (by unfold zru; rw [if_pos hc]; rfl)
    simp (disch := first | omega | assumption | exact zq_r _ | exact zn_0 | exact zo_i _ | exact zo_r _ | exact zq_k _ | exact zq_n | exact zn_1 _ | exact zn_2 _ _ | exact zn_3 _ _ _ | exact zn_4 _ _ _ _ | exact zn_5 _ _ _ _ _ | exact zc_i _ | exact zc_r _ | exact zo_l _ | exact zo_k _ | exact zo_n | exact zc_rk _ | (rw [zx_id (by omega)]; omega) | (rw [zw_id (by omega)]; omega) | (apply z_ok_v; assumption) | (simp only [z_new_1, z_pu_1, mh_1]; omega)) only [z_EvO_some, z_EvG_t, z_Bk_n, z_Bk_s, z_brT, z_brF, z_br_pos, z_br_neg, not_true_eq_false, not_false_eq_true, Bool.true_eq_false, Bool.false_eq_true, Bool.not_eq_false, Bool.not_eq_true, eq_self, z_kl_i, z_kl_l, z_kl_r, z_kl_k, z_kl_n, z_kl_u, z_kl_v, zi_f, zl_f, z_put_r, z_nul_n, z_nul_r, zcmp_lt, zcmp_le, zcmp_ge, zcmp_gt, zcmp_eq, zw_id, zx_id, Nat.reduceAdd, z_tf_i, z_tf_l, z_tf_z, zl_zx, zi_zw, z_gf0, z_gf1, z_gf2, z_gf3, z_gf4, z_gf5, z_gf6, z_gf7, z_pf0, z_pf1, z_pf2, z_pf3, z_pf4, z_pf5, z_pf6, z_pf7, z_ob1, zb_0, zb_1, zb_tf, e136, r136_0, r136_1, r136_4, r136_5, r136_8, r136_9, r136_10, r136_11, r136_14, r136_15, r136_18, r136_19, r136_21, r136_23, r136_25, r136_26, r136_27, r136_30, r136_33, r136_36, a1]
    exact this
  · have hS := h6 (E.1 1).toNat (by omega)
    have hB := d5 (E.1 1).toNat (by omega)
    have hk := ho.2 (E.1 1).toNat (by omega)
    have hl : (Ks (E.1 1).toNat).length ≤ 408 := by obtain ⟨rr, ff, P, K, g1, g2, g3, g4, g5, g6, g7⟩ := id hS; exact g5
    have r6 : zlt (Ks (E.1 1).toNat) (Rs (E.1 1).toNat) (E.1 0) t = -1 ∨ (0 ≤ zlt (Ks (E.1 1).toNat) (Rs (E.1 1).toNat) (E.1 0) t ∧ zlt (Ks (E.1 1).toNat) (Rs (E.1 1).toNat) (E.1 0) t < (Ks (E.1 1).toNat).length) := zlf_r _ _
    simp (disch := first | omega | assumption | exact zq_r _ | exact zn_0 | exact zo_i _ | exact zo_r _ | exact zq_k _ | exact zq_n | exact zn_1 _ | exact zn_2 _ _ | exact zn_3 _ _ _ | exact zn_4 _ _ _ _ | exact zn_5 _ _ _ _ _ | exact zc_i _ | exact zc_r _ | exact zo_l _ | exact zo_k _ | exact zo_n | exact zc_rk _ | (rw [zx_id (by omega)]; omega) | (rw [zw_id (by omega)]; omega) | (apply z_ok_v; assumption) | (simp only [z_new_1, z_pu_1, mh_1]; omega)) only [z_EvO_some, z_EvG_t, z_Bk_n, z_Bk_s, z_brT, z_brF, z_br_pos, z_br_neg, not_true_eq_false, not_false_eq_true, Bool.true_eq_false, Bool.false_eq_true, Bool.not_eq_false, Bool.not_eq_true, eq_self, z_kl_i, z_kl_l, z_kl_r, z_kl_k, z_kl_n, z_kl_u, z_kl_v, zi_f, zl_f, z_put_r, z_nul_n, z_nul_r, zcmp_lt, zcmp_le, zcmp_ge, zcmp_gt, zcmp_eq, zw_id, zx_id, Nat.reduceAdd, z_tf_i, z_tf_l, z_tf_z, zl_zx, zi_zw, z_gf0, z_gf1, z_gf2, z_gf3, z_gf4, z_gf5, z_gf6, z_gf7, z_pf0, z_pf1, z_pf2, z_pf3, z_pf4, z_pf5, z_pf6, z_pf7, z_ob1, zb_0, zb_1, zb_tf, e136, r136_0, r136_1, r136_4, r136_5, r136_8, r136_9, r136_10, r136_11, r136_14, r136_15, r136_18, r136_19, r136_21, r136_23, r136_25, r136_26, r136_27, r136_30, r136_33, r136_36, a1, h1, h2, zS3_at, zRS_ob hS, t122 hS hk]
    by_cases hj : zlt (Ks (E.1 1).toNat) (Rs (E.1 1).toNat) (E.1 0) t < 0
    · have := kk .null (by unfold zru; rw [if_neg hc, if_pos hj]; rfl)
      rw [t26n hS (by omega)]
      simp (disch := first | omega | assumption | exact zq_r _ | exact zn_0 | exact zo_i _ | exact zo_r _ | exact zq_k _ | exact zq_n | exact zn_1 _ | exact zn_2 _ _ | exact zn_3 _ _ _ | exact zn_4 _ _ _ _ | exact zn_5 _ _ _ _ _ | exact zc_i _ | exact zc_r _ | exact zo_l _ | exact zo_k _ | exact zo_n | exact zc_rk _ | (rw [zx_id (by omega)]; omega) | (rw [zw_id (by omega)]; omega) | (apply z_ok_v; assumption) | (simp only [z_new_1, z_pu_1, mh_1]; omega)) only [z_EvO_some, z_EvG_t, z_Bk_n, z_Bk_s, z_brT, z_brF, z_br_pos, z_br_neg, not_true_eq_false, not_false_eq_true, Bool.true_eq_false, Bool.false_eq_true, Bool.not_eq_false, Bool.not_eq_true, eq_self, z_kl_i, z_kl_l, z_kl_r, z_kl_k, z_kl_n, z_kl_u, z_kl_v, zi_f, zl_f, z_put_r, z_nul_n, z_nul_r, zcmp_lt, zcmp_le, zcmp_ge, zcmp_gt, zcmp_eq, zw_id, zx_id, Nat.reduceAdd, z_tf_i, z_tf_l, z_tf_z, zl_zx, zi_zw, z_gf0, z_gf1, z_gf2, z_gf3, z_gf4, z_gf5, z_gf6, z_gf7, z_pf0, z_pf1, z_pf2, z_pf3, z_pf4, z_pf5, z_pf6, z_pf7, z_ob1, zb_0, zb_1, zb_tf, r136_0, r136_1, r136_4, r136_5, r136_8, r136_9, r136_10, r136_11, r136_14, r136_15, r136_18, r136_19, r136_21, r136_23, r136_25, r136_26, r136_27, r136_30, r136_33, r136_36]
      exact this
    · refine t26k hB hk (by omega) (fun b hb => ?_)
      have := kk (.ref b) (by unfold zru; rw [if_neg hc, if_neg hj]; exact ⟨b, rfl, hb.offch hi.frc⟩)
      simp (disch := first | omega | assumption | exact zq_r _ | exact zn_0 | exact zo_i _ | exact zo_r _ | exact zq_k _ | exact zq_n | exact zn_1 _ | exact zn_2 _ _ | exact zn_3 _ _ _ | exact zn_4 _ _ _ _ | exact zn_5 _ _ _ _ _ | exact zc_i _ | exact zc_r _ | exact zo_l _ | exact zo_k _ | exact zo_n | exact zc_rk _ | (rw [zx_id (by omega)]; omega) | (rw [zw_id (by omega)]; omega) | (apply z_ok_v; assumption) | (simp only [z_new_1, z_pu_1, mh_1]; omega)) only [z_EvO_some, z_EvG_t, z_Bk_n, z_Bk_s, z_brT, z_brF, z_br_pos, z_br_neg, not_true_eq_false, not_false_eq_true, Bool.true_eq_false, Bool.false_eq_true, Bool.not_eq_false, Bool.not_eq_true, eq_self, z_kl_i, z_kl_l, z_kl_r, z_kl_k, z_kl_n, z_kl_u, z_kl_v, zi_f, zl_f, z_put_r, z_nul_n, z_nul_r, zcmp_lt, zcmp_le, zcmp_ge, zcmp_gt, zcmp_eq, zw_id, zx_id, Nat.reduceAdd, z_tf_i, z_tf_l, z_tf_z, zl_zx, zi_zw, z_gf0, z_gf1, z_gf2, z_gf3, z_gf4, z_gf5, z_gf6, z_gf7, z_pf0, z_pf1, z_pf2, z_pf3, z_pf4, z_pf5, z_pf6, z_pf7, z_ob1, zb_0, zb_1, zb_tf, r136_0, r136_1, r136_4, r136_5, r136_8, r136_9, r136_10, r136_11, r136_14, r136_15, r136_18, r136_19, r136_21, r136_23, r136_25, r136_26, r136_27, r136_30, r136_33, r136_36]
      exact this
/-- what holds answers -/
def zhA (Ks : Nat → List Int) (Rs : Nat → List zRu) (Es : List zEr) (t q : Int) : Int := if q = 0 then zoff Ks Rs Es t else if q = 1 then (if zhS Ks Rs Es t = 0 then 0 else 1) else zen Ks Rs Es t
theorem t147 (hi : zCI s h G Es Ks Rs) (ht : -9223372036854775808 ≤ t ∧ t ≤ 9223372036854775807) (hq : -2147483648 ≤ q ∧ q ≤ 2147483647) : z_Cl 147 [.ref 0, zl t, zi q] (ch h G) Q = (if Es.length = 0 then Q (.inr h.1) (z_new (ch h G) 6 (.inr (12, []))) else if q < 0 ∨ 2 < q then Q (.inr h.1) (z_new (ch h G) 6 (.inr (13, []))) else Q (.inl (some (zi (zhA Ks Rs Es t q)))) (ch h G)) := by
  have hs := hi.S
  obtain ⟨PE, fc, h1, h2, h3, h4, h5, h6⟩ := id hs
  have ho := hi.2.2.2.2.1
  by_cases h0 : Es.length = 0
  · rw [if_pos h0]
    simp (disch := first | omega | assumption | exact zq_r _ | exact zn_0 | exact zo_i _ | exact zo_r _ | exact zq_k _ | exact zq_n | exact zn_1 _ | exact zn_2 _ _ | exact zn_3 _ _ _ | exact zn_4 _ _ _ _ | exact zn_5 _ _ _ _ _ | exact zc_i _ | exact zc_r _ | exact zo_l _ | exact zo_k _ | exact zo_n | exact zc_rk _ | (rw [zx_id (by omega)]; omega) | (rw [zw_id (by omega)]; omega) | (apply z_ok_v; assumption) | (simp only [z_new_1, z_pu_1, mh_1]; omega)) only [z_EvO_some, z_EvG_t, z_Bk_n, z_Bk_s, z_brT, z_brF, z_br_pos, z_br_neg, not_true_eq_false, not_false_eq_true, Bool.true_eq_false, Bool.false_eq_true, Bool.not_eq_false, Bool.not_eq_true, eq_self, z_kl_i, z_kl_l, z_kl_r, z_kl_k, z_kl_n, z_kl_u, z_kl_v, zi_f, zl_f, z_put_r, z_nul_n, z_nul_r, zcmp_lt, zcmp_le, zcmp_ge, zcmp_gt, zcmp_eq, zw_id, zx_id, Nat.reduceAdd, z_tf_i, z_tf_l, z_tf_z, zl_zx, zi_zw, z_gf0, z_gf1, z_gf2, z_gf3, z_gf4, z_gf5, z_gf6, z_gf7, z_pf0, z_pf1, z_pf2, z_pf3, z_pf4, z_pf5, z_pf6, z_pf7, z_ob1, zb_0, zb_1, zb_tf, e147, r147_0, r147_1, r147_4, r147_7, r147_10, r147_15, r147_16, r147_19, r147_20, r147_21, r147_24, r147_27, r147_32, r147_33, r147_34, r147_37, r147_39, r147_40, r147_41, r147_44, r147_46, r147_47, r147_48, r147_51, r147_53, r147_54, r147_56, r147_57, r147_59, r147_60, r147_63, r147_65, r147_66, r147_69, r147_71, r147_73, r147_76, r147_77, r147_79, r147_81, r147_84, r147_87, r147_88, r147_91, r147_92, h1]
    rfl
  · rw [if_neg h0]
    by_cases hb : q < 0 ∨ 2 < q
    · rw [if_pos hb]
      rcases hb with hb | hb
      · simp (disch := first | omega | assumption | exact zq_r _ | exact zn_0 | exact zo_i _ | exact zo_r _ | exact zq_k _ | exact zq_n | exact zn_1 _ | exact zn_2 _ _ | exact zn_3 _ _ _ | exact zn_4 _ _ _ _ | exact zn_5 _ _ _ _ _ | exact zc_i _ | exact zc_r _ | exact zo_l _ | exact zo_k _ | exact zo_n | exact zc_rk _ | (rw [zx_id (by omega)]; omega) | (rw [zw_id (by omega)]; omega) | (apply z_ok_v; assumption) | (simp only [z_new_1, z_pu_1, mh_1]; omega)) only [z_EvO_some, z_EvG_t, z_Bk_n, z_Bk_s, z_brT, z_brF, z_br_pos, z_br_neg, not_true_eq_false, not_false_eq_true, Bool.true_eq_false, Bool.false_eq_true, Bool.not_eq_false, Bool.not_eq_true, eq_self, z_kl_i, z_kl_l, z_kl_r, z_kl_k, z_kl_n, z_kl_u, z_kl_v, zi_f, zl_f, z_put_r, z_nul_n, z_nul_r, zcmp_lt, zcmp_le, zcmp_ge, zcmp_gt, zcmp_eq, zw_id, zx_id, Nat.reduceAdd, z_tf_i, z_tf_l, z_tf_z, zl_zx, zi_zw, z_gf0, z_gf1, z_gf2, z_gf3, z_gf4, z_gf5, z_gf6, z_gf7, z_pf0, z_pf1, z_pf2, z_pf3, z_pf4, z_pf5, z_pf6, z_pf7, z_ob1, zb_0, zb_1, zb_tf, e147, r147_0, r147_1, r147_4, r147_7, r147_10, r147_15, r147_16, r147_19, r147_20, r147_21, r147_24, r147_27, r147_32, r147_33, r147_34, r147_37, r147_39, r147_40, r147_41, r147_44, r147_46, r147_47, r147_48, r147_51, r147_53, r147_54, r147_56, r147_57, r147_59, r147_60, r147_63, r147_65, r147_66, r147_69, r147_71, r147_73, r147_76, r147_77, r147_79, r147_81, r147_84, r147_87, r147_88, r147_91, r147_92, h1]
        rfl
      · simp (disch := first | omega | assumption | exact zq_r _ | exact zn_0 | exact zo_i _ | exact zo_r _ | exact zq_k _ | exact zq_n | exact zn_1 _ | exact zn_2 _ _ | exact zn_3 _ _ _ | exact zn_4 _ _ _ _ | exact zn_5 _ _ _ _ _ | exact zc_i _ | exact zc_r _ | exact zo_l _ | exact zo_k _ | exact zo_n | exact zc_rk _ | (rw [zx_id (by omega)]; omega) | (rw [zw_id (by omega)]; omega) | (apply z_ok_v; assumption) | (simp only [z_new_1, z_pu_1, mh_1]; omega)) only [z_EvO_some, z_EvG_t, z_Bk_n, z_Bk_s, z_brT, z_brF, z_br_pos, z_br_neg, not_true_eq_false, not_false_eq_true, Bool.true_eq_false, Bool.false_eq_true, Bool.not_eq_false, Bool.not_eq_true, eq_self, z_kl_i, z_kl_l, z_kl_r, z_kl_k, z_kl_n, z_kl_u, z_kl_v, zi_f, zl_f, z_put_r, z_nul_n, z_nul_r, zcmp_lt, zcmp_le, zcmp_ge, zcmp_gt, zcmp_eq, zw_id, zx_id, Nat.reduceAdd, z_tf_i, z_tf_l, z_tf_z, zl_zx, zi_zw, z_gf0, z_gf1, z_gf2, z_gf3, z_gf4, z_gf5, z_gf6, z_gf7, z_pf0, z_pf1, z_pf2, z_pf3, z_pf4, z_pf5, z_pf6, z_pf7, z_ob1, zb_0, zb_1, zb_tf, e147, r147_0, r147_1, r147_4, r147_7, r147_10, r147_15, r147_16, r147_19, r147_20, r147_21, r147_24, r147_27, r147_32, r147_33, r147_34, r147_37, r147_39, r147_40, r147_41, r147_44, r147_46, r147_47, r147_48, r147_51, r147_53, r147_54, r147_56, r147_57, r147_59, r147_60, r147_63, r147_65, r147_66, r147_69, r147_71, r147_73, r147_76, r147_77, r147_79, r147_81, r147_84, r147_87, r147_88, r147_91, r147_92, h1]
        rfl
    · rw [if_neg hb]
      have hz : zen Ks Rs Es t ≤ Es.length - 1 := zff_r _ _ _
      obtain ⟨a, b1, b2⟩ := h5 (zen Ks Rs Es t) (by omega)
      obtain ⟨c, p, ss, a1, a2, a3⟩ := id b2
      have hE := ho.E (i := zen Ks Rs Es t) (by omega)
      have e5 : zg_aq (zQA 7 4 PE) ((zen Ks Rs Es t : Nat) : Int) = some (.ref a) := by
        show z_aq _ _ = _
        rw [z_aq_A (by omega) (by omega) (by omega), Int.toNat_natCast, b1]
        rfl
      apply z_Cl_eq
      unfold zhA
      by_cases q2 : q = 2
      · rw [if_neg (by omega), if_neg (by omega)]
        simp (disch := first | omega | assumption | exact zq_r _ | exact zn_0 | exact zo_i _ | exact zo_r _ | exact zq_k _ | exact zq_n | exact zn_1 _ | exact zn_2 _ _ | exact zn_3 _ _ _ | exact zn_4 _ _ _ _ | exact zn_5 _ _ _ _ _ | exact zc_i _ | exact zc_r _ | exact zo_l _ | exact zo_k _ | exact zo_n | exact zc_rk _ | (rw [zx_id (by omega)]; omega) | (rw [zw_id (by omega)]; omega) | (apply z_ok_v; assumption) | (simp only [z_new_1, z_pu_1, mh_1]; omega)) only [z_EvO_some, z_EvG_t, z_Bk_n, z_Bk_s, z_brT, z_brF, z_br_pos, z_br_neg, not_true_eq_false, not_false_eq_true, Bool.true_eq_false, Bool.false_eq_true, Bool.not_eq_false, Bool.not_eq_true, eq_self, z_kl_i, z_kl_l, z_kl_r, z_kl_k, z_kl_n, z_kl_u, z_kl_v, zi_f, zl_f, z_put_r, z_nul_n, z_nul_r, zcmp_lt, zcmp_le, zcmp_ge, zcmp_gt, zcmp_eq, zw_id, zx_id, Nat.reduceAdd, z_tf_i, z_tf_l, z_tf_z, zl_zx, zi_zw, z_gf0, z_gf1, z_gf2, z_gf3, z_gf4, z_gf5, z_gf6, z_gf7, z_pf0, z_pf1, z_pf2, z_pf3, z_pf4, z_pf5, z_pf6, z_pf7, z_ob1, zb_0, zb_1, zb_tf, e147, r147_0, r147_1, r147_4, r147_7, r147_10, r147_15, r147_16, r147_19, r147_20, r147_21, r147_24, r147_27, r147_32, r147_33, r147_34, r147_37, r147_39, r147_40, r147_41, r147_44, r147_46, r147_47, r147_48, r147_51, r147_53, r147_54, r147_56, r147_57, r147_59, r147_60, r147_63, r147_65, r147_66, r147_69, r147_71, r147_73, r147_76, r147_77, r147_79, r147_81, r147_84, r147_87, r147_88, r147_91, r147_92, h1, t134 hs ho (by omega) ht]
        exact ⟨trivial, trivial⟩
      · simp (disch := first | omega | assumption | exact zq_r _ | exact zn_0 | exact zo_i _ | exact zo_r _ | exact zq_k _ | exact zq_n | exact zn_1 _ | exact zn_2 _ _ | exact zn_3 _ _ _ | exact zn_4 _ _ _ _ | exact zn_5 _ _ _ _ _ | exact zc_i _ | exact zc_r _ | exact zo_l _ | exact zo_k _ | exact zo_n | exact zc_rk _ | (rw [zx_id (by omega)]; omega) | (rw [zw_id (by omega)]; omega) | (apply z_ok_v; assumption) | (simp only [z_new_1, z_pu_1, mh_1]; omega)) only [z_EvO_some, z_EvG_t, z_Bk_n, z_Bk_s, z_brT, z_brF, z_br_pos, z_br_neg, not_true_eq_false, not_false_eq_true, Bool.true_eq_false, Bool.false_eq_true, Bool.not_eq_false, Bool.not_eq_true, eq_self, z_kl_i, z_kl_l, z_kl_r, z_kl_k, z_kl_n, z_kl_u, z_kl_v, zi_f, zl_f, z_put_r, z_nul_n, z_nul_r, zcmp_lt, zcmp_le, zcmp_ge, zcmp_gt, zcmp_eq, zw_id, zx_id, Nat.reduceAdd, z_tf_i, z_tf_l, z_tf_z, zl_zx, zi_zw, z_gf0, z_gf1, z_gf2, z_gf3, z_gf4, z_gf5, z_gf6, z_gf7, z_pf0, z_pf1, z_pf2, z_pf3, z_pf4, z_pf5, z_pf6, z_pf7, z_ob1, zb_0, zb_1, zb_tf, e147, r147_0, r147_1, r147_4, r147_7, r147_10, r147_15, r147_16, r147_19, r147_20, r147_21, r147_24, r147_27, r147_32, r147_33, r147_34, r147_37, r147_39, r147_40, r147_41, r147_44, r147_46, r147_47, r147_48, r147_51, r147_53, r147_54, r147_56, r147_57, r147_59, r147_60, r147_63, r147_65, r147_66, r147_69, r147_71, r147_73, r147_76, r147_77, r147_79, r147_81, r147_84, r147_87, r147_88, r147_91, r147_92, h1, h3, t134 hs ho (by omega) ht, e5]
        refine t136 hs ho b2 hE ht (fun v hv => ?_)
        have hrf := hv.rf
        have rv := zsv_r hE (o := zru Ks Rs (Es.getD (zen Ks Rs Es t) zE0) t) (fun R hR => zru_ok hE ho.2 hR)
        by_cases q0 : q = 0
        · rw [if_pos q0]
          simp (disch := first | omega | assumption | exact zq_r _ | exact zn_0 | exact zo_i _ | exact zo_r _ | exact zq_k _ | exact zq_n | exact zn_1 _ | exact zn_2 _ _ | exact zn_3 _ _ _ | exact zn_4 _ _ _ _ | exact zn_5 _ _ _ _ _ | exact zc_i _ | exact zc_r _ | exact zo_l _ | exact zo_k _ | exact zo_n | exact zc_rk _ | (rw [zx_id (by omega)]; omega) | (rw [zw_id (by omega)]; omega) | (apply z_ok_v; assumption) | (simp only [z_new_1, z_pu_1, mh_1]; omega)) only [z_EvO_some, z_EvG_t, z_Bk_n, z_Bk_s, z_brT, z_brF, z_br_pos, z_br_neg, not_true_eq_false, not_false_eq_true, Bool.true_eq_false, Bool.false_eq_true, Bool.not_eq_false, Bool.not_eq_true, eq_self, z_kl_i, z_kl_l, z_kl_r, z_kl_k, z_kl_n, z_kl_u, z_kl_v, zi_f, zl_f, z_put_r, z_nul_n, z_nul_r, zcmp_lt, zcmp_le, zcmp_ge, zcmp_gt, zcmp_eq, zw_id, zx_id, Nat.reduceAdd, z_tf_i, z_tf_l, z_tf_z, zl_zx, zi_zw, z_gf0, z_gf1, z_gf2, z_gf3, z_gf4, z_gf5, z_gf6, z_gf7, z_pf0, z_pf1, z_pf2, z_pf3, z_pf4, z_pf5, z_pf6, z_pf7, z_ob1, zb_0, zb_1, zb_tf, r147_0, r147_1, r147_4, r147_7, r147_10, r147_15, r147_16, r147_19, r147_20, r147_21, r147_24, r147_27, r147_32, r147_33, r147_34, r147_37, r147_39, r147_40, r147_41, r147_44, r147_46, r147_47, r147_48, r147_51, r147_53, r147_54, r147_56, r147_57, r147_59, r147_60, r147_63, r147_65, r147_66, r147_69, r147_71, r147_73, r147_76, r147_77, r147_79, r147_81, r147_84, r147_87, r147_88, r147_91, r147_92, a1, t80 b2 hE hv (fun R hR => zru_ok hE ho.2 hR)]
          exact ⟨rfl, trivial⟩
        · rw [if_neg q0, if_pos (by omega)]
          have eS : zhS Ks Rs Es t = zsv (Es.getD (zen Ks Rs Es t) zE0) (zru Ks Rs (Es.getD (zen Ks Rs Es t) zE0) t) := rfl
          rw [eS]
          by_cases hz0 : zsv (Es.getD (zen Ks Rs Es t) zE0) (zru Ks Rs (Es.getD (zen Ks Rs Es t) zE0) t) = 0
          · rw [if_pos hz0]
            simp (disch := first | omega | assumption | exact zq_r _ | exact zn_0 | exact zo_i _ | exact zo_r _ | exact zq_k _ | exact zq_n | exact zn_1 _ | exact zn_2 _ _ | exact zn_3 _ _ _ | exact zn_4 _ _ _ _ | exact zn_5 _ _ _ _ _ | exact zc_i _ | exact zc_r _ | exact zo_l _ | exact zo_k _ | exact zo_n | exact zc_rk _ | (rw [zx_id (by omega)]; omega) | (rw [zw_id (by omega)]; omega) | (apply z_ok_v; assumption) | (simp only [z_new_1, z_pu_1, mh_1]; omega)) only [z_EvO_some, z_EvG_t, z_Bk_n, z_Bk_s, z_brT, z_brF, z_br_pos, z_br_neg, not_true_eq_false, not_false_eq_true, Bool.true_eq_false, Bool.false_eq_true, Bool.not_eq_false, Bool.not_eq_true, eq_self, z_kl_i, z_kl_l, z_kl_r, z_kl_k, z_kl_n, z_kl_u, z_kl_v, zi_f, zl_f, z_put_r, z_nul_n, z_nul_r, zcmp_lt, zcmp_le, zcmp_ge, zcmp_gt, zcmp_eq, zw_id, zx_id, Nat.reduceAdd, z_tf_i, z_tf_l, z_tf_z, zl_zx, zi_zw, z_gf0, z_gf1, z_gf2, z_gf3, z_gf4, z_gf5, z_gf6, z_gf7, z_pf0, z_pf1, z_pf2, z_pf3, z_pf4, z_pf5, z_pf6, z_pf7, z_ob1, zb_0, zb_1, zb_tf, r147_0, r147_1, r147_4, r147_7, r147_10, r147_15, r147_16, r147_19, r147_20, r147_21, r147_24, r147_27, r147_32, r147_33, r147_34, r147_37, r147_39, r147_40, r147_41, r147_44, r147_46, r147_47, r147_48, r147_51, r147_53, r147_54, r147_56, r147_57, r147_59, r147_60, r147_63, r147_65, r147_66, r147_69, r147_71, r147_73, r147_76, r147_77, r147_79, r147_81, r147_84, r147_87, r147_88, r147_91, r147_92, a1, t13 b2 hE hv (fun R hR => zru_ok hE ho.2 hR)]
            exact ⟨trivial, trivial⟩
          · rw [if_neg hz0]
            simp (disch := first | omega | assumption | exact zq_r _ | exact zn_0 | exact zo_i _ | exact zo_r _ | exact zq_k _ | exact zq_n | exact zn_1 _ | exact zn_2 _ _ | exact zn_3 _ _ _ | exact zn_4 _ _ _ _ | exact zn_5 _ _ _ _ _ | exact zc_i _ | exact zc_r _ | exact zo_l _ | exact zo_k _ | exact zo_n | exact zc_rk _ | (rw [zx_id (by omega)]; omega) | (rw [zw_id (by omega)]; omega) | (apply z_ok_v; assumption) | (simp only [z_new_1, z_pu_1, mh_1]; omega)) only [z_EvO_some, z_EvG_t, z_Bk_n, z_Bk_s, z_brT, z_brF, z_br_pos, z_br_neg, not_true_eq_false, not_false_eq_true, Bool.true_eq_false, Bool.false_eq_true, Bool.not_eq_false, Bool.not_eq_true, eq_self, z_kl_i, z_kl_l, z_kl_r, z_kl_k, z_kl_n, z_kl_u, z_kl_v, zi_f, zl_f, z_put_r, z_nul_n, z_nul_r, zcmp_lt, zcmp_le, zcmp_ge, zcmp_gt, zcmp_eq, zw_id, zx_id, Nat.reduceAdd, z_tf_i, z_tf_l, z_tf_z, zl_zx, zi_zw, z_gf0, z_gf1, z_gf2, z_gf3, z_gf4, z_gf5, z_gf6, z_gf7, z_pf0, z_pf1, z_pf2, z_pf3, z_pf4, z_pf5, z_pf6, z_pf7, z_ob1, zb_0, zb_1, zb_tf, r147_0, r147_1, r147_4, r147_7, r147_10, r147_15, r147_16, r147_19, r147_20, r147_21, r147_24, r147_27, r147_32, r147_33, r147_34, r147_37, r147_39, r147_40, r147_41, r147_44, r147_46, r147_47, r147_48, r147_51, r147_53, r147_54, r147_56, r147_57, r147_59, r147_60, r147_63, r147_65, r147_66, r147_69, r147_71, r147_73, r147_76, r147_77, r147_79, r147_81, r147_84, r147_87, r147_88, r147_91, r147_92, a1, t13 b2 hE hv (fun R hR => zru_ok hE ho.2 hR)]
            exact ⟨trivial, trivial⟩
theorem s16 (y : Nat → Int) (h6 : z_at h (.ref 5) = .inr (3, [.ref 6, zi j])) (hy : z_at h (.ref 6) = zA 2 13 y) (hi : -2147483648 ≤ i ∧ i ≤ 2147483647) (hb : 0 ≤ i → i < 8 → 0 ≤ y (5 + i.toNat) ∧ y (5 + i.toNat) ≤ 127) : z_Cl 16 [.ref 5, zi i] h Q = Q (.inl (some (zi (if i < 0 ∨ 8 ≤ i ∨ y (5 + i.toNat) = 0 then -1 else y (5 + i.toNat))))) h := by
  by_cases h1 : i < 0
  · rw [if_pos (Or.inl h1)]
    simp (disch := first | omega | assumption | exact zq_r _ | exact zn_0 | exact zo_i _ | exact zo_r _ | exact zq_k _ | exact zq_n | exact zn_1 _ | exact zn_2 _ _ | exact zn_3 _ _ _ | exact zn_4 _ _ _ _ | exact zn_5 _ _ _ _ _ | exact zc_i _ | exact zc_r _ | exact zo_l _ | exact zo_k _ | exact zo_n | exact zc_rk _ | (rw [zx_id (by omega)]; omega) | (rw [zw_id (by omega)]; omega) | (apply z_ok_v; assumption) | (simp only [z_new_1, z_pu_1, mh_1]; omega)) only [z_EvO_some, z_EvG_t, z_Bk_n, z_Bk_s, z_brT, z_brF, z_br_pos, z_br_neg, not_true_eq_false, not_false_eq_true, Bool.true_eq_false, Bool.false_eq_true, Bool.not_eq_false, Bool.not_eq_true, eq_self, z_kl_i, z_kl_l, z_kl_r, z_kl_k, z_kl_n, z_kl_u, z_kl_v, zi_f, zl_f, z_put_r, z_nul_n, z_nul_r, zcmp_lt, zcmp_le, zcmp_ge, zcmp_gt, zcmp_eq, zw_id, zx_id, Nat.reduceAdd, z_tf_i, z_tf_l, z_tf_z, zl_zx, zi_zw, z_gf0, z_gf1, z_gf2, z_gf3, z_gf4, z_gf5, z_gf6, z_gf7, z_pf0, z_pf1, z_pf2, z_pf3, z_pf4, z_pf5, z_pf6, z_pf7, z_ob1, zb_0, zb_1, zb_tf, e16, r16_0, r16_1, r16_4, r16_5, r16_7, r16_10, r16_11, r16_14, r16_15, r16_16, r16_17, r16_18, r16_21, r16_22, r16_23, r16_24, r16_27, r16_28, r16_29, r16_30, r16_31]
  · by_cases h2 : 8 ≤ i
    · rw [if_pos (Or.inr (Or.inl h2))]
      simp (disch := first | omega | assumption | exact zq_r _ | exact zn_0 | exact zo_i _ | exact zo_r _ | exact zq_k _ | exact zq_n | exact zn_1 _ | exact zn_2 _ _ | exact zn_3 _ _ _ | exact zn_4 _ _ _ _ | exact zn_5 _ _ _ _ _ | exact zc_i _ | exact zc_r _ | exact zo_l _ | exact zo_k _ | exact zo_n | exact zc_rk _ | (rw [zx_id (by omega)]; omega) | (rw [zw_id (by omega)]; omega) | (apply z_ok_v; assumption) | (simp only [z_new_1, z_pu_1, mh_1]; omega)) only [z_EvO_some, z_EvG_t, z_Bk_n, z_Bk_s, z_brT, z_brF, z_br_pos, z_br_neg, not_true_eq_false, not_false_eq_true, Bool.true_eq_false, Bool.false_eq_true, Bool.not_eq_false, Bool.not_eq_true, eq_self, z_kl_i, z_kl_l, z_kl_r, z_kl_k, z_kl_n, z_kl_u, z_kl_v, zi_f, zl_f, z_put_r, z_nul_n, z_nul_r, zcmp_lt, zcmp_le, zcmp_ge, zcmp_gt, zcmp_eq, zw_id, zx_id, Nat.reduceAdd, z_tf_i, z_tf_l, z_tf_z, zl_zx, zi_zw, z_gf0, z_gf1, z_gf2, z_gf3, z_gf4, z_gf5, z_gf6, z_gf7, z_pf0, z_pf1, z_pf2, z_pf3, z_pf4, z_pf5, z_pf6, z_pf7, z_ob1, zb_0, zb_1, zb_tf, e16, r16_0, r16_1, r16_4, r16_5, r16_7, r16_10, r16_11, r16_14, r16_15, r16_16, r16_17, r16_18, r16_21, r16_22, r16_23, r16_24, r16_27, r16_28, r16_29, r16_30, r16_31]
    · have e1 : (5 + i).toNat = 5 + i.toNat := by omega
      have hb' := hb (by omega) (by omega)
      by_cases h3 : y (5 + i.toNat) = 0
      · rw [if_pos (Or.inr (Or.inr h3))]
        simp (disch := first | omega | assumption | exact zq_r _ | exact zn_0 | exact zo_i _ | exact zo_r _ | exact zq_k _ | exact zq_n | exact zn_1 _ | exact zn_2 _ _ | exact zn_3 _ _ _ | exact zn_4 _ _ _ _ | exact zn_5 _ _ _ _ _ | exact zc_i _ | exact zc_r _ | exact zo_l _ | exact zo_k _ | exact zo_n | exact zc_rk _ | (rw [zx_id (by omega)]; omega) | (rw [zw_id (by omega)]; omega) | (apply z_ok_v; assumption) | (simp only [z_new_1, z_pu_1, mh_1]; omega)) only [z_EvO_some, z_EvG_t, z_Bk_n, z_Bk_s, z_brT, z_brF, z_br_pos, z_br_neg, not_true_eq_false, not_false_eq_true, Bool.true_eq_false, Bool.false_eq_true, Bool.not_eq_false, Bool.not_eq_true, eq_self, z_kl_i, z_kl_l, z_kl_r, z_kl_k, z_kl_n, z_kl_u, z_kl_v, zi_f, zl_f, z_put_r, z_nul_n, z_nul_r, zcmp_lt, zcmp_le, zcmp_ge, zcmp_gt, zcmp_eq, zw_id, zx_id, Nat.reduceAdd, z_tf_i, z_tf_l, z_tf_z, zl_zx, zi_zw, z_gf0, z_gf1, z_gf2, z_gf3, z_gf4, z_gf5, z_gf6, z_gf7, z_pf0, z_pf1, z_pf2, z_pf3, z_pf4, z_pf5, z_pf6, z_pf7, z_ob1, zb_0, zb_1, zb_tf, e16, r16_0, r16_1, r16_4, r16_5, r16_7, r16_10, r16_11, r16_14, r16_15, r16_16, r16_17, r16_18, r16_21, r16_22, r16_23, r16_24, r16_27, r16_28, r16_29, r16_30, r16_31, h6, hy, zg_ab_b, e1, h3]
      · rw [if_neg (by omega)]
        simp (disch := first | omega | assumption | exact zq_r _ | exact zn_0 | exact zo_i _ | exact zo_r _ | exact zq_k _ | exact zq_n | exact zn_1 _ | exact zn_2 _ _ | exact zn_3 _ _ _ | exact zn_4 _ _ _ _ | exact zn_5 _ _ _ _ _ | exact zc_i _ | exact zc_r _ | exact zo_l _ | exact zo_k _ | exact zo_n | exact zc_rk _ | (rw [zx_id (by omega)]; omega) | (rw [zw_id (by omega)]; omega) | (apply z_ok_v; assumption) | (simp only [z_new_1, z_pu_1, mh_1]; omega)) only [z_EvO_some, z_EvG_t, z_Bk_n, z_Bk_s, z_brT, z_brF, z_br_pos, z_br_neg, not_true_eq_false, not_false_eq_true, Bool.true_eq_false, Bool.false_eq_true, Bool.not_eq_false, Bool.not_eq_true, eq_self, z_kl_i, z_kl_l, z_kl_r, z_kl_k, z_kl_n, z_kl_u, z_kl_v, zi_f, zl_f, z_put_r, z_nul_n, z_nul_r, zcmp_lt, zcmp_le, zcmp_ge, zcmp_gt, zcmp_eq, zw_id, zx_id, Nat.reduceAdd, z_tf_i, z_tf_l, z_tf_z, zl_zx, zi_zw, z_gf0, z_gf1, z_gf2, z_gf3, z_gf4, z_gf5, z_gf6, z_gf7, z_pf0, z_pf1, z_pf2, z_pf3, z_pf4, z_pf5, z_pf6, z_pf7, z_ob1, zb_0, zb_1, zb_tf, e16, r16_0, r16_1, r16_4, r16_5, r16_7, r16_10, r16_11, r16_14, r16_15, r16_16, r16_17, r16_18, r16_21, r16_22, r16_23, r16_24, r16_27, r16_28, r16_29, r16_30, r16_31, h6, hy, zg_ab_b, e1]
/-- what letter answers -/
def zlA (Ks : Nat → List Int) (Rs : Nat → List zRu) (Es : List zEr) (t i : Int) : Int := if Es.length = 0 then -1 else if 0 ≤ i ∧ i < (zhN Ks Rs Es t).length then (zhN Ks Rs Es t).getD i.toNat 0 else -1
theorem zfn_c {fmt lt : List Int} {sv off : Int} (ho : -200000 ≤ off ∧ off ≤ 200000) (h1 : ∀ c ∈ fmt, 32 ≤ c ∧ c ≤ 126) (h2 : ∀ c ∈ lt, 32 ≤ c ∧ c ≤ 126) : ∀ c ∈ zfn fmt sv off lt, 32 ≤ c ∧ c ≤ 126 := by
  intro c hc
  have ha : 0 ≤ zab off ∧ zab off ≤ 200000 := by unfold zab; split <;> omega
  unfold zfn at hc
  split at hc
  · split at hc
    · exact h1 c (List.mem_of_mem_take hc)
    · exact h1 c (List.mem_of_mem_drop hc)
  · split at hc
    · exact h1 c hc
    · split at hc
      · unfold zot at hc
        rcases List.mem_append.mp hc with hc | hc
        · simp only [List.mem_cons, List.not_mem_nil, or_false] at hc
          rcases hc with rfl | rfl | rfl
          · split <;> omega
          · omega
          · omega
        · split at hc
          · cases hc
          · simp only [List.mem_cons, List.not_mem_nil, or_false] at hc
            rcases hc with rfl | rfl <;> omega
      · rcases List.mem_append.mp hc with hc | hc
        · exact h1 c (List.mem_of_mem_take hc)
        · rcases List.mem_append.mp hc with hc | hc
          · exact h2 c hc
          · exact h1 c (List.mem_of_mem_drop hc)
theorem zlo_c (hoc : zOc Es Rs) (ho : zOk Es Ks Rs) {E : zEr} (hE : zEok E) {t : Int} : ∀ c ∈ zlo (zru Ks Rs E t), 32 ≤ c ∧ c ≤ 126 := by
  intro c hc
  unfold zru at hc
  split at hc
  · cases hc
  · split at hc
    · cases hc
    · rename_i h1 h2
      have hs := hE.2.1
      have r6 : zlt (Ks (E.1 1).toNat) (Rs (E.1 1).toNat) (E.1 0) t = -1 ∨ (0 ≤ zlt (Ks (E.1 1).toNat) (Rs (E.1 1).toNat) (E.1 0) t ∧ zlt (Ks (E.1 1).toNat) (Rs (E.1 1).toNat) (E.1 0) t < (Ks (E.1 1).toNat).length) := zlf_r _ _
      have q6 := ((ho.2 (E.1 1).toNat (by omega)).2.1 (zlt (Ks (E.1 1).toNat) (Rs (E.1 1).toNat) (E.1 0) t).toNat (by omega)).1
      have q0 := Int.emod_nonneg ((Ks (E.1 1).toNat).getD (zlt (Ks (E.1 1).toNat) (Rs (E.1 1).toNat) (E.1 0) t).toNat 0) (show (8 : Int) ≠ 0 by decide)
      refine hoc.2 (E.1 1).toNat (by omega) _ ?_ c hc
      unfold zrl
      rw [List.getD_eq_getElem?_getD, List.getElem?_eq_getElem (by omega)]
      exact List.getElem_mem _
theorem t200 (hi : zCI s h G Es Ks Rs) (ht : -9223372036854775808 ≤ t ∧ t ≤ 9223372036854775807) (hq : -2147483648 ≤ i ∧ i ≤ 2147483647)
    (kk : ∀ G', (∀ k, k ≠ 5 → k ≠ 6 → G' k = G k) → Q (.inl (some (zi (zlA Ks Rs Es t i)))) (ch h G')) : z_Cl 200 [.ref 0, zl t, zi i] (ch h G) Q := by
  have hs := hi.S
  obtain ⟨hF, hLk, h63, hCB, ho, hoc, hG⟩ := id hi
  obtain ⟨PE, d1, d2, d3, d4, d5⟩ := id hCB
  have h3 : z_at (ch h G) (.ref 4) = zQA 7 4 PE := by rw [cat_o (by omega)]; exact d2
  by_cases h0 : Es.length = 0
  · have := kk G (fun _ _ _ => rfl)
    unfold zlA at this
    rw [if_pos h0] at this
    simp (disch := first | omega | assumption | exact zq_r _ | exact zn_0 | exact zo_i _ | exact zo_r _ | exact zq_k _ | exact zq_n | exact zn_1 _ | exact zn_2 _ _ | exact zn_3 _ _ _ | exact zn_4 _ _ _ _ | exact zn_5 _ _ _ _ _ | exact zc_i _ | exact zc_r _ | exact zo_l _ | exact zo_k _ | exact zo_n | exact zc_rk _ | (rw [zx_id (by omega)]; omega) | (rw [zw_id (by omega)]; omega) | (apply z_ok_v; assumption) | (simp only [z_new_1, z_pu_1, mh_1]; omega)) only [z_EvO_some, z_EvG_t, z_Bk_n, z_Bk_s, z_brT, z_brF, z_br_pos, z_br_neg, not_true_eq_false, not_false_eq_true, Bool.true_eq_false, Bool.false_eq_true, Bool.not_eq_false, Bool.not_eq_true, eq_self, z_kl_i, z_kl_l, z_kl_r, z_kl_k, z_kl_n, z_kl_u, z_kl_v, zi_f, zl_f, z_put_r, z_nul_n, z_nul_r, zcmp_lt, zcmp_le, zcmp_ge, zcmp_gt, zcmp_eq, zw_id, zx_id, Nat.reduceAdd, z_tf_i, z_tf_l, z_tf_z, zl_zx, zi_zw, z_gf0, z_gf1, z_gf2, z_gf3, z_gf4, z_gf5, z_gf6, z_gf7, z_pf0, z_pf1, z_pf2, z_pf3, z_pf4, z_pf5, z_pf6, z_pf7, z_ob1, zb_0, zb_1, zb_tf, cat_o, cat_k, ch_1, cgf0_0, cgf0_1, cgf0_2, cgf0_3, cpf0_3, cgf0_4, cgf0_5, cgf0_6, cgf0_7, cpf0_7, cob_0, cat_0, cpu_0, cgf5_0, cgf5_1, cpf5_1, cob_5, cat_5, cpu_5, cat_6, cpu_6, cgf7_0, cgf7_1, cpf7_1, cgf7_2, cpf7_2, cgf7_3, cpf7_3, cgf7_4, cgf7_5, cgf7_6, cpf7_6, cgf7_7, cpf7_7, cob_7, cat_7, cpu_7, cat_8, cpu_8, cat_9, cpu_9, cat_10, cpu_10, cat_11, cpu_11, zg_ai_A, zg_al_A, zg_si_A, zg_sl_A, zg_ab_b, zg_sb_b, z_len_A, z_len_L, e200, r200_0, r200_1, r200_4, r200_7, r200_8, r200_9, r200_10, r200_13, r200_14, r200_15, r200_18, r200_19, r200_21, r200_22, r200_25, r200_27, r200_28, r200_30, r200_31, r200_34, r200_37, r200_38, r200_41, r200_42, r200_45, hG]
    exact this
  · have hz : zen Ks Rs Es t ≤ Es.length - 1 := zff_r _ _ _
    obtain ⟨a, b1, b2⟩ := d4 (zen Ks Rs Es t) (by omega)
    have hE := ho.E (i := zen Ks Rs Es t) (by omega)
    have e5 : zg_aq (zQA 7 4 PE) ((zen Ks Rs Es t : Nat) : Int) = some (.ref a) := by
      show z_aq _ _ = _
      rw [z_aq_A (by omega) (by omega) (by omega), Int.toNat_natCast, b1]
      rfl
    simp (disch := first | omega | assumption | exact zq_r _ | exact zn_0 | exact zo_i _ | exact zo_r _ | exact zq_k _ | exact zq_n | exact zn_1 _ | exact zn_2 _ _ | exact zn_3 _ _ _ | exact zn_4 _ _ _ _ | exact zn_5 _ _ _ _ _ | exact zc_i _ | exact zc_r _ | exact zo_l _ | exact zo_k _ | exact zo_n | exact zc_rk _ | (rw [zx_id (by omega)]; omega) | (rw [zw_id (by omega)]; omega) | (apply z_ok_v; assumption) | (simp only [z_new_1, z_pu_1, mh_1]; omega)) only [z_EvO_some, z_EvG_t, z_Bk_n, z_Bk_s, z_brT, z_brF, z_br_pos, z_br_neg, not_true_eq_false, not_false_eq_true, Bool.true_eq_false, Bool.false_eq_true, Bool.not_eq_false, Bool.not_eq_true, eq_self, z_kl_i, z_kl_l, z_kl_r, z_kl_k, z_kl_n, z_kl_u, z_kl_v, zi_f, zl_f, z_put_r, z_nul_n, z_nul_r, zcmp_lt, zcmp_le, zcmp_ge, zcmp_gt, zcmp_eq, zw_id, zx_id, Nat.reduceAdd, z_tf_i, z_tf_l, z_tf_z, zl_zx, zi_zw, z_gf0, z_gf1, z_gf2, z_gf3, z_gf4, z_gf5, z_gf6, z_gf7, z_pf0, z_pf1, z_pf2, z_pf3, z_pf4, z_pf5, z_pf6, z_pf7, z_ob1, zb_0, zb_1, zb_tf, cat_o, cat_k, ch_1, cgf0_0, cgf0_1, cgf0_2, cgf0_3, cpf0_3, cgf0_4, cgf0_5, cgf0_6, cgf0_7, cpf0_7, cob_0, cat_0, cpu_0, cgf5_0, cgf5_1, cpf5_1, cob_5, cat_5, cpu_5, cat_6, cpu_6, cgf7_0, cgf7_1, cpf7_1, cgf7_2, cpf7_2, cgf7_3, cpf7_3, cgf7_4, cgf7_5, cgf7_6, cpf7_6, cgf7_7, cpf7_7, cob_7, cat_7, cpu_7, cat_8, cpu_8, cat_9, cpu_9, cat_10, cpu_10, cat_11, cpu_11, zg_ai_A, zg_al_A, zg_si_A, zg_sl_A, zg_ab_b, zg_sb_b, z_len_A, z_len_L, e200, r200_0, r200_1, r200_4, r200_7, r200_8, r200_9, r200_10, r200_13, r200_14, r200_15, r200_18, r200_19, r200_21, r200_22, r200_25, r200_27, r200_28, r200_30, r200_31, r200_34, r200_37, r200_38, r200_41, r200_42, r200_45, hG, h3, t134 hs ho (by omega) ht, e5]
    refine t136k hi b2 hE ht (fun v hv => ?_)
    have hrf := (hv.toV (G := G) hF hLk).rf
    simp (disch := first | omega | assumption | exact zq_r _ | exact zn_0 | exact zo_i _ | exact zo_r _ | exact zq_k _ | exact zq_n | exact zn_1 _ | exact zn_2 _ _ | exact zn_3 _ _ _ | exact zn_4 _ _ _ _ | exact zn_5 _ _ _ _ _ | exact zc_i _ | exact zc_r _ | exact zo_l _ | exact zo_k _ | exact zo_n | exact zc_rk _ | (rw [zx_id (by omega)]; omega) | (rw [zw_id (by omega)]; omega) | (apply z_ok_v; assumption) | (simp only [z_new_1, z_pu_1, mh_1]; omega)) only [z_EvO_some, z_EvG_t, z_Bk_n, z_Bk_s, z_brT, z_brF, z_br_pos, z_br_neg, not_true_eq_false, not_false_eq_true, Bool.true_eq_false, Bool.false_eq_true, Bool.not_eq_false, Bool.not_eq_true, eq_self, z_kl_i, z_kl_l, z_kl_r, z_kl_k, z_kl_n, z_kl_u, z_kl_v, zi_f, zl_f, z_put_r, z_nul_n, z_nul_r, zcmp_lt, zcmp_le, zcmp_ge, zcmp_gt, zcmp_eq, zw_id, zx_id, Nat.reduceAdd, z_tf_i, z_tf_l, z_tf_z, zl_zx, zi_zw, z_gf0, z_gf1, z_gf2, z_gf3, z_gf4, z_gf5, z_gf6, z_gf7, z_pf0, z_pf1, z_pf2, z_pf3, z_pf4, z_pf5, z_pf6, z_pf7, z_ob1, zb_0, zb_1, zb_tf, cat_o, cat_k, ch_1, cgf0_0, cgf0_1, cgf0_2, cgf0_3, cpf0_3, cgf0_4, cgf0_5, cgf0_6, cgf0_7, cpf0_7, cob_0, cat_0, cpu_0, cgf5_0, cgf5_1, cpf5_1, cob_5, cat_5, cpu_5, cat_6, cpu_6, cgf7_0, cgf7_1, cpf7_1, cgf7_2, cpf7_2, cgf7_3, cpf7_3, cgf7_4, cgf7_5, cgf7_6, cpf7_6, cgf7_7, cpf7_7, cob_7, cat_7, cpu_7, cat_8, cpu_8, cat_9, cpu_9, cat_10, cpu_10, cat_11, cpu_11, zg_ai_A, zg_al_A, zg_si_A, zg_sl_A, zg_ab_b, zg_sb_b, z_len_A, z_len_L, r200_0, r200_1, r200_4, r200_7, r200_8, r200_9, r200_10, r200_13, r200_14, r200_15, r200_18, r200_19, r200_21, r200_22, r200_25, r200_27, r200_28, r200_30, r200_31, r200_34, r200_37, r200_38, r200_41, r200_42, r200_45]
    refine p190 hF hLk b2 hE hv (fun R hR => zru_ok hE ho.2 hR) (fun y hy => ?_)
    have eN : ((zfn (Es.getD (zen Ks Rs Es t) zE0).2 (zsv (Es.getD (zen Ks Rs Es t) zE0) (zru Ks Rs (Es.getD (zen Ks Rs Es t) zE0) t)) ((Es.getD (zen Ks Rs Es t) zE0).1 0 + zsv (Es.getD (zen Ks Rs Es t) zE0) (zru Ks Rs (Es.getD (zen Ks Rs Es t) zE0) t)) (zlo (zru Ks Rs (Es.getD (zen Ks Rs Es t) zE0) t))).take 8) = zhN Ks Rs Es t := rfl
    rw [eN] at hy ⊢
    have hlen : (zhN Ks Rs Es t).length ≤ 8 := by unfold zhN; rw [List.length_take]; omega
    have rv := zsv_r hE (o := zru Ks Rs (Es.getD (zen Ks Rs Es t) zE0) t) (fun R hR => zru_ok hE ho.2 hR)
    have r0 := hE.1
    have hmem : Es.getD (zen Ks Rs Es t) zE0 ∈ Es := by
      rw [List.getD_eq_getElem?_getD, List.getElem?_eq_getElem (by omega)]
      exact List.getElem_mem _
    have ero : -200000 ≤ zoff Ks Rs Es t ∧ zoff Ks Rs Es t ≤ 200000 := by
      have : zoff Ks Rs Es t = (Es.getD (zen Ks Rs Es t) zE0).1 0 + zsv (Es.getD (zen Ks Rs Es t) zE0) (zru Ks Rs (Es.getD (zen Ks Rs Es t) zE0) t) := rfl
      omega
    have hch : ∀ c ∈ zhN Ks Rs Es t, 32 ≤ c ∧ c ≤ 126 := fun c hc => zfn_c ero (hoc.1 _ hmem) (zlo_c hoc ho hE) c (List.mem_of_mem_take hc)
    have yv : ∀ j : Nat, j < 8 → y (5 + j) = (zhN Ks Rs Es t).getD j 0 := by
      intro j hj
      rw [hy (5 + j) (by omega)]
      unfold zhb
      rw [if_neg (by omega), if_neg (by omega), if_neg (by omega), if_neg (by omega), if_neg (by omega), show 5 + j - 5 = j by omega]
    have ydef : ∀ j : Nat, j < 8 → (zhN Ks Rs Es t).getD j 0 = 0 ∨ (32 ≤ (zhN Ks Rs Es t).getD j 0 ∧ (zhN Ks Rs Es t).getD j 0 ≤ 126) := by
      intro j hj
      by_cases hjl : j < (zhN Ks Rs Es t).length
      · right
        rw [List.getD_eq_getElem?_getD, List.getElem?_eq_getElem hjl]
        exact hch _ (List.getElem_mem _)
      · left
        rw [List.getD_eq_getElem?_getD, List.getElem?_eq_none (by omega)]
        rfl
    have c5 : z_at (cn h G (5 + (zhN Ks Rs Es t).length) y) (.ref 5) = .inr (3, [.ref 6, zi (5 + (zhN Ks Rs Es t).length)]) := by
      unfold cn
      rw [cat_5]
      unfold cfs5
      rw [va_up_ne _ _ (by decide), va_up_self, va_up_self]
    have c6 : z_at (cn h G (5 + (zhN Ks Rs Es t).length) y) (.ref 6) = zA 2 13 y := by
      unfold cn
      rw [cat_6, va_up_self]
    have c0 : z_at (cn h G (5 + (zhN Ks Rs Es t).length) y) (.ref 0) = .inr (0, cfs0 (G 0)) := by
      unfold cn
      rw [cat_0, va_up_ne _ _ (by decide), va_up_ne _ _ (by decide)]
    have := kk (va_up (va_up G 5 (va_up (G 5) 1 (5 + (zhN Ks Rs Es t).length))) 6 y) (fun k k5 k6 => by rw [va_up_ne _ _ k6, va_up_ne _ _ k5])
    have e16' := fun Q' : zO → zH → Prop => s16 (h := cn h G (5 + (zhN Ks Rs Es t).length) y) (Q := Q') y c5 c6 hq (fun q1 q2 => by
      have := ydef i.toNat (by omega)
      rw [yv i.toNat (by omega)]
      omega)
    have ob : z_isob (z_at (cn h G (5 + (zhN Ks Rs Es t).length) y) (.ref 5)) 3 = true := rfl
    simp (disch := first | omega | assumption | exact zq_r _ | exact zn_0 | exact zo_i _ | exact zo_r _ | exact zq_k _ | exact zq_n | exact zn_1 _ | exact zn_2 _ _ | exact zn_3 _ _ _ | exact zn_4 _ _ _ _ | exact zn_5 _ _ _ _ _ | exact zc_i _ | exact zc_r _ | exact zo_l _ | exact zo_k _ | exact zo_n | exact zc_rk _ | (rw [zx_id (by omega)]; omega) | (rw [zw_id (by omega)]; omega) | (apply z_ok_v; assumption) | (simp only [z_new_1, z_pu_1, mh_1]; omega)) only [z_EvO_some, z_EvG_t, z_Bk_n, z_Bk_s, z_brT, z_brF, z_br_pos, z_br_neg, not_true_eq_false, not_false_eq_true, Bool.true_eq_false, Bool.false_eq_true, Bool.not_eq_false, Bool.not_eq_true, eq_self, z_kl_i, z_kl_l, z_kl_r, z_kl_k, z_kl_n, z_kl_u, z_kl_v, zi_f, zl_f, z_put_r, z_nul_n, z_nul_r, zcmp_lt, zcmp_le, zcmp_ge, zcmp_gt, zcmp_eq, zw_id, zx_id, Nat.reduceAdd, z_tf_i, z_tf_l, z_tf_z, zl_zx, zi_zw, z_gf0, z_gf1, z_gf2, z_gf3, z_gf4, z_gf5, z_gf6, z_gf7, z_pf0, z_pf1, z_pf2, z_pf3, z_pf4, z_pf5, z_pf6, z_pf7, z_ob1, zb_0, zb_1, zb_tf, r200_0, r200_1, r200_4, r200_7, r200_8, r200_9, r200_10, r200_13, r200_14, r200_15, r200_18, r200_19, r200_21, r200_22, r200_25, r200_27, r200_28, r200_30, r200_31, r200_34, r200_37, r200_38, r200_41, r200_42, r200_45, c0, cgf0_4, ob, e16']
    have ean : (if i < 0 ∨ 8 ≤ i ∨ y (5 + i.toNat) = 0 then -1 else y (5 + i.toNat)) = zlA Ks Rs Es t i := by
      unfold zlA
      rw [if_neg h0]
      by_cases c1 : i < 0 ∨ 8 ≤ i
      · rw [if_pos (by omega), if_neg (by omega)]
      · rw [yv i.toNat (by omega)]
        have hd := ydef i.toNat (by omega)
        by_cases c2 : 0 ≤ i ∧ i < (zhN Ks Rs Es t).length
        · have : 32 ≤ (zhN Ks Rs Es t).getD i.toNat 0 := by
            rw [List.getD_eq_getElem?_getD, List.getElem?_eq_getElem (by omega)]
            exact (hch _ (List.getElem_mem _)).1
          rw [if_neg (by omega), if_pos c2]
        · have : (zhN Ks Rs Es t).getD i.toNat 0 = 0 := by
            rw [List.getD_eq_getElem?_getD, List.getElem?_eq_none (by omega)]
            rfl
          rw [if_pos (by omega), if_neg c2]
    rw [ean]
    exact this
end ZHo
