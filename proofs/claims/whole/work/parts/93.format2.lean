/-! formats: the class; both say the same -/
theorem zLit.pz {h : zH} (hL : zLit h) : zSt h (.retAddr 38) [37, 122] := hL 19 _ rfl
section ZFn
variable {h : zH} {Q : zO → zH → Prop} {v : Value} {w : List Int} {p : Nat}
theorem l151 (hs : zSt h v w) : ∀ (r i : Nat) (m : Int), i + r = w.length → (0 ≤ m ∧ m ≤ i) → z_Ev 151 22 [v, zi m, zi i] [] h Q = z_Ev 151 59 [v, zi (m + (zct 47 (w.drop i) + zct 37 (w.drop i))), zi w.length] [] h Q := by
  have hw := zSt_w hs
  have hrf := zSt_rf hs
  intro r
  induction r with
  | zero =>
    intro i m hi hm
    obtain rfl : i = w.length := by omega
    rw [List.drop_length, k151_22]
    simp (disch := first | omega | assumption | exact zq_r _ | exact zn_0 | exact zo_i _ | exact zo_r _ | exact zq_k _ | exact zq_n | exact zn_1 _ | exact zn_2 _ _ | exact zn_3 _ _ _ | exact zn_4 _ _ _ _ | exact zn_5 _ _ _ _ _ | exact zc_i _ | exact zc_r _ | exact zo_l _ | exact zo_k _ | exact zo_n | exact zc_rk _ | (rw [zx_id (by omega)]; omega) | (rw [zw_id (by omega)]; omega) | (apply z_ok_v; assumption) | (simp only [z_new_1, z_pu_1, mh_1]; omega)) only [z_EvO_some, z_EvG_t, z_Bk_n, z_Bk_s, z_brT, z_brF, z_br_pos, z_br_neg, not_true_eq_false, not_false_eq_true, Bool.true_eq_false, Bool.false_eq_true, Bool.not_eq_false, Bool.not_eq_true, eq_self, z_kl_i, z_kl_l, z_kl_r, z_kl_k, z_kl_n, z_kl_u, z_kl_v, zi_f, zl_f, z_put_r, z_nul_n, z_nul_r, zcmp_lt, zcmp_le, zcmp_ge, zcmp_gt, zcmp_eq, zw_id, zx_id, Nat.reduceAdd, z_tf_i, z_tf_l, z_tf_z, zl_zx, zi_zw, z_gf0, z_gf1, z_gf2, z_gf3, z_gf4, z_gf5, z_gf6, z_gf7, z_pf0, z_pf1, z_pf2, z_pf3, z_pf4, z_pf5, z_pf6, z_pf7, z_ob1, zb_0, zb_1, zb_tf, r151_0, r151_1, r151_4, r151_7, r151_8, r151_11, r151_13, r151_16, r151_17, r151_18, r151_19, r151_20, r151_21, r151_23, r151_24, r151_27, r151_30, r151_31, r151_32, r151_35, r151_37, r151_40, r151_41, r151_42, r151_45, r151_47, r151_50, r151_53, r151_56, r151_60, r151_62, r151_65, r151_66, r151_67, r151_70, r151_71, r151_72, r151_75, r151_76, r151_79, r151_80, r151_82, r151_85, r151_88, r151_89, r151_90, r151_91, r151_92, r151_95, r151_96, r151_97, r151_98, r151_99, r151_102, r151_105, r151_106, r151_107, r151_108, r151_109, r151_112, r151_114, r151_117, r151_118, r151_121, r151_122, t103 hs, zSt_ob hs]
    simp only [zct, Int.add_zero]
  | succ r ih =>
    intro i m hi hm
    have b1 := zw_c hw.2 i (by omega)
    have e0 : (i : Int).toNat = i := by omega
    have e1 : (i : Int) + 1 = ((i + 1 : Nat) : Int) := by omega
    have hdr : w.drop i = w.getD i 0 :: w.drop (i + 1) := by
      rw [List.drop_eq_getElem_cons (show i < w.length by omega), List.getD_eq_getElem?_getD, List.getElem?_eq_getElem (show i < w.length by omega)]
      rfl
    rw [hdr, zct, zct, k151_22]
    by_cases e47 : w.getD i 0 = 47
    · rw [if_pos e47, if_neg (by omega)]
      simp (disch := first | omega | assumption | exact zq_r _ | exact zn_0 | exact zo_i _ | exact zo_r _ | exact zq_k _ | exact zq_n | exact zn_1 _ | exact zn_2 _ _ | exact zn_3 _ _ _ | exact zn_4 _ _ _ _ | exact zn_5 _ _ _ _ _ | exact zc_i _ | exact zc_r _ | exact zo_l _ | exact zo_k _ | exact zo_n | exact zc_rk _ | (rw [zx_id (by omega)]; omega) | (rw [zw_id (by omega)]; omega) | (apply z_ok_v; assumption) | (simp only [z_new_1, z_pu_1, mh_1]; omega)) only [z_EvO_some, z_EvG_t, z_Bk_n, z_Bk_s, z_brT, z_brF, z_br_pos, z_br_neg, not_true_eq_false, not_false_eq_true, Bool.true_eq_false, Bool.false_eq_true, Bool.not_eq_false, Bool.not_eq_true, eq_self, z_kl_i, z_kl_l, z_kl_r, z_kl_k, z_kl_n, z_kl_u, z_kl_v, zi_f, zl_f, z_put_r, z_nul_n, z_nul_r, zcmp_lt, zcmp_le, zcmp_ge, zcmp_gt, zcmp_eq, zw_id, zx_id, Nat.reduceAdd, z_tf_i, z_tf_l, z_tf_z, zl_zx, zi_zw, z_gf0, z_gf1, z_gf2, z_gf3, z_gf4, z_gf5, z_gf6, z_gf7, z_pf0, z_pf1, z_pf2, z_pf3, z_pf4, z_pf5, z_pf6, z_pf7, z_ob1, zb_0, zb_1, zb_tf, r151_0, r151_1, r151_4, r151_7, r151_8, r151_11, r151_13, r151_16, r151_17, r151_18, r151_19, r151_20, r151_21, r151_23, r151_24, r151_27, r151_30, r151_31, r151_32, r151_35, r151_37, r151_40, r151_41, r151_42, r151_45, r151_47, r151_50, r151_53, r151_56, r151_60, r151_62, r151_65, r151_66, r151_67, r151_70, r151_71, r151_72, r151_75, r151_76, r151_79, r151_80, r151_82, r151_85, r151_88, r151_89, r151_90, r151_91, r151_92, r151_95, r151_96, r151_97, r151_98, r151_99, r151_102, r151_105, r151_106, r151_107, r151_108, r151_109, r151_112, r151_114, r151_117, r151_118, r151_121, r151_122, t103 hs, zSt_ob hs, t144 hs, e0, e47, e1]
      rw [ih (i + 1) (m + 1) (by omega) (by omega), show m + 1 + (zct 47 (w.drop (i + 1)) + zct 37 (w.drop (i + 1))) = m + (1 + zct 47 (w.drop (i + 1)) + (0 + zct 37 (w.drop (i + 1)))) by omega]
    · by_cases e37 : w.getD i 0 = 37
      · rw [if_neg e47, if_pos e37]
        simp (disch := first | omega | assumption | exact zq_r _ | exact zn_0 | exact zo_i _ | exact zo_r _ | exact zq_k _ | exact zq_n | exact zn_1 _ | exact zn_2 _ _ | exact zn_3 _ _ _ | exact zn_4 _ _ _ _ | exact zn_5 _ _ _ _ _ | exact zc_i _ | exact zc_r _ | exact zo_l _ | exact zo_k _ | exact zo_n | exact zc_rk _ | (rw [zx_id (by omega)]; omega) | (rw [zw_id (by omega)]; omega) | (apply z_ok_v; assumption) | (simp only [z_new_1, z_pu_1, mh_1]; omega)) only [z_EvO_some, z_EvG_t, z_Bk_n, z_Bk_s, z_brT, z_brF, z_br_pos, z_br_neg, not_true_eq_false, not_false_eq_true, Bool.true_eq_false, Bool.false_eq_true, Bool.not_eq_false, Bool.not_eq_true, eq_self, z_kl_i, z_kl_l, z_kl_r, z_kl_k, z_kl_n, z_kl_u, z_kl_v, zi_f, zl_f, z_put_r, z_nul_n, z_nul_r, zcmp_lt, zcmp_le, zcmp_ge, zcmp_gt, zcmp_eq, zw_id, zx_id, Nat.reduceAdd, z_tf_i, z_tf_l, z_tf_z, zl_zx, zi_zw, z_gf0, z_gf1, z_gf2, z_gf3, z_gf4, z_gf5, z_gf6, z_gf7, z_pf0, z_pf1, z_pf2, z_pf3, z_pf4, z_pf5, z_pf6, z_pf7, z_ob1, zb_0, zb_1, zb_tf, r151_0, r151_1, r151_4, r151_7, r151_8, r151_11, r151_13, r151_16, r151_17, r151_18, r151_19, r151_20, r151_21, r151_23, r151_24, r151_27, r151_30, r151_31, r151_32, r151_35, r151_37, r151_40, r151_41, r151_42, r151_45, r151_47, r151_50, r151_53, r151_56, r151_60, r151_62, r151_65, r151_66, r151_67, r151_70, r151_71, r151_72, r151_75, r151_76, r151_79, r151_80, r151_82, r151_85, r151_88, r151_89, r151_90, r151_91, r151_92, r151_95, r151_96, r151_97, r151_98, r151_99, r151_102, r151_105, r151_106, r151_107, r151_108, r151_109, r151_112, r151_114, r151_117, r151_118, r151_121, r151_122, t103 hs, zSt_ob hs, t144 hs, e0, e37, e1]
        rw [ih (i + 1) (m + 1) (by omega) (by omega), show m + 1 + (zct 47 (w.drop (i + 1)) + zct 37 (w.drop (i + 1))) = m + (0 + zct 47 (w.drop (i + 1)) + (1 + zct 37 (w.drop (i + 1)))) by omega]
      · rw [if_neg e47, if_neg e37]
        simp (disch := first | omega | assumption | exact zq_r _ | exact zn_0 | exact zo_i _ | exact zo_r _ | exact zq_k _ | exact zq_n | exact zn_1 _ | exact zn_2 _ _ | exact zn_3 _ _ _ | exact zn_4 _ _ _ _ | exact zn_5 _ _ _ _ _ | exact zc_i _ | exact zc_r _ | exact zo_l _ | exact zo_k _ | exact zo_n | exact zc_rk _ | (rw [zx_id (by omega)]; omega) | (rw [zw_id (by omega)]; omega) | (apply z_ok_v; assumption) | (simp only [z_new_1, z_pu_1, mh_1]; omega)) only [z_EvO_some, z_EvG_t, z_Bk_n, z_Bk_s, z_brT, z_brF, z_br_pos, z_br_neg, not_true_eq_false, not_false_eq_true, Bool.true_eq_false, Bool.false_eq_true, Bool.not_eq_false, Bool.not_eq_true, eq_self, z_kl_i, z_kl_l, z_kl_r, z_kl_k, z_kl_n, z_kl_u, z_kl_v, zi_f, zl_f, z_put_r, z_nul_n, z_nul_r, zcmp_lt, zcmp_le, zcmp_ge, zcmp_gt, zcmp_eq, zw_id, zx_id, Nat.reduceAdd, z_tf_i, z_tf_l, z_tf_z, zl_zx, zi_zw, z_gf0, z_gf1, z_gf2, z_gf3, z_gf4, z_gf5, z_gf6, z_gf7, z_pf0, z_pf1, z_pf2, z_pf3, z_pf4, z_pf5, z_pf6, z_pf7, z_ob1, zb_0, zb_1, zb_tf, r151_0, r151_1, r151_4, r151_7, r151_8, r151_11, r151_13, r151_16, r151_17, r151_18, r151_19, r151_20, r151_21, r151_23, r151_24, r151_27, r151_30, r151_31, r151_32, r151_35, r151_37, r151_40, r151_41, r151_42, r151_45, r151_47, r151_50, r151_53, r151_56, r151_60, r151_62, r151_65, r151_66, r151_67, r151_70, r151_71, r151_72, r151_75, r151_76, r151_79, r151_80, r151_82, r151_85, r151_88, r151_89, r151_90, r151_91, r151_92, r151_95, r151_96, r151_97, r151_98, r151_99, r151_102, r151_105, r151_106, r151_107, r151_108, r151_109, r151_112, r151_114, r151_117, r151_118, r151_121, r151_122, t103 hs, zSt_ob hs, t144 hs, e0, e1]
        rw [ih (i + 1) m (by omega) (by omega), show m + (zct 47 (w.drop (i + 1)) + zct 37 (w.drop (i + 1))) = m + (0 + zct 47 (w.drop (i + 1)) + (0 + zct 37 (w.drop (i + 1)))) by omega]
theorem s151 (hL : zLit h) (hs : zSt h (.ref p) w) : z_Cl 151 [.ref p] h Q = Q (.inl (some (zi (zb (zfC w))))) h := by
  have hw := zSt_w hs
  have hi := zix_r 37 w 0
  have r1 := zct_r 47 w
  have r2 := zct_r 37 w
  by_cases h0 : w.length = 0
  · have e : zfC w = false := by unfold zfC; rw [decide_eq_false (show ¬ 1 ≤ w.length by omega)]; rfl
    rw [e]
    simp (disch := first | omega | assumption | exact zq_r _ | exact zn_0 | exact zo_i _ | exact zo_r _ | exact zq_k _ | exact zq_n | exact zn_1 _ | exact zn_2 _ _ | exact zn_3 _ _ _ | exact zn_4 _ _ _ _ | exact zn_5 _ _ _ _ _ | exact zc_i _ | exact zc_r _ | exact zo_l _ | exact zo_k _ | exact zo_n | exact zc_rk _ | (rw [zx_id (by omega)]; omega) | (rw [zw_id (by omega)]; omega) | (apply z_ok_v; assumption) | (simp only [z_new_1, z_pu_1, mh_1]; omega)) only [z_EvO_some, z_EvG_t, z_Bk_n, z_Bk_s, z_brT, z_brF, z_br_pos, z_br_neg, not_true_eq_false, not_false_eq_true, Bool.true_eq_false, Bool.false_eq_true, Bool.not_eq_false, Bool.not_eq_true, eq_self, z_kl_i, z_kl_l, z_kl_r, z_kl_k, z_kl_n, z_kl_u, z_kl_v, zi_f, zl_f, z_put_r, z_nul_n, z_nul_r, zcmp_lt, zcmp_le, zcmp_ge, zcmp_gt, zcmp_eq, zw_id, zx_id, Nat.reduceAdd, z_tf_i, z_tf_l, z_tf_z, zl_zx, zi_zw, z_gf0, z_gf1, z_gf2, z_gf3, z_gf4, z_gf5, z_gf6, z_gf7, z_pf0, z_pf1, z_pf2, z_pf3, z_pf4, z_pf5, z_pf6, z_pf7, z_ob1, zb_0, zb_1, zb_tf, e151, r151_0, r151_1, r151_4, r151_7, r151_8, r151_11, r151_13, r151_16, r151_17, r151_18, r151_19, r151_20, r151_21, r151_23, r151_24, r151_27, r151_30, r151_31, r151_32, r151_35, r151_37, r151_40, r151_41, r151_42, r151_45, r151_47, r151_50, r151_53, r151_56, r151_60, r151_62, r151_65, r151_66, r151_67, r151_70, r151_71, r151_72, r151_75, r151_76, r151_79, r151_80, r151_82, r151_85, r151_88, r151_89, r151_90, r151_91, r151_92, r151_95, r151_96, r151_97, r151_98, r151_99, r151_102, r151_105, r151_106, r151_107, r151_108, r151_109, r151_112, r151_114, r151_117, r151_118, r151_121, r151_122, zSt_ob hs, t65 hs, h0, decide_true]
    rfl
  by_cases h8 : w.length ≤ 8
  · have hC : zfC w = (decide (zct 47 w + zct 37 w = 0) || (decide (zct 47 w + zct 37 w = 1) && decide (zix 37 w 0 < 0)) || decide (w = [37, 122]) || (decide (zct 47 w + zct 37 w = 1) && decide (zix 37 w 0 + 1 < w.length) && decide (w.getD (zix 37 w 0 + 1).toNat 0 = 115))) := by
      unfold zfC
      rw [decide_eq_true (show 1 ≤ w.length by omega), decide_eq_true h8]
      rfl
    have hl := l151 (Q := Q) hs w.length 0 0 (by omega) (by omega)
    rw [List.drop_zero, Int.zero_add] at hl
    simp (disch := first | omega | assumption | exact zq_r _ | exact zn_0 | exact zo_i _ | exact zo_r _ | exact zq_k _ | exact zq_n | exact zn_1 _ | exact zn_2 _ _ | exact zn_3 _ _ _ | exact zn_4 _ _ _ _ | exact zn_5 _ _ _ _ _ | exact zc_i _ | exact zc_r _ | exact zo_l _ | exact zo_k _ | exact zo_n | exact zc_rk _ | (rw [zx_id (by omega)]; omega) | (rw [zw_id (by omega)]; omega) | (apply z_ok_v; assumption) | (simp only [z_new_1, z_pu_1, mh_1]; omega)) only [z_EvO_some, z_EvG_t, z_Bk_n, z_Bk_s, z_brT, z_brF, z_br_pos, z_br_neg, not_true_eq_false, not_false_eq_true, Bool.true_eq_false, Bool.false_eq_true, Bool.not_eq_false, Bool.not_eq_true, eq_self, z_kl_i, z_kl_l, z_kl_r, z_kl_k, z_kl_n, z_kl_u, z_kl_v, zi_f, zl_f, z_put_r, z_nul_n, z_nul_r, zcmp_lt, zcmp_le, zcmp_ge, zcmp_gt, zcmp_eq, zw_id, zx_id, Nat.reduceAdd, z_tf_i, z_tf_l, z_tf_z, zl_zx, zi_zw, z_gf0, z_gf1, z_gf2, z_gf3, z_gf4, z_gf5, z_gf6, z_gf7, z_pf0, z_pf1, z_pf2, z_pf3, z_pf4, z_pf5, z_pf6, z_pf7, z_ob1, zb_0, zb_1, zb_tf, e151, r151_0, r151_1, r151_4, r151_7, r151_8, r151_11, r151_13, r151_16, r151_17, r151_18, r151_19, r151_20, r151_21, r151_23, r151_24, r151_27, r151_30, r151_31, r151_32, r151_35, r151_37, r151_40, r151_41, r151_42, r151_45, r151_47, r151_50, r151_53, r151_56, r151_60, r151_62, r151_65, r151_66, r151_67, r151_70, r151_71, r151_72, r151_75, r151_76, r151_79, r151_80, r151_82, r151_85, r151_88, r151_89, r151_90, r151_91, r151_92, r151_95, r151_96, r151_97, r151_98, r151_99, r151_102, r151_105, r151_106, r151_107, r151_108, r151_109, r151_112, r151_114, r151_117, r151_118, r151_121, r151_122, zSt_ob hs, t65 hs, t103 hs, h0, decide_false]
    refine Eq.trans hl ?_
    rw [hC]
    generalize hM : zct 47 w + zct 37 w = M at *
    have hM2 : 0 ≤ M ∧ M ≤ 20 := by omega
    by_cases m0 : M = 0
    · rw [decide_eq_true m0]
      simp (disch := first | omega | assumption | exact zq_r _ | exact zn_0 | exact zo_i _ | exact zo_r _ | exact zq_k _ | exact zq_n | exact zn_1 _ | exact zn_2 _ _ | exact zn_3 _ _ _ | exact zn_4 _ _ _ _ | exact zn_5 _ _ _ _ _ | exact zc_i _ | exact zc_r _ | exact zo_l _ | exact zo_k _ | exact zo_n | exact zc_rk _ | (rw [zx_id (by omega)]; omega) | (rw [zw_id (by omega)]; omega) | (apply z_ok_v; assumption) | (simp only [z_new_1, z_pu_1, mh_1]; omega)) only [z_EvO_some, z_EvG_t, z_Bk_n, z_Bk_s, z_brT, z_brF, z_br_pos, z_br_neg, not_true_eq_false, not_false_eq_true, Bool.true_eq_false, Bool.false_eq_true, Bool.not_eq_false, Bool.not_eq_true, eq_self, z_kl_i, z_kl_l, z_kl_r, z_kl_k, z_kl_n, z_kl_u, z_kl_v, zi_f, zl_f, z_put_r, z_nul_n, z_nul_r, zcmp_lt, zcmp_le, zcmp_ge, zcmp_gt, zcmp_eq, zw_id, zx_id, Nat.reduceAdd, z_tf_i, z_tf_l, z_tf_z, zl_zx, zi_zw, z_gf0, z_gf1, z_gf2, z_gf3, z_gf4, z_gf5, z_gf6, z_gf7, z_pf0, z_pf1, z_pf2, z_pf3, z_pf4, z_pf5, z_pf6, z_pf7, z_ob1, zb_0, zb_1, zb_tf, r151_0, r151_1, r151_4, r151_7, r151_8, r151_11, r151_13, r151_16, r151_17, r151_18, r151_19, r151_20, r151_21, r151_23, r151_24, r151_27, r151_30, r151_31, r151_32, r151_35, r151_37, r151_40, r151_41, r151_42, r151_45, r151_47, r151_50, r151_53, r151_56, r151_59, r151_60, r151_62, r151_65, r151_66, r151_67, r151_70, r151_71, r151_72, r151_75, r151_76, r151_79, r151_80, r151_82, r151_85, r151_88, r151_89, r151_90, r151_91, r151_92, r151_95, r151_96, r151_97, r151_98, r151_99, r151_102, r151_105, r151_106, r151_107, r151_108, r151_109, r151_112, r151_114, r151_117, r151_118, r151_121, r151_122, zSt_ob hs, t145 hs]
      rfl
    · rw [decide_eq_false m0]
      by_cases m1 : M = 1
      · rw [decide_eq_true m1]
        by_cases hx : zix 37 w 0 < 0
        · rw [decide_eq_true hx]
          simp (disch := first | omega | assumption | exact zq_r _ | exact zn_0 | exact zo_i _ | exact zo_r _ | exact zq_k _ | exact zq_n | exact zn_1 _ | exact zn_2 _ _ | exact zn_3 _ _ _ | exact zn_4 _ _ _ _ | exact zn_5 _ _ _ _ _ | exact zc_i _ | exact zc_r _ | exact zo_l _ | exact zo_k _ | exact zo_n | exact zc_rk _ | (rw [zx_id (by omega)]; omega) | (rw [zw_id (by omega)]; omega) | (apply z_ok_v; assumption) | (simp only [z_new_1, z_pu_1, mh_1]; omega)) only [z_EvO_some, z_EvG_t, z_Bk_n, z_Bk_s, z_brT, z_brF, z_br_pos, z_br_neg, not_true_eq_false, not_false_eq_true, Bool.true_eq_false, Bool.false_eq_true, Bool.not_eq_false, Bool.not_eq_true, eq_self, z_kl_i, z_kl_l, z_kl_r, z_kl_k, z_kl_n, z_kl_u, z_kl_v, zi_f, zl_f, z_put_r, z_nul_n, z_nul_r, zcmp_lt, zcmp_le, zcmp_ge, zcmp_gt, zcmp_eq, zw_id, zx_id, Nat.reduceAdd, z_tf_i, z_tf_l, z_tf_z, zl_zx, zi_zw, z_gf0, z_gf1, z_gf2, z_gf3, z_gf4, z_gf5, z_gf6, z_gf7, z_pf0, z_pf1, z_pf2, z_pf3, z_pf4, z_pf5, z_pf6, z_pf7, z_ob1, zb_0, zb_1, zb_tf, r151_0, r151_1, r151_4, r151_7, r151_8, r151_11, r151_13, r151_16, r151_17, r151_18, r151_19, r151_20, r151_21, r151_23, r151_24, r151_27, r151_30, r151_31, r151_32, r151_35, r151_37, r151_40, r151_41, r151_42, r151_45, r151_47, r151_50, r151_53, r151_56, r151_59, r151_60, r151_62, r151_65, r151_66, r151_67, r151_70, r151_71, r151_72, r151_75, r151_76, r151_79, r151_80, r151_82, r151_85, r151_88, r151_89, r151_90, r151_91, r151_92, r151_95, r151_96, r151_97, r151_98, r151_99, r151_102, r151_105, r151_106, r151_107, r151_108, r151_109, r151_112, r151_114, r151_117, r151_118, r151_121, r151_122, zSt_ob hs, t145 hs]
          rfl
        · rw [decide_eq_false hx]
          by_cases hz : w = [37, 122]
          · rw [decide_eq_true hz]
            simp (disch := first | omega | assumption | exact zq_r _ | exact zn_0 | exact zo_i _ | exact zo_r _ | exact zq_k _ | exact zq_n | exact zn_1 _ | exact zn_2 _ _ | exact zn_3 _ _ _ | exact zn_4 _ _ _ _ | exact zn_5 _ _ _ _ _ | exact zc_i _ | exact zc_r _ | exact zo_l _ | exact zo_k _ | exact zo_n | exact zc_rk _ | (rw [zx_id (by omega)]; omega) | (rw [zw_id (by omega)]; omega) | (apply z_ok_v; assumption) | (simp only [z_new_1, z_pu_1, mh_1]; omega)) only [z_EvO_some, z_EvG_t, z_Bk_n, z_Bk_s, z_brT, z_brF, z_br_pos, z_br_neg, not_true_eq_false, not_false_eq_true, Bool.true_eq_false, Bool.false_eq_true, Bool.not_eq_false, Bool.not_eq_true, eq_self, z_kl_i, z_kl_l, z_kl_r, z_kl_k, z_kl_n, z_kl_u, z_kl_v, zi_f, zl_f, z_put_r, z_nul_n, z_nul_r, zcmp_lt, zcmp_le, zcmp_ge, zcmp_gt, zcmp_eq, zw_id, zx_id, Nat.reduceAdd, z_tf_i, z_tf_l, z_tf_z, zl_zx, zi_zw, z_gf0, z_gf1, z_gf2, z_gf3, z_gf4, z_gf5, z_gf6, z_gf7, z_pf0, z_pf1, z_pf2, z_pf3, z_pf4, z_pf5, z_pf6, z_pf7, z_ob1, zb_0, zb_1, zb_tf, r151_0, r151_1, r151_4, r151_7, r151_8, r151_11, r151_13, r151_16, r151_17, r151_18, r151_19, r151_20, r151_21, r151_23, r151_24, r151_27, r151_30, r151_31, r151_32, r151_35, r151_37, r151_40, r151_41, r151_42, r151_45, r151_47, r151_50, r151_53, r151_56, r151_59, r151_60, r151_62, r151_65, r151_66, r151_67, r151_70, r151_71, r151_72, r151_75, r151_76, r151_79, r151_80, r151_82, r151_85, r151_88, r151_89, r151_90, r151_91, r151_92, r151_95, r151_96, r151_97, r151_98, r151_99, r151_102, r151_105, r151_106, r151_107, r151_108, r151_109, r151_112, r151_114, r151_117, r151_118, r151_121, r151_122, zSt_ob hs, t145 hs, t102 hs hL.pz, decide_eq_true hz]
            rfl
          · rw [decide_eq_false hz]
            by_cases hy : zix 37 w 0 + 1 < w.length
            · rw [decide_eq_true hy]
              have b1 := zw_c hw.2 (zix 37 w 0 + 1).toNat (by omega)
              by_cases h115 : w.getD (zix 37 w 0 + 1).toNat 0 = 115
              · rw [decide_eq_true h115]
                simp (disch := first | omega | assumption | exact zq_r _ | exact zn_0 | exact zo_i _ | exact zo_r _ | exact zq_k _ | exact zq_n | exact zn_1 _ | exact zn_2 _ _ | exact zn_3 _ _ _ | exact zn_4 _ _ _ _ | exact zn_5 _ _ _ _ _ | exact zc_i _ | exact zc_r _ | exact zo_l _ | exact zo_k _ | exact zo_n | exact zc_rk _ | (rw [zx_id (by omega)]; omega) | (rw [zw_id (by omega)]; omega) | (apply z_ok_v; assumption) | (simp only [z_new_1, z_pu_1, mh_1]; omega)) only [z_EvO_some, z_EvG_t, z_Bk_n, z_Bk_s, z_brT, z_brF, z_br_pos, z_br_neg, not_true_eq_false, not_false_eq_true, Bool.true_eq_false, Bool.false_eq_true, Bool.not_eq_false, Bool.not_eq_true, eq_self, z_kl_i, z_kl_l, z_kl_r, z_kl_k, z_kl_n, z_kl_u, z_kl_v, zi_f, zl_f, z_put_r, z_nul_n, z_nul_r, zcmp_lt, zcmp_le, zcmp_ge, zcmp_gt, zcmp_eq, zw_id, zx_id, Nat.reduceAdd, z_tf_i, z_tf_l, z_tf_z, zl_zx, zi_zw, z_gf0, z_gf1, z_gf2, z_gf3, z_gf4, z_gf5, z_gf6, z_gf7, z_pf0, z_pf1, z_pf2, z_pf3, z_pf4, z_pf5, z_pf6, z_pf7, z_ob1, zb_0, zb_1, zb_tf, r151_0, r151_1, r151_4, r151_7, r151_8, r151_11, r151_13, r151_16, r151_17, r151_18, r151_19, r151_20, r151_21, r151_23, r151_24, r151_27, r151_30, r151_31, r151_32, r151_35, r151_37, r151_40, r151_41, r151_42, r151_45, r151_47, r151_50, r151_53, r151_56, r151_59, r151_60, r151_62, r151_65, r151_66, r151_67, r151_70, r151_71, r151_72, r151_75, r151_76, r151_79, r151_80, r151_82, r151_85, r151_88, r151_89, r151_90, r151_91, r151_92, r151_95, r151_96, r151_97, r151_98, r151_99, r151_102, r151_105, r151_106, r151_107, r151_108, r151_109, r151_112, r151_114, r151_117, r151_118, r151_121, r151_122, zSt_ob hs, t145 hs, t102 hs hL.pz, decide_eq_false hz, t103 hs, t144 hs, h115]
                rfl
              · rw [decide_eq_false h115]
                simp (disch := first | omega | assumption | exact zq_r _ | exact zn_0 | exact zo_i _ | exact zo_r _ | exact zq_k _ | exact zq_n | exact zn_1 _ | exact zn_2 _ _ | exact zn_3 _ _ _ | exact zn_4 _ _ _ _ | exact zn_5 _ _ _ _ _ | exact zc_i _ | exact zc_r _ | exact zo_l _ | exact zo_k _ | exact zo_n | exact zc_rk _ | (rw [zx_id (by omega)]; omega) | (rw [zw_id (by omega)]; omega) | (apply z_ok_v; assumption) | (simp only [z_new_1, z_pu_1, mh_1]; omega)) only [z_EvO_some, z_EvG_t, z_Bk_n, z_Bk_s, z_brT, z_brF, z_br_pos, z_br_neg, not_true_eq_false, not_false_eq_true, Bool.true_eq_false, Bool.false_eq_true, Bool.not_eq_false, Bool.not_eq_true, eq_self, z_kl_i, z_kl_l, z_kl_r, z_kl_k, z_kl_n, z_kl_u, z_kl_v, zi_f, zl_f, z_put_r, z_nul_n, z_nul_r, zcmp_lt, zcmp_le, zcmp_ge, zcmp_gt, zcmp_eq, zw_id, zx_id, Nat.reduceAdd, z_tf_i, z_tf_l, z_tf_z, zl_zx, zi_zw, z_gf0, z_gf1, z_gf2, z_gf3, z_gf4, z_gf5, z_gf6, z_gf7, z_pf0, z_pf1, z_pf2, z_pf3, z_pf4, z_pf5, z_pf6, z_pf7, z_ob1, zb_0, zb_1, zb_tf, r151_0, r151_1, r151_4, r151_7, r151_8, r151_11, r151_13, r151_16, r151_17, r151_18, r151_19, r151_20, r151_21, r151_23, r151_24, r151_27, r151_30, r151_31, r151_32, r151_35, r151_37, r151_40, r151_41, r151_42, r151_45, r151_47, r151_50, r151_53, r151_56, r151_59, r151_60, r151_62, r151_65, r151_66, r151_67, r151_70, r151_71, r151_72, r151_75, r151_76, r151_79, r151_80, r151_82, r151_85, r151_88, r151_89, r151_90, r151_91, r151_92, r151_95, r151_96, r151_97, r151_98, r151_99, r151_102, r151_105, r151_106, r151_107, r151_108, r151_109, r151_112, r151_114, r151_117, r151_118, r151_121, r151_122, zSt_ob hs, t145 hs, t102 hs hL.pz, decide_eq_false hz, t103 hs, t144 hs]
                rfl
            · rw [decide_eq_false hy]
              simp (disch := first | omega | assumption | exact zq_r _ | exact zn_0 | exact zo_i _ | exact zo_r _ | exact zq_k _ | exact zq_n | exact zn_1 _ | exact zn_2 _ _ | exact zn_3 _ _ _ | exact zn_4 _ _ _ _ | exact zn_5 _ _ _ _ _ | exact zc_i _ | exact zc_r _ | exact zo_l _ | exact zo_k _ | exact zo_n | exact zc_rk _ | (rw [zx_id (by omega)]; omega) | (rw [zw_id (by omega)]; omega) | (apply z_ok_v; assumption) | (simp only [z_new_1, z_pu_1, mh_1]; omega)) only [z_EvO_some, z_EvG_t, z_Bk_n, z_Bk_s, z_brT, z_brF, z_br_pos, z_br_neg, not_true_eq_false, not_false_eq_true, Bool.true_eq_false, Bool.false_eq_true, Bool.not_eq_false, Bool.not_eq_true, eq_self, z_kl_i, z_kl_l, z_kl_r, z_kl_k, z_kl_n, z_kl_u, z_kl_v, zi_f, zl_f, z_put_r, z_nul_n, z_nul_r, zcmp_lt, zcmp_le, zcmp_ge, zcmp_gt, zcmp_eq, zw_id, zx_id, Nat.reduceAdd, z_tf_i, z_tf_l, z_tf_z, zl_zx, zi_zw, z_gf0, z_gf1, z_gf2, z_gf3, z_gf4, z_gf5, z_gf6, z_gf7, z_pf0, z_pf1, z_pf2, z_pf3, z_pf4, z_pf5, z_pf6, z_pf7, z_ob1, zb_0, zb_1, zb_tf, r151_0, r151_1, r151_4, r151_7, r151_8, r151_11, r151_13, r151_16, r151_17, r151_18, r151_19, r151_20, r151_21, r151_23, r151_24, r151_27, r151_30, r151_31, r151_32, r151_35, r151_37, r151_40, r151_41, r151_42, r151_45, r151_47, r151_50, r151_53, r151_56, r151_59, r151_60, r151_62, r151_65, r151_66, r151_67, r151_70, r151_71, r151_72, r151_75, r151_76, r151_79, r151_80, r151_82, r151_85, r151_88, r151_89, r151_90, r151_91, r151_92, r151_95, r151_96, r151_97, r151_98, r151_99, r151_102, r151_105, r151_106, r151_107, r151_108, r151_109, r151_112, r151_114, r151_117, r151_118, r151_121, r151_122, zSt_ob hs, t145 hs, t102 hs hL.pz, decide_eq_false hz, t103 hs]
              rfl
      · rw [decide_eq_false m1]
        by_cases hz : w = [37, 122]
        · rw [decide_eq_true hz]
          simp (disch := first | omega | assumption | exact zq_r _ | exact zn_0 | exact zo_i _ | exact zo_r _ | exact zq_k _ | exact zq_n | exact zn_1 _ | exact zn_2 _ _ | exact zn_3 _ _ _ | exact zn_4 _ _ _ _ | exact zn_5 _ _ _ _ _ | exact zc_i _ | exact zc_r _ | exact zo_l _ | exact zo_k _ | exact zo_n | exact zc_rk _ | (rw [zx_id (by omega)]; omega) | (rw [zw_id (by omega)]; omega) | (apply z_ok_v; assumption) | (simp only [z_new_1, z_pu_1, mh_1]; omega)) only [z_EvO_some, z_EvG_t, z_Bk_n, z_Bk_s, z_brT, z_brF, z_br_pos, z_br_neg, not_true_eq_false, not_false_eq_true, Bool.true_eq_false, Bool.false_eq_true, Bool.not_eq_false, Bool.not_eq_true, eq_self, z_kl_i, z_kl_l, z_kl_r, z_kl_k, z_kl_n, z_kl_u, z_kl_v, zi_f, zl_f, z_put_r, z_nul_n, z_nul_r, zcmp_lt, zcmp_le, zcmp_ge, zcmp_gt, zcmp_eq, zw_id, zx_id, Nat.reduceAdd, z_tf_i, z_tf_l, z_tf_z, zl_zx, zi_zw, z_gf0, z_gf1, z_gf2, z_gf3, z_gf4, z_gf5, z_gf6, z_gf7, z_pf0, z_pf1, z_pf2, z_pf3, z_pf4, z_pf5, z_pf6, z_pf7, z_ob1, zb_0, zb_1, zb_tf, r151_0, r151_1, r151_4, r151_7, r151_8, r151_11, r151_13, r151_16, r151_17, r151_18, r151_19, r151_20, r151_21, r151_23, r151_24, r151_27, r151_30, r151_31, r151_32, r151_35, r151_37, r151_40, r151_41, r151_42, r151_45, r151_47, r151_50, r151_53, r151_56, r151_59, r151_60, r151_62, r151_65, r151_66, r151_67, r151_70, r151_71, r151_72, r151_75, r151_76, r151_79, r151_80, r151_82, r151_85, r151_88, r151_89, r151_90, r151_91, r151_92, r151_95, r151_96, r151_97, r151_98, r151_99, r151_102, r151_105, r151_106, r151_107, r151_108, r151_109, r151_112, r151_114, r151_117, r151_118, r151_121, r151_122, zSt_ob hs, t145 hs, t102 hs hL.pz, decide_eq_true hz]
          rfl
        · rw [decide_eq_false hz]
          simp (disch := first | omega | assumption | exact zq_r _ | exact zn_0 | exact zo_i _ | exact zo_r _ | exact zq_k _ | exact zq_n | exact zn_1 _ | exact zn_2 _ _ | exact zn_3 _ _ _ | exact zn_4 _ _ _ _ | exact zn_5 _ _ _ _ _ | exact zc_i _ | exact zc_r _ | exact zo_l _ | exact zo_k _ | exact zo_n | exact zc_rk _ | (rw [zx_id (by omega)]; omega) | (rw [zw_id (by omega)]; omega) | (apply z_ok_v; assumption) | (simp only [z_new_1, z_pu_1, mh_1]; omega)) only [z_EvO_some, z_EvG_t, z_Bk_n, z_Bk_s, z_brT, z_brF, z_br_pos, z_br_neg, not_true_eq_false, not_false_eq_true, Bool.true_eq_false, Bool.false_eq_true, Bool.not_eq_false, Bool.not_eq_true, eq_self, z_kl_i, z_kl_l, z_kl_r, z_kl_k, z_kl_n, z_kl_u, z_kl_v, zi_f, zl_f, z_put_r, z_nul_n, z_nul_r, zcmp_lt, zcmp_le, zcmp_ge, zcmp_gt, zcmp_eq, zw_id, zx_id, Nat.reduceAdd, z_tf_i, z_tf_l, z_tf_z, zl_zx, zi_zw, z_gf0, z_gf1, z_gf2, z_gf3, z_gf4, z_gf5, z_gf6, z_gf7, z_pf0, z_pf1, z_pf2, z_pf3, z_pf4, z_pf5, z_pf6, z_pf7, z_ob1, zb_0, zb_1, zb_tf, r151_0, r151_1, r151_4, r151_7, r151_8, r151_11, r151_13, r151_16, r151_17, r151_18, r151_19, r151_20, r151_21, r151_23, r151_24, r151_27, r151_30, r151_31, r151_32, r151_35, r151_37, r151_40, r151_41, r151_42, r151_45, r151_47, r151_50, r151_53, r151_56, r151_59, r151_60, r151_62, r151_65, r151_66, r151_67, r151_70, r151_71, r151_72, r151_75, r151_76, r151_79, r151_80, r151_82, r151_85, r151_88, r151_89, r151_90, r151_91, r151_92, r151_95, r151_96, r151_97, r151_98, r151_99, r151_102, r151_105, r151_106, r151_107, r151_108, r151_109, r151_112, r151_114, r151_117, r151_118, r151_121, r151_122, zSt_ob hs, t145 hs, t102 hs hL.pz, decide_eq_false hz]
          rfl
  · have e : zfC w = false := by unfold zfC; rw [decide_eq_false h8]; simp
    rw [e]
    simp (disch := first | omega | assumption | exact zq_r _ | exact zn_0 | exact zo_i _ | exact zo_r _ | exact zq_k _ | exact zq_n | exact zn_1 _ | exact zn_2 _ _ | exact zn_3 _ _ _ | exact zn_4 _ _ _ _ | exact zn_5 _ _ _ _ _ | exact zc_i _ | exact zc_r _ | exact zo_l _ | exact zo_k _ | exact zo_n | exact zc_rk _ | (rw [zx_id (by omega)]; omega) | (rw [zw_id (by omega)]; omega) | (apply z_ok_v; assumption) | (simp only [z_new_1, z_pu_1, mh_1]; omega)) only [z_EvO_some, z_EvG_t, z_Bk_n, z_Bk_s, z_brT, z_brF, z_br_pos, z_br_neg, not_true_eq_false, not_false_eq_true, Bool.true_eq_false, Bool.false_eq_true, Bool.not_eq_false, Bool.not_eq_true, eq_self, z_kl_i, z_kl_l, z_kl_r, z_kl_k, z_kl_n, z_kl_u, z_kl_v, zi_f, zl_f, z_put_r, z_nul_n, z_nul_r, zcmp_lt, zcmp_le, zcmp_ge, zcmp_gt, zcmp_eq, zw_id, zx_id, Nat.reduceAdd, z_tf_i, z_tf_l, z_tf_z, zl_zx, zi_zw, z_gf0, z_gf1, z_gf2, z_gf3, z_gf4, z_gf5, z_gf6, z_gf7, z_pf0, z_pf1, z_pf2, z_pf3, z_pf4, z_pf5, z_pf6, z_pf7, z_ob1, zb_0, zb_1, zb_tf, e151, r151_0, r151_1, r151_4, r151_7, r151_8, r151_11, r151_13, r151_16, r151_17, r151_18, r151_19, r151_20, r151_21, r151_23, r151_24, r151_27, r151_30, r151_31, r151_32, r151_35, r151_37, r151_40, r151_41, r151_42, r151_45, r151_47, r151_50, r151_53, r151_56, r151_60, r151_62, r151_65, r151_66, r151_67, r151_70, r151_71, r151_72, r151_75, r151_76, r151_79, r151_80, r151_82, r151_85, r151_88, r151_89, r151_90, r151_91, r151_92, r151_95, r151_96, r151_97, r151_98, r151_99, r151_102, r151_105, r151_106, r151_107, r151_108, r151_109, r151_112, r151_114, r151_117, r151_118, r151_121, r151_122, zSt_ob hs, t65 hs, t103 hs, h0, decide_false]
    rfl
end ZFn
theorem zct_0 {c : Int} : ∀ {l : List Int}, zct c l = 0 ↔ ∀ j : Nat, j < l.length → l.getD j 0 ≠ c := by
  intro l
  induction l with
  | nil => simp [zct]
  | cons a t ih =>
    rw [zct]
    have hr := zct_r c t
    constructor
    · intro h j hj
      cases j with
      | zero => intro h9; simp at h9; rw [if_pos h9] at h; omega
      | succ j => simpa using ih.mp (by split at h <;> omega) j (by simpa using hj)
    · intro h
      have h1 : a ≠ c := by simpa using h 0 (by simp)
      rw [if_neg h1, ih.mpr (fun j hj => by simpa using h (j + 1) (by simpa using hj))]
      rfl
theorem zix_ct (c : Int) : ∀ (l : List Int) (i : Int), 0 ≤ i → (zix c l i < 0 ↔ zct c l = 0) := by
  intro l
  induction l with
  | nil => intro i _; simp [zix, zct]
  | cons a t ih =>
    intro i hi
    have hr := zct_r c t
    rw [zix, zct]
    split
    · constructor <;> (intro h; omega)
    · rw [ih (i + 1) (by omega)]
      omega
/-- with one % only: what stands behind it -/
theorem zps_1 : ∀ (l : List Int) (i : Int), 0 ≤ i → zct 37 l = 1 → (zps l = true ↔ (zix 37 l i - i + 1 < l.length ∧ l.getD (zix 37 l i - i + 1).toNat 0 = 115)) := by
  intro l
  induction l with
  | nil => intro i _ h; simp [zct] at h
  | cons a t ih =>
    intro i hi h
    have hr := zct_r 37 t
    rw [zct] at h
    rw [zix]
    by_cases ha : a = 37
    · rw [if_pos ha] at h ⊢
      have h0 : zct 37 t = 0 := by omega
      match t, h0 with
      | [], _ => simp [zps]
      | b :: t, h0 =>
        have hps : zps (b :: t) = false := by
          have : ∀ u : List Int, zct 37 u = 0 → zps u = false := by
            intro u
            induction u with
            | nil => intro _; rfl
            | cons x u ihu =>
              intro hu
              rw [zct] at hu
              have hru := zct_r 37 u
              have hx : x ≠ 37 := by intro hx; rw [if_pos hx] at hu; omega
              rw [if_neg hx] at hu
              match u, hu, ihu with
              | [], _, _ => rfl
              | y :: u, hu, ihu =>
                rw [zps, ihu (by omega)]
                simp [hx]
          exact this _ h0
        rw [zps, hps]
        simp [ha, show i - i + 1 = 1 by omega]
        omega
    · rw [if_neg ha] at h ⊢
      match t, h, ih with
      | [], h, _ => simp [zct] at h
      | b :: t, h, ih =>
        have hi2 := ih (i + 1) (by omega) (by omega)
        have hx := zix_r 37 (b :: t) (i + 1)
        have hpos : ¬ zix 37 (b :: t) (i + 1) < 0 := by
          rw [zix_ct 37 _ _ (by omega)]
          omega
        rw [zps]
        have e1 : (decide (a = 37) && decide (b = 115)) = false := by simp [ha]
        rw [e1, Bool.false_or, hi2]
        have e2 : (zix 37 (b :: t) (i + 1) - i + 1).toNat = (zix 37 (b :: t) (i + 1) - (i + 1) + 1).toNat + 1 := by omega
        rw [e2]
        simp only [List.length_cons, List.getD_cons_succ]
        constructor
        · rintro ⟨h1, h2⟩
          exact ⟨by omega, h2⟩
        · rintro ⟨h1, h2⟩
          exact ⟨by omega, h2⟩
theorem zf_eq (w : List Int) (hw : 1 ≤ w.length) : zfC w = zfM w := by
  have r1 := zct_r 47 w
  have r2 := zct_r 37 w
  have hi := zix_r 37 w 0
  have hx := zix_ct 37 w 0 (by omega)
  unfold zfC zfM
  rw [decide_eq_true hw, Bool.true_and]
  by_cases h8 : w.length ≤ 8
  · rw [decide_eq_true h8, Bool.true_and, Bool.true_and]
    by_cases hz : w = [37, 122]
    · subst hz; decide
    · rw [decide_eq_false hz]
      by_cases a0 : zct 47 w = 0
      · by_cases b0 : zct 37 w = 0
        · simp [a0, b0]
        · by_cases b1 : zct 37 w = 1
          · have hp := zps_1 w 0 (by omega) b1
            rw [Int.sub_zero] at hp
            have hn : ¬ zix 37 w 0 < 0 := fun q => b0 (hx.mp q)
            rw [Bool.eq_iff_iff]
            simp only [a0, b1, hn]
            simp [hp]
          · simp [a0, b0, b1, show ¬ zct 37 w = 1 from b1]
      · by_cases a1 : zct 47 w = 1
        · by_cases b0 : zct 37 w = 0
          · have hn : zix 37 w 0 < 0 := hx.mpr b0
            simp [a1, b0, hn]
          · simp [a1, b0, show ¬ 1 + zct 37 w = 0 by omega, show ¬ 1 + zct 37 w = 1 by omega]
        · simp [a1, show ¬ zct 47 w + zct 37 w = 0 by omega, show ¬ zct 47 w + zct 37 w = 1 by omega, show ¬ zct 47 w ≤ 1 by omega]
  · rw [decide_eq_false h8]
    simp
