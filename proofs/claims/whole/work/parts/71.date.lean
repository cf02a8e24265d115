/-! dates of days: the two ways -/
section ZV
variable {h : zH} {f : Nat → Int} {g : Nat → Nat → Int} {Q : zO → zH → Prop} {a b c d m x y n : Int}
theorem s76 (hn : -719528 ≤ n ∧ n ≤ 2932896) : z_Cl 76 [zl n] h Q = Q (.inl (some (zl (zcY n * 10000 + zcM n * 100 + zcD n)))) h := by
  have h1 := zc1 n
  have h2 := zc2 n
  have h3 := zc3 n
  have h7 := zc7 hn
  have e1 : n + 719468 - (n + 719468) / 146097 * 146097 = zv_i n := by unfold zv_i; omega
  have e2 : (zv_i n - zv_i n / 1460 + zv_i n / 36524 - zv_i n / 146096) / 365 = zv_y n := rfl
  have e3 : zv_i n - (365 * zv_y n + zv_y n / 4 - zv_y n / 100) = zv_q n := rfl
  have e4 : (5 * zv_q n + 2) / 153 = zv_k n := rfl
  have hY : zcY n = (n + 719468) / 146097 * 400 + zv_y n + (if zcM n ≤ 2 then 1 else 0) := rfl
  have hM : zcM n = if zv_k n < 10 then zv_k n + 3 else zv_k n - 9 := rfl
  have hD : zcD n = zv_q n - (153 * zv_k n + 2) / 5 + 1 := rfl
  simp (disch := first | omega | assumption | exact zq_r _ | exact zn_0 | exact zo_i _ | exact zo_r _ | exact zq_k _ | exact zq_n | exact zn_1 _ | exact zn_2 _ _ | exact zn_3 _ _ _ | exact zn_4 _ _ _ _ | exact zn_5 _ _ _ _ _ | exact zc_i _ | exact zc_r _ | exact zo_l _ | exact zo_k _ | exact zo_n | exact zc_rk _ | (rw [zx_id (by omega)]; omega) | (rw [zw_id (by omega)]; omega) | (apply z_ok_v; assumption)) only [z_EvO_some, z_EvG_t, z_Bk_n, z_Bk_s, z_brT, z_brF, z_br_pos, z_br_neg, not_true_eq_false, not_false_eq_true, Bool.true_eq_false, Bool.false_eq_true, Bool.not_eq_false, Bool.not_eq_true, eq_self, z_kl_i, z_kl_l, z_kl_r, z_kl_k, z_kl_n, z_kl_u, z_kl_v, zi_f, zl_f, z_put_r, z_nul_n, z_nul_r, zcmp_lt, zcmp_le, zcmp_ge, zcmp_gt, zcmp_eq, zw_id, zx_id, Nat.reduceAdd, z_tf_i, z_tf_l, z_tf_z, zl_zx, zi_zw, z_gf0, z_gf1, z_gf2, z_gf3, z_gf4, z_gf5, z_gf6, z_gf7, z_pf0, z_pf1, z_pf2, z_pf3, z_pf4, z_pf5, z_pf6, z_pf7, z_ob1, zb_0, zb_1, zb_tf, e76, r76_0, r76_1, r76_4, r76_5, r76_6, r76_7, r76_10, r76_13, r76_15, r76_16, r76_18, r76_21, r76_22, r76_23, r76_24, r76_26, r76_28, r76_30, r76_33, r76_34, r76_35, r76_37, r76_39, r76_40, r76_41, r76_43, r76_45, r76_46, r76_47, r76_50, r76_51, r76_53, r76_55, r76_58, r76_60, r76_61, r76_63, r76_64, r76_65, r76_66, r76_68, r76_70, r76_71, r76_72, r76_73, r76_75, r76_76, r76_78, r76_79, r76_80, r76_81, r76_84, r76_85, r76_87, r76_89, r76_92, r76_94, r76_95, r76_96, r76_97, r76_98, r76_99, r76_100, r76_101, r76_102, r76_104, r76_106, r76_108, r76_111, r76_113, r76_114, r76_115, r76_118, r76_120, r76_122, r76_123, r76_125, r76_127, r76_130, r76_131, r76_133, r76_134, r76_135, r76_137, r76_138, r76_141, r76_142, r76_145, r76_146, r76_147, r76_148, r76_150, r76_152, r76_155, r76_156, r76_158, r76_159, r76_162, r76_163, r76_164, r76_166, r76_167, r76_168, s58, e1, z_td, e2, e3, e4]
  repeat' (first | refine z_br_eq (fun _ => ?_) (fun _ => ?_) | simp (disch := first | omega | assumption | exact zq_r _ | exact zn_0 | exact zo_i _ | exact zo_r _ | exact zq_k _ | exact zq_n | exact zn_1 _ | exact zn_2 _ _ | exact zn_3 _ _ _ | exact zn_4 _ _ _ _ | exact zn_5 _ _ _ _ _ | exact zc_i _ | exact zc_r _ | exact zo_l _ | exact zo_k _ | exact zo_n | exact zc_rk _ | (rw [zx_id (by omega)]; omega) | (rw [zw_id (by omega)]; omega) | (apply z_ok_v; assumption)) only [z_EvO_some, z_EvG_t, z_Bk_n, z_Bk_s, z_brT, z_brF, z_br_pos, z_br_neg, not_true_eq_false, not_false_eq_true, Bool.true_eq_false, Bool.false_eq_true, Bool.not_eq_false, Bool.not_eq_true, eq_self, z_kl_i, z_kl_l, z_kl_r, z_kl_k, z_kl_n, z_kl_u, z_kl_v, zi_f, zl_f, z_put_r, z_nul_n, z_nul_r, zcmp_lt, zcmp_le, zcmp_ge, zcmp_gt, zcmp_eq, zw_id, zx_id, Nat.reduceAdd, z_tf_i, z_tf_l, z_tf_z, zl_zx, zi_zw, z_gf0, z_gf1, z_gf2, z_gf3, z_gf4, z_gf5, z_gf6, z_gf7, z_pf0, z_pf1, z_pf2, z_pf3, z_pf4, z_pf5, z_pf6, z_pf7, z_ob1, zb_0, zb_1, zb_tf, r76_0, r76_1, r76_4, r76_5, r76_6, r76_7, r76_10, r76_13, r76_15, r76_16, r76_18, r76_21, r76_22, r76_23, r76_24, r76_26, r76_28, r76_30, r76_33, r76_34, r76_35, r76_37, r76_39, r76_40, r76_41, r76_43, r76_45, r76_46, r76_47, r76_50, r76_51, r76_53, r76_55, r76_58, r76_60, r76_61, r76_63, r76_64, r76_65, r76_66, r76_68, r76_70, r76_71, r76_72, r76_73, r76_75, r76_76, r76_78, r76_79, r76_80, r76_81, r76_84, r76_85, r76_87, r76_89, r76_92, r76_94, r76_95, r76_96, r76_97, r76_98, r76_99, r76_100, r76_101, r76_102, r76_104, r76_106, r76_108, r76_111, r76_113, r76_114, r76_115, r76_118, r76_120, r76_122, r76_123, r76_125, r76_127, r76_130, r76_131, r76_133, r76_134, r76_135, r76_137, r76_138, r76_141, r76_142, r76_145, r76_146, r76_147, r76_148, r76_150, r76_152, r76_155, r76_156, r76_158, r76_159, r76_162, r76_163, r76_164, r76_166, r76_167, r76_168, s58, e1, z_td, e2, e3, e4])
  all_goals exact z_ql (by rw [hY, hD]; rw [hM]; (repeat' split) <;> omega)
/-- the reference seeks the year up and down ... -/
theorem l123a (hn : -719528 ≤ n ∧ n ≤ 2932896) : ∀ (k : Nat) (y : Int), y = zcY n + k → y ≤ 20000 → z_Ev 123 17 [.ref 21, zl n, z_um, zi y, z_um] [] (mh h f g) Q = z_Ev 123 34 [.ref 21, zl n, z_um, zi (zcY n), z_um] [] (mh h f g) Q := by
  have h6 := zc6 n
  have h7 := zc7 hn
  intro k
  induction k with
  | zero =>
    intro y hy hy2
    obtain rfl : y = zcY n := by omega
    rw [k123_17]
    have r1 := zdays_r (y := zcY n) (m := 1) (d := 1) (by omega) (by omega) (by omega)
    simp (disch := first | omega | assumption | exact zq_r _ | exact zn_0 | exact zo_i _ | exact zo_r _ | exact zq_k _ | exact zq_n | exact zn_1 _ | exact zn_2 _ _ | exact zn_3 _ _ _ | exact zn_4 _ _ _ _ | exact zn_5 _ _ _ _ _ | exact zc_i _ | exact zc_r _ | exact zo_l _ | exact zo_k _ | exact zo_n | exact zc_rk _ | (rw [zx_id (by omega)]; omega) | (rw [zw_id (by omega)]; omega) | (apply z_ok_v; assumption)) only [z_EvO_some, z_EvG_t, z_Bk_n, z_Bk_s, z_brT, z_brF, z_br_pos, z_br_neg, not_true_eq_false, not_false_eq_true, Bool.true_eq_false, Bool.false_eq_true, Bool.not_eq_false, Bool.not_eq_true, eq_self, z_kl_i, z_kl_l, z_kl_r, z_kl_k, z_kl_n, z_kl_u, z_kl_v, zi_f, zl_f, z_put_r, z_nul_n, z_nul_r, zcmp_lt, zcmp_le, zcmp_ge, zcmp_gt, zcmp_eq, zw_id, zx_id, Nat.reduceAdd, z_tf_i, z_tf_l, z_tf_z, zl_zx, zi_zw, z_gf0, z_gf1, z_gf2, z_gf3, z_gf4, z_gf5, z_gf6, z_gf7, z_pf0, z_pf1, z_pf2, z_pf3, z_pf4, z_pf5, z_pf6, z_pf7, z_ob1, zb_0, zb_1, zb_tf, r123_0, r123_1, r123_4, r123_5, r123_8, r123_11, r123_12, r123_15, r123_16, r123_18, r123_19, r123_20, r123_23, r123_24, r123_25, r123_28, r123_31, r123_35, r123_36, r123_37, r123_38, r123_39, r123_42, r123_43, r123_44, r123_47, r123_50, r123_53, r123_54, r123_57, r123_59, r123_60, r123_61, r123_62, r123_65, r123_66, r123_67, r123_70, r123_73, r123_76, r123_77, r123_78, r123_81, r123_82, r123_84, r123_87, r123_88, r123_89, r123_90, r123_92, r123_93, r123_96, r123_97, r123_98, r123_99, r123_100, r123_103, s88]
  | succ k ih =>
    intro y hy hy2
    have h8 := zd_mono (y := zcY n) (z := y) (by omega)
    have r1 := zdays_r (y := y) (m := 1) (d := 1) (by omega) (by omega) (by omega)
    rw [k123_17]
    simp (disch := first | omega | assumption | exact zq_r _ | exact zn_0 | exact zo_i _ | exact zo_r _ | exact zq_k _ | exact zq_n | exact zn_1 _ | exact zn_2 _ _ | exact zn_3 _ _ _ | exact zn_4 _ _ _ _ | exact zn_5 _ _ _ _ _ | exact zc_i _ | exact zc_r _ | exact zo_l _ | exact zo_k _ | exact zo_n | exact zc_rk _ | (rw [zx_id (by omega)]; omega) | (rw [zw_id (by omega)]; omega) | (apply z_ok_v; assumption)) only [z_EvO_some, z_EvG_t, z_Bk_n, z_Bk_s, z_brT, z_brF, z_br_pos, z_br_neg, not_true_eq_false, not_false_eq_true, Bool.true_eq_false, Bool.false_eq_true, Bool.not_eq_false, Bool.not_eq_true, eq_self, z_kl_i, z_kl_l, z_kl_r, z_kl_k, z_kl_n, z_kl_u, z_kl_v, zi_f, zl_f, z_put_r, z_nul_n, z_nul_r, zcmp_lt, zcmp_le, zcmp_ge, zcmp_gt, zcmp_eq, zw_id, zx_id, Nat.reduceAdd, z_tf_i, z_tf_l, z_tf_z, zl_zx, zi_zw, z_gf0, z_gf1, z_gf2, z_gf3, z_gf4, z_gf5, z_gf6, z_gf7, z_pf0, z_pf1, z_pf2, z_pf3, z_pf4, z_pf5, z_pf6, z_pf7, z_ob1, zb_0, zb_1, zb_tf, r123_0, r123_1, r123_4, r123_5, r123_8, r123_11, r123_12, r123_15, r123_16, r123_18, r123_19, r123_20, r123_23, r123_24, r123_25, r123_28, r123_31, r123_35, r123_36, r123_37, r123_38, r123_39, r123_42, r123_43, r123_44, r123_47, r123_50, r123_53, r123_54, r123_57, r123_59, r123_60, r123_61, r123_62, r123_65, r123_66, r123_67, r123_70, r123_73, r123_76, r123_77, r123_78, r123_81, r123_82, r123_84, r123_87, r123_88, r123_89, r123_90, r123_92, r123_93, r123_96, r123_97, r123_98, r123_99, r123_100, r123_103, s88]
    exact ih (y + -1) (by omega) (by omega)
theorem l123b (hn : -719528 ≤ n ∧ n ≤ 2932896) : ∀ (k : Nat) (y : Int), y + k = zcY n → -20000 ≤ y → z_Ev 123 34 [.ref 21, zl n, z_um, zi y, z_um] [] (mh h f g) Q = z_Ev 123 34 [.ref 21, zl n, z_um, zi (zcY n), z_um] [] (mh h f g) Q := by
  have h6 := zc6 n
  have h7 := zc7 hn
  intro k
  induction k with
  | zero =>
    intro y hy hy2
    obtain rfl : y = zcY n := by omega
    rfl
  | succ k ih =>
    intro y hy hy2
    have h8 : zdays (y + 1) 1 1 ≤ n := by
      by_cases e : y + 1 = zcY n
      · rw [e]; omega
      · have := zd_mono (y := y + 1) (z := zcY n) (by omega)
        have h9 : zdays (y + 1) 1 1 ≤ zdays (y + 1 + 1) 1 1 := by
          unfold zdays
          simp only [show (1 : Int) < 3 by decide, if_true]
          omega
        omega
    have r1 : -10000000 ≤ zdays (y + 1) 1 1 := by
      unfold zdays
      simp only [show (1 : Int) < 3 by decide, if_true]
      omega
    conv => lhs; rw [k123_34]
    simp (disch := first | omega | assumption | exact zq_r _ | exact zn_0 | exact zo_i _ | exact zo_r _ | exact zq_k _ | exact zq_n | exact zn_1 _ | exact zn_2 _ _ | exact zn_3 _ _ _ | exact zn_4 _ _ _ _ | exact zn_5 _ _ _ _ _ | exact zc_i _ | exact zc_r _ | exact zo_l _ | exact zo_k _ | exact zo_n | exact zc_rk _ | (rw [zx_id (by omega)]; omega) | (rw [zw_id (by omega)]; omega) | (apply z_ok_v; assumption)) only [z_EvO_some, z_EvG_t, z_Bk_n, z_Bk_s, z_brT, z_brF, z_br_pos, z_br_neg, not_true_eq_false, not_false_eq_true, Bool.true_eq_false, Bool.false_eq_true, Bool.not_eq_false, Bool.not_eq_true, eq_self, z_kl_i, z_kl_l, z_kl_r, z_kl_k, z_kl_n, z_kl_u, z_kl_v, zi_f, zl_f, z_put_r, z_nul_n, z_nul_r, zcmp_lt, zcmp_le, zcmp_ge, zcmp_gt, zcmp_eq, zw_id, zx_id, Nat.reduceAdd, z_tf_i, z_tf_l, z_tf_z, zl_zx, zi_zw, z_gf0, z_gf1, z_gf2, z_gf3, z_gf4, z_gf5, z_gf6, z_gf7, z_pf0, z_pf1, z_pf2, z_pf3, z_pf4, z_pf5, z_pf6, z_pf7, z_ob1, zb_0, zb_1, zb_tf, r123_0, r123_1, r123_4, r123_5, r123_8, r123_11, r123_12, r123_15, r123_16, r123_18, r123_19, r123_20, r123_23, r123_24, r123_25, r123_28, r123_31, r123_35, r123_36, r123_37, r123_38, r123_39, r123_42, r123_43, r123_44, r123_47, r123_50, r123_53, r123_54, r123_57, r123_59, r123_60, r123_61, r123_62, r123_65, r123_66, r123_67, r123_70, r123_73, r123_76, r123_77, r123_78, r123_81, r123_82, r123_84, r123_87, r123_88, r123_89, r123_90, r123_92, r123_93, r123_96, r123_97, r123_98, r123_99, r123_100, r123_103, s88]
    exact ih (y + 1) (by omega) (by omega)
theorem l123c (hn : -719528 ≤ n ∧ n ≤ 2932896) : ∀ (k : Nat) (m : Int), m + k = zcM n → 1 ≤ m → z_Ev 123 56 [.ref 21, zl n, z_um, zi (zcY n), zi m] [] (mh h f g) Q = Q (.inl none) (mh h (va_up (va_up (va_up f 58 (zcY n)) 59 (zcM n)) 60 (zcD n)) g) := by
  have h3 := zc3 n
  have h4 := zc4 n
  have h5 := zc5 n
  have h7 := zc7 hn
  intro k
  induction k with
  | zero =>
    intro m hm hm1
    obtain rfl : m = zcM n := by omega
    have r1 := zdays_r (y := zcY n) (m := zcM n) (d := 1) (by omega) (by omega) (by omega)
    have r2 := zdn_r (y := zcY n) (m := zcM n) (d := 1) (by omega) (by omega) (by omega)
    have e1 : n - zdays (zcY n) (zcM n) 1 + 1 = zcD n := by omega
    rw [k123_56]
    simp (disch := first | omega | assumption | exact zq_r _ | exact zn_0 | exact zo_i _ | exact zo_r _ | exact zq_k _ | exact zq_n | exact zn_1 _ | exact zn_2 _ _ | exact zn_3 _ _ _ | exact zn_4 _ _ _ _ | exact zn_5 _ _ _ _ _ | exact zc_i _ | exact zc_r _ | exact zo_l _ | exact zo_k _ | exact zo_n | exact zc_rk _ | (rw [zx_id (by omega)]; omega) | (rw [zw_id (by omega)]; omega) | (apply z_ok_v; assumption)) only [z_EvO_some, z_EvG_t, z_Bk_n, z_Bk_s, z_brT, z_brF, z_br_pos, z_br_neg, not_true_eq_false, not_false_eq_true, Bool.true_eq_false, Bool.false_eq_true, Bool.not_eq_false, Bool.not_eq_true, eq_self, z_kl_i, z_kl_l, z_kl_r, z_kl_k, z_kl_n, z_kl_u, z_kl_v, zi_f, zl_f, z_put_r, z_nul_n, z_nul_r, zcmp_lt, zcmp_le, zcmp_ge, zcmp_gt, zcmp_eq, zw_id, zx_id, Nat.reduceAdd, z_tf_i, z_tf_l, z_tf_z, zl_zx, zi_zw, z_gf0, z_gf1, z_gf2, z_gf3, z_gf4, z_gf5, z_gf6, z_gf7, z_pf0, z_pf1, z_pf2, z_pf3, z_pf4, z_pf5, z_pf6, z_pf7, z_ob1, zb_0, zb_1, zb_tf, r123_0, r123_1, r123_4, r123_5, r123_8, r123_11, r123_12, r123_15, r123_16, r123_18, r123_19, r123_20, r123_23, r123_24, r123_25, r123_28, r123_31, r123_35, r123_36, r123_37, r123_38, r123_39, r123_42, r123_43, r123_44, r123_47, r123_50, r123_53, r123_54, r123_57, r123_59, r123_60, r123_61, r123_62, r123_65, r123_66, r123_67, r123_70, r123_73, r123_76, r123_77, r123_78, r123_81, r123_82, r123_84, r123_87, r123_88, r123_89, r123_90, r123_92, r123_93, r123_96, r123_97, r123_98, r123_99, r123_100, r123_103, s88n, s88, mat_21, mpu_21, mat_22, mpu_22, mat_23, mpu_23, mat_24, mpu_24, mat_25, mpu_25, mat_26, mpu_26, mat_27, mpu_27, mat_28, mpu_28, mat_29, mpu_29, mat_30, mpu_30, mat_31, mpu_31, mat_32, mpu_32, mat_33, mpu_33, mat_34, mpu_34, mat_35, mpu_35, mat_36, mpu_36, mat_37, mpu_37, mat_38, mpu_38, mat_39, mpu_39, mat_40, mpu_40, mat_41, mpu_41, mat_42, mpu_42, mat_43, mpu_43, mat_44, mpu_44, mat_45, mpu_45, mat_46, mpu_46, mat_47, mpu_47, mat_48, mpu_48, mat_49, mpu_49, mat_50, mpu_50, mat_51, mpu_51, mat_52, mpu_52, mat_53, mpu_53, mat_54, mpu_54, mat_55, mpu_55, mat_56, mpu_56, mat_57, mpu_57, mat_58, mpu_58, mat_59, mpu_59, mat_60, mpu_60, mat_61, mpu_61, mgf_0, mgf_1, mgf_2, mgf_3, mgf_4, mpf_4, mgf_5, mgf_6, mpf_6, mgf_7, mpf_7, mgf_8, mgf_9, mgf_10, mpf_10, mgf_11, mpf_11, mgf_12, mpf_12, mgf_13, mpf_13, mgf_14, mpf_14, mgf_15, mpf_15, mgf_16, mgf_17, mgf_18, mgf_19, mgf_20, mgf_21, mgf_22, mgf_23, mgf_24, mgf_25, mgf_26, mgf_27, mgf_28, mpf_28, mgf_29, mgf_30, mgf_31, mgf_32, mgf_33, mgf_34, mgf_35, mgf_36, mgf_37, mgf_38, mgf_39, mgf_40, mpf_40, mgf_41, mpf_41, mgf_42, mpf_42, mgf_43, mpf_43, mgf_44, mgf_45, mpf_45, mgf_46, mpf_46, mgf_47, mpf_47, mgf_48, mgf_49, mgf_50, mgf_51, mgf_52, mgf_53, mgf_54, mgf_55, mgf_56, mpf_56, mgf_57, mgf_58, mpf_58, mgf_59, mpf_59, mgf_60, mpf_60, mob, zg_ai_A, zg_al_A, zg_si_A, zg_sl_A, zg_ab_z, zg_sb_z, z_len_A, z_len_L, e1]
  | succ k ih =>
    intro m hm hm1
    have r2 := zdn_r (y := zcY n) (m := m) (d := 1) (by omega) (by omega) (by omega)
    have h8 : zdn (zcY n) m 1 ≤ n := by
      unfold zdn
      rw [if_neg (by omega)]
      have := zd_m (y := zcY n) (m := m + 1) (k := zcM n) (by omega) (by omega)
      omega
    rw [k123_56]
    simp (disch := first | omega | assumption | exact zq_r _ | exact zn_0 | exact zo_i _ | exact zo_r _ | exact zq_k _ | exact zq_n | exact zn_1 _ | exact zn_2 _ _ | exact zn_3 _ _ _ | exact zn_4 _ _ _ _ | exact zn_5 _ _ _ _ _ | exact zc_i _ | exact zc_r _ | exact zo_l _ | exact zo_k _ | exact zo_n | exact zc_rk _ | (rw [zx_id (by omega)]; omega) | (rw [zw_id (by omega)]; omega) | (apply z_ok_v; assumption)) only [z_EvO_some, z_EvG_t, z_Bk_n, z_Bk_s, z_brT, z_brF, z_br_pos, z_br_neg, not_true_eq_false, not_false_eq_true, Bool.true_eq_false, Bool.false_eq_true, Bool.not_eq_false, Bool.not_eq_true, eq_self, z_kl_i, z_kl_l, z_kl_r, z_kl_k, z_kl_n, z_kl_u, z_kl_v, zi_f, zl_f, z_put_r, z_nul_n, z_nul_r, zcmp_lt, zcmp_le, zcmp_ge, zcmp_gt, zcmp_eq, zw_id, zx_id, Nat.reduceAdd, z_tf_i, z_tf_l, z_tf_z, zl_zx, zi_zw, z_gf0, z_gf1, z_gf2, z_gf3, z_gf4, z_gf5, z_gf6, z_gf7, z_pf0, z_pf1, z_pf2, z_pf3, z_pf4, z_pf5, z_pf6, z_pf7, z_ob1, zb_0, zb_1, zb_tf, r123_0, r123_1, r123_4, r123_5, r123_8, r123_11, r123_12, r123_15, r123_16, r123_18, r123_19, r123_20, r123_23, r123_24, r123_25, r123_28, r123_31, r123_35, r123_36, r123_37, r123_38, r123_39, r123_42, r123_43, r123_44, r123_47, r123_50, r123_53, r123_54, r123_57, r123_59, r123_60, r123_61, r123_62, r123_65, r123_66, r123_67, r123_70, r123_73, r123_76, r123_77, r123_78, r123_81, r123_82, r123_84, r123_87, r123_88, r123_89, r123_90, r123_92, r123_93, r123_96, r123_97, r123_98, r123_99, r123_100, r123_103, s88n]
    exact ih (m + 1) (by omega) (by omega)
theorem s123 (hn : -719528 ≤ n ∧ n ≤ 2932896) : z_Cl 123 [.ref 21, zl n] (mh h f g) Q = Q (.inl none) (mh h (va_up (va_up (va_up f 58 (zcY n)) 59 (zcM n)) 60 (zcD n)) g) := by
  have h3 := zc3 n
  have h6 := zc6 n
  have h7 := zc7 hn
  simp (disch := first | omega | assumption | exact zq_r _ | exact zn_0 | exact zo_i _ | exact zo_r _ | exact zq_k _ | exact zq_n | exact zn_1 _ | exact zn_2 _ _ | exact zn_3 _ _ _ | exact zn_4 _ _ _ _ | exact zn_5 _ _ _ _ _ | exact zc_i _ | exact zc_r _ | exact zo_l _ | exact zo_k _ | exact zo_n | exact zc_rk _ | (rw [zx_id (by omega)]; omega) | (rw [zw_id (by omega)]; omega) | (apply z_ok_v; assumption)) only [z_EvO_some, z_EvG_t, z_Bk_n, z_Bk_s, z_brT, z_brF, z_br_pos, z_br_neg, not_true_eq_false, not_false_eq_true, Bool.true_eq_false, Bool.false_eq_true, Bool.not_eq_false, Bool.not_eq_true, eq_self, z_kl_i, z_kl_l, z_kl_r, z_kl_k, z_kl_n, z_kl_u, z_kl_v, zi_f, zl_f, z_put_r, z_nul_n, z_nul_r, zcmp_lt, zcmp_le, zcmp_ge, zcmp_gt, zcmp_eq, zw_id, zx_id, Nat.reduceAdd, z_tf_i, z_tf_l, z_tf_z, zl_zx, zi_zw, z_gf0, z_gf1, z_gf2, z_gf3, z_gf4, z_gf5, z_gf6, z_gf7, z_pf0, z_pf1, z_pf2, z_pf3, z_pf4, z_pf5, z_pf6, z_pf7, z_ob1, zb_0, zb_1, zb_tf, e123, r123_0, r123_1, r123_4, r123_5, r123_8, r123_11, r123_12, r123_15, r123_16, r123_18, r123_19, r123_20, r123_23, r123_24, r123_25, r123_28, r123_31, r123_35, r123_36, r123_37, r123_38, r123_39, r123_42, r123_43, r123_44, r123_47, r123_50, r123_53, r123_54, r123_57, r123_59, r123_60, r123_61, r123_62, r123_65, r123_66, r123_67, r123_70, r123_73, r123_76, r123_77, r123_78, r123_81, r123_82, r123_84, r123_87, r123_88, r123_89, r123_90, r123_92, r123_93, r123_96, r123_97, r123_98, r123_99, r123_100, r123_103, s36]
  generalize hy : n * 400 / 146097 + 1970 = y
  have hr : -20000 ≤ y ∧ y ≤ 20000 := by omega
  have step : z_Ev 123 34 [.ref 21, zl n, z_um, zi (zcY n), z_um] [] (mh h f g) Q = Q (.inl none) (mh h (va_up (va_up (va_up f 58 (zcY n)) 59 (zcM n)) 60 (zcD n)) g) := by
    have r1 : zdays (zcY n + 1) 1 1 ≤ 40000000 := (zdays_r (y := zcY n + 1) (m := 1) (d := 1) (by omega) (by omega) (by omega)).2
    rw [k123_34]
    simp (disch := first | omega | assumption | exact zq_r _ | exact zn_0 | exact zo_i _ | exact zo_r _ | exact zq_k _ | exact zq_n | exact zn_1 _ | exact zn_2 _ _ | exact zn_3 _ _ _ | exact zn_4 _ _ _ _ | exact zn_5 _ _ _ _ _ | exact zc_i _ | exact zc_r _ | exact zo_l _ | exact zo_k _ | exact zo_n | exact zc_rk _ | (rw [zx_id (by omega)]; omega) | (rw [zw_id (by omega)]; omega) | (apply z_ok_v; assumption)) only [z_EvO_some, z_EvG_t, z_Bk_n, z_Bk_s, z_brT, z_brF, z_br_pos, z_br_neg, not_true_eq_false, not_false_eq_true, Bool.true_eq_false, Bool.false_eq_true, Bool.not_eq_false, Bool.not_eq_true, eq_self, z_kl_i, z_kl_l, z_kl_r, z_kl_k, z_kl_n, z_kl_u, z_kl_v, zi_f, zl_f, z_put_r, z_nul_n, z_nul_r, zcmp_lt, zcmp_le, zcmp_ge, zcmp_gt, zcmp_eq, zw_id, zx_id, Nat.reduceAdd, z_tf_i, z_tf_l, z_tf_z, zl_zx, zi_zw, z_gf0, z_gf1, z_gf2, z_gf3, z_gf4, z_gf5, z_gf6, z_gf7, z_pf0, z_pf1, z_pf2, z_pf3, z_pf4, z_pf5, z_pf6, z_pf7, z_ob1, zb_0, zb_1, zb_tf, r123_0, r123_1, r123_4, r123_5, r123_8, r123_11, r123_12, r123_15, r123_16, r123_18, r123_19, r123_20, r123_23, r123_24, r123_25, r123_28, r123_31, r123_35, r123_36, r123_37, r123_38, r123_39, r123_42, r123_43, r123_44, r123_47, r123_50, r123_53, r123_54, r123_57, r123_59, r123_60, r123_61, r123_62, r123_65, r123_66, r123_67, r123_70, r123_73, r123_76, r123_77, r123_78, r123_81, r123_82, r123_84, r123_87, r123_88, r123_89, r123_90, r123_92, r123_93, r123_96, r123_97, r123_98, r123_99, r123_100, r123_103, s88]
    exact l123c hn (zcM n - 1).toNat 1 (by omega) (by omega)
  by_cases hc : zcY n ≤ y
  · rw [l123a hn (y - zcY n).toNat y (by omega) (by omega)]
    exact step
  · have h8 := zd_mono (y := y) (z := zcY n) (by omega)
    have r1 : -10000000 ≤ zdays y 1 1 ∧ zdays y 1 1 ≤ n := by
      have h9 : zdays y 1 1 ≤ zdays (y + 1) 1 1 := by
        unfold zdays
        simp only [show (1 : Int) < 3 by decide, if_true]
        omega
      constructor
      · unfold zdays
        simp only [show (1 : Int) < 3 by decide, if_true]
        omega
      · omega
    rw [k123_17]
    simp (disch := first | omega | assumption | exact zq_r _ | exact zn_0 | exact zo_i _ | exact zo_r _ | exact zq_k _ | exact zq_n | exact zn_1 _ | exact zn_2 _ _ | exact zn_3 _ _ _ | exact zn_4 _ _ _ _ | exact zn_5 _ _ _ _ _ | exact zc_i _ | exact zc_r _ | exact zo_l _ | exact zo_k _ | exact zo_n | exact zc_rk _ | (rw [zx_id (by omega)]; omega) | (rw [zw_id (by omega)]; omega) | (apply z_ok_v; assumption)) only [z_EvO_some, z_EvG_t, z_Bk_n, z_Bk_s, z_brT, z_brF, z_br_pos, z_br_neg, not_true_eq_false, not_false_eq_true, Bool.true_eq_false, Bool.false_eq_true, Bool.not_eq_false, Bool.not_eq_true, eq_self, z_kl_i, z_kl_l, z_kl_r, z_kl_k, z_kl_n, z_kl_u, z_kl_v, zi_f, zl_f, z_put_r, z_nul_n, z_nul_r, zcmp_lt, zcmp_le, zcmp_ge, zcmp_gt, zcmp_eq, zw_id, zx_id, Nat.reduceAdd, z_tf_i, z_tf_l, z_tf_z, zl_zx, zi_zw, z_gf0, z_gf1, z_gf2, z_gf3, z_gf4, z_gf5, z_gf6, z_gf7, z_pf0, z_pf1, z_pf2, z_pf3, z_pf4, z_pf5, z_pf6, z_pf7, z_ob1, zb_0, zb_1, zb_tf, r123_0, r123_1, r123_4, r123_5, r123_8, r123_11, r123_12, r123_15, r123_16, r123_18, r123_19, r123_20, r123_23, r123_24, r123_25, r123_28, r123_31, r123_35, r123_36, r123_37, r123_38, r123_39, r123_42, r123_43, r123_44, r123_47, r123_50, r123_53, r123_54, r123_57, r123_59, r123_60, r123_61, r123_62, r123_65, r123_66, r123_67, r123_70, r123_73, r123_76, r123_77, r123_78, r123_81, r123_82, r123_84, r123_87, r123_88, r123_89, r123_90, r123_92, r123_93, r123_96, r123_97, r123_98, r123_99, r123_100, r123_103, s88]
    rw [l123b hn (zcY n - y).toNat y (by omega) (by omega)]
    exact step
end ZV
