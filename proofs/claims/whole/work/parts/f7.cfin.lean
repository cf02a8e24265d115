/-! the image, finished: the class -/
/-- the image's length and its bytes -/
def zIn (ts : List zTy) (cs : List (Int × Int)) : Nat := 3 + 5 * cs.length + 13 * ts.length
def zIb (ts : List zTy) (cs : List (Int × Int)) (j : Nat) : Int :=
  if j = 0 then (cs.length : Int) / 256 % 256 else if j = 1 then (cs.length : Int) % 256
  else if j < 2 + 4 * cs.length then zhb (cs.getD ((j - 2) / 4) (0, 0)).1 0 [] ((j - 2) % 4) % 256
  else if j < 2 + 5 * cs.length then (cs.getD (j - (2 + 4 * cs.length)) (0, 0)).2 % 256
  else if j = 2 + 5 * cs.length then (ts.length : Int) % 256
  else zhT (ts.getD ((j - (3 + 5 * cs.length)) / 13) (0, 0, [])) ((j - (3 + 5 * cs.length)) % 13) % 256
/-- the class's image -/
def zIc (G : Nat → Nat → Int) (im : Option (List zTy × List (Int × Int))) : Prop := match im with
  | none => G 7 1 = 0
  | some (ts, cs) => G 7 1 = zIn ts cs ∧ G 7 2 = cs.length ∧ cs.length ≤ 512 ∧ ts.length ≤ 28 ∧ (∀ j, j < zIn ts cs → G 8 j % 256 = zIb ts cs j ∧ -128 ≤ G 8 j ∧ G 8 j ≤ 127) ∧ (∀ j, j < cs.length → 0 ≤ (cs.getD j (0, 0)).2 ∧ (cs.getD j (0, 0)).2 < ts.length ∧ -2147483648 ≤ (cs.getD j (0, 0)).1 ∧ (cs.getD j (0, 0)).1 ≤ 2147483647) ∧ (∀ t, t < ts.length → zTo (ts.getD t (0, 0, []))) ∧ 1 ≤ ts.length
/-- the reference's image -/
def zIm (f : Nat → Int) (g : Nat → Nat → Int) (im : Option (List zTy × List (Int × Int))) : Prop := match im with
  | none => f 45 = 0
  | some (ts, cs) => f 45 = zIn ts cs ∧ f 46 = cs.length ∧ (∀ j, j < zIn ts cs → g 53 j = zIb ts cs j) ∧ (∀ j, j < cs.length → g 59 j = (cs.getD j (0, 0)).1 ∧ g 54 j = (cs.getD j (0, 0)).2) ∧ ∀ t, t < ts.length → g 55 t = (ts.getD t (0, 0, [])).1 ∧ g 57 t = (ts.getD t (0, 0, [])).2.1
section ZCf
variable {h : zH} {Q : zO → zH → Prop} {G : Nat → Nat → Int} {σ : zNs}
theorem t19 (hn : 0 ≤ G 7 2 ∧ G 7 2 ≤ 512) : z_Cl 19 [.ref 7] (ch h G) Q = Q (.inl (some (zi (2 + G 7 2 * 4)))) (ch h G) := by
  simp (disch := first | omega | assumption | exact zq_r _ | exact zn_0 | exact zo_i _ | exact zo_r _ | exact zq_k _ | exact zq_n | exact zn_1 _ | exact zn_2 _ _ | exact zn_3 _ _ _ | exact zn_4 _ _ _ _ | exact zn_5 _ _ _ _ _ | exact zc_i _ | exact zc_r _ | exact zo_l _ | exact zo_k _ | exact zo_n | exact zc_rk _ | (rw [zx_id (by omega)]; omega) | (rw [zw_id (by omega)]; omega) | (apply z_ok_v; assumption) | (simp only [z_new_1, z_pu_1, mh_1]; omega)) only [z_EvO_some, z_EvG_t, z_Bk_n, z_Bk_s, z_brT, z_brF, z_br_pos, z_br_neg, not_true_eq_false, not_false_eq_true, Bool.true_eq_false, Bool.false_eq_true, Bool.not_eq_false, Bool.not_eq_true, eq_self, z_kl_i, z_kl_l, z_kl_r, z_kl_k, z_kl_n, z_kl_u, z_kl_v, zi_f, zl_f, z_put_r, z_nul_n, z_nul_r, zcmp_lt, zcmp_le, zcmp_ge, zcmp_gt, zcmp_eq, zw_id, zx_id, Nat.reduceAdd, z_tf_i, z_tf_l, z_tf_z, zl_zx, zi_zw, z_gf0, z_gf1, z_gf2, z_gf3, z_gf4, z_gf5, z_gf6, z_gf7, z_pf0, z_pf1, z_pf2, z_pf3, z_pf4, z_pf5, z_pf6, z_pf7, z_ob1, zb_0, zb_1, zb_tf, cat_o, cat_k, ch_1, cgf0_0, cgf0_1, cgf0_2, cgf0_3, cpf0_3, cgf0_4, cgf0_5, cgf0_6, cgf0_7, cpf0_7, cob_0, cat_0, cpu_0, cgf5_0, cgf5_1, cpf5_1, cob_5, cat_5, cpu_5, cat_6, cpu_6, cgf7_0, cgf7_1, cpf7_1, cgf7_2, cpf7_2, cgf7_3, cpf7_3, cgf7_4, cgf7_5, cgf7_6, cpf7_6, cgf7_7, cpf7_7, cob_7, cat_7, cpu_7, cat_8, cpu_8, cat_9, cpu_9, cat_10, cpu_10, cat_11, cpu_11, zg_ai_A, zg_al_A, zg_si_A, zg_sl_A, zg_ab_b, zg_sb_b, z_len_A, z_len_L, e19, r19_0, r19_1, r19_2, r19_5, r19_6, r19_7, r19_8]
theorem t84 (hn : 0 ≤ G 7 2 ∧ G 7 2 ≤ 512) : z_Cl 84 [.ref 7] (ch h G) Q = Q (.inl (some (zi (2 + G 7 2 * 4 + G 7 2 + 1)))) (ch h G) := by
  simp (disch := first | omega | assumption | exact zq_r _ | exact zn_0 | exact zo_i _ | exact zo_r _ | exact zq_k _ | exact zq_n | exact zn_1 _ | exact zn_2 _ _ | exact zn_3 _ _ _ | exact zn_4 _ _ _ _ | exact zn_5 _ _ _ _ _ | exact zc_i _ | exact zc_r _ | exact zo_l _ | exact zo_k _ | exact zo_n | exact zc_rk _ | (rw [zx_id (by omega)]; omega) | (rw [zw_id (by omega)]; omega) | (apply z_ok_v; assumption) | (simp only [z_new_1, z_pu_1, mh_1]; omega)) only [z_EvO_some, z_EvG_t, z_Bk_n, z_Bk_s, z_brT, z_brF, z_br_pos, z_br_neg, not_true_eq_false, not_false_eq_true, Bool.true_eq_false, Bool.false_eq_true, Bool.not_eq_false, Bool.not_eq_true, eq_self, z_kl_i, z_kl_l, z_kl_r, z_kl_k, z_kl_n, z_kl_u, z_kl_v, zi_f, zl_f, z_put_r, z_nul_n, z_nul_r, zcmp_lt, zcmp_le, zcmp_ge, zcmp_gt, zcmp_eq, zw_id, zx_id, Nat.reduceAdd, z_tf_i, z_tf_l, z_tf_z, zl_zx, zi_zw, z_gf0, z_gf1, z_gf2, z_gf3, z_gf4, z_gf5, z_gf6, z_gf7, z_pf0, z_pf1, z_pf2, z_pf3, z_pf4, z_pf5, z_pf6, z_pf7, z_ob1, zb_0, zb_1, zb_tf, cat_o, cat_k, ch_1, cgf0_0, cgf0_1, cgf0_2, cgf0_3, cpf0_3, cgf0_4, cgf0_5, cgf0_6, cgf0_7, cpf0_7, cob_0, cat_0, cpu_0, cgf5_0, cgf5_1, cpf5_1, cob_5, cat_5, cpu_5, cat_6, cpu_6, cgf7_0, cgf7_1, cpf7_1, cgf7_2, cpf7_2, cgf7_3, cpf7_3, cgf7_4, cgf7_5, cgf7_6, cpf7_6, cgf7_7, cpf7_7, cob_7, cat_7, cpu_7, cat_8, cpu_8, cat_9, cpu_9, cat_10, cpu_10, cat_11, cpu_11, zg_ai_A, zg_al_A, zg_si_A, zg_sl_A, zg_ab_b, zg_sb_b, z_len_A, z_len_L, e84, r84_0, r84_1, r84_4, r84_5, r84_8, r84_9, r84_10, r84_11, t19]
/-- the row, finished -/
def zrw (G : Nat → Nat → Int) (n m : Nat) : Nat → Int := va_cpy (G 10) (va_up (va_cpy (G 9) (va_up (va_up (G 8) 0 (Int.bmod ((n : Int) / 256) 256)) 1 (Int.bmod n 256)) 0 (2 + 4 * n) n) (2 + 5 * n) (Int.bmod m 256)) 0 (3 + 5 * n) (13 * m)
theorem t117 {n m : Nat} (h2 : G 7 2 = n) (h6 : G 7 6 = m) (hn : n ≤ 512) (hm : m ≤ 28) : z_Cl 117 [.ref 7] (ch h G) Q = Q (.inl none) (ch h (va_up (va_up G 8 (zrw G n m)) 7 (va_up (G 7) 1 (3 + 5 * n + 13 * m)))) := by
  have c7 : ∀ y : Nat → Int, va_up G 8 y 7 = G 7 := fun y => va_up_ne _ _ (by decide)
  have c8 : ∀ y : Nat → Int, va_up G 8 y 8 = y := fun y => va_up_self _ _ _
  have c9 : ∀ y : Nat → Int, va_up G 8 y 9 = G 9 := fun y => va_up_ne _ _ (by decide)
  have c10 : ∀ y : Nat → Int, va_up G 8 y 10 = G 10 := fun y => va_up_ne _ _ (by decide)
  have cc : ∀ y z : Nat → Int, va_up (va_up G 8 y) 8 z = va_up G 8 z := fun y z => by
    funext a
    by_cases ha : a = 8
    · rw [ha, va_up_self, va_up_self]
    · rw [va_up_ne _ _ ha, va_up_ne _ _ ha, va_up_ne _ _ ha]
  have x19 : ∀ (y : Nat → Int) (Q' : zO → zH → Prop), z_Cl 19 [.ref 7] (ch h (va_up G 8 y)) Q' = Q' (.inl (some (zi (2 + (n : Int) * 4)))) (ch h (va_up G 8 y)) := fun y Q' => by
    rw [t19 (by rw [c7]; omega), c7, h2]
  have x84 : ∀ (y : Nat → Int) (Q' : zO → zH → Prop), z_Cl 84 [.ref 7] (ch h (va_up G 8 y)) Q' = Q' (.inl (some (zi (2 + (n : Int) * 4 + n + 1)))) (ch h (va_up G 8 y)) := fun y Q' => by
    rw [t84 (by rw [c7]; omega), c7, h2]
  have e1 : (2 + (n : Int) * 4).toNat = 2 + 4 * n := by omega
  have e2 : (2 + (n : Int) * 4 + n + 1).toNat = 3 + 5 * n := by omega
  have e3 : (2 + (n : Int) * 4 + n + 1 - 1).toNat = 2 + 5 * n := by omega
  have e4 : ((m : Int) * 13).toNat = 13 * m := by omega
  have e5 : ((n : Nat) : Int).toNat = n := by omega
  have e6 : (2 + (n : Int) * 4 + n + 1 + m * 13) = 3 + 5 * n + 13 * m := by omega
  have e0 : (0 : Int).toNat = 0 := rfl
  have e11 : (1 : Int).toNat = 1 := rfl
  have bb : ∀ x : Int, Int.bmod (Int.bmod x 256) 256 = Int.bmod x 256 := fun x => Int.bmod_bmod
  unfold zrw
  simp (disch := first | omega | assumption | exact zq_r _ | exact zn_0 | exact zo_i _ | exact zo_r _ | exact zq_k _ | exact zq_n | exact zn_1 _ | exact zn_2 _ _ | exact zn_3 _ _ _ | exact zn_4 _ _ _ _ | exact zn_5 _ _ _ _ _ | exact zc_i _ | exact zc_r _ | exact zo_l _ | exact zo_k _ | exact zo_n | exact zc_rk _ | (rw [zx_id (by omega)]; omega) | (rw [zw_id (by omega)]; omega) | (apply z_ok_v; assumption) | (simp only [z_new_1, z_pu_1, mh_1]; omega)) only [z_EvO_some, z_EvG_t, z_Bk_n, z_Bk_s, z_brT, z_brF, z_br_pos, z_br_neg, not_true_eq_false, not_false_eq_true, Bool.true_eq_false, Bool.false_eq_true, Bool.not_eq_false, Bool.not_eq_true, eq_self, z_kl_i, z_kl_l, z_kl_r, z_kl_k, z_kl_n, z_kl_u, z_kl_v, zi_f, zl_f, z_put_r, z_nul_n, z_nul_r, zcmp_lt, zcmp_le, zcmp_ge, zcmp_gt, zcmp_eq, zw_id, zx_id, Nat.reduceAdd, z_tf_i, z_tf_l, z_tf_z, zl_zx, zi_zw, z_gf0, z_gf1, z_gf2, z_gf3, z_gf4, z_gf5, z_gf6, z_gf7, z_pf0, z_pf1, z_pf2, z_pf3, z_pf4, z_pf5, z_pf6, z_pf7, z_ob1, zb_0, zb_1, zb_tf, cat_o, cat_k, ch_1, cgf0_0, cgf0_1, cgf0_2, cgf0_3, cpf0_3, cgf0_4, cgf0_5, cgf0_6, cgf0_7, cpf0_7, cob_0, cat_0, cpu_0, cgf5_0, cgf5_1, cpf5_1, cob_5, cat_5, cpu_5, cat_6, cpu_6, cgf7_0, cgf7_1, cpf7_1, cgf7_2, cpf7_2, cgf7_3, cpf7_3, cgf7_4, cgf7_5, cgf7_6, cpf7_6, cgf7_7, cpf7_7, cob_7, cat_7, cpu_7, cat_8, cpu_8, cat_9, cpu_9, cat_10, cpu_10, cat_11, cpu_11, zg_ai_A, zg_al_A, zg_si_A, zg_sl_A, zg_ab_b, zg_sb_b, z_len_A, z_len_L, e117, r117_0, r117_1, r117_4, r117_5, r117_6, r117_9, r117_11, r117_12, r117_13, r117_14, r117_15, r117_18, r117_19, r117_20, r117_23, r117_24, r117_25, r117_26, r117_29, r117_30, r117_31, r117_34, r117_35, r117_38, r117_39, r117_42, r117_45, r117_46, r117_49, r117_50, r117_53, r117_54, r117_55, r117_56, r117_59, r117_60, r117_61, r117_62, r117_65, r117_66, r117_67, r117_70, r117_71, r117_74, r117_75, r117_78, r117_80, r117_81, r117_84, r117_85, r117_86, r117_89, r117_90, r117_93, r117_95, r117_96, r117_97, r117_100, h2, h6, c7, c8, c9, c10, cc, x19, x84, e1, e2, e3, e4, e5, e6, e0, e11, bb, z_ishr8, z_atr_r, z_cpy_A]
theorem zIc_fin (hK : zKI G σ) (h0 : 1 ≤ σ.1.length) (hcs : ∀ j, j < σ.2.1.length → (σ.2.1.getD j (0, 0)).2 < σ.1.length ∧ -2147483648 ≤ (σ.2.1.getD j (0, 0)).1 ∧ (σ.2.1.getD j (0, 0)).1 ≤ 2147483647) : zIc (va_up (va_up G 8 (zrw G σ.2.1.length σ.1.length)) 7 (va_up (G 7) 1 (3 + 5 * σ.2.1.length + 13 * σ.1.length))) (some (σ.1, σ.2.1)) := by
  obtain ⟨⟨k1, k2, k3⟩, k4, k5, k6, k7, k8, k9⟩ := hK
  have b0 := zbm_q ((σ.2.1.length : Int) / 256)
  have b1 := zbm_q (σ.2.1.length : Int)
  have b2 := zbm_q (σ.1.length : Int)
  refine ⟨?_, ?_, k7, k6, fun j hj => ?_, fun j hj => ⟨(k5 j hj).2.1.1, hcs j hj⟩, fun t ht => (k4 t ht).1, h0⟩
  · rw [va_up_self, va_up_self]
    unfold zIn
    omega
  · rw [va_up_self, va_up_ne _ _ (by decide)]
    exact k1
  · rw [va_up_ne _ _ (by decide), va_up_self]
    unfold zIn at hj
    unfold zrw zIb va_cpy
    by_cases j0 : j = 0
    · subst j0
      rw [if_neg (by omega), va_up_ne _ _ (by omega), if_neg (by omega), va_up_ne _ _ (by omega), va_up_self, if_pos rfl]
      exact ⟨b0.2.2, b0.1, b0.2.1⟩
    · rw [if_neg j0]
      by_cases j1 : j = 1
      · subst j1
        rw [if_neg (by omega), va_up_ne _ _ (by omega), if_neg (by omega), va_up_self, if_pos rfl]
        exact ⟨b1.2.2, b1.1, b1.2.1⟩
      · rw [if_neg j1]
        by_cases j2 : j < 2 + 4 * σ.2.1.length
        · have hq : (j - 2) / 4 < σ.2.1.length := by omega
          have := (k5 _ hq).2.2 ((j - 2) % 4) (by omega)
          rw [show 2 + 4 * ((j - 2) / 4) + (j - 2) % 4 = j by omega] at this
          rw [if_neg (by omega), va_up_ne _ _ (by omega), if_neg (by omega), va_up_ne _ _ (by omega), va_up_ne _ _ (by omega), if_pos j2, this]
          refine ⟨rfl, ?_⟩
          have r0 := zbm_q ((σ.2.1.getD ((j - 2) / 4) (0, 0)).1 / 16777216)
          have r1 := zbm_q ((σ.2.1.getD ((j - 2) / 4) (0, 0)).1 / 65536)
          have r2 := zbm_q ((σ.2.1.getD ((j - 2) / 4) (0, 0)).1 / 256)
          have r3 := zbm_q (σ.2.1.getD ((j - 2) / 4) (0, 0)).1
          unfold zhb
          split
          · omega
          · split
            · omega
            · split
              · omega
              · rw [if_pos (by omega)]
                omega
        · rw [if_neg j2]
          by_cases j3 : j < 2 + 5 * σ.2.1.length
          · have hq : j - (2 + 4 * σ.2.1.length) < σ.2.1.length := by omega
            have := k5 _ hq
            rw [if_neg (by omega), va_up_ne _ _ (by omega), if_pos (by omega), if_pos j3, show 0 + (j - (2 + 4 * σ.2.1.length)) = j - (2 + 4 * σ.2.1.length) by omega, this.1]
            exact ⟨rfl, by omega, by omega⟩
          · rw [if_neg j3]
            by_cases j4 : j = 2 + 5 * σ.2.1.length
            · rw [if_pos j4, if_neg (by omega), j4, va_up_self]
              exact ⟨b2.2.2, b2.1, b2.2.1⟩
            · rw [if_neg j4]
              have hq : (j - (3 + 5 * σ.2.1.length)) / 13 < σ.1.length := by omega
              have := (k4 _ hq).2 ((j - (3 + 5 * σ.2.1.length)) % 13) (by omega)
              have hr := zhT_r (k4 _ hq).1 ((j - (3 + 5 * σ.2.1.length)) % 13)
              rw [show 13 * ((j - (3 + 5 * σ.2.1.length)) / 13) + (j - (3 + 5 * σ.2.1.length)) % 13 = j - (3 + 5 * σ.2.1.length) by omega] at this
              rw [if_pos (by omega), show 0 + (j - (3 + 5 * σ.2.1.length)) = j - (3 + 5 * σ.2.1.length) by omega, this]
              exact ⟨rfl, hr.1, hr.2⟩
end ZCf
