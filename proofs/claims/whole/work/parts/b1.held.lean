/-! what holds, as bytes: the class's Held -/
/-- the given cells are those of the start -/
def zLk (h : zH) : Prop := ∃ (L : Nat) (xs : Nat → Int32), h.2.2.2 = z_K0 L xs
theorem zLk.lit {h : zH} (hk : zLk h) : zLit h := by
  obtain ⟨L, xs, hk⟩ := hk
  intro j x hx
  have hl : j < zt_strs.length := by
    have := (List.getElem?_eq_some_iff.mp hx).1
    exact this
  have hl2 := zg_len
  have e1 : z_at h (.retAddr (2 * j)) = .inr (2, [.retAddr (2 * j + 1), zi 0]) := by
    show h.2.2.2 (2 * j) = _
    rw [hk]
    unfold z_K0
    rw [if_neg (by omega), show 2 * j / 2 = j by omega, hx]
    dsimp only
    rw [if_pos (by omega)]
    rfl
  have e2 : z_at h (.retAddr (2 * j + 1)) = zA 2 (x.2.2.2.map (fun n : Nat => (n : Int))).length (fun i => ((x.2.2.2.getD i 0 : Nat) : Int)) := by
    show h.2.2.2 (2 * j + 1) = _
    rw [hk]
    unfold z_K0
    rw [if_neg (by omega), show (2 * j + 1) / 2 = j by omega, hx]
    dsimp only
    rw [if_neg (by omega), List.length_map]
    unfold zA
    congr 4
  have hall : zt_strs.all (fun x => decide (x.2.2.2.length ≤ 1000) && x.2.2.2.all (fun n => decide (n ≤ 127))) = true := by decide +kernel
  have h1 := List.all_eq_true.mp hall x (List.mem_of_getElem? hx)
  rw [Bool.and_eq_true] at h1
  refine ⟨.retAddr (2 * j + 1), [], _, rfl, e1, rfl, e2, ?_, ?_, ?_⟩
  · intro i hi
    rw [List.length_map] at hi
    dsimp only
    rw [List.getD_eq_getElem?_getD, List.getD_eq_getElem?_getD, List.getElem?_map, List.getElem?_eq_getElem hi]
    rfl
  · rw [List.length_map]
    exact of_decide_eq_true h1.1
  · intro c hc
    obtain ⟨n, hn, rfl⟩ := List.mem_map.mp hc
    have := of_decide_eq_true (List.all_eq_true.mp h1.2 n hn)
    omega
theorem zLit.e0 {h : zH} (hL : zLit h) : zSt h (.retAddr 0) [] := hL 0 _ rfl
theorem zLit.pz2 {h : zH} (hL : zLit h) : zSt h (.retAddr 2) [37, 122] := hL 1 _ rfl
theorem zLit.pat {h : zH} (hL : zLit h) : zSt h (.retAddr 4) zpat := hL 2 _ rfl
/-- four bytes at a place -/
def zpi (u : Nat → Int) (k : Nat) (x : Int) : Nat → Int := va_up (va_up (va_up (va_up u k (Int.bmod (x / 16777216) 256)) (k + 1) (Int.bmod (x / 65536) 256)) (k + 2) (Int.bmod (x / 256) 256)) (k + 3) (Int.bmod x 256)
section ZHe
variable {h : zH} {Q : zO → zH → Prop} {G : Nat → Nat → Int} {a b c x o i : Int} {w lt : List Int} {y : Nat → Int} {N p q : Nat} {u : Nat → Int} {v : Value}
theorem zbm_r (x : Int) : -128 ≤ Int.bmod x 256 ∧ Int.bmod x 256 ≤ 127 := by
  have h1 := Int.le_bmod (x := x) (m := 256) (by decide)
  have h2 := Int.bmod_lt (x := x) (m := 256) (by decide)
  constructor <;> omega
theorem zbm_i (x : Int) : Int.bmod (Int.bmod x 256) 256 = Int.bmod x 256 := Int.bmod_bmod
theorem s22 (hb : z_at h (.ref p) = zA 2 N u) (hN : N ≤ 3000) (ha : 0 ≤ a ∧ a + 4 ≤ N) (hx : -2147483648 ≤ x ∧ x ≤ 2147483647) : z_Cl 22 [.ref p, zi a, zi x] h Q = Q (.inl none) (z_pu h p (zA 2 N (zpi u a.toNat x))) := by
  have r1 := zbm_r (x / 16777216)
  have r2 := zbm_r (x / 65536)
  have r3 := zbm_r (x / 256)
  have r4 := zbm_r x
  have e1 : (a + 1).toNat = a.toNat + 1 := by omega
  have e2 : (a + 2).toNat = a.toNat + 2 := by omega
  have e3 : (a + 3).toNat = a.toNat + 3 := by omega
  simp (disch := first | omega | assumption | exact zq_r _ | exact zn_0 | exact zo_i _ | exact zo_r _ | exact zq_k _ | exact zq_n | exact zn_1 _ | exact zn_2 _ _ | exact zn_3 _ _ _ | exact zn_4 _ _ _ _ | exact zn_5 _ _ _ _ _ | exact zc_i _ | exact zc_r _ | exact zo_l _ | exact zo_k _ | exact zo_n | exact zc_rk _ | (rw [zx_id (by omega)]; omega) | (rw [zw_id (by omega)]; omega) | (apply z_ok_v; assumption) | (simp only [z_new_1, z_pu_1, mh_1]; omega)) only [z_EvO_some, z_EvG_t, z_Bk_n, z_Bk_s, z_brT, z_brF, z_br_pos, z_br_neg, not_true_eq_false, not_false_eq_true, Bool.true_eq_false, Bool.false_eq_true, Bool.not_eq_false, Bool.not_eq_true, eq_self, z_kl_i, z_kl_l, z_kl_r, z_kl_k, z_kl_n, z_kl_u, z_kl_v, zi_f, zl_f, z_put_r, z_nul_n, z_nul_r, zcmp_lt, zcmp_le, zcmp_ge, zcmp_gt, zcmp_eq, zw_id, zx_id, Nat.reduceAdd, z_tf_i, z_tf_l, z_tf_z, zl_zx, zi_zw, z_gf0, z_gf1, z_gf2, z_gf3, z_gf4, z_gf5, z_gf6, z_gf7, z_pf0, z_pf1, z_pf2, z_pf3, z_pf4, z_pf5, z_pf6, z_pf7, z_ob1, zb_0, zb_1, zb_tf, z_at_pu_e, z_at_pu_n, z_at_pu_k, z_at_new_e, z_at_new_n, z_at_new_k, z_new_1, z_pu_1, z_atr_r, e22, r22_0, r22_1, r22_4, r22_5, r22_6, r22_7, r22_8, r22_9, r22_12, r22_13, r22_14, r22_15, r22_16, r22_18, r22_19, r22_20, r22_21, r22_22, r22_23, r22_24, r22_25, r22_26, r22_28, r22_29, r22_30, r22_31, r22_32, r22_33, r22_34, r22_35, r22_36, r22_38, r22_39, r22_40, r22_41, r22_42, r22_43, r22_44, r22_45, r22_46, r22_47, r22_48, hb, z_len_A, z_ishr24, z_ishr16, z_ishr8, zg_sb_b, zbm_i, e1, e2, e3, z_pu_pu]
  rfl
/-- the name so far -/
def cn (h : zH) (G : Nat → Nat → Int) (n : Int) (y : Nat → Int) : zH := ch h (va_up (va_up G 5 (va_up (G 5) 1 n)) 6 y)
theorem cn_up5 (n m : Int) (y : Nat → Int) : ch h (va_up (va_up (va_up G 5 (va_up (G 5) 1 n)) 6 y) 5 (va_up (va_up (va_up G 5 (va_up (G 5) 1 n)) 6 y 5) 1 m)) = cn h G m y := by
  unfold cn
  congr 1
  funext k
  by_cases h5 : k = 5
  · subst h5
    rw [va_up_self, va_up_ne _ _ (by decide), va_up_self, va_up_ne _ _ (by decide), va_up_self, va_up_up]
  · rw [va_up_ne _ _ h5]
    by_cases h6 : k = 6
    · subst h6; rw [va_up_self, va_up_self]
    · rw [va_up_ne _ _ h6, va_up_ne _ _ h6, va_up_ne _ _ h5, va_up_ne _ _ h5]
theorem p15 (ht : zT w (fun j => y (5 + j))) (hw : w.length ≤ 8) (hc : 0 ≤ c ∧ c ≤ 127)
    (kk : ∀ y', zT ((w ++ [c]).take 8) (fun j => y' (5 + j)) → (∀ k, k < 5 → y' k = y k) → Q (.inl none) (cn h G (5 + ((w ++ [c]).take 8).length) y')) : z_Cl 15 [.ref 5, zi c] (cn h G (5 + w.length) y) Q := by
  have e5 : va_up (va_up G 5 (va_up (G 5) 1 (5 + (w.length : Int)))) 6 y 5 = va_up (G 5) 1 (5 + (w.length : Int)) := by rw [va_up_ne _ _ (by decide), va_up_self]
  have e51 : va_up (G 5) 1 (5 + (w.length : Int)) 1 = 5 + w.length := va_up_self _ _ _
  have e6 : va_up (va_up G 5 (va_up (G 5) 1 (5 + (w.length : Int)))) 6 y 6 = y := va_up_self _ _ _
  have ec := zb_small c hc
  by_cases h8 : w.length < 8
  · have e7 : (5 + (w.length : Int)).toNat = 5 + w.length := by omega
    have el : (5 + ((w ++ [c]).take 8).length : Int) = 5 + (w.length : Int) + 1 := by
      rw [ztake_len hw, if_pos h8]; omega
    have := kk (va_up y (5 + w.length) c) (by
      have := zT_take (c := c) ht hw
      rw [if_pos h8] at this
      intro j hj
      rw [← this j hj]
      by_cases hjw : j = w.length
      · subst hjw
        show va_up y (5 + w.length) c (5 + w.length) = _
        rw [va_up_self, va_up_self]
      · show va_up y (5 + w.length) c (5 + j) = _
        rw [va_up_ne _ _ (by omega), va_up_ne _ _ hjw]) (fun k hk => va_up_ne _ _ (by omega))
    rw [el] at this
    unfold cn
    simp (disch := first | omega | assumption | exact zq_r _ | exact zn_0 | exact zo_i _ | exact zo_r _ | exact zq_k _ | exact zq_n | exact zn_1 _ | exact zn_2 _ _ | exact zn_3 _ _ _ | exact zn_4 _ _ _ _ | exact zn_5 _ _ _ _ _ | exact zc_i _ | exact zc_r _ | exact zo_l _ | exact zo_k _ | exact zo_n | exact zc_rk _ | (rw [zx_id (by omega)]; omega) | (rw [zw_id (by omega)]; omega) | (apply z_ok_v; assumption) | (simp only [z_new_1, z_pu_1, mh_1]; omega)) only [z_EvO_some, z_EvG_t, z_Bk_n, z_Bk_s, z_brT, z_brF, z_br_pos, z_br_neg, not_true_eq_false, not_false_eq_true, Bool.true_eq_false, Bool.false_eq_true, Bool.not_eq_false, Bool.not_eq_true, eq_self, z_kl_i, z_kl_l, z_kl_r, z_kl_k, z_kl_n, z_kl_u, z_kl_v, zi_f, zl_f, z_put_r, z_nul_n, z_nul_r, zcmp_lt, zcmp_le, zcmp_ge, zcmp_gt, zcmp_eq, zw_id, zx_id, Nat.reduceAdd, z_tf_i, z_tf_l, z_tf_z, zl_zx, zi_zw, z_gf0, z_gf1, z_gf2, z_gf3, z_gf4, z_gf5, z_gf6, z_gf7, z_pf0, z_pf1, z_pf2, z_pf3, z_pf4, z_pf5, z_pf6, z_pf7, z_ob1, zb_0, zb_1, zb_tf, cat_o, cat_k, ch_1, cgf0_0, cgf0_1, cgf0_2, cgf0_3, cpf0_3, cgf0_4, cgf0_5, cgf0_6, cgf0_7, cpf0_7, cob_0, cat_0, cpu_0, cgf5_0, cgf5_1, cpf5_1, cob_5, cat_5, cpu_5, cat_6, cpu_6, cgf7_0, cgf7_1, cpf7_1, cgf7_2, cpf7_2, cgf7_3, cpf7_3, cgf7_4, cgf7_5, cgf7_6, cpf7_6, cgf7_7, cpf7_7, cob_7, cat_7, cpu_7, cat_8, cpu_8, cat_9, cpu_9, cat_10, cpu_10, cat_11, cpu_11, zg_ai_A, zg_al_A, zg_si_A, zg_sl_A, zg_ab_b, zg_sb_b, z_len_A, z_len_L, e15, r15_0, r15_1, r15_4, r15_6, r15_9, r15_10, r15_13, r15_14, r15_17, r15_18, r15_19, r15_20, r15_21, r15_22, r15_25, r15_26, r15_27, r15_30, e5, e51, e6, e7, ec]
    have e8 : ch h (va_up (va_up (va_up (va_up G 5 (va_up (G 5) 1 (5 + (w.length : Int)))) 6 y) 6 (va_up y (5 + w.length) c)) 5 (va_up (va_up (va_up (va_up G 5 (va_up (G 5) 1 (5 + (w.length : Int)))) 6 y) 6 (va_up y (5 + w.length) c) 5) 1 (va_up (va_up (va_up G 5 (va_up (G 5) 1 (5 + (w.length : Int)))) 6 y) 6 (va_up y (5 + w.length) c) 5 1 + 1))) = cn h G (5 + (w.length : Int) + 1) (va_up y (5 + w.length) c) := by
      rw [va_up_up, cn_up5]
      congr 1
    rw [e8]
    exact this
  · have e7 : (5 + (w.length : Int)) = 13 := by omega
    have el : (5 + ((w ++ [c]).take 8).length : Int) = 5 + (w.length : Int) := by
      rw [ztake_len hw, if_neg h8]; omega
    have := kk y (by
      have := zT_take (c := c) ht hw
      rw [if_neg h8] at this
      exact this) (fun k hk => rfl)
    rw [el] at this
    unfold cn at this ⊢
    simp (disch := first | omega | assumption | exact zq_r _ | exact zn_0 | exact zo_i _ | exact zo_r _ | exact zq_k _ | exact zq_n | exact zn_1 _ | exact zn_2 _ _ | exact zn_3 _ _ _ | exact zn_4 _ _ _ _ | exact zn_5 _ _ _ _ _ | exact zc_i _ | exact zc_r _ | exact zo_l _ | exact zo_k _ | exact zo_n | exact zc_rk _ | (rw [zx_id (by omega)]; omega) | (rw [zw_id (by omega)]; omega) | (apply z_ok_v; assumption) | (simp only [z_new_1, z_pu_1, mh_1]; omega)) only [z_EvO_some, z_EvG_t, z_Bk_n, z_Bk_s, z_brT, z_brF, z_br_pos, z_br_neg, not_true_eq_false, not_false_eq_true, Bool.true_eq_false, Bool.false_eq_true, Bool.not_eq_false, Bool.not_eq_true, eq_self, z_kl_i, z_kl_l, z_kl_r, z_kl_k, z_kl_n, z_kl_u, z_kl_v, zi_f, zl_f, z_put_r, z_nul_n, z_nul_r, zcmp_lt, zcmp_le, zcmp_ge, zcmp_gt, zcmp_eq, zw_id, zx_id, Nat.reduceAdd, z_tf_i, z_tf_l, z_tf_z, zl_zx, zi_zw, z_gf0, z_gf1, z_gf2, z_gf3, z_gf4, z_gf5, z_gf6, z_gf7, z_pf0, z_pf1, z_pf2, z_pf3, z_pf4, z_pf5, z_pf6, z_pf7, z_ob1, zb_0, zb_1, zb_tf, cat_o, cat_k, ch_1, cgf0_0, cgf0_1, cgf0_2, cgf0_3, cpf0_3, cgf0_4, cgf0_5, cgf0_6, cgf0_7, cpf0_7, cob_0, cat_0, cpu_0, cgf5_0, cgf5_1, cpf5_1, cob_5, cat_5, cpu_5, cat_6, cpu_6, cgf7_0, cgf7_1, cpf7_1, cgf7_2, cpf7_2, cgf7_3, cpf7_3, cgf7_4, cgf7_5, cgf7_6, cpf7_6, cgf7_7, cpf7_7, cob_7, cat_7, cpu_7, cat_8, cpu_8, cat_9, cpu_9, cat_10, cpu_10, cat_11, cpu_11, zg_ai_A, zg_al_A, zg_si_A, zg_sl_A, zg_ab_b, zg_sb_b, z_len_A, z_len_L, e15, r15_0, r15_1, r15_4, r15_6, r15_9, r15_10, r15_13, r15_14, r15_17, r15_18, r15_19, r15_20, r15_21, r15_22, r15_25, r15_26, r15_27, r15_30, e5, e51, e6]
    exact this
end ZHe
