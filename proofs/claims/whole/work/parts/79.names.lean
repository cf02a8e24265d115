/-! names of months and days: the class -/
def zbg (S : List Int) (a : Nat) (w : List Int) : Bool := decide (1 ≤ w.length) && decide (w.length ≤ 10) && (List.range w.length).all (fun j => decide (S.getD (a + j) 0 = w.getD j 0))
theorem zbg_iff (S : List Int) (a : Nat) (w : List Int) : zbg S a w = true ↔ 1 ≤ w.length ∧ w.length ≤ 10 ∧ ∀ j, j < w.length → S.getD (a + j) 0 = w.getD j 0 := by
  simp [zbg, and_assoc]
/-- how many, and the last one, below m -/
def zcn (b : Nat → Bool) : Nat → Int
  | 0 => 0
  | m + 1 => if b m = true then zcn b m + 1 else zcn b m
def zls (b : Nat → Bool) : Nat → Int
  | 0 => -1
  | m + 1 => if b m = true then m else zls b m
def zun (b : Nat → Bool) (N : Nat) : Int := if zcn b N = 1 then zls b N else -1000000
theorem zcn_r (b : Nat → Bool) : ∀ m, 0 ≤ zcn b m ∧ zcn b m ≤ m := by
  intro m
  induction m with
  | zero => simp [zcn]
  | succ m ih => rw [zcn]; split <;> omega
theorem zcn_m (b : Nat → Bool) {m n : Nat} (h : m ≤ n) : zcn b m ≤ zcn b n := by
  induction h with
  | refl => exact Int.le_refl _
  | step _ ih => rw [zcn]; split <;> omega
theorem zls_r (b : Nat → Bool) : ∀ m, (zcn b m = 0 ∧ zls b m = -1) ∨ (0 ≤ zls b m ∧ zls b m < m) := by
  intro m
  induction m with
  | zero => left; simp [zcn, zls]
  | succ m ih =>
    rw [zcn, zls]
    split
    · right; omega
    · omega
section ZNm
variable {h : zH} {Q : zO → zH → Prop} {a b c x y : Int} {v vS : Value} {w S : List Int}
theorem l155 (hS : zSt h vS S) (hs : zSt h v w) (ha : 0 ≤ a ∧ a + w.length ≤ S.length) (hl : 1 ≤ w.length ∧ w.length ≤ 10) : ∀ (k : Nat) (i : Int), 0 ≤ i → i + k = w.length → (∀ j : Nat, (j : Int) < i → S.getD (a.toNat + j) 0 = w.getD j 0) → z_Ev 155 30 [vS, zi a, v, zi w.length, zi i] [] h Q = Q (.inl (some (zi (zb (zbg S a.toNat w))))) h := by
  have hw := zSt_w hs
  have hW := zSt_w hS
  have hv := zSt_rf hs
  have hV := zSt_rf hS
  intro k
  induction k with
  | zero =>
    intro i hi hk he
    rw [k155_30]
    have e : zbg S a.toNat w = true := (zbg_iff _ _ _).mpr ⟨hl.1, hl.2, fun j hj => he j (by omega)⟩
    rw [e]
    simp (disch := first | omega | assumption | exact zq_r _ | exact zn_0 | exact zo_i _ | exact zo_r _ | exact zq_k _ | exact zq_n | exact zn_1 _ | exact zn_2 _ _ | exact zn_3 _ _ _ | exact zn_4 _ _ _ _ | exact zn_5 _ _ _ _ _ | exact zc_i _ | exact zc_r _ | exact zo_l _ | exact zo_k _ | exact zo_n | exact zc_rk _ | (rw [zx_id (by omega)]; omega) | (rw [zw_id (by omega)]; omega) | (apply z_ok_v; assumption)) only [z_EvO_some, z_EvG_t, z_Bk_n, z_Bk_s, z_brT, z_brF, z_br_pos, z_br_neg, not_true_eq_false, not_false_eq_true, Bool.true_eq_false, Bool.false_eq_true, Bool.not_eq_false, Bool.not_eq_true, eq_self, z_kl_i, z_kl_l, z_kl_r, z_kl_k, z_kl_n, z_kl_u, z_kl_v, zi_f, zl_f, z_put_r, z_nul_n, z_nul_r, zcmp_lt, zcmp_le, zcmp_ge, zcmp_gt, zcmp_eq, zw_id, zx_id, Nat.reduceAdd, z_tf_i, z_tf_l, z_tf_z, zl_zx, zi_zw, z_gf0, z_gf1, z_gf2, z_gf3, z_gf4, z_gf5, z_gf6, z_gf7, z_pf0, z_pf1, z_pf2, z_pf3, z_pf4, z_pf5, z_pf6, z_pf7, z_ob1, zb_0, zb_1, zb_tf, r155_0, r155_1, r155_4, r155_5, r155_6, r155_9, r155_10, r155_12, r155_15, r155_16, r155_17, r155_18, r155_19, r155_22, r155_25, r155_26, r155_27, r155_28, r155_32, r155_33, r155_36, r155_37, r155_38, r155_40, r155_41, r155_44, r155_45, r155_47, r155_50, r155_53, r155_54, r155_55, r155_58, r155_61, r155_62]
    rfl
  | succ k ih =>
    intro i hi hk he
    have b1 := zw_c hw.2 i.toNat (by omega)
    have b2 := zw_c hW.2 (a + i).toNat (by omega)
    have e1 : (a + i).toNat = a.toNat + i.toNat := by omega
    rw [e1] at b2
    rw [k155_30]
    simp (disch := first | omega | assumption | exact zq_r _ | exact zn_0 | exact zo_i _ | exact zo_r _ | exact zq_k _ | exact zq_n | exact zn_1 _ | exact zn_2 _ _ | exact zn_3 _ _ _ | exact zn_4 _ _ _ _ | exact zn_5 _ _ _ _ _ | exact zc_i _ | exact zc_r _ | exact zo_l _ | exact zo_k _ | exact zo_n | exact zc_rk _ | (rw [zx_id (by omega)]; omega) | (rw [zw_id (by omega)]; omega) | (apply z_ok_v; assumption)) only [z_EvO_some, z_EvG_t, z_Bk_n, z_Bk_s, z_brT, z_brF, z_br_pos, z_br_neg, not_true_eq_false, not_false_eq_true, Bool.true_eq_false, Bool.false_eq_true, Bool.not_eq_false, Bool.not_eq_true, eq_self, z_kl_i, z_kl_l, z_kl_r, z_kl_k, z_kl_n, z_kl_u, z_kl_v, zi_f, zl_f, z_put_r, z_nul_n, z_nul_r, zcmp_lt, zcmp_le, zcmp_ge, zcmp_gt, zcmp_eq, zw_id, zx_id, Nat.reduceAdd, z_tf_i, z_tf_l, z_tf_z, zl_zx, zi_zw, z_gf0, z_gf1, z_gf2, z_gf3, z_gf4, z_gf5, z_gf6, z_gf7, z_pf0, z_pf1, z_pf2, z_pf3, z_pf4, z_pf5, z_pf6, z_pf7, z_ob1, zb_0, zb_1, zb_tf, r155_0, r155_1, r155_4, r155_5, r155_6, r155_9, r155_10, r155_12, r155_15, r155_16, r155_17, r155_18, r155_19, r155_22, r155_25, r155_26, r155_27, r155_28, r155_32, r155_33, r155_36, r155_37, r155_38, r155_40, r155_41, r155_44, r155_45, r155_47, r155_50, r155_53, r155_54, r155_55, r155_58, r155_61, r155_62, zSt_ob hS, zSt_ob hs, t144 hS, t144 hs, e1]
    refine z_br_eq (fun hq => ?_) (fun hq => ?_)
    · simp (disch := first | omega | assumption | exact zq_r _ | exact zn_0 | exact zo_i _ | exact zo_r _ | exact zq_k _ | exact zq_n | exact zn_1 _ | exact zn_2 _ _ | exact zn_3 _ _ _ | exact zn_4 _ _ _ _ | exact zn_5 _ _ _ _ _ | exact zc_i _ | exact zc_r _ | exact zo_l _ | exact zo_k _ | exact zo_n | exact zc_rk _ | (rw [zx_id (by omega)]; omega) | (rw [zw_id (by omega)]; omega) | (apply z_ok_v; assumption)) only [z_EvO_some, z_EvG_t, z_Bk_n, z_Bk_s, z_brT, z_brF, z_br_pos, z_br_neg, not_true_eq_false, not_false_eq_true, Bool.true_eq_false, Bool.false_eq_true, Bool.not_eq_false, Bool.not_eq_true, eq_self, z_kl_i, z_kl_l, z_kl_r, z_kl_k, z_kl_n, z_kl_u, z_kl_v, zi_f, zl_f, z_put_r, z_nul_n, z_nul_r, zcmp_lt, zcmp_le, zcmp_ge, zcmp_gt, zcmp_eq, zw_id, zx_id, Nat.reduceAdd, z_tf_i, z_tf_l, z_tf_z, zl_zx, zi_zw, z_gf0, z_gf1, z_gf2, z_gf3, z_gf4, z_gf5, z_gf6, z_gf7, z_pf0, z_pf1, z_pf2, z_pf3, z_pf4, z_pf5, z_pf6, z_pf7, z_ob1, zb_0, zb_1, zb_tf, r155_0, r155_1, r155_4, r155_5, r155_6, r155_9, r155_10, r155_12, r155_15, r155_16, r155_17, r155_18, r155_19, r155_22, r155_25, r155_26, r155_27, r155_28, r155_32, r155_33, r155_36, r155_37, r155_38, r155_40, r155_41, r155_44, r155_45, r155_47, r155_50, r155_53, r155_54, r155_55, r155_58, r155_61, r155_62]
      refine ih (i + 1) (by omega) (by omega) (fun j hj => ?_)
      by_cases hji : (j : Int) < i
      · exact he j hji
      · rw [show j = i.toNat by omega]
        exact hq
    · have e : zbg S a.toNat w = false := by
        rw [← Bool.not_eq_true, zbg_iff]
        exact fun q => hq (q.2.2 i.toNat (by omega))
      rw [e]
      simp (disch := first | omega | assumption | exact zq_r _ | exact zn_0 | exact zo_i _ | exact zo_r _ | exact zq_k _ | exact zq_n | exact zn_1 _ | exact zn_2 _ _ | exact zn_3 _ _ _ | exact zn_4 _ _ _ _ | exact zn_5 _ _ _ _ _ | exact zc_i _ | exact zc_r _ | exact zo_l _ | exact zo_k _ | exact zo_n | exact zc_rk _ | (rw [zx_id (by omega)]; omega) | (rw [zw_id (by omega)]; omega) | (apply z_ok_v; assumption)) only [z_EvO_some, z_EvG_t, z_Bk_n, z_Bk_s, z_brT, z_brF, z_br_pos, z_br_neg, not_true_eq_false, not_false_eq_true, Bool.true_eq_false, Bool.false_eq_true, Bool.not_eq_false, Bool.not_eq_true, eq_self, z_kl_i, z_kl_l, z_kl_r, z_kl_k, z_kl_n, z_kl_u, z_kl_v, zi_f, zl_f, z_put_r, z_nul_n, z_nul_r, zcmp_lt, zcmp_le, zcmp_ge, zcmp_gt, zcmp_eq, zw_id, zx_id, Nat.reduceAdd, z_tf_i, z_tf_l, z_tf_z, zl_zx, zi_zw, z_gf0, z_gf1, z_gf2, z_gf3, z_gf4, z_gf5, z_gf6, z_gf7, z_pf0, z_pf1, z_pf2, z_pf3, z_pf4, z_pf5, z_pf6, z_pf7, z_ob1, zb_0, zb_1, zb_tf, r155_0, r155_1, r155_4, r155_5, r155_6, r155_9, r155_10, r155_12, r155_15, r155_16, r155_17, r155_18, r155_19, r155_22, r155_25, r155_26, r155_27, r155_28, r155_32, r155_33, r155_36, r155_37, r155_38, r155_40, r155_41, r155_44, r155_45, r155_47, r155_50, r155_53, r155_54, r155_55, r155_58, r155_61, r155_62]
      rfl
theorem s155 (hS : zSt h vS S) (hs : zSt h v w) (ha : 0 ≤ a ∧ a + 10 ≤ S.length) : z_Cl 155 [vS, zi a, v] h Q = Q (.inl (some (zi (zb (zbg S a.toNat w))))) h := by
  have hw := zSt_w hs
  have hW := zSt_w hS
  have hv := zSt_rf hs
  have hV := zSt_rf hS
  by_cases hl : 1 ≤ w.length ∧ w.length ≤ 10
  · simp (disch := first | omega | assumption | exact zq_r _ | exact zn_0 | exact zo_i _ | exact zo_r _ | exact zq_k _ | exact zq_n | exact zn_1 _ | exact zn_2 _ _ | exact zn_3 _ _ _ | exact zn_4 _ _ _ _ | exact zn_5 _ _ _ _ _ | exact zc_i _ | exact zc_r _ | exact zo_l _ | exact zo_k _ | exact zo_n | exact zc_rk _ | (rw [zx_id (by omega)]; omega) | (rw [zw_id (by omega)]; omega) | (apply z_ok_v; assumption)) only [z_EvO_some, z_EvG_t, z_Bk_n, z_Bk_s, z_brT, z_brF, z_br_pos, z_br_neg, not_true_eq_false, not_false_eq_true, Bool.true_eq_false, Bool.false_eq_true, Bool.not_eq_false, Bool.not_eq_true, eq_self, z_kl_i, z_kl_l, z_kl_r, z_kl_k, z_kl_n, z_kl_u, z_kl_v, zi_f, zl_f, z_put_r, z_nul_n, z_nul_r, zcmp_lt, zcmp_le, zcmp_ge, zcmp_gt, zcmp_eq, zw_id, zx_id, Nat.reduceAdd, z_tf_i, z_tf_l, z_tf_z, zl_zx, zi_zw, z_gf0, z_gf1, z_gf2, z_gf3, z_gf4, z_gf5, z_gf6, z_gf7, z_pf0, z_pf1, z_pf2, z_pf3, z_pf4, z_pf5, z_pf6, z_pf7, z_ob1, zb_0, zb_1, zb_tf, e155, r155_0, r155_1, r155_4, r155_5, r155_6, r155_9, r155_10, r155_12, r155_15, r155_16, r155_17, r155_18, r155_19, r155_22, r155_25, r155_26, r155_27, r155_28, r155_32, r155_33, r155_36, r155_37, r155_38, r155_40, r155_41, r155_44, r155_45, r155_47, r155_50, r155_53, r155_54, r155_55, r155_58, r155_61, r155_62, zSt_ob hS, zSt_ob hs, t103 hS, t103 hs]
    exact l155 hS hs (by omega) hl w.length 0 (by omega) (by omega) (fun j hj => by omega)
  · have e : zbg S a.toNat w = false := by
      rw [← Bool.not_eq_true, zbg_iff]
      omega
    rw [e]
    simp (disch := first | omega | assumption | exact zq_r _ | exact zn_0 | exact zo_i _ | exact zo_r _ | exact zq_k _ | exact zq_n | exact zn_1 _ | exact zn_2 _ _ | exact zn_3 _ _ _ | exact zn_4 _ _ _ _ | exact zn_5 _ _ _ _ _ | exact zc_i _ | exact zc_r _ | exact zo_l _ | exact zo_k _ | exact zo_n | exact zc_rk _ | (rw [zx_id (by omega)]; omega) | (rw [zw_id (by omega)]; omega) | (apply z_ok_v; assumption)) only [z_EvO_some, z_EvG_t, z_Bk_n, z_Bk_s, z_brT, z_brF, z_br_pos, z_br_neg, not_true_eq_false, not_false_eq_true, Bool.true_eq_false, Bool.false_eq_true, Bool.not_eq_false, Bool.not_eq_true, eq_self, z_kl_i, z_kl_l, z_kl_r, z_kl_k, z_kl_n, z_kl_u, z_kl_v, zi_f, zl_f, z_put_r, z_nul_n, z_nul_r, zcmp_lt, zcmp_le, zcmp_ge, zcmp_gt, zcmp_eq, zw_id, zx_id, Nat.reduceAdd, z_tf_i, z_tf_l, z_tf_z, zl_zx, zi_zw, z_gf0, z_gf1, z_gf2, z_gf3, z_gf4, z_gf5, z_gf6, z_gf7, z_pf0, z_pf1, z_pf2, z_pf3, z_pf4, z_pf5, z_pf6, z_pf7, z_ob1, zb_0, zb_1, zb_tf, e155, r155_0, r155_1, r155_4, r155_5, r155_6, r155_9, r155_10, r155_12, r155_15, r155_16, r155_17, r155_18, r155_19, r155_22, r155_25, r155_26, r155_27, r155_28, r155_32, r155_33, r155_36, r155_37, r155_38, r155_40, r155_41, r155_44, r155_45, r155_47, r155_50, r155_53, r155_54, r155_55, r155_58, r155_61, r155_62, zSt_ob hS, zSt_ob hs, t103 hS, t103 hs]
    repeat' (first | refine z_br_eq (fun _ => ?_) (fun _ => ?_) | simp (disch := first | omega | assumption | exact zq_r _ | exact zn_0 | exact zo_i _ | exact zo_r _ | exact zq_k _ | exact zq_n | exact zn_1 _ | exact zn_2 _ _ | exact zn_3 _ _ _ | exact zn_4 _ _ _ _ | exact zn_5 _ _ _ _ _ | exact zc_i _ | exact zc_r _ | exact zo_l _ | exact zo_k _ | exact zo_n | exact zc_rk _ | (rw [zx_id (by omega)]; omega) | (rw [zw_id (by omega)]; omega) | (apply z_ok_v; assumption)) only [z_EvO_some, z_EvG_t, z_Bk_n, z_Bk_s, z_brT, z_brF, z_br_pos, z_br_neg, not_true_eq_false, not_false_eq_true, Bool.true_eq_false, Bool.false_eq_true, Bool.not_eq_false, Bool.not_eq_true, eq_self, z_kl_i, z_kl_l, z_kl_r, z_kl_k, z_kl_n, z_kl_u, z_kl_v, zi_f, zl_f, z_put_r, z_nul_n, z_nul_r, zcmp_lt, zcmp_le, zcmp_ge, zcmp_gt, zcmp_eq, zw_id, zx_id, Nat.reduceAdd, z_tf_i, z_tf_l, z_tf_z, zl_zx, zi_zw, z_gf0, z_gf1, z_gf2, z_gf3, z_gf4, z_gf5, z_gf6, z_gf7, z_pf0, z_pf1, z_pf2, z_pf3, z_pf4, z_pf5, z_pf6, z_pf7, z_ob1, zb_0, zb_1, zb_tf, r155_0, r155_1, r155_4, r155_5, r155_6, r155_9, r155_10, r155_12, r155_15, r155_16, r155_17, r155_18, r155_19, r155_22, r155_25, r155_26, r155_27, r155_28, r155_32, r155_33, r155_36, r155_37, r155_38, r155_40, r155_41, r155_44, r155_45, r155_47, r155_50, r155_53, r155_54, r155_55, r155_58, r155_61, r155_62, zSt_ob hS, zSt_ob hs, t103 hS, t103 hs])
    all_goals rfl
theorem l172 {N : Nat} (hS : zSt h vS S) (hs : zSt h v w) (hN : S.length = 10 * N) : ∀ (k m : Nat), m + k = N → zcn (fun m => zbg S (10 * m) w) m ≤ 1 → z_Ev 172 5 [vS, v, zi (if zcn (fun m => zbg S (10 * m) w) m = 0 then -1000000 else zls (fun m => zbg S (10 * m) w) m), zi (10 * m)] [] h Q = Q (.inl (some (zi (zun (fun m => zbg S (10 * m) w) N)))) h := by
  have hw := zSt_w hs
  have hW := zSt_w hS
  have hv := zSt_rf hs
  have hV := zSt_rf hS
  generalize hB : (fun m => zbg S (10 * m) w) = B
  intro k
  induction k with
  | zero =>
    intro m hk hc
    obtain rfl : m = N := by omega
    have r1 := zcn_r B m
    rw [k172_5]
    simp (disch := first | omega | assumption | exact zq_r _ | exact zn_0 | exact zo_i _ | exact zo_r _ | exact zq_k _ | exact zq_n | exact zn_1 _ | exact zn_2 _ _ | exact zn_3 _ _ _ | exact zn_4 _ _ _ _ | exact zn_5 _ _ _ _ _ | exact zc_i _ | exact zc_r _ | exact zo_l _ | exact zo_k _ | exact zo_n | exact zc_rk _ | (rw [zx_id (by omega)]; omega) | (rw [zw_id (by omega)]; omega) | (apply z_ok_v; assumption)) only [z_EvO_some, z_EvG_t, z_Bk_n, z_Bk_s, z_brT, z_brF, z_br_pos, z_br_neg, not_true_eq_false, not_false_eq_true, Bool.true_eq_false, Bool.false_eq_true, Bool.not_eq_false, Bool.not_eq_true, eq_self, z_kl_i, z_kl_l, z_kl_r, z_kl_k, z_kl_n, z_kl_u, z_kl_v, zi_f, zl_f, z_put_r, z_nul_n, z_nul_r, zcmp_lt, zcmp_le, zcmp_ge, zcmp_gt, zcmp_eq, zw_id, zx_id, Nat.reduceAdd, z_tf_i, z_tf_l, z_tf_z, zl_zx, zi_zw, z_gf0, z_gf1, z_gf2, z_gf3, z_gf4, z_gf5, z_gf6, z_gf7, z_pf0, z_pf1, z_pf2, z_pf3, z_pf4, z_pf5, z_pf6, z_pf7, z_ob1, zb_0, zb_1, zb_tf, r172_0, r172_2, r172_3, r172_4, r172_6, r172_7, r172_10, r172_13, r172_14, r172_15, r172_16, r172_19, r172_22, r172_23, r172_25, r172_28, r172_30, r172_31, r172_32, r172_34, r172_35, r172_36, r172_39, r172_42, r172_43, zSt_ob hS, t103 hS]
    exact z_qi (by unfold zun; (repeat' split) <;> omega)
  | succ k ih =>
    intro m hk hc
    have r1 := zcn_r B m
    have r2 := zls_r B m
    have hb : zbg S (10 * (m : Int)).toNat w = B m := by rw [← hB, show (10 * (m : Int)).toNat = 10 * m by omega]
    have e10 : 10 * (m : Int) + 10 = 10 * ((m + 1 : Nat) : Int) := by omega
    have td : (10 * (m : Int)).tdiv 10 = m := by rw [z_td (by omega)]; omega
    rw [k172_5]
    simp (disch := first | omega | assumption | exact zq_r _ | exact zn_0 | exact zo_i _ | exact zo_r _ | exact zq_k _ | exact zq_n | exact zn_1 _ | exact zn_2 _ _ | exact zn_3 _ _ _ | exact zn_4 _ _ _ _ | exact zn_5 _ _ _ _ _ | exact zc_i _ | exact zc_r _ | exact zo_l _ | exact zo_k _ | exact zo_n | exact zc_rk _ | (rw [zx_id (by omega)]; omega) | (rw [zw_id (by omega)]; omega) | (apply z_ok_v; assumption)) only [z_EvO_some, z_EvG_t, z_Bk_n, z_Bk_s, z_brT, z_brF, z_br_pos, z_br_neg, not_true_eq_false, not_false_eq_true, Bool.true_eq_false, Bool.false_eq_true, Bool.not_eq_false, Bool.not_eq_true, eq_self, z_kl_i, z_kl_l, z_kl_r, z_kl_k, z_kl_n, z_kl_u, z_kl_v, zi_f, zl_f, z_put_r, z_nul_n, z_nul_r, zcmp_lt, zcmp_le, zcmp_ge, zcmp_gt, zcmp_eq, zw_id, zx_id, Nat.reduceAdd, z_tf_i, z_tf_l, z_tf_z, zl_zx, zi_zw, z_gf0, z_gf1, z_gf2, z_gf3, z_gf4, z_gf5, z_gf6, z_gf7, z_pf0, z_pf1, z_pf2, z_pf3, z_pf4, z_pf5, z_pf6, z_pf7, z_ob1, zb_0, zb_1, zb_tf, r172_0, r172_2, r172_3, r172_4, r172_6, r172_7, r172_10, r172_13, r172_14, r172_15, r172_16, r172_19, r172_22, r172_23, r172_25, r172_28, r172_30, r172_31, r172_32, r172_34, r172_35, r172_36, r172_39, r172_42, r172_43, zSt_ob hS, t103 hS, s155 hS hs, hb]
    cases hbm : B m with
    | false =>
      simp (disch := first | omega | assumption | exact zq_r _ | exact zn_0 | exact zo_i _ | exact zo_r _ | exact zq_k _ | exact zq_n | exact zn_1 _ | exact zn_2 _ _ | exact zn_3 _ _ _ | exact zn_4 _ _ _ _ | exact zn_5 _ _ _ _ _ | exact zc_i _ | exact zc_r _ | exact zo_l _ | exact zo_k _ | exact zo_n | exact zc_rk _ | (rw [zx_id (by omega)]; omega) | (rw [zw_id (by omega)]; omega) | (apply z_ok_v; assumption)) only [z_EvO_some, z_EvG_t, z_Bk_n, z_Bk_s, z_brT, z_brF, z_br_pos, z_br_neg, not_true_eq_false, not_false_eq_true, Bool.true_eq_false, Bool.false_eq_true, Bool.not_eq_false, Bool.not_eq_true, eq_self, z_kl_i, z_kl_l, z_kl_r, z_kl_k, z_kl_n, z_kl_u, z_kl_v, zi_f, zl_f, z_put_r, z_nul_n, z_nul_r, zcmp_lt, zcmp_le, zcmp_ge, zcmp_gt, zcmp_eq, zw_id, zx_id, Nat.reduceAdd, z_tf_i, z_tf_l, z_tf_z, zl_zx, zi_zw, z_gf0, z_gf1, z_gf2, z_gf3, z_gf4, z_gf5, z_gf6, z_gf7, z_pf0, z_pf1, z_pf2, z_pf3, z_pf4, z_pf5, z_pf6, z_pf7, z_ob1, zb_0, zb_1, zb_tf, r172_0, r172_2, r172_3, r172_4, r172_6, r172_7, r172_10, r172_13, r172_14, r172_15, r172_16, r172_19, r172_22, r172_23, r172_25, r172_28, r172_30, r172_31, r172_32, r172_34, r172_35, r172_36, r172_39, r172_42, r172_43, e10]
      rw [← ih (m + 1) (by omega) (by rw [zcn, hbm]; simpa using hc), zcn, zls, hbm]
      simp
    | true =>
      by_cases h0 : zcn B m = 0
      · simp (disch := first | omega | assumption | exact zq_r _ | exact zn_0 | exact zo_i _ | exact zo_r _ | exact zq_k _ | exact zq_n | exact zn_1 _ | exact zn_2 _ _ | exact zn_3 _ _ _ | exact zn_4 _ _ _ _ | exact zn_5 _ _ _ _ _ | exact zc_i _ | exact zc_r _ | exact zo_l _ | exact zo_k _ | exact zo_n | exact zc_rk _ | (rw [zx_id (by omega)]; omega) | (rw [zw_id (by omega)]; omega) | (apply z_ok_v; assumption)) only [z_EvO_some, z_EvG_t, z_Bk_n, z_Bk_s, z_brT, z_brF, z_br_pos, z_br_neg, not_true_eq_false, not_false_eq_true, Bool.true_eq_false, Bool.false_eq_true, Bool.not_eq_false, Bool.not_eq_true, eq_self, z_kl_i, z_kl_l, z_kl_r, z_kl_k, z_kl_n, z_kl_u, z_kl_v, zi_f, zl_f, z_put_r, z_nul_n, z_nul_r, zcmp_lt, zcmp_le, zcmp_ge, zcmp_gt, zcmp_eq, zw_id, zx_id, Nat.reduceAdd, z_tf_i, z_tf_l, z_tf_z, zl_zx, zi_zw, z_gf0, z_gf1, z_gf2, z_gf3, z_gf4, z_gf5, z_gf6, z_gf7, z_pf0, z_pf1, z_pf2, z_pf3, z_pf4, z_pf5, z_pf6, z_pf7, z_ob1, zb_0, zb_1, zb_tf, r172_0, r172_2, r172_3, r172_4, r172_6, r172_7, r172_10, r172_13, r172_14, r172_15, r172_16, r172_19, r172_22, r172_23, r172_25, r172_28, r172_30, r172_31, r172_32, r172_34, r172_35, r172_36, r172_39, r172_42, r172_43, e10, td, h0, if_true]
        rw [← ih (m + 1) (by omega) (by rw [zcn, hbm]; simp; omega), zcn, zls, hbm, h0]
        simp
      · have h2 := zcn_m B (show m + 1 ≤ N by omega)
        rw [zcn, if_pos hbm] at h2
        rw [if_neg h0]
        simp (disch := first | omega | assumption | exact zq_r _ | exact zn_0 | exact zo_i _ | exact zo_r _ | exact zq_k _ | exact zq_n | exact zn_1 _ | exact zn_2 _ _ | exact zn_3 _ _ _ | exact zn_4 _ _ _ _ | exact zn_5 _ _ _ _ _ | exact zc_i _ | exact zc_r _ | exact zo_l _ | exact zo_k _ | exact zo_n | exact zc_rk _ | (rw [zx_id (by omega)]; omega) | (rw [zw_id (by omega)]; omega) | (apply z_ok_v; assumption)) only [z_EvO_some, z_EvG_t, z_Bk_n, z_Bk_s, z_brT, z_brF, z_br_pos, z_br_neg, not_true_eq_false, not_false_eq_true, Bool.true_eq_false, Bool.false_eq_true, Bool.not_eq_false, Bool.not_eq_true, eq_self, z_kl_i, z_kl_l, z_kl_r, z_kl_k, z_kl_n, z_kl_u, z_kl_v, zi_f, zl_f, z_put_r, z_nul_n, z_nul_r, zcmp_lt, zcmp_le, zcmp_ge, zcmp_gt, zcmp_eq, zw_id, zx_id, Nat.reduceAdd, z_tf_i, z_tf_l, z_tf_z, zl_zx, zi_zw, z_gf0, z_gf1, z_gf2, z_gf3, z_gf4, z_gf5, z_gf6, z_gf7, z_pf0, z_pf1, z_pf2, z_pf3, z_pf4, z_pf5, z_pf6, z_pf7, z_ob1, zb_0, zb_1, zb_tf, r172_0, r172_2, r172_3, r172_4, r172_6, r172_7, r172_10, r172_13, r172_14, r172_15, r172_16, r172_19, r172_22, r172_23, r172_25, r172_28, r172_30, r172_31, r172_32, r172_34, r172_35, r172_36, r172_39, r172_42, r172_43]
        exact z_qi (by unfold zun; rw [if_neg (by omega)])
theorem s172 {N : Nat} (hS : zSt h vS S) (hs : zSt h v w) (hN : S.length = 10 * N) : z_Cl 172 [vS, v] h Q = Q (.inl (some (zi (zun (fun m => zbg S (10 * m) w) N)))) h := by
  have hv := zSt_rf hs
  have hV := zSt_rf hS
  simp (disch := first | omega | assumption | exact zq_r _ | exact zn_0 | exact zo_i _ | exact zo_r _ | exact zq_k _ | exact zq_n | exact zn_1 _ | exact zn_2 _ _ | exact zn_3 _ _ _ | exact zn_4 _ _ _ _ | exact zn_5 _ _ _ _ _ | exact zc_i _ | exact zc_r _ | exact zo_l _ | exact zo_k _ | exact zo_n | exact zc_rk _ | (rw [zx_id (by omega)]; omega) | (rw [zw_id (by omega)]; omega) | (apply z_ok_v; assumption)) only [z_EvO_some, z_EvG_t, z_Bk_n, z_Bk_s, z_brT, z_brF, z_br_pos, z_br_neg, not_true_eq_false, not_false_eq_true, Bool.true_eq_false, Bool.false_eq_true, Bool.not_eq_false, Bool.not_eq_true, eq_self, z_kl_i, z_kl_l, z_kl_r, z_kl_k, z_kl_n, z_kl_u, z_kl_v, zi_f, zl_f, z_put_r, z_nul_n, z_nul_r, zcmp_lt, zcmp_le, zcmp_ge, zcmp_gt, zcmp_eq, zw_id, zx_id, Nat.reduceAdd, z_tf_i, z_tf_l, z_tf_z, zl_zx, zi_zw, z_gf0, z_gf1, z_gf2, z_gf3, z_gf4, z_gf5, z_gf6, z_gf7, z_pf0, z_pf1, z_pf2, z_pf3, z_pf4, z_pf5, z_pf6, z_pf7, z_ob1, zb_0, zb_1, zb_tf, e172, r172_0, r172_2, r172_3, r172_4, r172_6, r172_7, r172_10, r172_13, r172_14, r172_15, r172_16, r172_19, r172_22, r172_23, r172_25, r172_28, r172_30, r172_31, r172_32, r172_34, r172_35, r172_36, r172_39, r172_42, r172_43]
  have := l172 (Q := Q) hS hs hN N 0 (by omega) (by simp [zcn])
  simpa [zcn] using this
end ZNm
