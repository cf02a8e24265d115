/-! words: what single words stand for, in the class -/
/-- from a up to b -/
def zsub (w : List Int) (a b : Nat) : List Int := (w.drop a).take (b - a)
/-- digits, or -1000000 -/
def zdgs : List Int → Int → Int
  | [], v => v
  | c :: r, v => if zdig c = true then zdgs r (v * 10 + (c - 48)) else -1000000
theorem zsub_nil (w : List Int) (a : Nat) : zsub w a a = [] := by simp [zsub]
theorem zsub_cons {w : List Int} {a b : Nat} (h1 : a < b) (h2 : b ≤ w.length) : zsub w a b = w.getD a 0 :: zsub w (a + 1) b := by
  unfold zsub
  rw [List.drop_eq_getElem_cons (show a < w.length by omega), show b - a = (b - (a + 1)) + 1 by omega, List.take_succ_cons, List.getD_eq_getElem?_getD, List.getElem?_eq_getElem (show a < w.length by omega)]
  rfl
theorem zsub_all (w : List Int) : zsub w 0 w.length = w := by simp [zsub]
theorem zsub_len {w : List Int} {a b : Nat} (h1 : a ≤ b) (h2 : b ≤ w.length) : (zsub w a b).length = b - a := by
  simp [zsub]
  omega
theorem zsub_mem {w : List Int} {a b : Nat} {c : Int} (h : c ∈ zsub w a b) : c ∈ w := List.mem_of_mem_drop (List.mem_of_mem_take h)
/-- what a text's characters are -/
theorem zw_c {w : List Int} (hw : ∀ c ∈ w, 0 ≤ c ∧ c ≤ 127) (j : Nat) (hj : j < w.length) : 0 ≤ w.getD j 0 ∧ w.getD j 0 ≤ 127 := by
  apply hw
  rw [List.getD_eq_getElem?_getD, List.getElem?_eq_getElem hj]
  exact List.getElem_mem hj
theorem zSt_w {h : zH} {v : Value} {w : List Int} (hs : zSt h v w) : w.length ≤ 1000 ∧ ∀ c ∈ w, 0 ≤ c ∧ c ≤ 127 := by
  obtain ⟨vv, r, u, h1, h2, h3, h4, h5, h6, h7⟩ := hs
  exact ⟨h6, h7⟩
theorem zdgs_1 (a : Int) : zdgs [a] 0 = if zdig a = true then a - 48 else -1000000 := by
  simp only [zdgs]
  split <;> omega
theorem zdgs_2 (a b : Int) : zdgs [a, b] 0 = if zdig a = true ∧ zdig b = true then 10 * (a - 48) + (b - 48) else -1000000 := by
  simp only [zdgs]
  (repeat' split) <;> first | omega | (exfalso; simp_all)
theorem zdgs_r {l : List Int} (hl : l.length ≤ 4) : zdgs l 0 = -1000000 ∨ (0 ≤ zdgs l 0 ∧ zdgs l 0 ≤ 9999) := by
  match l, hl with
  | [], _ => right; simp [zdgs]
  | [a], _ =>
    simp only [zdgs]
    split
    · rename_i h1
      have := (zdig_iff a).mp h1
      omega
    · exact Or.inl rfl
  | [a, b], _ =>
    simp only [zdgs]
    split
    · rename_i h1
      have := (zdig_iff a).mp h1
      split
      · rename_i h2
        have := (zdig_iff b).mp h2
        omega
      · exact Or.inl rfl
    · exact Or.inl rfl
  | [a, b, c], _ =>
    simp only [zdgs]
    split
    · rename_i h1
      have := (zdig_iff a).mp h1
      split
      · rename_i h2
        have := (zdig_iff b).mp h2
        split
        · rename_i h3
          have := (zdig_iff c).mp h3
          omega
        · exact Or.inl rfl
      · exact Or.inl rfl
    · exact Or.inl rfl
  | [a, b, c, d], _ =>
    simp only [zdgs]
    split
    · rename_i h1
      have := (zdig_iff a).mp h1
      split
      · rename_i h2
        have := (zdig_iff b).mp h2
        split
        · rename_i h3
          have := (zdig_iff c).mp h3
          split
          · rename_i h4
            have := (zdig_iff d).mp h4
            omega
          · exact Or.inl rfl
        · exact Or.inl rfl
      · exact Or.inl rfl
    · exact Or.inl rfl
  | _ :: _ :: _ :: _ :: _ :: _, hl => simp at hl
section ZWd
variable {h : zH} {Q : zO → zH → Prop} {a b c x y : Int} {v v2 : Value} {w w2 : List Int}
theorem l156 (hs : zSt h v w) (hb : b ≤ w.length) : ∀ (k : Nat) (i val : Int), 0 ≤ i → i + k = b → ∀ l5, z_Ev 156 5 [v, zi a, zi b, zi val, zi i, l5] [] h Q = Q (.inl (some (zi (zdgs (zsub w i.toNat b.toNat) val)))) h := by
  have hw := zSt_w hs
  have hv := zSt_rf hs
  intro k
  induction k with
  | zero =>
    intro i val hi hk l5
    rw [k156_5]
    simp (disch := first | omega | assumption | exact zq_r _ | exact zn_0 | exact zo_i _ | exact zo_r _ | exact zq_k _ | exact zq_n | exact zn_1 _ | exact zn_2 _ _ | exact zn_3 _ _ _ | exact zn_4 _ _ _ _ | exact zn_5 _ _ _ _ _ | exact zc_i _ | exact zc_r _ | exact zo_l _ | exact zo_k _ | exact zo_n | exact zc_rk _ | (rw [zx_id (by omega)]; omega) | (rw [zw_id (by omega)]; omega) | (apply z_ok_v; assumption)) only [z_EvO_some, z_EvG_t, z_Bk_n, z_Bk_s, z_brT, z_brF, z_br_pos, z_br_neg, not_true_eq_false, not_false_eq_true, Bool.true_eq_false, Bool.false_eq_true, Bool.not_eq_false, Bool.not_eq_true, eq_self, z_kl_i, z_kl_l, z_kl_r, z_kl_k, z_kl_n, z_kl_u, z_kl_v, zi_f, zl_f, z_put_r, z_nul_n, z_nul_r, zcmp_lt, zcmp_le, zcmp_ge, zcmp_gt, zcmp_eq, zw_id, zx_id, Nat.reduceAdd, z_tf_i, z_tf_l, z_tf_z, zl_zx, zi_zw, z_gf0, z_gf1, z_gf2, z_gf3, z_gf4, z_gf5, z_gf6, z_gf7, z_pf0, z_pf1, z_pf2, z_pf3, z_pf4, z_pf5, z_pf6, z_pf7, z_ob1, zb_0, zb_1, zb_tf, r156_0, r156_1, r156_2, r156_3, r156_7, r156_8, r156_11, r156_12, r156_14, r156_17, r156_19, r156_21, r156_23, r156_26, r156_28, r156_30, r156_33, r156_35, r156_36, r156_37, r156_39, r156_40, r156_42, r156_44, r156_45, r156_46, r156_47, r156_50, r156_53, r156_54]
    rw [show i.toNat = b.toNat by omega, zsub_nil]
    rfl
  | succ k ih =>
    intro i val hi hk l5
    have b1 := zw_c hw.2 i.toNat (by omega)
    rw [k156_5, zsub_cons (show i.toNat < b.toNat by omega) (by omega)]
    simp (disch := first | omega | assumption | exact zq_r _ | exact zn_0 | exact zo_i _ | exact zo_r _ | exact zq_k _ | exact zq_n | exact zn_1 _ | exact zn_2 _ _ | exact zn_3 _ _ _ | exact zn_4 _ _ _ _ | exact zn_5 _ _ _ _ _ | exact zc_i _ | exact zc_r _ | exact zo_l _ | exact zo_k _ | exact zo_n | exact zc_rk _ | (rw [zx_id (by omega)]; omega) | (rw [zw_id (by omega)]; omega) | (apply z_ok_v; assumption)) only [z_EvO_some, z_EvG_t, z_Bk_n, z_Bk_s, z_brT, z_brF, z_br_pos, z_br_neg, not_true_eq_false, not_false_eq_true, Bool.true_eq_false, Bool.false_eq_true, Bool.not_eq_false, Bool.not_eq_true, eq_self, z_kl_i, z_kl_l, z_kl_r, z_kl_k, z_kl_n, z_kl_u, z_kl_v, zi_f, zl_f, z_put_r, z_nul_n, z_nul_r, zcmp_lt, zcmp_le, zcmp_ge, zcmp_gt, zcmp_eq, zw_id, zx_id, Nat.reduceAdd, z_tf_i, z_tf_l, z_tf_z, zl_zx, zi_zw, z_gf0, z_gf1, z_gf2, z_gf3, z_gf4, z_gf5, z_gf6, z_gf7, z_pf0, z_pf1, z_pf2, z_pf3, z_pf4, z_pf5, z_pf6, z_pf7, z_ob1, zb_0, zb_1, zb_tf, r156_0, r156_1, r156_2, r156_3, r156_7, r156_8, r156_11, r156_12, r156_14, r156_17, r156_19, r156_21, r156_23, r156_26, r156_28, r156_30, r156_33, r156_35, r156_36, r156_37, r156_39, r156_40, r156_42, r156_44, r156_45, r156_46, r156_47, r156_50, r156_53, r156_54, zSt_ob hs, t144 hs]
    refine z_br_eq (fun hq => ?_) (fun hq => ?_)
    · simp (disch := first | omega | assumption | exact zq_r _ | exact zn_0 | exact zo_i _ | exact zo_r _ | exact zq_k _ | exact zq_n | exact zn_1 _ | exact zn_2 _ _ | exact zn_3 _ _ _ | exact zn_4 _ _ _ _ | exact zn_5 _ _ _ _ _ | exact zc_i _ | exact zc_r _ | exact zo_l _ | exact zo_k _ | exact zo_n | exact zc_rk _ | (rw [zx_id (by omega)]; omega) | (rw [zw_id (by omega)]; omega) | (apply z_ok_v; assumption)) only [z_EvO_some, z_EvG_t, z_Bk_n, z_Bk_s, z_brT, z_brF, z_br_pos, z_br_neg, not_true_eq_false, not_false_eq_true, Bool.true_eq_false, Bool.false_eq_true, Bool.not_eq_false, Bool.not_eq_true, eq_self, z_kl_i, z_kl_l, z_kl_r, z_kl_k, z_kl_n, z_kl_u, z_kl_v, zi_f, zl_f, z_put_r, z_nul_n, z_nul_r, zcmp_lt, zcmp_le, zcmp_ge, zcmp_gt, zcmp_eq, zw_id, zx_id, Nat.reduceAdd, z_tf_i, z_tf_l, z_tf_z, zl_zx, zi_zw, z_gf0, z_gf1, z_gf2, z_gf3, z_gf4, z_gf5, z_gf6, z_gf7, z_pf0, z_pf1, z_pf2, z_pf3, z_pf4, z_pf5, z_pf6, z_pf7, z_ob1, zb_0, zb_1, zb_tf, r156_0, r156_1, r156_2, r156_3, r156_7, r156_8, r156_11, r156_12, r156_14, r156_17, r156_19, r156_21, r156_23, r156_26, r156_28, r156_30, r156_33, r156_35, r156_36, r156_37, r156_39, r156_40, r156_42, r156_44, r156_45, r156_46, r156_47, r156_50, r156_53, r156_54]
      rw [zdgs, if_neg (by rw [zdig_iff]; omega)]
    · simp (disch := first | omega | assumption | exact zq_r _ | exact zn_0 | exact zo_i _ | exact zo_r _ | exact zq_k _ | exact zq_n | exact zn_1 _ | exact zn_2 _ _ | exact zn_3 _ _ _ | exact zn_4 _ _ _ _ | exact zn_5 _ _ _ _ _ | exact zc_i _ | exact zc_r _ | exact zo_l _ | exact zo_k _ | exact zo_n | exact zc_rk _ | (rw [zx_id (by omega)]; omega) | (rw [zw_id (by omega)]; omega) | (apply z_ok_v; assumption)) only [z_EvO_some, z_EvG_t, z_Bk_n, z_Bk_s, z_brT, z_brF, z_br_pos, z_br_neg, not_true_eq_false, not_false_eq_true, Bool.true_eq_false, Bool.false_eq_true, Bool.not_eq_false, Bool.not_eq_true, eq_self, z_kl_i, z_kl_l, z_kl_r, z_kl_k, z_kl_n, z_kl_u, z_kl_v, zi_f, zl_f, z_put_r, z_nul_n, z_nul_r, zcmp_lt, zcmp_le, zcmp_ge, zcmp_gt, zcmp_eq, zw_id, zx_id, Nat.reduceAdd, z_tf_i, z_tf_l, z_tf_z, zl_zx, zi_zw, z_gf0, z_gf1, z_gf2, z_gf3, z_gf4, z_gf5, z_gf6, z_gf7, z_pf0, z_pf1, z_pf2, z_pf3, z_pf4, z_pf5, z_pf6, z_pf7, z_ob1, zb_0, zb_1, zb_tf, r156_0, r156_1, r156_2, r156_3, r156_7, r156_8, r156_11, r156_12, r156_14, r156_17, r156_19, r156_21, r156_23, r156_26, r156_28, r156_30, r156_33, r156_35, r156_36, r156_37, r156_39, r156_40, r156_42, r156_44, r156_45, r156_46, r156_47, r156_50, r156_53, r156_54]
      refine z_br_eq (fun hq2 => ?_) (fun hq2 => ?_)
      · simp (disch := first | omega | assumption | exact zq_r _ | exact zn_0 | exact zo_i _ | exact zo_r _ | exact zq_k _ | exact zq_n | exact zn_1 _ | exact zn_2 _ _ | exact zn_3 _ _ _ | exact zn_4 _ _ _ _ | exact zn_5 _ _ _ _ _ | exact zc_i _ | exact zc_r _ | exact zo_l _ | exact zo_k _ | exact zo_n | exact zc_rk _ | (rw [zx_id (by omega)]; omega) | (rw [zw_id (by omega)]; omega) | (apply z_ok_v; assumption)) only [z_EvO_some, z_EvG_t, z_Bk_n, z_Bk_s, z_brT, z_brF, z_br_pos, z_br_neg, not_true_eq_false, not_false_eq_true, Bool.true_eq_false, Bool.false_eq_true, Bool.not_eq_false, Bool.not_eq_true, eq_self, z_kl_i, z_kl_l, z_kl_r, z_kl_k, z_kl_n, z_kl_u, z_kl_v, zi_f, zl_f, z_put_r, z_nul_n, z_nul_r, zcmp_lt, zcmp_le, zcmp_ge, zcmp_gt, zcmp_eq, zw_id, zx_id, Nat.reduceAdd, z_tf_i, z_tf_l, z_tf_z, zl_zx, zi_zw, z_gf0, z_gf1, z_gf2, z_gf3, z_gf4, z_gf5, z_gf6, z_gf7, z_pf0, z_pf1, z_pf2, z_pf3, z_pf4, z_pf5, z_pf6, z_pf7, z_ob1, zb_0, zb_1, zb_tf, r156_0, r156_1, r156_2, r156_3, r156_7, r156_8, r156_11, r156_12, r156_14, r156_17, r156_19, r156_21, r156_23, r156_26, r156_28, r156_30, r156_33, r156_35, r156_36, r156_37, r156_39, r156_40, r156_42, r156_44, r156_45, r156_46, r156_47, r156_50, r156_53, r156_54]
        rw [ih (i + 1) _ (by omega) (by omega), zdgs, if_pos ((zdig_iff _).mpr (by omega)), show (i + 1).toNat = i.toNat + 1 by omega]
      · simp (disch := first | omega | assumption | exact zq_r _ | exact zn_0 | exact zo_i _ | exact zo_r _ | exact zq_k _ | exact zq_n | exact zn_1 _ | exact zn_2 _ _ | exact zn_3 _ _ _ | exact zn_4 _ _ _ _ | exact zn_5 _ _ _ _ _ | exact zc_i _ | exact zc_r _ | exact zo_l _ | exact zo_k _ | exact zo_n | exact zc_rk _ | (rw [zx_id (by omega)]; omega) | (rw [zw_id (by omega)]; omega) | (apply z_ok_v; assumption)) only [z_EvO_some, z_EvG_t, z_Bk_n, z_Bk_s, z_brT, z_brF, z_br_pos, z_br_neg, not_true_eq_false, not_false_eq_true, Bool.true_eq_false, Bool.false_eq_true, Bool.not_eq_false, Bool.not_eq_true, eq_self, z_kl_i, z_kl_l, z_kl_r, z_kl_k, z_kl_n, z_kl_u, z_kl_v, zi_f, zl_f, z_put_r, z_nul_n, z_nul_r, zcmp_lt, zcmp_le, zcmp_ge, zcmp_gt, zcmp_eq, zw_id, zx_id, Nat.reduceAdd, z_tf_i, z_tf_l, z_tf_z, zl_zx, zi_zw, z_gf0, z_gf1, z_gf2, z_gf3, z_gf4, z_gf5, z_gf6, z_gf7, z_pf0, z_pf1, z_pf2, z_pf3, z_pf4, z_pf5, z_pf6, z_pf7, z_ob1, zb_0, zb_1, zb_tf, r156_0, r156_1, r156_2, r156_3, r156_7, r156_8, r156_11, r156_12, r156_14, r156_17, r156_19, r156_21, r156_23, r156_26, r156_28, r156_30, r156_33, r156_35, r156_36, r156_37, r156_39, r156_40, r156_42, r156_44, r156_45, r156_46, r156_47, r156_50, r156_53, r156_54]
        rw [zdgs, if_neg (by rw [zdig_iff]; omega)]
theorem s156 (hs : zSt h v w) (ha : 0 ≤ a ∧ a ≤ b) (hb : b ≤ w.length) : z_Cl 156 [v, zi a, zi b] h Q = Q (.inl (some (zi (zdgs (zsub w a.toNat b.toNat) 0)))) h := by
  have hv := zSt_rf hs
  have hw := zSt_w hs
  simp (disch := first | omega | assumption | exact zq_r _ | exact zn_0 | exact zo_i _ | exact zo_r _ | exact zq_k _ | exact zq_n | exact zn_1 _ | exact zn_2 _ _ | exact zn_3 _ _ _ | exact zn_4 _ _ _ _ | exact zn_5 _ _ _ _ _ | exact zc_i _ | exact zc_r _ | exact zo_l _ | exact zo_k _ | exact zo_n | exact zc_rk _ | (rw [zx_id (by omega)]; omega) | (rw [zw_id (by omega)]; omega) | (apply z_ok_v; assumption)) only [z_EvO_some, z_EvG_t, z_Bk_n, z_Bk_s, z_brT, z_brF, z_br_pos, z_br_neg, not_true_eq_false, not_false_eq_true, Bool.true_eq_false, Bool.false_eq_true, Bool.not_eq_false, Bool.not_eq_true, eq_self, z_kl_i, z_kl_l, z_kl_r, z_kl_k, z_kl_n, z_kl_u, z_kl_v, zi_f, zl_f, z_put_r, z_nul_n, z_nul_r, zcmp_lt, zcmp_le, zcmp_ge, zcmp_gt, zcmp_eq, zw_id, zx_id, Nat.reduceAdd, z_tf_i, z_tf_l, z_tf_z, zl_zx, zi_zw, z_gf0, z_gf1, z_gf2, z_gf3, z_gf4, z_gf5, z_gf6, z_gf7, z_pf0, z_pf1, z_pf2, z_pf3, z_pf4, z_pf5, z_pf6, z_pf7, z_ob1, zb_0, zb_1, zb_tf, e156, r156_0, r156_1, r156_2, r156_3, r156_7, r156_8, r156_11, r156_12, r156_14, r156_17, r156_19, r156_21, r156_23, r156_26, r156_28, r156_30, r156_33, r156_35, r156_36, r156_37, r156_39, r156_40, r156_42, r156_44, r156_45, r156_46, r156_47, r156_50, r156_53, r156_54]
  exact l156 hs hb (b - a).toNat a 0 (by omega) (by omega) _
/-- number: one or two digits, at most x -/
theorem s171 (hs : zSt h v w) (ha : 0 ≤ a ∧ a ≤ 1000) (hb : 0 ≤ b ∧ b ≤ w.length) (hx : 0 ≤ x ∧ x ≤ 1000) : z_Cl 171 [v, zi a, zi b, zi x] h Q = Q (.inl (some (zi (if b - a = 1 ∨ b - a = 2 then (if zdgs (zsub w a.toNat b.toNat) 0 ≤ x then zdgs (zsub w a.toNat b.toNat) 0 else -1000000) else -1000000)))) h := by
  have hv := zSt_rf hs
  have hw := zSt_w hs
  by_cases hl : b - a = 1 ∨ b - a = 2
  · have hr := zdgs_r (l := zsub w a.toNat b.toNat) (by rw [zsub_len (by omega) (by omega)]; omega)
    rw [if_pos hl]
    simp (disch := first | omega | assumption | exact zq_r _ | exact zn_0 | exact zo_i _ | exact zo_r _ | exact zq_k _ | exact zq_n | exact zn_1 _ | exact zn_2 _ _ | exact zn_3 _ _ _ | exact zn_4 _ _ _ _ | exact zn_5 _ _ _ _ _ | exact zc_i _ | exact zc_r _ | exact zo_l _ | exact zo_k _ | exact zo_n | exact zc_rk _ | (rw [zx_id (by omega)]; omega) | (rw [zw_id (by omega)]; omega) | (apply z_ok_v; assumption)) only [z_EvO_some, z_EvG_t, z_Bk_n, z_Bk_s, z_brT, z_brF, z_br_pos, z_br_neg, not_true_eq_false, not_false_eq_true, Bool.true_eq_false, Bool.false_eq_true, Bool.not_eq_false, Bool.not_eq_true, eq_self, z_kl_i, z_kl_l, z_kl_r, z_kl_k, z_kl_n, z_kl_u, z_kl_v, zi_f, zl_f, z_put_r, z_nul_n, z_nul_r, zcmp_lt, zcmp_le, zcmp_ge, zcmp_gt, zcmp_eq, zw_id, zx_id, Nat.reduceAdd, z_tf_i, z_tf_l, z_tf_z, zl_zx, zi_zw, z_gf0, z_gf1, z_gf2, z_gf3, z_gf4, z_gf5, z_gf6, z_gf7, z_pf0, z_pf1, z_pf2, z_pf3, z_pf4, z_pf5, z_pf6, z_pf7, z_ob1, zb_0, zb_1, zb_tf, e171, r171_0, r171_1, r171_2, r171_3, r171_5, r171_6, r171_9, r171_10, r171_11, r171_14, r171_17, r171_19, r171_20, r171_23, r171_25, r171_26, r171_29, r171_31, r171_32, r171_33, r171_34, r171_35, r171_38, r171_40, r171_42, r171_43, r171_46, r171_48, r171_51, r171_53, t103 hs, zSt_ob hs, s156 hs]
    repeat' (first | refine z_br_eq (fun _ => ?_) (fun _ => ?_) | simp (disch := first | omega | assumption | exact zq_r _ | exact zn_0 | exact zo_i _ | exact zo_r _ | exact zq_k _ | exact zq_n | exact zn_1 _ | exact zn_2 _ _ | exact zn_3 _ _ _ | exact zn_4 _ _ _ _ | exact zn_5 _ _ _ _ _ | exact zc_i _ | exact zc_r _ | exact zo_l _ | exact zo_k _ | exact zo_n | exact zc_rk _ | (rw [zx_id (by omega)]; omega) | (rw [zw_id (by omega)]; omega) | (apply z_ok_v; assumption)) only [z_EvO_some, z_EvG_t, z_Bk_n, z_Bk_s, z_brT, z_brF, z_br_pos, z_br_neg, not_true_eq_false, not_false_eq_true, Bool.true_eq_false, Bool.false_eq_true, Bool.not_eq_false, Bool.not_eq_true, eq_self, z_kl_i, z_kl_l, z_kl_r, z_kl_k, z_kl_n, z_kl_u, z_kl_v, zi_f, zl_f, z_put_r, z_nul_n, z_nul_r, zcmp_lt, zcmp_le, zcmp_ge, zcmp_gt, zcmp_eq, zw_id, zx_id, Nat.reduceAdd, z_tf_i, z_tf_l, z_tf_z, zl_zx, zi_zw, z_gf0, z_gf1, z_gf2, z_gf3, z_gf4, z_gf5, z_gf6, z_gf7, z_pf0, z_pf1, z_pf2, z_pf3, z_pf4, z_pf5, z_pf6, z_pf7, z_ob1, zb_0, zb_1, zb_tf, r171_0, r171_1, r171_2, r171_3, r171_5, r171_6, r171_9, r171_10, r171_11, r171_14, r171_17, r171_19, r171_20, r171_23, r171_25, r171_26, r171_29, r171_31, r171_32, r171_33, r171_34, r171_35, r171_38, r171_40, r171_42, r171_43, r171_46, r171_48, r171_51, r171_53, t103 hs, zSt_ob hs, s156 hs])
    all_goals ((repeat' split) <;> first | rfl | (exfalso; omega) | exact z_qi (by omega) | exact z_ql (by omega))
  · rw [if_neg hl]
    simp (disch := first | omega | assumption | exact zq_r _ | exact zn_0 | exact zo_i _ | exact zo_r _ | exact zq_k _ | exact zq_n | exact zn_1 _ | exact zn_2 _ _ | exact zn_3 _ _ _ | exact zn_4 _ _ _ _ | exact zn_5 _ _ _ _ _ | exact zc_i _ | exact zc_r _ | exact zo_l _ | exact zo_k _ | exact zo_n | exact zc_rk _ | (rw [zx_id (by omega)]; omega) | (rw [zw_id (by omega)]; omega) | (apply z_ok_v; assumption)) only [z_EvO_some, z_EvG_t, z_Bk_n, z_Bk_s, z_brT, z_brF, z_br_pos, z_br_neg, not_true_eq_false, not_false_eq_true, Bool.true_eq_false, Bool.false_eq_true, Bool.not_eq_false, Bool.not_eq_true, eq_self, z_kl_i, z_kl_l, z_kl_r, z_kl_k, z_kl_n, z_kl_u, z_kl_v, zi_f, zl_f, z_put_r, z_nul_n, z_nul_r, zcmp_lt, zcmp_le, zcmp_ge, zcmp_gt, zcmp_eq, zw_id, zx_id, Nat.reduceAdd, z_tf_i, z_tf_l, z_tf_z, zl_zx, zi_zw, z_gf0, z_gf1, z_gf2, z_gf3, z_gf4, z_gf5, z_gf6, z_gf7, z_pf0, z_pf1, z_pf2, z_pf3, z_pf4, z_pf5, z_pf6, z_pf7, z_ob1, zb_0, zb_1, zb_tf, e171, r171_0, r171_1, r171_2, r171_3, r171_5, r171_6, r171_9, r171_10, r171_11, r171_14, r171_17, r171_19, r171_20, r171_23, r171_25, r171_26, r171_29, r171_31, r171_32, r171_33, r171_34, r171_35, r171_38, r171_40, r171_42, r171_43, r171_46, r171_48, r171_51, r171_53, t103 hs, zSt_ob hs, s156 hs]
    repeat' (first | refine z_br_eq (fun _ => ?_) (fun _ => ?_) | simp (disch := first | omega | assumption | exact zq_r _ | exact zn_0 | exact zo_i _ | exact zo_r _ | exact zq_k _ | exact zq_n | exact zn_1 _ | exact zn_2 _ _ | exact zn_3 _ _ _ | exact zn_4 _ _ _ _ | exact zn_5 _ _ _ _ _ | exact zc_i _ | exact zc_r _ | exact zo_l _ | exact zo_k _ | exact zo_n | exact zc_rk _ | (rw [zx_id (by omega)]; omega) | (rw [zw_id (by omega)]; omega) | (apply z_ok_v; assumption)) only [z_EvO_some, z_EvG_t, z_Bk_n, z_Bk_s, z_brT, z_brF, z_br_pos, z_br_neg, not_true_eq_false, not_false_eq_true, Bool.true_eq_false, Bool.false_eq_true, Bool.not_eq_false, Bool.not_eq_true, eq_self, z_kl_i, z_kl_l, z_kl_r, z_kl_k, z_kl_n, z_kl_u, z_kl_v, zi_f, zl_f, z_put_r, z_nul_n, z_nul_r, zcmp_lt, zcmp_le, zcmp_ge, zcmp_gt, zcmp_eq, zw_id, zx_id, Nat.reduceAdd, z_tf_i, z_tf_l, z_tf_z, zl_zx, zi_zw, z_gf0, z_gf1, z_gf2, z_gf3, z_gf4, z_gf5, z_gf6, z_gf7, z_pf0, z_pf1, z_pf2, z_pf3, z_pf4, z_pf5, z_pf6, z_pf7, z_ob1, zb_0, zb_1, zb_tf, r171_0, r171_1, r171_2, r171_3, r171_5, r171_6, r171_9, r171_10, r171_11, r171_14, r171_17, r171_19, r171_20, r171_23, r171_25, r171_26, r171_29, r171_31, r171_32, r171_33, r171_34, r171_35, r171_38, r171_40, r171_42, r171_43, r171_46, r171_48, r171_51, r171_53, t103 hs, zSt_ob hs, s156 hs])
    all_goals ((repeat' split) <;> first | rfl | (exfalso; omega) | exact z_qi (by omega) | exact z_ql (by omega))
/-- sixtieths: a colon and two digits -/
theorem s174 (hs : zSt h v w) (ha : 0 ≤ a ∧ a ≤ 1000) : z_Cl 174 [v, zi a] h Q = Q (.inl (some (zi (if a + 3 ≤ w.length ∧ w.getD a.toNat 0 = 58 ∧ zdgs (zsub w (a.toNat + 1) (a.toNat + 3)) 0 ≤ 59 then zdgs (zsub w (a.toNat + 1) (a.toNat + 3)) 0 else -1000000)))) h := by
  have hv := zSt_rf hs
  have hw := zSt_w hs
  by_cases hl : a + 3 ≤ w.length
  · have hr := zdgs_r (l := zsub w (a.toNat + 1) (a.toNat + 3)) (by rw [zsub_len (by omega) (by omega)]; omega)
    have b1 := zw_c hw.2 a.toNat (by omega)
    have e1 : (a + 1).toNat = a.toNat + 1 := by omega
    have e3 : (a + 3).toNat = a.toNat + 3 := by omega
    simp (disch := first | omega | assumption | exact zq_r _ | exact zn_0 | exact zo_i _ | exact zo_r _ | exact zq_k _ | exact zq_n | exact zn_1 _ | exact zn_2 _ _ | exact zn_3 _ _ _ | exact zn_4 _ _ _ _ | exact zn_5 _ _ _ _ _ | exact zc_i _ | exact zc_r _ | exact zo_l _ | exact zo_k _ | exact zo_n | exact zc_rk _ | (rw [zx_id (by omega)]; omega) | (rw [zw_id (by omega)]; omega) | (apply z_ok_v; assumption)) only [z_EvO_some, z_EvG_t, z_Bk_n, z_Bk_s, z_brT, z_brF, z_br_pos, z_br_neg, not_true_eq_false, not_false_eq_true, Bool.true_eq_false, Bool.false_eq_true, Bool.not_eq_false, Bool.not_eq_true, eq_self, z_kl_i, z_kl_l, z_kl_r, z_kl_k, z_kl_n, z_kl_u, z_kl_v, zi_f, zl_f, z_put_r, z_nul_n, z_nul_r, zcmp_lt, zcmp_le, zcmp_ge, zcmp_gt, zcmp_eq, zw_id, zx_id, Nat.reduceAdd, z_tf_i, z_tf_l, z_tf_z, zl_zx, zi_zw, z_gf0, z_gf1, z_gf2, z_gf3, z_gf4, z_gf5, z_gf6, z_gf7, z_pf0, z_pf1, z_pf2, z_pf3, z_pf4, z_pf5, z_pf6, z_pf7, z_ob1, zb_0, zb_1, zb_tf, e174, r174_0, r174_1, r174_2, r174_3, r174_4, r174_7, r174_10, r174_11, r174_12, r174_15, r174_17, r174_20, r174_22, r174_23, r174_24, r174_25, r174_26, r174_27, r174_28, r174_29, r174_30, r174_33, r174_34, r174_35, r174_37, r174_40, r174_42, r174_45, r174_46, t103 hs, zSt_ob hs, s156 hs, t144 hs, e1, e3]
    repeat' (first | refine z_br_eq (fun _ => ?_) (fun _ => ?_) | simp (disch := first | omega | assumption | exact zq_r _ | exact zn_0 | exact zo_i _ | exact zo_r _ | exact zq_k _ | exact zq_n | exact zn_1 _ | exact zn_2 _ _ | exact zn_3 _ _ _ | exact zn_4 _ _ _ _ | exact zn_5 _ _ _ _ _ | exact zc_i _ | exact zc_r _ | exact zo_l _ | exact zo_k _ | exact zo_n | exact zc_rk _ | (rw [zx_id (by omega)]; omega) | (rw [zw_id (by omega)]; omega) | (apply z_ok_v; assumption)) only [z_EvO_some, z_EvG_t, z_Bk_n, z_Bk_s, z_brT, z_brF, z_br_pos, z_br_neg, not_true_eq_false, not_false_eq_true, Bool.true_eq_false, Bool.false_eq_true, Bool.not_eq_false, Bool.not_eq_true, eq_self, z_kl_i, z_kl_l, z_kl_r, z_kl_k, z_kl_n, z_kl_u, z_kl_v, zi_f, zl_f, z_put_r, z_nul_n, z_nul_r, zcmp_lt, zcmp_le, zcmp_ge, zcmp_gt, zcmp_eq, zw_id, zx_id, Nat.reduceAdd, z_tf_i, z_tf_l, z_tf_z, zl_zx, zi_zw, z_gf0, z_gf1, z_gf2, z_gf3, z_gf4, z_gf5, z_gf6, z_gf7, z_pf0, z_pf1, z_pf2, z_pf3, z_pf4, z_pf5, z_pf6, z_pf7, z_ob1, zb_0, zb_1, zb_tf, r174_0, r174_1, r174_2, r174_3, r174_4, r174_7, r174_10, r174_11, r174_12, r174_15, r174_17, r174_20, r174_22, r174_23, r174_24, r174_25, r174_26, r174_27, r174_28, r174_29, r174_30, r174_33, r174_34, r174_35, r174_37, r174_40, r174_42, r174_45, r174_46, t103 hs, zSt_ob hs, s156 hs, t144 hs, e1, e3])
    all_goals ((repeat' split) <;> first | rfl | (exfalso; omega) | exact z_qi (by omega) | exact z_ql (by omega))
  · rw [if_neg (by omega)]
    simp (disch := first | omega | assumption | exact zq_r _ | exact zn_0 | exact zo_i _ | exact zo_r _ | exact zq_k _ | exact zq_n | exact zn_1 _ | exact zn_2 _ _ | exact zn_3 _ _ _ | exact zn_4 _ _ _ _ | exact zn_5 _ _ _ _ _ | exact zc_i _ | exact zc_r _ | exact zo_l _ | exact zo_k _ | exact zo_n | exact zc_rk _ | (rw [zx_id (by omega)]; omega) | (rw [zw_id (by omega)]; omega) | (apply z_ok_v; assumption)) only [z_EvO_some, z_EvG_t, z_Bk_n, z_Bk_s, z_brT, z_brF, z_br_pos, z_br_neg, not_true_eq_false, not_false_eq_true, Bool.true_eq_false, Bool.false_eq_true, Bool.not_eq_false, Bool.not_eq_true, eq_self, z_kl_i, z_kl_l, z_kl_r, z_kl_k, z_kl_n, z_kl_u, z_kl_v, zi_f, zl_f, z_put_r, z_nul_n, z_nul_r, zcmp_lt, zcmp_le, zcmp_ge, zcmp_gt, zcmp_eq, zw_id, zx_id, Nat.reduceAdd, z_tf_i, z_tf_l, z_tf_z, zl_zx, zi_zw, z_gf0, z_gf1, z_gf2, z_gf3, z_gf4, z_gf5, z_gf6, z_gf7, z_pf0, z_pf1, z_pf2, z_pf3, z_pf4, z_pf5, z_pf6, z_pf7, z_ob1, zb_0, zb_1, zb_tf, e174, r174_0, r174_1, r174_2, r174_3, r174_4, r174_7, r174_10, r174_11, r174_12, r174_15, r174_17, r174_20, r174_22, r174_23, r174_24, r174_25, r174_26, r174_27, r174_28, r174_29, r174_30, r174_33, r174_34, r174_35, r174_37, r174_40, r174_42, r174_45, r174_46, t103 hs, zSt_ob hs]
theorem s175 (hs : zSt h v w) : z_Cl 175 [v] h Q = Q (.inl (some (zi (if w.length = 4 ∧ 1970 ≤ zdgs w 0 ∧ zdgs w 0 ≤ 2037 then zdgs w 0 else -1000000)))) h := by
  have hv := zSt_rf hs
  have hw := zSt_w hs
  by_cases hl : w.length = 4
  · have hr := zdgs_r (l := w) (by omega)
    have e1 : zsub w (0 : Int).toNat (4 : Int).toNat = w := by
      have := zsub_all w
      rw [hl] at this
      exact this
    simp (disch := first | omega | assumption | exact zq_r _ | exact zn_0 | exact zo_i _ | exact zo_r _ | exact zq_k _ | exact zq_n | exact zn_1 _ | exact zn_2 _ _ | exact zn_3 _ _ _ | exact zn_4 _ _ _ _ | exact zn_5 _ _ _ _ _ | exact zc_i _ | exact zc_r _ | exact zo_l _ | exact zo_k _ | exact zo_n | exact zc_rk _ | (rw [zx_id (by omega)]; omega) | (rw [zw_id (by omega)]; omega) | (apply z_ok_v; assumption)) only [z_EvO_some, z_EvG_t, z_Bk_n, z_Bk_s, z_brT, z_brF, z_br_pos, z_br_neg, not_true_eq_false, not_false_eq_true, Bool.true_eq_false, Bool.false_eq_true, Bool.not_eq_false, Bool.not_eq_true, eq_self, z_kl_i, z_kl_l, z_kl_r, z_kl_k, z_kl_n, z_kl_u, z_kl_v, zi_f, zl_f, z_put_r, z_nul_n, z_nul_r, zcmp_lt, zcmp_le, zcmp_ge, zcmp_gt, zcmp_eq, zw_id, zx_id, Nat.reduceAdd, z_tf_i, z_tf_l, z_tf_z, zl_zx, zi_zw, z_gf0, z_gf1, z_gf2, z_gf3, z_gf4, z_gf5, z_gf6, z_gf7, z_pf0, z_pf1, z_pf2, z_pf3, z_pf4, z_pf5, z_pf6, z_pf7, z_ob1, zb_0, zb_1, zb_tf, e175, r175_0, r175_1, r175_4, r175_5, r175_8, r175_9, r175_10, r175_11, r175_14, r175_17, r175_19, r175_20, r175_21, r175_24, r175_27, r175_28, r175_31, r175_34, r175_36, r175_39, r175_40, t103 hs, zSt_ob hs, s156 hs, e1]
    repeat' (first | refine z_br_eq (fun _ => ?_) (fun _ => ?_) | simp (disch := first | omega | assumption | exact zq_r _ | exact zn_0 | exact zo_i _ | exact zo_r _ | exact zq_k _ | exact zq_n | exact zn_1 _ | exact zn_2 _ _ | exact zn_3 _ _ _ | exact zn_4 _ _ _ _ | exact zn_5 _ _ _ _ _ | exact zc_i _ | exact zc_r _ | exact zo_l _ | exact zo_k _ | exact zo_n | exact zc_rk _ | (rw [zx_id (by omega)]; omega) | (rw [zw_id (by omega)]; omega) | (apply z_ok_v; assumption)) only [z_EvO_some, z_EvG_t, z_Bk_n, z_Bk_s, z_brT, z_brF, z_br_pos, z_br_neg, not_true_eq_false, not_false_eq_true, Bool.true_eq_false, Bool.false_eq_true, Bool.not_eq_false, Bool.not_eq_true, eq_self, z_kl_i, z_kl_l, z_kl_r, z_kl_k, z_kl_n, z_kl_u, z_kl_v, zi_f, zl_f, z_put_r, z_nul_n, z_nul_r, zcmp_lt, zcmp_le, zcmp_ge, zcmp_gt, zcmp_eq, zw_id, zx_id, Nat.reduceAdd, z_tf_i, z_tf_l, z_tf_z, zl_zx, zi_zw, z_gf0, z_gf1, z_gf2, z_gf3, z_gf4, z_gf5, z_gf6, z_gf7, z_pf0, z_pf1, z_pf2, z_pf3, z_pf4, z_pf5, z_pf6, z_pf7, z_ob1, zb_0, zb_1, zb_tf, r175_0, r175_1, r175_4, r175_5, r175_8, r175_9, r175_10, r175_11, r175_14, r175_17, r175_19, r175_20, r175_21, r175_24, r175_27, r175_28, r175_31, r175_34, r175_36, r175_39, r175_40, t103 hs, zSt_ob hs, s156 hs, e1])
    all_goals ((repeat' split) <;> first | rfl | (exfalso; omega) | exact z_qi (by omega) | exact z_ql (by omega))
  · simp (disch := first | omega | assumption | exact zq_r _ | exact zn_0 | exact zo_i _ | exact zo_r _ | exact zq_k _ | exact zq_n | exact zn_1 _ | exact zn_2 _ _ | exact zn_3 _ _ _ | exact zn_4 _ _ _ _ | exact zn_5 _ _ _ _ _ | exact zc_i _ | exact zc_r _ | exact zo_l _ | exact zo_k _ | exact zo_n | exact zc_rk _ | (rw [zx_id (by omega)]; omega) | (rw [zw_id (by omega)]; omega) | (apply z_ok_v; assumption)) only [z_EvO_some, z_EvG_t, z_Bk_n, z_Bk_s, z_brT, z_brF, z_br_pos, z_br_neg, not_true_eq_false, not_false_eq_true, Bool.true_eq_false, Bool.false_eq_true, Bool.not_eq_false, Bool.not_eq_true, eq_self, z_kl_i, z_kl_l, z_kl_r, z_kl_k, z_kl_n, z_kl_u, z_kl_v, zi_f, zl_f, z_put_r, z_nul_n, z_nul_r, zcmp_lt, zcmp_le, zcmp_ge, zcmp_gt, zcmp_eq, zw_id, zx_id, Nat.reduceAdd, z_tf_i, z_tf_l, z_tf_z, zl_zx, zi_zw, z_gf0, z_gf1, z_gf2, z_gf3, z_gf4, z_gf5, z_gf6, z_gf7, z_pf0, z_pf1, z_pf2, z_pf3, z_pf4, z_pf5, z_pf6, z_pf7, z_ob1, zb_0, zb_1, zb_tf, e175, r175_0, r175_1, r175_4, r175_5, r175_8, r175_9, r175_10, r175_11, r175_14, r175_17, r175_19, r175_20, r175_21, r175_24, r175_27, r175_28, r175_31, r175_34, r175_36, r175_39, r175_40, t103 hs, zSt_ob hs]
    repeat' (first | refine z_br_eq (fun _ => ?_) (fun _ => ?_) | simp (disch := first | omega | assumption | exact zq_r _ | exact zn_0 | exact zo_i _ | exact zo_r _ | exact zq_k _ | exact zq_n | exact zn_1 _ | exact zn_2 _ _ | exact zn_3 _ _ _ | exact zn_4 _ _ _ _ | exact zn_5 _ _ _ _ _ | exact zc_i _ | exact zc_r _ | exact zo_l _ | exact zo_k _ | exact zo_n | exact zc_rk _ | (rw [zx_id (by omega)]; omega) | (rw [zw_id (by omega)]; omega) | (apply z_ok_v; assumption)) only [z_EvO_some, z_EvG_t, z_Bk_n, z_Bk_s, z_brT, z_brF, z_br_pos, z_br_neg, not_true_eq_false, not_false_eq_true, Bool.true_eq_false, Bool.false_eq_true, Bool.not_eq_false, Bool.not_eq_true, eq_self, z_kl_i, z_kl_l, z_kl_r, z_kl_k, z_kl_n, z_kl_u, z_kl_v, zi_f, zl_f, z_put_r, z_nul_n, z_nul_r, zcmp_lt, zcmp_le, zcmp_ge, zcmp_gt, zcmp_eq, zw_id, zx_id, Nat.reduceAdd, z_tf_i, z_tf_l, z_tf_z, zl_zx, zi_zw, z_gf0, z_gf1, z_gf2, z_gf3, z_gf4, z_gf5, z_gf6, z_gf7, z_pf0, z_pf1, z_pf2, z_pf3, z_pf4, z_pf5, z_pf6, z_pf7, z_ob1, zb_0, zb_1, zb_tf, r175_0, r175_1, r175_4, r175_5, r175_8, r175_9, r175_10, r175_11, r175_14, r175_17, r175_19, r175_20, r175_21, r175_24, r175_27, r175_28, r175_31, r175_34, r175_36, r175_39, r175_40])
    all_goals ((repeat' split) <;> first | rfl | (exfalso; omega) | exact z_qi (by omega) | exact z_ql (by omega))
theorem s173 (hs : zSt h v w) : z_Cl 173 [v] h Q = Q (.inl (some (zi (if w.length = 1 ∧ zdgs w 0 ≤ 2 then zdgs w 0 else -1000000)))) h := by
  have hv := zSt_rf hs
  have hw := zSt_w hs
  by_cases hl : w.length = 1
  · have hr := zdgs_r (l := w) (by omega)
    have e1 : zsub w (0 : Int).toNat (1 : Int).toNat = w := by
      have := zsub_all w
      rw [hl] at this
      exact this
    simp (disch := first | omega | assumption | exact zq_r _ | exact zn_0 | exact zo_i _ | exact zo_r _ | exact zq_k _ | exact zq_n | exact zn_1 _ | exact zn_2 _ _ | exact zn_3 _ _ _ | exact zn_4 _ _ _ _ | exact zn_5 _ _ _ _ _ | exact zc_i _ | exact zc_r _ | exact zo_l _ | exact zo_k _ | exact zo_n | exact zc_rk _ | (rw [zx_id (by omega)]; omega) | (rw [zw_id (by omega)]; omega) | (apply z_ok_v; assumption)) only [z_EvO_some, z_EvG_t, z_Bk_n, z_Bk_s, z_brT, z_brF, z_br_pos, z_br_neg, not_true_eq_false, not_false_eq_true, Bool.true_eq_false, Bool.false_eq_true, Bool.not_eq_false, Bool.not_eq_true, eq_self, z_kl_i, z_kl_l, z_kl_r, z_kl_k, z_kl_n, z_kl_u, z_kl_v, zi_f, zl_f, z_put_r, z_nul_n, z_nul_r, zcmp_lt, zcmp_le, zcmp_ge, zcmp_gt, zcmp_eq, zw_id, zx_id, Nat.reduceAdd, z_tf_i, z_tf_l, z_tf_z, zl_zx, zi_zw, z_gf0, z_gf1, z_gf2, z_gf3, z_gf4, z_gf5, z_gf6, z_gf7, z_pf0, z_pf1, z_pf2, z_pf3, z_pf4, z_pf5, z_pf6, z_pf7, z_ob1, zb_0, zb_1, zb_tf, e173, r173_0, r173_1, r173_4, r173_5, r173_8, r173_9, r173_10, r173_11, r173_14, r173_17, r173_19, r173_20, r173_21, r173_22, r173_25, r173_27, r173_30, r173_31, t103 hs, zSt_ob hs, s156 hs, e1]
    repeat' (first | refine z_br_eq (fun _ => ?_) (fun _ => ?_) | simp (disch := first | omega | assumption | exact zq_r _ | exact zn_0 | exact zo_i _ | exact zo_r _ | exact zq_k _ | exact zq_n | exact zn_1 _ | exact zn_2 _ _ | exact zn_3 _ _ _ | exact zn_4 _ _ _ _ | exact zn_5 _ _ _ _ _ | exact zc_i _ | exact zc_r _ | exact zo_l _ | exact zo_k _ | exact zo_n | exact zc_rk _ | (rw [zx_id (by omega)]; omega) | (rw [zw_id (by omega)]; omega) | (apply z_ok_v; assumption)) only [z_EvO_some, z_EvG_t, z_Bk_n, z_Bk_s, z_brT, z_brF, z_br_pos, z_br_neg, not_true_eq_false, not_false_eq_true, Bool.true_eq_false, Bool.false_eq_true, Bool.not_eq_false, Bool.not_eq_true, eq_self, z_kl_i, z_kl_l, z_kl_r, z_kl_k, z_kl_n, z_kl_u, z_kl_v, zi_f, zl_f, z_put_r, z_nul_n, z_nul_r, zcmp_lt, zcmp_le, zcmp_ge, zcmp_gt, zcmp_eq, zw_id, zx_id, Nat.reduceAdd, z_tf_i, z_tf_l, z_tf_z, zl_zx, zi_zw, z_gf0, z_gf1, z_gf2, z_gf3, z_gf4, z_gf5, z_gf6, z_gf7, z_pf0, z_pf1, z_pf2, z_pf3, z_pf4, z_pf5, z_pf6, z_pf7, z_ob1, zb_0, zb_1, zb_tf, r173_0, r173_1, r173_4, r173_5, r173_8, r173_9, r173_10, r173_11, r173_14, r173_17, r173_19, r173_20, r173_21, r173_22, r173_25, r173_27, r173_30, r173_31, t103 hs, zSt_ob hs, s156 hs, e1])
    all_goals ((repeat' split) <;> first | rfl | (exfalso; omega) | exact z_qi (by omega) | exact z_ql (by omega))
  · simp (disch := first | omega | assumption | exact zq_r _ | exact zn_0 | exact zo_i _ | exact zo_r _ | exact zq_k _ | exact zq_n | exact zn_1 _ | exact zn_2 _ _ | exact zn_3 _ _ _ | exact zn_4 _ _ _ _ | exact zn_5 _ _ _ _ _ | exact zc_i _ | exact zc_r _ | exact zo_l _ | exact zo_k _ | exact zo_n | exact zc_rk _ | (rw [zx_id (by omega)]; omega) | (rw [zw_id (by omega)]; omega) | (apply z_ok_v; assumption)) only [z_EvO_some, z_EvG_t, z_Bk_n, z_Bk_s, z_brT, z_brF, z_br_pos, z_br_neg, not_true_eq_false, not_false_eq_true, Bool.true_eq_false, Bool.false_eq_true, Bool.not_eq_false, Bool.not_eq_true, eq_self, z_kl_i, z_kl_l, z_kl_r, z_kl_k, z_kl_n, z_kl_u, z_kl_v, zi_f, zl_f, z_put_r, z_nul_n, z_nul_r, zcmp_lt, zcmp_le, zcmp_ge, zcmp_gt, zcmp_eq, zw_id, zx_id, Nat.reduceAdd, z_tf_i, z_tf_l, z_tf_z, zl_zx, zi_zw, z_gf0, z_gf1, z_gf2, z_gf3, z_gf4, z_gf5, z_gf6, z_gf7, z_pf0, z_pf1, z_pf2, z_pf3, z_pf4, z_pf5, z_pf6, z_pf7, z_ob1, zb_0, zb_1, zb_tf, e173, r173_0, r173_1, r173_4, r173_5, r173_8, r173_9, r173_10, r173_11, r173_14, r173_17, r173_19, r173_20, r173_21, r173_22, r173_25, r173_27, r173_30, r173_31, t103 hs, zSt_ob hs]
    repeat' (first | refine z_br_eq (fun _ => ?_) (fun _ => ?_) | simp (disch := first | omega | assumption | exact zq_r _ | exact zn_0 | exact zo_i _ | exact zo_r _ | exact zq_k _ | exact zq_n | exact zn_1 _ | exact zn_2 _ _ | exact zn_3 _ _ _ | exact zn_4 _ _ _ _ | exact zn_5 _ _ _ _ _ | exact zc_i _ | exact zc_r _ | exact zo_l _ | exact zo_k _ | exact zo_n | exact zc_rk _ | (rw [zx_id (by omega)]; omega) | (rw [zw_id (by omega)]; omega) | (apply z_ok_v; assumption)) only [z_EvO_some, z_EvG_t, z_Bk_n, z_Bk_s, z_brT, z_brF, z_br_pos, z_br_neg, not_true_eq_false, not_false_eq_true, Bool.true_eq_false, Bool.false_eq_true, Bool.not_eq_false, Bool.not_eq_true, eq_self, z_kl_i, z_kl_l, z_kl_r, z_kl_k, z_kl_n, z_kl_u, z_kl_v, zi_f, zl_f, z_put_r, z_nul_n, z_nul_r, zcmp_lt, zcmp_le, zcmp_ge, zcmp_gt, zcmp_eq, zw_id, zx_id, Nat.reduceAdd, z_tf_i, z_tf_l, z_tf_z, zl_zx, zi_zw, z_gf0, z_gf1, z_gf2, z_gf3, z_gf4, z_gf5, z_gf6, z_gf7, z_pf0, z_pf1, z_pf2, z_pf3, z_pf4, z_pf5, z_pf6, z_pf7, z_ob1, zb_0, zb_1, zb_tf, r173_0, r173_1, r173_4, r173_5, r173_8, r173_9, r173_10, r173_11, r173_14, r173_17, r173_19, r173_20, r173_21, r173_22, r173_25, r173_27, r173_30, r173_31])
    all_goals ((repeat' split) <;> first | rfl | (exfalso; omega) | exact z_qi (by omega) | exact z_ql (by omega))
end ZWd
