/-! the draft: written and taken -/
section ZSC
variable {h : zH} {Q : zO → zH → Prop} {a b c n m : Int} {v : Value} {w : List Int} {s N : Nat} {u : Nat → Int} {r : List Value} {v0 v1 : Value}
theorem zb_small (c : Int) (hc : 0 ≤ c ∧ c ≤ 127) : Int.bmod c 256 = c := Int.bmod_eq_of_le (by omega) (by omega)
/-- behind the growth -/
theorem l161 (hs : z_at h (.ref 1) = .inr (1, [.ref s, zi 0, zi m, zi n])) (hu : z_at h (.ref s) = zA 2 N u) (hs1 : s ≠ 1) (hn : 0 ≤ n ∧ n < N) (hN : N ≤ 1000) (hc : 0 ≤ c ∧ c ≤ 127) : z_Ev 161 10 [.ref 1, zi c] [] h Q = Q (.inl (some (.ref 1))) (z_pu (z_pu h 1 (.inr (1, [.ref s, zi 0, zi m, zi (n + 1)]))) s (zA 2 N (va_up u n.toNat c))) := by
  simp (disch := first | omega | assumption | exact zq_r _ | exact zn_0 | exact zo_i _ | exact zo_r _ | exact zq_k _ | exact zq_n | exact zn_1 _ | exact zn_2 _ _ | exact zn_3 _ _ _ | exact zn_4 _ _ _ _ | exact zn_5 _ _ _ _ _ | exact zc_i _ | exact zc_r _ | exact zo_l _ | exact zo_k _ | exact zo_n | exact zc_rk _ | (rw [zx_id (by omega)]; omega) | (rw [zw_id (by omega)]; omega) | (apply z_ok_v; assumption) | (simp only [z_new_1, z_pu_1, mh_1]; omega)) only [z_EvO_some, z_EvG_t, z_Bk_n, z_Bk_s, z_brT, z_brF, z_br_pos, z_br_neg, not_true_eq_false, not_false_eq_true, Bool.true_eq_false, Bool.false_eq_true, Bool.not_eq_false, Bool.not_eq_true, eq_self, z_kl_i, z_kl_l, z_kl_r, z_kl_k, z_kl_n, z_kl_u, z_kl_v, zi_f, zl_f, z_put_r, z_nul_n, z_nul_r, zcmp_lt, zcmp_le, zcmp_ge, zcmp_gt, zcmp_eq, zw_id, zx_id, Nat.reduceAdd, z_tf_i, z_tf_l, z_tf_z, zl_zx, zi_zw, z_gf0, z_gf1, z_gf2, z_gf3, z_gf4, z_gf5, z_gf6, z_gf7, z_pf0, z_pf1, z_pf2, z_pf3, z_pf4, z_pf5, z_pf6, z_pf7, z_ob1, zb_0, zb_1, zb_tf, z_at_pu_e, z_at_pu_n, z_at_pu_k, z_at_new_e, z_at_new_n, z_at_new_k, z_new_1, z_pu_1, z_atr_r, r161_0, r161_1, r161_2, r161_5, r161_6, r161_7, r161_10, r161_11, r161_14, r161_17, r161_18, r161_21, r161_24, r161_25, r161_28, r161_29, r161_30, r161_33, r161_34, r161_35, r161_36, r161_39, r161_40, r161_41, r161_42, r161_45, r161_46, r161_49, r161_52, r161_56, r161_57, r161_60, r161_61, r161_62, r161_65, r161_66, r161_67, r161_68, r161_71, r161_75, r161_76, hs, hu, s54 hs, s67, zg_sb_b, zb_small]
theorem s161 (hs : z_at h (.ref 1) = .inr (1, [.ref s, zi 0, zi m, zi n])) (hu : z_at h (.ref s) = zA 2 N u) (hs1 : s ≠ 1) (hn : 0 ≤ n ∧ n < N) (hN : N ≤ 70) (hc : 0 ≤ c ∧ c ≤ 127) : z_Cl 161 [.ref 1, zi c] h Q = Q (.inl (some (.ref 1))) (z_pu (z_pu h 1 (.inr (1, [.ref s, zi 0, zi m, zi (n + 1)]))) s (zA 2 N (va_up u n.toNat c))) := by
  simp (disch := first | omega | assumption | exact zq_r _ | exact zn_0 | exact zo_i _ | exact zo_r _ | exact zq_k _ | exact zq_n | exact zn_1 _ | exact zn_2 _ _ | exact zn_3 _ _ _ | exact zn_4 _ _ _ _ | exact zn_5 _ _ _ _ _ | exact zc_i _ | exact zc_r _ | exact zo_l _ | exact zo_k _ | exact zo_n | exact zc_rk _ | (rw [zx_id (by omega)]; omega) | (rw [zw_id (by omega)]; omega) | (apply z_ok_v; assumption) | (simp only [z_new_1, z_pu_1, mh_1]; omega)) only [z_EvO_some, z_EvG_t, z_Bk_n, z_Bk_s, z_brT, z_brF, z_br_pos, z_br_neg, not_true_eq_false, not_false_eq_true, Bool.true_eq_false, Bool.false_eq_true, Bool.not_eq_false, Bool.not_eq_true, eq_self, z_kl_i, z_kl_l, z_kl_r, z_kl_k, z_kl_n, z_kl_u, z_kl_v, zi_f, zl_f, z_put_r, z_nul_n, z_nul_r, zcmp_lt, zcmp_le, zcmp_ge, zcmp_gt, zcmp_eq, zw_id, zx_id, Nat.reduceAdd, z_tf_i, z_tf_l, z_tf_z, zl_zx, zi_zw, z_gf0, z_gf1, z_gf2, z_gf3, z_gf4, z_gf5, z_gf6, z_gf7, z_pf0, z_pf1, z_pf2, z_pf3, z_pf4, z_pf5, z_pf6, z_pf7, z_ob1, zb_0, zb_1, zb_tf, z_at_pu_e, z_at_pu_n, z_at_pu_k, z_at_new_e, z_at_new_n, z_at_new_k, z_new_1, z_pu_1, z_atr_r, e161, r161_0, r161_1, r161_2, r161_5, r161_6, r161_7, r161_11, r161_14, r161_17, r161_18, r161_21, r161_24, r161_25, r161_28, r161_29, r161_30, r161_33, r161_34, r161_35, r161_36, r161_39, r161_40, r161_41, r161_42, r161_45, r161_46, r161_49, r161_52, r161_56, r161_57, r161_60, r161_61, r161_62, r161_65, r161_66, r161_67, r161_68, r161_71, r161_75, r161_76, hs, s142 hs hu]
  exact l161 hs hu hs1 hn (by omega) hc
theorem s161g (hs : z_at h (.ref 1) = .inr (1, [.ref s, zi 0, zi m, zi n])) (hu : z_at h (.ref s) = zA 2 N u) (hs1 : s ≠ 1) (hl : s < h.1) (h1 : 1 < h.1) (hn : n = N) (hN : N ≤ 70 ∧ 1 ≤ N) (hc : 0 ≤ c ∧ c ≤ 127) : z_Cl 161 [.ref 1, zi c] h Q = Q (.inl (some (.ref 1))) (z_pu (z_pu (z_pu (z_pu (z_new h (2 * N + 2) (zA 2 (2 * N + 2) (fun _ => 0))) h.1 (zA 2 (2 * N + 2) (va_cpy u (fun _ => 0) 0 0 N))) 1 (.inr (1, [.ref h.1, zi 0, zi m, zi n]))) 1 (.inr (1, [.ref h.1, zi 0, zi m, zi (n + 1)]))) h.1 (zA 2 (2 * N + 2) (va_up (va_cpy u (fun _ => 0) 0 0 N) n.toNat c))) := by
  simp (disch := first | omega | assumption | exact zq_r _ | exact zn_0 | exact zo_i _ | exact zo_r _ | exact zq_k _ | exact zq_n | exact zn_1 _ | exact zn_2 _ _ | exact zn_3 _ _ _ | exact zn_4 _ _ _ _ | exact zn_5 _ _ _ _ _ | exact zc_i _ | exact zc_r _ | exact zo_l _ | exact zo_k _ | exact zo_n | exact zc_rk _ | (rw [zx_id (by omega)]; omega) | (rw [zw_id (by omega)]; omega) | (apply z_ok_v; assumption) | (simp only [z_new_1, z_pu_1, mh_1]; omega)) only [z_EvO_some, z_EvG_t, z_Bk_n, z_Bk_s, z_brT, z_brF, z_br_pos, z_br_neg, not_true_eq_false, not_false_eq_true, Bool.true_eq_false, Bool.false_eq_true, Bool.not_eq_false, Bool.not_eq_true, eq_self, z_kl_i, z_kl_l, z_kl_r, z_kl_k, z_kl_n, z_kl_u, z_kl_v, zi_f, zl_f, z_put_r, z_nul_n, z_nul_r, zcmp_lt, zcmp_le, zcmp_ge, zcmp_gt, zcmp_eq, zw_id, zx_id, Nat.reduceAdd, z_tf_i, z_tf_l, z_tf_z, zl_zx, zi_zw, z_gf0, z_gf1, z_gf2, z_gf3, z_gf4, z_gf5, z_gf6, z_gf7, z_pf0, z_pf1, z_pf2, z_pf3, z_pf4, z_pf5, z_pf6, z_pf7, z_ob1, zb_0, zb_1, zb_tf, z_at_pu_e, z_at_pu_n, z_at_pu_k, z_at_new_e, z_at_new_n, z_at_new_k, z_new_1, z_pu_1, z_atr_r, e161, r161_0, r161_1, r161_2, r161_5, r161_6, r161_7, r161_11, r161_14, r161_17, r161_18, r161_21, r161_24, r161_25, r161_28, r161_29, r161_30, r161_33, r161_34, r161_35, r161_36, r161_39, r161_40, r161_41, r161_42, r161_45, r161_46, r161_49, r161_52, r161_56, r161_57, r161_60, r161_61, r161_62, r161_65, r161_66, r161_67, r161_68, r161_71, r161_75, r161_76, hs, s142g hs hu hl h1 hN]
  exact l161 (z_at_pu_s _ _ _) (by rw [z_at_pu_n (by omega), z_at_pu_s]) (by omega) (by omega) (by omega) hc
theorem zT_app {w : List Int} {u : Nat → Int} {c : Int} (ht : zT w u) : zT (w ++ [c]) (va_up u w.length c) := by
  intro j hj
  rw [List.length_append] at hj
  have h1 : ([c] : List Int).length = 1 := rfl
  by_cases hjw : j = w.length
  · subst hjw
    rw [va_up_self]
    simp [List.getD_eq_getElem?_getD]
  · rw [va_up_ne _ _ hjw, ht j (by omega)]
    rw [List.getD_eq_getElem?_getD, List.getD_eq_getElem?_getD, List.getElem?_append_left (by omega)]
theorem t161 (hF : zFr h) (hs : zSB h s w) (hw : w.length < 60) (hc : 32 ≤ c ∧ c ≤ 126)
    (kk : ∀ h' s', zEy (fun a => a = 1 ∨ a = s) h h' 1 100 → zSB h' s' (w ++ [c]) → (s' = s ∨ h.1 ≤ s') → Q (.inl (some (.ref 1))) h') : z_Cl 161 [.ref 1, zi c] h Q := by
  obtain ⟨m, N, u, q1, q2, q3, q4, q5, q6, q7, q8⟩ := hs
  have h1 : 1 < h.1 := zFr_lt hF q1 (zo_jk (by decide))
  have h2 : s < h.1 := zFr_lt hF q2 zA_jk
  have e3 : ((w.length : Int)).toNat = w.length := by omega
  have e4 : ((w ++ [c]).length : Int) = (w.length : Int) + 1 := by simp
  have e5 : (w ++ [c]).length = w.length + 1 := by simp
  have hx := (zEx.refl hF).ey (X := fun a => a = 1 ∨ a = s)
  have hch : ∀ x ∈ w ++ [c], 32 ≤ x ∧ x ≤ 126 := by
    intro x hx
    rcases List.mem_append.mp hx with hx | hx
    · exact q7 x hx
    · rw [List.mem_singleton] at hx
      subst hx
      exact hc
  by_cases hN : w.length < N
  · rw [s161 q1 q2 q8 (by omega) (by omega) (by omega)]
    refine kk _ s (((hx.pu (Or.inr (Or.inl rfl)) (by omega)).pu (Or.inr (Or.inr rfl)) (by rw [z_pu_1]; omega)).mono (by omega) (by omega)) ?_ (Or.inl rfl)
    refine ⟨m, N, va_up u w.length c, ?_, ?_, q3, by omega, by omega, zT_app q6, hch, q8⟩
    · rw [z_at_pu_n (by omega), z_at_pu_s, e4]
    · rw [z_at_pu_s, e3]
  · have hNw : N = w.length := by omega
    rw [s161g q1 q2 q8 h2 h1 (by omega) (by omega) (by omega)]
    have hx2 := hx.new (n := 2 * N + 2) (e := zA 2 (2 * N + 2) (fun _ => 0))
    refine kk _ h.1 (((((hx2.pu (b := h.1) (Or.inl (Nat.le_refl _)) ?_).pu (b := 1) (Or.inr (Or.inl rfl)) ?_).pu (b := 1) (Or.inr (Or.inl rfl)) ?_).pu (b := h.1) (Or.inl (Nat.le_refl _)) ?_).mono (by omega) (by omega)) ?_ (Or.inr (Nat.le_refl _))
    · rw [z_new_1]; omega
    · rw [z_pu_1, z_new_1]; omega
    · rw [z_pu_1, z_pu_1, z_new_1]; omega
    · rw [z_pu_1, z_pu_1, z_pu_1, z_new_1]; omega
    · refine ⟨m, 2 * N + 2, va_up (va_cpy u (fun _ => 0) 0 0 N) w.length c, ?_, ?_, by omega, by omega, by omega, zT_app ?_, hch, by omega⟩
      · rw [z_at_pu_n (by omega), z_at_pu_s, e4]
      · rw [z_at_pu_s, e3]
      · intro j hj
        unfold va_cpy
        rw [if_pos (by omega), Nat.sub_zero, Nat.zero_add]
        exact q6 j hj
theorem t189y (hF : zFr h) (h0 : z_at h (.ref 0) = .inr (0, .ref 1 :: r)) (hs : zSB h s w) (hw : w.length < 60) (hc : 32 ≤ c ∧ c ≤ 126)
    (kk : ∀ h' s', zEy (fun a => a = 1 ∨ a = s) h h' 1 100 → zSB h' s' (w ++ [c]) → (s' = s ∨ h.1 ≤ s') → Q (.inl (some (zi 1))) h') : z_Cl 189 [.ref 0, zi c] h Q := by
  obtain ⟨m, N, u, q1, q2, q3, q4, q5, q6, q7, q8⟩ := id hs
  have t1 : z_tf .boolean (zi 1) = true := by decide
  simp (disch := first | omega | assumption | exact zq_r _ | exact zn_0 | exact zo_i _ | exact zo_r _ | exact zq_k _ | exact zq_n | exact zn_1 _ | exact zn_2 _ _ | exact zn_3 _ _ _ | exact zn_4 _ _ _ _ | exact zn_5 _ _ _ _ _ | exact zc_i _ | exact zc_r _ | exact zo_l _ | exact zo_k _ | exact zo_n | exact zc_rk _ | (rw [zx_id (by omega)]; omega) | (rw [zw_id (by omega)]; omega) | (apply z_ok_v; assumption) | (simp only [z_new_1, z_pu_1, mh_1]; omega)) only [z_EvO_some, z_EvG_t, z_Bk_n, z_Bk_s, z_brT, z_brF, z_br_pos, z_br_neg, not_true_eq_false, not_false_eq_true, Bool.true_eq_false, Bool.false_eq_true, Bool.not_eq_false, Bool.not_eq_true, eq_self, z_kl_i, z_kl_l, z_kl_r, z_kl_k, z_kl_n, z_kl_u, z_kl_v, zi_f, zl_f, z_put_r, z_nul_n, z_nul_r, zcmp_lt, zcmp_le, zcmp_ge, zcmp_gt, zcmp_eq, zw_id, zx_id, Nat.reduceAdd, z_tf_i, z_tf_l, z_tf_z, zl_zx, zi_zw, z_gf0, z_gf1, z_gf2, z_gf3, z_gf4, z_gf5, z_gf6, z_gf7, z_pf0, z_pf1, z_pf2, z_pf3, z_pf4, z_pf5, z_pf6, z_pf7, z_ob1, zb_0, zb_1, zb_tf, e189, r189_0, r189_1, r189_3, r189_6, r189_7, r189_9, r189_12, r189_13, r189_16, r189_19, r189_21, r189_24, r189_25, r189_26, r189_27, r189_30, r189_31, r189_34, r189_35, r189_36, h0, q1, e105, r105_0, r105_1, r105_4, e55, r55_0, r55_1, r55_4, e184, r184_0, r184_1, r184_2, r184_5, r184_6, r184_7]
  refine t161 hF hs hw hc (fun h' s' x hs' hss => ?_)
  obtain ⟨m', N', u', p1, -⟩ := id hs'
  have := kk h' s' x hs' hss
  simp (disch := first | omega | assumption | exact zq_r _ | exact zn_0 | exact zo_i _ | exact zo_r _ | exact zq_k _ | exact zq_n | exact zn_1 _ | exact zn_2 _ _ | exact zn_3 _ _ _ | exact zn_4 _ _ _ _ | exact zn_5 _ _ _ _ _ | exact zc_i _ | exact zc_r _ | exact zo_l _ | exact zo_k _ | exact zo_n | exact zc_rk _ | (rw [zx_id (by omega)]; omega) | (rw [zw_id (by omega)]; omega) | (apply z_ok_v; assumption) | (simp only [z_new_1, z_pu_1, mh_1]; omega)) only [z_EvO_some, z_EvG_t, z_Bk_n, z_Bk_s, z_brT, z_brF, z_br_pos, z_br_neg, not_true_eq_false, not_false_eq_true, Bool.true_eq_false, Bool.false_eq_true, Bool.not_eq_false, Bool.not_eq_true, eq_self, z_kl_i, z_kl_l, z_kl_r, z_kl_k, z_kl_n, z_kl_u, z_kl_v, zi_f, zl_f, z_put_r, z_nul_n, z_nul_r, zcmp_lt, zcmp_le, zcmp_ge, zcmp_gt, zcmp_eq, zw_id, zx_id, Nat.reduceAdd, z_tf_i, z_tf_l, z_tf_z, zl_zx, zi_zw, z_gf0, z_gf1, z_gf2, z_gf3, z_gf4, z_gf5, z_gf6, z_gf7, z_pf0, z_pf1, z_pf2, z_pf3, z_pf4, z_pf5, z_pf6, z_pf7, z_ob1, zb_0, zb_1, zb_tf, r184_0, r184_1, r184_2, r184_5, r184_6, r184_7, r189_0, r189_1, r189_3, r189_6, r189_7, r189_9, r189_12, r189_13, r189_16, r189_19, r189_21, r189_24, r189_25, r189_26, r189_27, r189_30, r189_31, r189_34, r189_35, r189_36, t1]
  exact this
theorem t189n (h0 : z_at h (.ref 0) = .inr (0, .ref 1 :: r)) (hs : zSB h s w) (hc : 0 ≤ c ∧ c ≤ 65535) (hn : ¬ (w.length < 60 ∧ 32 ≤ c ∧ c ≤ 126)) : z_Cl 189 [.ref 0, zi c] h Q = Q (.inl (some (zi 0))) h := by
  obtain ⟨m, N, u, q1, q2, q3, q4, q5, q6, q7, q8⟩ := id hs
  have t1 : z_tf .boolean (zi 0) = true := by decide
  simp (disch := first | omega | assumption | exact zq_r _ | exact zn_0 | exact zo_i _ | exact zo_r _ | exact zq_k _ | exact zq_n | exact zn_1 _ | exact zn_2 _ _ | exact zn_3 _ _ _ | exact zn_4 _ _ _ _ | exact zn_5 _ _ _ _ _ | exact zc_i _ | exact zc_r _ | exact zo_l _ | exact zo_k _ | exact zo_n | exact zc_rk _ | (rw [zx_id (by omega)]; omega) | (rw [zw_id (by omega)]; omega) | (apply z_ok_v; assumption) | (simp only [z_new_1, z_pu_1, mh_1]; omega)) only [z_EvO_some, z_EvG_t, z_Bk_n, z_Bk_s, z_brT, z_brF, z_br_pos, z_br_neg, not_true_eq_false, not_false_eq_true, Bool.true_eq_false, Bool.false_eq_true, Bool.not_eq_false, Bool.not_eq_true, eq_self, z_kl_i, z_kl_l, z_kl_r, z_kl_k, z_kl_n, z_kl_u, z_kl_v, zi_f, zl_f, z_put_r, z_nul_n, z_nul_r, zcmp_lt, zcmp_le, zcmp_ge, zcmp_gt, zcmp_eq, zw_id, zx_id, Nat.reduceAdd, z_tf_i, z_tf_l, z_tf_z, zl_zx, zi_zw, z_gf0, z_gf1, z_gf2, z_gf3, z_gf4, z_gf5, z_gf6, z_gf7, z_pf0, z_pf1, z_pf2, z_pf3, z_pf4, z_pf5, z_pf6, z_pf7, z_ob1, zb_0, zb_1, zb_tf, e189, r189_0, r189_1, r189_3, r189_6, r189_7, r189_9, r189_12, r189_13, r189_16, r189_19, r189_21, r189_24, r189_25, r189_26, r189_27, r189_30, r189_31, r189_34, r189_35, r189_36, t1]
  repeat' (first | refine z_br_eq (fun _ => ?_) (fun _ => ?_) | simp (disch := first | omega | assumption | exact zq_r _ | exact zn_0 | exact zo_i _ | exact zo_r _ | exact zq_k _ | exact zq_n | exact zn_1 _ | exact zn_2 _ _ | exact zn_3 _ _ _ | exact zn_4 _ _ _ _ | exact zn_5 _ _ _ _ _ | exact zc_i _ | exact zc_r _ | exact zo_l _ | exact zo_k _ | exact zo_n | exact zc_rk _ | (rw [zx_id (by omega)]; omega) | (rw [zw_id (by omega)]; omega) | (apply z_ok_v; assumption) | (simp only [z_new_1, z_pu_1, mh_1]; omega)) only [z_EvO_some, z_EvG_t, z_Bk_n, z_Bk_s, z_brT, z_brF, z_br_pos, z_br_neg, not_true_eq_false, not_false_eq_true, Bool.true_eq_false, Bool.false_eq_true, Bool.not_eq_false, Bool.not_eq_true, eq_self, z_kl_i, z_kl_l, z_kl_r, z_kl_k, z_kl_n, z_kl_u, z_kl_v, zi_f, zl_f, z_put_r, z_nul_n, z_nul_r, zcmp_lt, zcmp_le, zcmp_ge, zcmp_gt, zcmp_eq, zw_id, zx_id, Nat.reduceAdd, z_tf_i, z_tf_l, z_tf_z, zl_zx, zi_zw, z_gf0, z_gf1, z_gf2, z_gf3, z_gf4, z_gf5, z_gf6, z_gf7, z_pf0, z_pf1, z_pf2, z_pf3, z_pf4, z_pf5, z_pf6, z_pf7, z_ob1, zb_0, zb_1, zb_tf, r189_0, r189_1, r189_3, r189_6, r189_7, r189_9, r189_12, r189_13, r189_16, r189_19, r189_21, r189_24, r189_25, r189_26, r189_27, r189_30, r189_31, r189_34, r189_35, r189_36, h0, q1, e105, r105_0, r105_1, r105_4, e55, r55_0, r55_1, r55_4, t1])
  all_goals (exfalso; omega)
end ZSC
