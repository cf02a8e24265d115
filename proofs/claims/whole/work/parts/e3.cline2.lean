/-! a line: the class; a date read: the class -/
section ZCm
variable {s : Nat} {K : zH} {Q : zO → zH → Prop} {G : Nat → Nat → Int} {w : List Int} {S : zStt} {c : Int}
theorem zwd_mem {w : List Int} {i : Nat} {c : Int} (h : c ∈ zwd_ w i) : c ∈ w := zsub_mem h
theorem zltr_mem {w : List Int} {c : Int} (h : c ∈ zltr w) : c ∈ w := by
  unfold zltr at h
  split at h
  · cases h
  · exact h
theorem zruleP_2 {W : Nat → List Int} {R : zRu} (h : zruleP W = some R) : R.2 = zltr (W 8) := by
  unfold zruleP at h
  split at h
  · cases h
  · split at h
    · cases h
    · rw [← Option.some.inj h]
theorem zeraP_2 {n : Int} {W : Nat → List Int} {E : zEr} (h : zeraP n W = some E) : E.2 = W 3 := by
  unfold zeraP at h
  split at h
  · cases h
  · split at h
    · cases h
    · rw [← Option.some.inj h]
theorem t216 (hv : zCV s K G w S) (kk : ∀ K' G', zSm K K' 50 13300 → (∀ a : Nat, a ≠ 0 → G' a = G a) → zCV s K' G' [] (zline w S).2.2 → zTh (zline w S).1 (zline w S).2.1 K' Q) : z_Cl 216 [.ref 0] K Q := by
  obtain ⟨hi, hc, hsb, hs, hl⟩ := id hv
  obtain ⟨hF, hLk, h63, hCB, hok, hoc, hG⟩ := id hi
  obtain ⟨m, N, u, q1, q2, q3, q4, q5, q6, q7, q8⟩ := id hsb
  have at0 := hv.at0
  have hsl : s < K.1 := zFr_lt hF q2 zA_jk
  obtain ⟨K1, hK1⟩ : ∃ K1, K1 = z_new K 4 (.inr (6, [.null, .null, .null, zi 0])) := ⟨_, rfl⟩
  have x1 : zEx K K1 1 4 := by rw [hK1]; exact ((zEx.refl hF).new (n := 4)).mono (by omega) (by omega)
  have F1 : zFr K1 := x1.2.2.2.2.2.2
  have e1 : K1.1 = K.1 + 1 := by rw [hK1]; rfl
  have o0 : z_at K1 (.ref 0) = .inr (0, cfs0 (G 0)) := x1.at hF rfl at0 (zo_jk (by decide))
  have oL : z_at K1 (.ref K.1) = .inr (6, [.null, .null, .null, zi 0]) := by rw [hK1]; exact z_at_new_s _ _ _
  have sb1 : zSB K1 s w := ⟨m, N, u, x1.at hF rfl q1 (zo_jk (by decide)), x1.at hF rfl q2 zA_jk, q3, q4, q5, q6, q7, q8⟩
  simp (disch := first | omega | assumption | exact zq_r _ | exact zn_0 | exact zo_i _ | exact zo_r _ | exact zq_k _ | exact zq_n | exact zn_1 _ | exact zn_2 _ _ | exact zn_3 _ _ _ | exact zn_4 _ _ _ _ | exact zn_5 _ _ _ _ _ | exact zc_i _ | exact zc_r _ | exact zo_l _ | exact zo_k _ | exact zo_n | exact zc_rk _ | (rw [zx_id (by omega)]; omega) | (rw [zw_id (by omega)]; omega) | (apply z_ok_v; assumption) | (simp only [z_new_1, z_pu_1, mh_1]; omega)) only [z_EvO_some, z_EvG_t, z_Bk_n, z_Bk_s, z_brT, z_brF, z_br_pos, z_br_neg, not_true_eq_false, not_false_eq_true, Bool.true_eq_false, Bool.false_eq_true, Bool.not_eq_false, Bool.not_eq_true, eq_self, z_kl_i, z_kl_l, z_kl_r, z_kl_k, z_kl_n, z_kl_u, z_kl_v, zi_f, zl_f, z_put_r, z_nul_n, z_nul_r, zcmp_lt, zcmp_le, zcmp_ge, zcmp_gt, zcmp_eq, zw_id, zx_id, Nat.reduceAdd, z_tf_i, z_tf_l, z_tf_z, zl_zx, zi_zw, z_gf0, z_gf1, z_gf2, z_gf3, z_gf4, z_gf5, z_gf6, z_gf7, z_pf0, z_pf1, z_pf2, z_pf3, z_pf4, z_pf5, z_pf6, z_pf7, z_ob1, zb_0, zb_1, zb_tf, cat_o, cat_k, ch_1, cgf0_0, cgf0_1, cgf0_2, cgf0_3, cpf0_3, cgf0_4, cgf0_5, cgf0_6, cgf0_7, cpf0_7, cob_0, cat_0, cpu_0, cgf5_0, cgf5_1, cpf5_1, cob_5, cat_5, cpu_5, cat_6, cpu_6, cgf7_0, cgf7_1, cpf7_1, cgf7_2, cpf7_2, cgf7_3, cpf7_3, cgf7_4, cgf7_5, cgf7_6, cpf7_6, cgf7_7, cpf7_7, cob_7, cat_7, cpu_7, cat_8, cpu_8, cat_9, cpu_9, cat_10, cpu_10, cat_11, cpu_11, zg_ai_A, zg_al_A, zg_si_A, zg_sl_A, zg_ab_b, zg_sb_b, z_len_A, z_len_L, e216, r216_0, r216_3, r216_4, r216_5, r216_8, r216_11, r216_12, r216_13, r216_16, r216_19, r216_20, r216_21, r216_22, r216_25, r216_26, r216_27, r216_30, r216_31, r216_34, r216_35, r216_38, r216_39, r216_40, r216_43, r216_46, r216_49, r216_54, r216_55, r216_56, r216_57, r216_60, r216_61, r216_62, r216_65, r216_68, r216_73, r216_74, r216_75, r216_78, r216_81, r216_84, r216_89, r216_90, ← hK1, o0]
  refine t188 F1 o0 sb1 (fun h2 p y hsd hsb2 => ?_)
  have F2 := y.2.2.2.2.2.2
  have oL2 : z_at h2 (.ref K.1) = .inr (6, [.null, .null, .null, zi 0]) := y.at F1 rfl oL (zo_jk (by decide)) (fun a ha => by cases ha; omega)
  simp (disch := first | omega | assumption | exact zq_r _ | exact zn_0 | exact zo_i _ | exact zo_r _ | exact zq_k _ | exact zq_n | exact zn_1 _ | exact zn_2 _ _ | exact zn_3 _ _ _ | exact zn_4 _ _ _ _ | exact zn_5 _ _ _ _ _ | exact zc_i _ | exact zc_r _ | exact zo_l _ | exact zo_k _ | exact zo_n | exact zc_rk _ | (rw [zx_id (by omega)]; omega) | (rw [zw_id (by omega)]; omega) | (apply z_ok_v; assumption) | (simp only [z_new_1, z_pu_1, mh_1]; omega)) only [z_EvO_some, z_EvG_t, z_Bk_n, z_Bk_s, z_brT, z_brF, z_br_pos, z_br_neg, not_true_eq_false, not_false_eq_true, Bool.true_eq_false, Bool.false_eq_true, Bool.not_eq_false, Bool.not_eq_true, eq_self, z_kl_i, z_kl_l, z_kl_r, z_kl_k, z_kl_n, z_kl_u, z_kl_v, zi_f, zl_f, z_put_r, z_nul_n, z_nul_r, zcmp_lt, zcmp_le, zcmp_ge, zcmp_gt, zcmp_eq, zw_id, zx_id, Nat.reduceAdd, z_tf_i, z_tf_l, z_tf_z, zl_zx, zi_zw, z_gf0, z_gf1, z_gf2, z_gf3, z_gf4, z_gf5, z_gf6, z_gf7, z_pf0, z_pf1, z_pf2, z_pf3, z_pf4, z_pf5, z_pf6, z_pf7, z_ob1, zb_0, zb_1, zb_tf, r216_0, r216_3, r216_4, r216_5, r216_8, r216_11, r216_12, r216_13, r216_16, r216_19, r216_20, r216_21, r216_22, r216_25, r216_26, r216_27, r216_30, r216_31, r216_34, r216_35, r216_38, r216_39, r216_40, r216_43, r216_46, r216_49, r216_54, r216_55, r216_56, r216_57, r216_60, r216_61, r216_62, r216_65, r216_68, r216_73, r216_74, r216_75, r216_78, r216_81, r216_84, r216_89, r216_90, oL2]
  refine t153 F2 oL2 hsd q5 (fun h3 y3 hln => ?_)
  have F3 := y3.2.2.2.2.2.2
  have yt : zEy (fun a => a = 1 ∨ a = s) K h3 5 126 := (((x1.ey (X := fun a => a = 1 ∨ a = s)).tr2 y (fun a _ h => Or.inl h)).tr2 y3 (fun a ha h => by omega))
  have hsb3 : zSB h3 s [] := by
    obtain ⟨m', N', u', z1, z2, z3⟩ := id hsb2
    exact ⟨m', N', u', y3.at F2 rfl z1 (zo_jk (by decide)) (fun a ha => by cases ha; omega), y3.at F2 rfl z2 zA_jk (fun a ha => by cases ha; omega), z3⟩
  have hv3 := hv.ey yt hsb3
  have hL3 : zLit h3 := hv3.1.2.1.lit
  have hn := zwn_r w
  have hoX : ∀ a : Nat, (a = 1 ∨ a = s) → ¬ (21 ≤ a ∧ a ≤ 62) := fun a h => by omega
  obtain ⟨t', sa, ea, B', E', z1, z2, z3, z4, z5, z6⟩ := id hln
  have zo : z_isref (.ref K.1) = true := rfl
  by_cases h0 : zwn w = 0
  · have ez : zline w S = (0, 0, S) := if_pos h0
    have := kk h3 G ((yt.mono (by omega) (by omega)).sm h63 hoX) (fun _ _ => rfl) (by rw [ez]; exact hv3)
    rw [ez] at this
    have this : Q (.inl (some (zi 0))) h3 := this
    rw [h0] at z1
    simp (disch := first | omega | assumption | exact zq_r _ | exact zn_0 | exact zo_i _ | exact zo_r _ | exact zq_k _ | exact zq_n | exact zn_1 _ | exact zn_2 _ _ | exact zn_3 _ _ _ | exact zn_4 _ _ _ _ | exact zn_5 _ _ _ _ _ | exact zc_i _ | exact zc_r _ | exact zo_l _ | exact zo_k _ | exact zo_n | exact zc_rk _ | (rw [zx_id (by omega)]; omega) | (rw [zw_id (by omega)]; omega) | (apply z_ok_v; assumption) | (simp only [z_new_1, z_pu_1, mh_1]; omega)) only [z_EvO_some, z_EvG_t, z_Bk_n, z_Bk_s, z_brT, z_brF, z_br_pos, z_br_neg, not_true_eq_false, not_false_eq_true, Bool.true_eq_false, Bool.false_eq_true, Bool.not_eq_false, Bool.not_eq_true, eq_self, z_kl_i, z_kl_l, z_kl_r, z_kl_k, z_kl_n, z_kl_u, z_kl_v, zi_f, zl_f, z_put_r, z_nul_n, z_nul_r, zcmp_lt, zcmp_le, zcmp_ge, zcmp_gt, zcmp_eq, zw_id, zx_id, Nat.reduceAdd, z_tf_i, z_tf_l, z_tf_z, zl_zx, zi_zw, z_gf0, z_gf1, z_gf2, z_gf3, z_gf4, z_gf5, z_gf6, z_gf7, z_pf0, z_pf1, z_pf2, z_pf3, z_pf4, z_pf5, z_pf6, z_pf7, z_ob1, zb_0, zb_1, zb_tf, r216_0, r216_3, r216_4, r216_5, r216_8, r216_11, r216_12, r216_13, r216_16, r216_19, r216_20, r216_21, r216_22, r216_25, r216_26, r216_27, r216_30, r216_31, r216_34, r216_35, r216_38, r216_39, r216_40, r216_43, r216_46, r216_49, r216_54, r216_55, r216_56, r216_57, r216_60, r216_61, r216_62, r216_65, r216_68, r216_73, r216_74, r216_75, r216_78, r216_81, r216_84, r216_89, r216_90, z1]
    exact this
  · -- the end of a line that is none
    have bad : ∀ h4, zEx h3 h4 40 13065 → zline w S = (1, 0, S) → Q (.inr h4.1) (z_new h4 6 (.inr (13, []))) := by
      intro h4 x4 ez
      have hsb4 : zSB h4 s [] := by
        obtain ⟨m', N', u', z1, z2, z3⟩ := id hsb3
        exact ⟨m', N', u', x4.at F3 rfl z1 (zo_jk (by decide)), x4.at F3 rfl z2 zA_jk, z3⟩
      have y4 : zEy (fun a => a = 1 ∨ a = s) K h4 45 13191 := yt.tr2 (x4.ey (X := fun a => a = 1 ∨ a = s)) (fun a _ h => h)
      have := kk h4 G ((y4.mono (by omega) (by omega)).sm h63 hoX) (fun _ _ => rfl) (by rw [ez]; exact hv.ey y4 hsb4)
      rw [ez] at this
      exact this
    by_cases h9 : zwn w = 9
    · simp (disch := first | omega | assumption | exact zq_r _ | exact zn_0 | exact zo_i _ | exact zo_r _ | exact zq_k _ | exact zq_n | exact zn_1 _ | exact zn_2 _ _ | exact zn_3 _ _ _ | exact zn_4 _ _ _ _ | exact zn_5 _ _ _ _ _ | exact zc_i _ | exact zc_r _ | exact zo_l _ | exact zo_k _ | exact zo_n | exact zc_rk _ | (rw [zx_id (by omega)]; omega) | (rw [zw_id (by omega)]; omega) | (apply z_ok_v; assumption) | (simp only [z_new_1, z_pu_1, mh_1]; omega)) only [z_EvO_some, z_EvG_t, z_Bk_n, z_Bk_s, z_brT, z_brF, z_br_pos, z_br_neg, not_true_eq_false, not_false_eq_true, Bool.true_eq_false, Bool.false_eq_true, Bool.not_eq_false, Bool.not_eq_true, eq_self, z_kl_i, z_kl_l, z_kl_r, z_kl_k, z_kl_n, z_kl_u, z_kl_v, zi_f, zl_f, z_put_r, z_nul_n, z_nul_r, zcmp_lt, zcmp_le, zcmp_ge, zcmp_gt, zcmp_eq, zw_id, zx_id, Nat.reduceAdd, z_tf_i, z_tf_l, z_tf_z, zl_zx, zi_zw, z_gf0, z_gf1, z_gf2, z_gf3, z_gf4, z_gf5, z_gf6, z_gf7, z_pf0, z_pf1, z_pf2, z_pf3, z_pf4, z_pf5, z_pf6, z_pf7, z_ob1, zb_0, zb_1, zb_tf, r216_0, r216_3, r216_4, r216_5, r216_8, r216_11, r216_12, r216_13, r216_16, r216_19, r216_20, r216_21, r216_22, r216_25, r216_26, r216_27, r216_30, r216_31, r216_34, r216_35, r216_38, r216_39, r216_40, r216_43, r216_46, r216_49, r216_54, r216_55, r216_56, r216_57, r216_60, r216_61, r216_62, r216_65, r216_68, r216_73, r216_74, r216_75, r216_78, r216_81, r216_84, r216_89, r216_90, z1]
      refine t211 F3 hL3 hln (fun hno h4 x4 => ?_) (fun _ hR R hP h4 a x4 hrb => ?_)
      · have ez : zline w S = (1, 0, S) := by
          unfold zline
          rw [if_neg h0]
          by_cases hR : zwd_ w 0 = [82]
          · rw [if_pos ⟨h9, hR⟩, hno h9 hR]
          · rw [if_neg (fun x => hR x.2), if_neg (by omega)]
        have := bad h4 x4 ez
        simp (disch := first | omega | assumption | exact zq_r _ | exact zn_0 | exact zo_i _ | exact zo_r _ | exact zq_k _ | exact zq_n | exact zn_1 _ | exact zn_2 _ _ | exact zn_3 _ _ _ | exact zn_4 _ _ _ _ | exact zn_5 _ _ _ _ _ | exact zc_i _ | exact zc_r _ | exact zo_l _ | exact zo_k _ | exact zo_n | exact zc_rk _ | (rw [zx_id (by omega)]; omega) | (rw [zw_id (by omega)]; omega) | (apply z_ok_v; assumption) | (simp only [z_new_1, z_pu_1, mh_1]; omega)) only [z_EvO_some, z_EvG_t, z_Bk_n, z_Bk_s, z_brT, z_brF, z_br_pos, z_br_neg, not_true_eq_false, not_false_eq_true, Bool.true_eq_false, Bool.false_eq_true, Bool.not_eq_false, Bool.not_eq_true, eq_self, z_kl_i, z_kl_l, z_kl_r, z_kl_k, z_kl_n, z_kl_u, z_kl_v, zi_f, zl_f, z_put_r, z_nul_n, z_nul_r, zcmp_lt, zcmp_le, zcmp_ge, zcmp_gt, zcmp_eq, zw_id, zx_id, Nat.reduceAdd, z_tf_i, z_tf_l, z_tf_z, zl_zx, zi_zw, z_gf0, z_gf1, z_gf2, z_gf3, z_gf4, z_gf5, z_gf6, z_gf7, z_pf0, z_pf1, z_pf2, z_pf3, z_pf4, z_pf5, z_pf6, z_pf7, z_ob1, zb_0, zb_1, zb_tf, r216_0, r216_3, r216_4, r216_5, r216_8, r216_11, r216_12, r216_13, r216_16, r216_19, r216_20, r216_21, r216_22, r216_25, r216_26, r216_27, r216_30, r216_31, r216_34, r216_35, r216_38, r216_39, r216_40, r216_43, r216_46, r216_49, r216_54, r216_55, r216_56, r216_57, r216_60, r216_61, r216_62, r216_65, r216_68, r216_73, r216_74, r216_75, r216_78, r216_81, r216_84, r216_89, r216_90, t214s (hln.ex x4 F3) (show ¬ (4 ≤ zwn w ∧ zwn w ≤ 8) by omega)]
        exact this
      · have F4 := x4.2.2.2.2.2.2
        have hsb4 : zSB h4 s [] := by
          obtain ⟨m', N', u', z1, z2, z3⟩ := id hsb3
          exact ⟨m', N', u', x4.at F3 rfl z1 (zo_jk (by decide)), x4.at F3 rfl z2 zA_jk, z3⟩
        have y4 : zEy (fun a => a = 1 ∨ a = s) K h4 45 13191 := yt.tr2 (x4.ey (X := fun a => a = 1 ∨ a = s)) (fun a _ h => h)
        have hv4 := hv.ey y4 hsb4
        have hR' := zruleP_ok hP
        obtain ⟨k, hk0⟩ : ∃ k : Nat, (k : Int) = R.1 0 := ⟨(R.1 0).toNat, by have := hR'.1; omega⟩
        have hk : k < 3 := by have := hR'.1; omega
        have ek : (R.1 0).toNat = k := by omega
        have hrk : zRk s h4 a R := hrb.toK (by omega) (by omega)
        have at4 := hv4.at0
        obtain ⟨dd, cc, vv, -, aa, -⟩ := id hrk
        have o3 : z_at h4 (.ref 3) = zQA 6 3 zS3 := by obtain ⟨PE, d1, -⟩ := hv4.1.2.2.2.1; exact d1
        have oS : z_isob (z_at h4 (.ref (12 + 3 * k))) 5 = true := by
          obtain ⟨PE, d1, d2, d3, d4, d5⟩ := hv4.1.2.2.2.1
          obtain ⟨P, KK, c1, -⟩ := d5 k hk
          rw [c1]
          exact z_ob1
        have ex : zg_aq (zQA 6 3 zS3) (R.1 0) = some (.ref (12 + 3 * k)) := by
          rw [zS3_at (by have := hR'.1; omega), ek]
        have ezz : zline w S = if (S.2.2 k).length = 6 then (2, 0, S) else (0, 1, S.1, va_up S.2.1 k (zKa (S.2.1 k) R (S.2.2 k).length), va_up S.2.2 k (S.2.2 k ++ [R])) := by
          unfold zline
          rw [if_neg h0, if_pos ⟨h9, hR⟩, hP]
          simp only [ek]
        simp (disch := first | omega | assumption | exact zq_r _ | exact zn_0 | exact zo_i _ | exact zo_r _ | exact zq_k _ | exact zq_n | exact zn_1 _ | exact zn_2 _ _ | exact zn_3 _ _ _ | exact zn_4 _ _ _ _ | exact zn_5 _ _ _ _ _ | exact zc_i _ | exact zc_r _ | exact zo_l _ | exact zo_k _ | exact zo_n | exact zc_rk _ | (rw [zx_id (by omega)]; omega) | (rw [zw_id (by omega)]; omega) | (apply z_ok_v; assumption) | (simp only [z_new_1, z_pu_1, mh_1]; omega)) only [z_EvO_some, z_EvG_t, z_Bk_n, z_Bk_s, z_brT, z_brF, z_br_pos, z_br_neg, not_true_eq_false, not_false_eq_true, Bool.true_eq_false, Bool.false_eq_true, Bool.not_eq_false, Bool.not_eq_true, eq_self, z_kl_i, z_kl_l, z_kl_r, z_kl_k, z_kl_n, z_kl_u, z_kl_v, zi_f, zl_f, z_put_r, z_nul_n, z_nul_r, zcmp_lt, zcmp_le, zcmp_ge, zcmp_gt, zcmp_eq, zw_id, zx_id, Nat.reduceAdd, z_tf_i, z_tf_l, z_tf_z, zl_zx, zi_zw, z_gf0, z_gf1, z_gf2, z_gf3, z_gf4, z_gf5, z_gf6, z_gf7, z_pf0, z_pf1, z_pf2, z_pf3, z_pf4, z_pf5, z_pf6, z_pf7, z_ob1, zb_0, zb_1, zb_tf, cat_o, cat_k, ch_1, cgf0_0, cgf0_1, cgf0_2, cgf0_3, cpf0_3, cgf0_4, cgf0_5, cgf0_6, cgf0_7, cpf0_7, cob_0, cat_0, cpu_0, cgf5_0, cgf5_1, cpf5_1, cob_5, cat_5, cpu_5, cat_6, cpu_6, cgf7_0, cgf7_1, cpf7_1, cgf7_2, cpf7_2, cgf7_3, cpf7_3, cgf7_4, cgf7_5, cgf7_6, cpf7_6, cgf7_7, cpf7_7, cob_7, cat_7, cpu_7, cat_8, cpu_8, cat_9, cpu_9, cat_10, cpu_10, cat_11, cpu_11, zg_ai_A, zg_al_A, zg_si_A, zg_sl_A, zg_ab_b, zg_sb_b, z_len_A, z_len_L, r216_0, r216_3, r216_4, r216_5, r216_8, r216_11, r216_12, r216_13, r216_16, r216_19, r216_20, r216_21, r216_22, r216_25, r216_26, r216_27, r216_30, r216_31, r216_34, r216_35, r216_38, r216_39, r216_40, r216_43, r216_46, r216_49, r216_54, r216_55, r216_56, r216_57, r216_60, r216_61, r216_62, r216_65, r216_68, r216_73, r216_74, r216_75, r216_78, r216_81, r216_84, r216_89, r216_90, at4, o3, aa, ex, oS]
        suffices hsf : ∀ Q' : zO → zH → Prop, (∀ h5, (S.2.2 k).length = 6 → h5 = h4 → Q' (.inl (some (zi 0))) h5) → (∀ h5 : zH, (S.2.2 k).length < 6 → h5.1 = h4.1 → h5.2.1 = h4.2.1 → h5.2.2.2 = h4.2.2.2 → (∀ x : Nat, ¬ (12 ≤ x ∧ x ≤ 20) → z_at h5 (.ref x) = z_at h4 (.ref x)) → zCI s h5 G S.1 (va_up S.2.1 k (zKa (S.2.1 k) R (S.2.2 k).length)) (va_up S.2.2 k (S.2.2 k ++ [R])) → ch h5 G = h5 → Q' (.inl (some (zi 1))) h5) → z_Cl 193 [.ref (12 + 3 * k), .ref a] h4 Q' by
          refine hsf _ (fun h5 h6 e5 => ?_) (fun h5 h6 g1 g2 g3 g4 g5 g6 => ?_)
          · rw [if_pos h6] at ezz
            subst e5
            have := kk h5 G ((y4.mono (by omega) (by omega)).sm h63 hoX) (fun _ _ => rfl) (by rw [ezz]; exact hv4)
            rw [ezz] at this
            have this : Q (.inr h5.1) (z_new h5 6 (.inr (12, []))) := this
            simp (disch := first | omega | assumption | exact zq_r _ | exact zn_0 | exact zo_i _ | exact zo_r _ | exact zq_k _ | exact zq_n | exact zn_1 _ | exact zn_2 _ _ | exact zn_3 _ _ _ | exact zn_4 _ _ _ _ | exact zn_5 _ _ _ _ _ | exact zc_i _ | exact zc_r _ | exact zo_l _ | exact zo_k _ | exact zo_n | exact zc_rk _ | (rw [zx_id (by omega)]; omega) | (rw [zw_id (by omega)]; omega) | (apply z_ok_v; assumption) | (simp only [z_new_1, z_pu_1, mh_1]; omega)) only [z_EvO_some, z_EvG_t, z_Bk_n, z_Bk_s, z_brT, z_brF, z_br_pos, z_br_neg, not_true_eq_false, not_false_eq_true, Bool.true_eq_false, Bool.false_eq_true, Bool.not_eq_false, Bool.not_eq_true, eq_self, z_kl_i, z_kl_l, z_kl_r, z_kl_k, z_kl_n, z_kl_u, z_kl_v, zi_f, zl_f, z_put_r, z_nul_n, z_nul_r, zcmp_lt, zcmp_le, zcmp_ge, zcmp_gt, zcmp_eq, zw_id, zx_id, Nat.reduceAdd, z_tf_i, z_tf_l, z_tf_z, zl_zx, zi_zw, z_gf0, z_gf1, z_gf2, z_gf3, z_gf4, z_gf5, z_gf6, z_gf7, z_pf0, z_pf1, z_pf2, z_pf3, z_pf4, z_pf5, z_pf6, z_pf7, z_ob1, zb_0, zb_1, zb_tf, r216_0, r216_3, r216_4, r216_5, r216_8, r216_11, r216_12, r216_13, r216_16, r216_19, r216_20, r216_21, r216_22, r216_25, r216_26, r216_27, r216_30, r216_31, r216_34, r216_35, r216_38, r216_39, r216_40, r216_43, r216_46, r216_49, r216_54, r216_55, r216_56, r216_57, r216_60, r216_61, r216_62, r216_65, r216_68, r216_73, r216_74, r216_75, r216_78, r216_81, r216_84, r216_89, r216_90]
            exact this
          · rw [if_neg (by omega)] at ezz
            have hsb5 : zSB h5 s [] := by
              obtain ⟨m', N', u', z1, z2, z3⟩ := id hsb4
              exact ⟨m', N', u', (g4 1 (by omega)).trans z1, (g4 s (by omega)).trans z2, z3⟩
            have sm := (y4.mono (A2 := 50) (B2 := 13300) (by omega) (by omega)).sm h63 hoX
            have hlen : ∀ k', k' < 3 → (va_up S.2.1 k (zKa (S.2.1 k) R (S.2.2 k).length) k').length ≤ 68 * (va_up S.2.2 k (S.2.2 k ++ [R]) k').length := by
              intro k' hk'
              have hll := hl k' hk'
              by_cases hkk : k' = k
              · subst hkk
                rw [va_up_self, va_up_self, zKa_len, List.length_append]
                have : [R].length = 1 := rfl
                have := hR'.2.1
                omega
              · rw [va_up_ne _ _ hkk, va_up_ne _ _ hkk]
                exact hll
            have := kk h5 G ⟨by rw [g1]; exact sm.1, by rw [g1]; exact sm.2.1, by rw [g2]; exact sm.2.2.1, by rw [g2]; exact sm.2.2.2.1, fun a ha => (g4 a (by omega)).trans (sm.2.2.2.2.1 a ha), fun k => by
              have : z_at h5 (.retAddr k) = z_at h4 (.retAddr k) := congrFun g3 k
              rw [this]
              exact sm.2.2.2.2.2 k⟩ (fun _ _ => rfl) (by rw [ezz]; exact ⟨g5, g6, hsb5, by rw [g1]; exact hv4.2.2.2.1, hlen⟩)
            rw [ezz] at this
            have this : Q (.inl (some (zi 1))) h5 := this
            simp (disch := first | omega | assumption | exact zq_r _ | exact zn_0 | exact zo_i _ | exact zo_r _ | exact zq_k _ | exact zq_n | exact zn_1 _ | exact zn_2 _ _ | exact zn_3 _ _ _ | exact zn_4 _ _ _ _ | exact zn_5 _ _ _ _ _ | exact zc_i _ | exact zc_r _ | exact zo_l _ | exact zo_k _ | exact zo_n | exact zc_rk _ | (rw [zx_id (by omega)]; omega) | (rw [zw_id (by omega)]; omega) | (apply z_ok_v; assumption) | (simp only [z_new_1, z_pu_1, mh_1]; omega)) only [z_EvO_some, z_EvG_t, z_Bk_n, z_Bk_s, z_brT, z_brF, z_br_pos, z_br_neg, not_true_eq_false, not_false_eq_true, Bool.true_eq_false, Bool.false_eq_true, Bool.not_eq_false, Bool.not_eq_true, eq_self, z_kl_i, z_kl_l, z_kl_r, z_kl_k, z_kl_n, z_kl_u, z_kl_v, zi_f, zl_f, z_put_r, z_nul_n, z_nul_r, zcmp_lt, zcmp_le, zcmp_ge, zcmp_gt, zcmp_eq, zw_id, zx_id, Nat.reduceAdd, z_tf_i, z_tf_l, z_tf_z, zl_zx, zi_zw, z_gf0, z_gf1, z_gf2, z_gf3, z_gf4, z_gf5, z_gf6, z_gf7, z_pf0, z_pf1, z_pf2, z_pf3, z_pf4, z_pf5, z_pf6, z_pf7, z_ob1, zb_0, zb_1, zb_tf, r216_0, r216_3, r216_4, r216_5, r216_8, r216_11, r216_12, r216_13, r216_16, r216_19, r216_20, r216_21, r216_22, r216_25, r216_26, r216_27, r216_30, r216_31, r216_34, r216_35, r216_38, r216_39, r216_40, r216_43, r216_46, r216_49, r216_54, r216_55, r216_56, r216_57, r216_60, r216_61, r216_62, r216_65, r216_68, r216_73, r216_74, r216_75, r216_78, r216_81, r216_84, r216_89, r216_90]
            exact this
        intro Q' f6 f7
        by_cases h6 : (S.2.2 k).length = 6
        · have := t193n (Q := Q') (a := a) hv4.1 hk h6
          rw [hv4.2.1] at this
          rw [this]
          exact f6 h4 h6 rfl
        · have h6' : (S.2.2 k).length < 6 := by
            obtain ⟨PE, d1, d2, d3, d4, d5⟩ := hv4.1.2.2.2.1
            obtain ⟨P, KK, c1, c2, c3, c4, -⟩ := d5 k hk
            omega
          have := t193 (Q := Q') (a := a) hv4.1 hk h6' (hl k hk) hrk hR' (fun c hcm => by
            rw [zruleP_2 hP] at hcm
            exact q7 c (zwd_mem (zltr_mem hcm))) (fun h5 g1 g2 g3 g4 g5 => by
            have e5 : ch h5 G = h5 := ch_of (h := h4) (fun a ha => by
              rw [hv4.2.1]
              obtain ⟨b, hb2⟩ : ∃ b : Nat, b = a := ⟨a, rfl⟩
              subst hb2
              have ha : b = 0 ∨ (5 ≤ b ∧ b ≤ 11) := ha
              exact g4 b (by omega))
            rw [e5]
            exact f7 h5 h6' g1 g2 g3 g4 g5 e5)
          rw [hv4.2.1] at this
          exact this
    · by_cases h48 : 4 ≤ zwn w ∧ zwn w ≤ 8
      · simp (disch := first | omega | assumption | exact zq_r _ | exact zn_0 | exact zo_i _ | exact zo_r _ | exact zq_k _ | exact zq_n | exact zn_1 _ | exact zn_2 _ _ | exact zn_3 _ _ _ | exact zn_4 _ _ _ _ | exact zn_5 _ _ _ _ _ | exact zc_i _ | exact zc_r _ | exact zo_l _ | exact zo_k _ | exact zo_n | exact zc_rk _ | (rw [zx_id (by omega)]; omega) | (rw [zw_id (by omega)]; omega) | (apply z_ok_v; assumption) | (simp only [z_new_1, z_pu_1, mh_1]; omega)) only [z_EvO_some, z_EvG_t, z_Bk_n, z_Bk_s, z_brT, z_brF, z_br_pos, z_br_neg, not_true_eq_false, not_false_eq_true, Bool.true_eq_false, Bool.false_eq_true, Bool.not_eq_false, Bool.not_eq_true, eq_self, z_kl_i, z_kl_l, z_kl_r, z_kl_k, z_kl_n, z_kl_u, z_kl_v, zi_f, zl_f, z_put_r, z_nul_n, z_nul_r, zcmp_lt, zcmp_le, zcmp_ge, zcmp_gt, zcmp_eq, zw_id, zx_id, Nat.reduceAdd, z_tf_i, z_tf_l, z_tf_z, zl_zx, zi_zw, z_gf0, z_gf1, z_gf2, z_gf3, z_gf4, z_gf5, z_gf6, z_gf7, z_pf0, z_pf1, z_pf2, z_pf3, z_pf4, z_pf5, z_pf6, z_pf7, z_ob1, zb_0, zb_1, zb_tf, r216_0, r216_3, r216_4, r216_5, r216_8, r216_11, r216_12, r216_13, r216_16, r216_19, r216_20, r216_21, r216_22, r216_25, r216_26, r216_27, r216_30, r216_31, r216_34, r216_35, r216_38, r216_39, r216_40, r216_43, r216_46, r216_49, r216_54, r216_55, r216_56, r216_57, r216_60, r216_61, r216_62, r216_65, r216_68, r216_73, r216_74, r216_75, r216_78, r216_81, r216_84, r216_89, r216_90, z1, t211s hln h9]
        refine t214 F3 hL3 hln (fun hno h4 x4 => ?_) (fun _ _ hZ E hP h4 a x4 hrb => ?_)
        · have ez : zline w S = (1, 0, S) := by
            unfold zline
            rw [if_neg h0, if_neg (fun x => h9 x.1)]
            by_cases hZ : zwd_ w 0 = [90]
            · rw [if_pos ⟨h48, hZ⟩, hno h48.1 h48.2 hZ]
            · rw [if_neg (fun x => hZ x.2)]
          have := bad h4 x4 ez
          simp (disch := first | omega | assumption | exact zq_r _ | exact zn_0 | exact zo_i _ | exact zo_r _ | exact zq_k _ | exact zq_n | exact zn_1 _ | exact zn_2 _ _ | exact zn_3 _ _ _ | exact zn_4 _ _ _ _ | exact zn_5 _ _ _ _ _ | exact zc_i _ | exact zc_r _ | exact zo_l _ | exact zo_k _ | exact zo_n | exact zc_rk _ | (rw [zx_id (by omega)]; omega) | (rw [zw_id (by omega)]; omega) | (apply z_ok_v; assumption) | (simp only [z_new_1, z_pu_1, mh_1]; omega)) only [z_EvO_some, z_EvG_t, z_Bk_n, z_Bk_s, z_brT, z_brF, z_br_pos, z_br_neg, not_true_eq_false, not_false_eq_true, Bool.true_eq_false, Bool.false_eq_true, Bool.not_eq_false, Bool.not_eq_true, eq_self, z_kl_i, z_kl_l, z_kl_r, z_kl_k, z_kl_n, z_kl_u, z_kl_v, zi_f, zl_f, z_put_r, z_nul_n, z_nul_r, zcmp_lt, zcmp_le, zcmp_ge, zcmp_gt, zcmp_eq, zw_id, zx_id, Nat.reduceAdd, z_tf_i, z_tf_l, z_tf_z, zl_zx, zi_zw, z_gf0, z_gf1, z_gf2, z_gf3, z_gf4, z_gf5, z_gf6, z_gf7, z_pf0, z_pf1, z_pf2, z_pf3, z_pf4, z_pf5, z_pf6, z_pf7, z_ob1, zb_0, zb_1, zb_tf, r216_0, r216_3, r216_4, r216_5, r216_8, r216_11, r216_12, r216_13, r216_16, r216_19, r216_20, r216_21, r216_22, r216_25, r216_26, r216_27, r216_30, r216_31, r216_34, r216_35, r216_38, r216_39, r216_40, r216_43, r216_46, r216_49, r216_54, r216_55, r216_56, r216_57, r216_60, r216_61, r216_62, r216_65, r216_68, r216_73, r216_74, r216_75, r216_78, r216_81, r216_84, r216_89, r216_90]
          exact this
        · have F4 := x4.2.2.2.2.2.2
          have hsb4 : zSB h4 s [] := by
            obtain ⟨m', N', u', z1, z2, z3⟩ := id hsb3
            exact ⟨m', N', u', x4.at F3 rfl z1 (zo_jk (by decide)), x4.at F3 rfl z2 zA_jk, z3⟩
          have y4 : zEy (fun a => a = 1 ∨ a = s) K h4 45 13191 := yt.tr2 (x4.ey (X := fun a => a = 1 ∨ a = s)) (fun a _ h => h)
          have hv4 := hv.ey y4 hsb4
          have hE' := zeraP_ok hP
          have hek : zEk s h4 a E := hrb.toK (by omega) (by omega)
          have at4 := hv4.at0
          have ezz : zline w S = if zfull S.1 then (2, 0, S) else (0, 2, S.1 ++ [E], S.2) := by
            unfold zline
            rw [if_neg h0, if_neg (fun x => h9 x.1), if_pos ⟨h48, hZ⟩, hP]
          have nn : Value.ref a ≠ .null := fun e => by cases e
          simp (disch := first | omega | assumption | exact zq_r _ | exact zn_0 | exact zo_i _ | exact zo_r _ | exact zq_k _ | exact zq_n | exact zn_1 _ | exact zn_2 _ _ | exact zn_3 _ _ _ | exact zn_4 _ _ _ _ | exact zn_5 _ _ _ _ _ | exact zc_i _ | exact zc_r _ | exact zo_l _ | exact zo_k _ | exact zo_n | exact zc_rk _ | (rw [zx_id (by omega)]; omega) | (rw [zw_id (by omega)]; omega) | (apply z_ok_v; assumption) | (simp only [z_new_1, z_pu_1, mh_1]; omega)) only [z_EvO_some, z_EvG_t, z_Bk_n, z_Bk_s, z_brT, z_brF, z_br_pos, z_br_neg, not_true_eq_false, not_false_eq_true, Bool.true_eq_false, Bool.false_eq_true, Bool.not_eq_false, Bool.not_eq_true, eq_self, z_kl_i, z_kl_l, z_kl_r, z_kl_k, z_kl_n, z_kl_u, z_kl_v, zi_f, zl_f, z_put_r, z_nul_n, z_nul_r, zcmp_lt, zcmp_le, zcmp_ge, zcmp_gt, zcmp_eq, zw_id, zx_id, Nat.reduceAdd, z_tf_i, z_tf_l, z_tf_z, zl_zx, zi_zw, z_gf0, z_gf1, z_gf2, z_gf3, z_gf4, z_gf5, z_gf6, z_gf7, z_pf0, z_pf1, z_pf2, z_pf3, z_pf4, z_pf5, z_pf6, z_pf7, z_ob1, zb_0, zb_1, zb_tf, cat_o, cat_k, ch_1, cgf0_0, cgf0_1, cgf0_2, cgf0_3, cpf0_3, cgf0_4, cgf0_5, cgf0_6, cgf0_7, cpf0_7, cob_0, cat_0, cpu_0, cgf5_0, cgf5_1, cpf5_1, cob_5, cat_5, cpu_5, cat_6, cpu_6, cgf7_0, cgf7_1, cpf7_1, cgf7_2, cpf7_2, cgf7_3, cpf7_3, cgf7_4, cgf7_5, cgf7_6, cpf7_6, cgf7_7, cpf7_7, cob_7, cat_7, cpu_7, cat_8, cpu_8, cat_9, cpu_9, cat_10, cpu_10, cat_11, cpu_11, zg_ai_A, zg_al_A, zg_si_A, zg_sl_A, zg_ab_b, zg_sb_b, z_len_A, z_len_L, r216_0, r216_3, r216_4, r216_5, r216_8, r216_11, r216_12, r216_13, r216_16, r216_19, r216_20, r216_21, r216_22, r216_25, r216_26, r216_27, r216_30, r216_31, r216_34, r216_35, r216_38, r216_39, r216_40, r216_43, r216_46, r216_49, r216_54, r216_55, r216_56, r216_57, r216_60, r216_61, r216_62, r216_65, r216_68, r216_73, r216_74, r216_75, r216_78, r216_81, r216_84, r216_89, r216_90, at4]
          by_cases hfu : zfull S.1
          · rw [if_pos hfu] at ezz
            have := kk h4 G ((y4.mono (by omega) (by omega)).sm h63 hoX) (fun _ _ => rfl) (by rw [ezz]; exact hv4)
            rw [ezz] at this
            have this : Q (.inr h4.1) (z_new h4 6 (.inr (12, []))) := this
            have c0 := fun Q' => t0n (Q := Q') (a := a) hv4.1 hfu
            simp only [hv4.2.1] at c0
            simp (disch := first | omega | assumption | exact zq_r _ | exact zn_0 | exact zo_i _ | exact zo_r _ | exact zq_k _ | exact zq_n | exact zn_1 _ | exact zn_2 _ _ | exact zn_3 _ _ _ | exact zn_4 _ _ _ _ | exact zn_5 _ _ _ _ _ | exact zc_i _ | exact zc_r _ | exact zo_l _ | exact zo_k _ | exact zo_n | exact zc_rk _ | (rw [zx_id (by omega)]; omega) | (rw [zw_id (by omega)]; omega) | (apply z_ok_v; assumption) | (simp only [z_new_1, z_pu_1, mh_1]; omega)) only [z_EvO_some, z_EvG_t, z_Bk_n, z_Bk_s, z_brT, z_brF, z_br_pos, z_br_neg, not_true_eq_false, not_false_eq_true, Bool.true_eq_false, Bool.false_eq_true, Bool.not_eq_false, Bool.not_eq_true, eq_self, z_kl_i, z_kl_l, z_kl_r, z_kl_k, z_kl_n, z_kl_u, z_kl_v, zi_f, zl_f, z_put_r, z_nul_n, z_nul_r, zcmp_lt, zcmp_le, zcmp_ge, zcmp_gt, zcmp_eq, zw_id, zx_id, Nat.reduceAdd, z_tf_i, z_tf_l, z_tf_z, zl_zx, zi_zw, z_gf0, z_gf1, z_gf2, z_gf3, z_gf4, z_gf5, z_gf6, z_gf7, z_pf0, z_pf1, z_pf2, z_pf3, z_pf4, z_pf5, z_pf6, z_pf7, z_ob1, zb_0, zb_1, zb_tf, r216_0, r216_3, r216_4, r216_5, r216_8, r216_11, r216_12, r216_13, r216_16, r216_19, r216_20, r216_21, r216_22, r216_25, r216_26, r216_27, r216_30, r216_31, r216_34, r216_35, r216_38, r216_39, r216_40, r216_43, r216_46, r216_49, r216_54, r216_55, r216_56, r216_57, r216_60, r216_61, r216_62, r216_65, r216_68, r216_73, r216_74, r216_75, r216_78, r216_81, r216_84, r216_89, r216_90, c0]
            exact this
          · rw [if_neg hfu] at ezz
            suffices hsf : ∀ Q' : zO → zH → Prop, (∀ h5 : zH, h5.1 = h4.1 → h5.2.1 = h4.2.1 → h5.2.2.2 = h4.2.2.2 → (∀ x : Nat, x ≠ 0 → x ≠ 4 → z_at h5 (.ref x) = z_at h4 (.ref x)) → zCI s h5 (va_up G 0 (va_up (G 0) 3 (S.1.length + 1))) (S.1 ++ [E]) S.2.1 S.2.2 → ch h5 (va_up G 0 (va_up (G 0) 3 (S.1.length + 1))) = h5 → Q' (.inl (some (zi 1))) h5) → z_Cl 0 [.ref 0, .ref a] h4 Q' by
              refine hsf _ (fun h5 g1 g2 g3 g4 g5 g6 => ?_)
              have hsb5 : zSB h5 s [] := by
                obtain ⟨m', N', u', z1, z2, z3⟩ := id hsb4
                exact ⟨m', N', u', (g4 1 (by omega) (by omega)).trans z1, (g4 s (by omega) (by omega)).trans z2, z3⟩
              have sm := (y4.mono (A2 := 50) (B2 := 13300) (by omega) (by omega)).sm h63 hoX
              have := kk h5 (va_up G 0 (va_up (G 0) 3 (S.1.length + 1))) ⟨by rw [g1]; exact sm.1, by rw [g1]; exact sm.2.1, by rw [g2]; exact sm.2.2.1, by rw [g2]; exact sm.2.2.2.1, fun a ha => (g4 a (by omega) (by omega)).trans (sm.2.2.2.2.1 a ha), fun k => by
                have : z_at h5 (.retAddr k) = z_at h4 (.retAddr k) := congrFun g3 k
                rw [this]
                exact sm.2.2.2.2.2 k⟩ (fun a ha => va_up_ne _ _ ha) (by rw [ezz]; exact ⟨g5, g6, hsb5, by rw [g1]; exact hv4.2.2.2.1, hl⟩)
              rw [ezz] at this
              have this : Q (.inl (some (zi 2))) h5 := this
              simp (disch := first | omega | assumption | exact zq_r _ | exact zn_0 | exact zo_i _ | exact zo_r _ | exact zq_k _ | exact zq_n | exact zn_1 _ | exact zn_2 _ _ | exact zn_3 _ _ _ | exact zn_4 _ _ _ _ | exact zn_5 _ _ _ _ _ | exact zc_i _ | exact zc_r _ | exact zo_l _ | exact zo_k _ | exact zo_n | exact zc_rk _ | (rw [zx_id (by omega)]; omega) | (rw [zw_id (by omega)]; omega) | (apply z_ok_v; assumption) | (simp only [z_new_1, z_pu_1, mh_1]; omega)) only [z_EvO_some, z_EvG_t, z_Bk_n, z_Bk_s, z_brT, z_brF, z_br_pos, z_br_neg, not_true_eq_false, not_false_eq_true, Bool.true_eq_false, Bool.false_eq_true, Bool.not_eq_false, Bool.not_eq_true, eq_self, z_kl_i, z_kl_l, z_kl_r, z_kl_k, z_kl_n, z_kl_u, z_kl_v, zi_f, zl_f, z_put_r, z_nul_n, z_nul_r, zcmp_lt, zcmp_le, zcmp_ge, zcmp_gt, zcmp_eq, zw_id, zx_id, Nat.reduceAdd, z_tf_i, z_tf_l, z_tf_z, zl_zx, zi_zw, z_gf0, z_gf1, z_gf2, z_gf3, z_gf4, z_gf5, z_gf6, z_gf7, z_pf0, z_pf1, z_pf2, z_pf3, z_pf4, z_pf5, z_pf6, z_pf7, z_ob1, zb_0, zb_1, zb_tf, r216_0, r216_3, r216_4, r216_5, r216_8, r216_11, r216_12, r216_13, r216_16, r216_19, r216_20, r216_21, r216_22, r216_25, r216_26, r216_27, r216_30, r216_31, r216_34, r216_35, r216_38, r216_39, r216_40, r216_43, r216_46, r216_49, r216_54, r216_55, r216_56, r216_57, r216_60, r216_61, r216_62, r216_65, r216_68, r216_73, r216_74, r216_75, r216_78, r216_81, r216_84, r216_89, r216_90]
              exact this
            intro Q' f7
            have := t0 (Q := Q') (a := a) hv4.1 hfu hek hE' (fun c hcm => by
              rw [zeraP_2 hP] at hcm
              exact q7 c (zwd_mem hcm)) (fun h5 g1 g2 g3 g4 g5 => by
              obtain ⟨h6, hh6⟩ : ∃ h6, h6 = ch h5 (va_up G 0 (va_up (G 0) 3 (S.1.length + 1))) := ⟨_, rfl⟩
              rw [← hh6]
              have a6 : ∀ x : Nat, x ≠ 0 → x ≠ 4 → z_at h6 (.ref x) = z_at h4 (.ref x) := fun x x0 x4 => by
                rw [hh6, ← g4 x x4]
                by_cases hxx : 5 ≤ x ∧ x ≤ 11
                · have e4 : z_at h5 (.ref x) = z_at (ch h4 G) (.ref x) := by rw [hv4.2.1]; exact g4 x x4
                  rw [e4]
                  show (if x = 0 ∨ (5 ≤ x ∧ x ≤ 11) then ccell _ x else _) = (if x = 0 ∨ (5 ≤ x ∧ x ≤ 11) then ccell G x else _)
                  rw [if_pos (Or.inr hxx), if_pos (Or.inr hxx)]
                  have hxs : x = 5 ∨ x = 6 ∨ x = 7 ∨ x = 8 ∨ x = 9 ∨ x = 10 ∨ x = 11 := by omega
                  rcases hxs with rfl | rfl | rfl | rfl | rfl | rfl | rfl <;> rfl
                · exact cat_o (by omega)
              have c6 : ch h6 (va_up G 0 (va_up (G 0) 3 (S.1.length + 1))) = h6 := by rw [hh6, ch_ch]
              refine f7 h6 (by rw [hh6]; exact g1) (by rw [hh6]; exact g2) (by rw [hh6]; exact g3) a6 ?_ c6
              obtain ⟨hF5, hLk5, h635, hCB5, hr5⟩ := g5
              refine ⟨fun x hx => ?_, by rw [hh6]; exact hLk5, by rw [hh6]; exact h635, ?_, hr5⟩
              · have hx : h5.1 ≤ x := by rw [hh6] at hx; exact hx
                rw [hh6, cat_o (by omega)]
                exact hF5 x hx
              · rw [hh6]
                exact hCB5.onch hF5)
            rw [hv4.2.1] at this
            exact this
      · have ez : zline w S = (1, 0, S) := by
          unfold zline
          rw [if_neg h0, if_neg (fun x => h9 x.1), if_neg (fun x => h48 x.1)]
        have := bad h3 ((zEx.refl F3).mono (by omega) (by omega)) ez
        simp (disch := first | omega | assumption | exact zq_r _ | exact zn_0 | exact zo_i _ | exact zo_r _ | exact zq_k _ | exact zq_n | exact zn_1 _ | exact zn_2 _ _ | exact zn_3 _ _ _ | exact zn_4 _ _ _ _ | exact zn_5 _ _ _ _ _ | exact zc_i _ | exact zc_r _ | exact zo_l _ | exact zo_k _ | exact zo_n | exact zc_rk _ | (rw [zx_id (by omega)]; omega) | (rw [zw_id (by omega)]; omega) | (apply z_ok_v; assumption) | (simp only [z_new_1, z_pu_1, mh_1]; omega)) only [z_EvO_some, z_EvG_t, z_Bk_n, z_Bk_s, z_brT, z_brF, z_br_pos, z_br_neg, not_true_eq_false, not_false_eq_true, Bool.true_eq_false, Bool.false_eq_true, Bool.not_eq_false, Bool.not_eq_true, eq_self, z_kl_i, z_kl_l, z_kl_r, z_kl_k, z_kl_n, z_kl_u, z_kl_v, zi_f, zl_f, z_put_r, z_nul_n, z_nul_r, zcmp_lt, zcmp_le, zcmp_ge, zcmp_gt, zcmp_eq, zw_id, zx_id, Nat.reduceAdd, z_tf_i, z_tf_l, z_tf_z, zl_zx, zi_zw, z_gf0, z_gf1, z_gf2, z_gf3, z_gf4, z_gf5, z_gf6, z_gf7, z_pf0, z_pf1, z_pf2, z_pf3, z_pf4, z_pf5, z_pf6, z_pf7, z_ob1, zb_0, zb_1, zb_tf, r216_0, r216_3, r216_4, r216_5, r216_8, r216_11, r216_12, r216_13, r216_16, r216_19, r216_20, r216_21, r216_22, r216_25, r216_26, r216_27, r216_30, r216_31, r216_34, r216_35, r216_38, r216_39, r216_40, r216_43, r216_46, r216_49, r216_54, r216_55, r216_56, r216_57, r216_60, r216_61, r216_62, r216_65, r216_68, r216_73, r216_74, r216_75, r216_78, r216_81, r216_84, r216_89, r216_90, z1, t211s hln h9, t214s hln h48]
        exact this
/-- a date read -/
theorem t201 (hv : zCV s K G w S) (kk : ∀ K', zSm K K' 10 200 → zCV s K' G [] S → (if zro (fun j => w.getD j 0) w.length then Q (.inl (some (zl (zri (fun j => w.getD j 0))))) K' else Q (.inr K'.1) (z_new K' 6 (.inr (13, []))))) : z_Cl 201 [.ref 0] K Q := by
  obtain ⟨hi, hc, hsb, hs, hl⟩ := id hv
  obtain ⟨hF, hLk, h63, hCB, hok, hoc, hG⟩ := id hi
  have at0 := hv.at0
  simp (disch := first | omega | assumption | exact zq_r _ | exact zn_0 | exact zo_i _ | exact zo_r _ | exact zq_k _ | exact zq_n | exact zn_1 _ | exact zn_2 _ _ | exact zn_3 _ _ _ | exact zn_4 _ _ _ _ | exact zn_5 _ _ _ _ _ | exact zc_i _ | exact zc_r _ | exact zo_l _ | exact zo_k _ | exact zo_n | exact zc_rk _ | (rw [zx_id (by omega)]; omega) | (rw [zw_id (by omega)]; omega) | (apply z_ok_v; assumption) | (simp only [z_new_1, z_pu_1, mh_1]; omega)) only [z_EvO_some, z_EvG_t, z_Bk_n, z_Bk_s, z_brT, z_brF, z_br_pos, z_br_neg, not_true_eq_false, not_false_eq_true, Bool.true_eq_false, Bool.false_eq_true, Bool.not_eq_false, Bool.not_eq_true, eq_self, z_kl_i, z_kl_l, z_kl_r, z_kl_k, z_kl_n, z_kl_u, z_kl_v, zi_f, zl_f, z_put_r, z_nul_n, z_nul_r, zcmp_lt, zcmp_le, zcmp_ge, zcmp_gt, zcmp_eq, zw_id, zx_id, Nat.reduceAdd, z_tf_i, z_tf_l, z_tf_z, zl_zx, zi_zw, z_gf0, z_gf1, z_gf2, z_gf3, z_gf4, z_gf5, z_gf6, z_gf7, z_pf0, z_pf1, z_pf2, z_pf3, z_pf4, z_pf5, z_pf6, z_pf7, z_ob1, zb_0, zb_1, zb_tf, cat_o, cat_k, ch_1, cgf0_0, cgf0_1, cgf0_2, cgf0_3, cpf0_3, cgf0_4, cgf0_5, cgf0_6, cgf0_7, cpf0_7, cob_0, cat_0, cpu_0, cgf5_0, cgf5_1, cpf5_1, cob_5, cat_5, cpu_5, cat_6, cpu_6, cgf7_0, cgf7_1, cpf7_1, cgf7_2, cpf7_2, cgf7_3, cpf7_3, cgf7_4, cgf7_5, cgf7_6, cpf7_6, cgf7_7, cpf7_7, cob_7, cat_7, cpu_7, cat_8, cpu_8, cat_9, cpu_9, cat_10, cpu_10, cat_11, cpu_11, zg_ai_A, zg_al_A, zg_si_A, zg_sl_A, zg_ab_b, zg_sb_b, z_len_A, z_len_L, e201, r201_0, r201_1, r201_4, r201_7, r201_8, r201_9, r201_12, r201_13, r201_16, r201_19, r201_24, r201_25, at0]
  refine t188 hF at0 hsb (fun h2 p y hsd hsb2 => ?_)
  have yt : zEy (fun a => a = 1 ∨ a = s) K h2 2 104 := (((zEx.refl hF).ey (X := fun a => a = 1 ∨ a = s)).tr2 y (fun a _ h => Or.inl h)).mono (by omega) (by omega)
  have hv2 := hv.ey yt hsb2
  have hP : zSt h2 (.retAddr 4) zpat := hv2.1.2.1.lit.pat
  have := kk h2 ((yt.mono (by omega) (by omega)).sm h63 (fun a h => by omega)) hv2
  by_cases hz : zro (fun j => w.getD j 0) w.length
  · rw [if_pos hz] at this
    have rr : -9223372036854775808 ≤ zri (fun j => w.getD j 0) ∧ zri (fun j => w.getD j 0) ≤ 9223372036854775807 ∧ zri (fun j => w.getD j 0) ≠ -4000000000000000000 := by
      obtain ⟨-, hf, hg1, hg2, hg3, hg4, hg5, hg6, hg7⟩ := hz
      obtain ⟨f0, f1, f2, f3, f4, f5, f6, f7, f8, f9, f10, f11, f12, f13, f14, f15, f16, f17, f18, f19, f20, f21, f22, f23, f24⟩ := hf
      have b : ∀ k : Nat, (48 ≤ w.getD k 0 ∧ w.getD k 0 ≤ 57) → (48 ≤ w.getD (k + 1) 0 ∧ w.getD (k + 1) 0 ≤ 57) → 0 ≤ zrp (fun j => w.getD j 0) k ∧ zrp (fun j => w.getD j 0) k ≤ 99 := fun k h1 h2 => zrp_r (d := fun j => w.getD j 0) h1 h2
      have p0 := b 0 f0 f1
      have p2 := b 2 f2 f3
      have p5 := b 5 f5 f6
      have p8 := b 8 f8 f9
      have p11 := b 11 f11 f12
      have p14 := b 14 f14 f15
      have p17 := b 17 f17 f18
      have p20 := b 20 f20 f21
      have p23 := b 23 f23 f24
      have hr := zdays_q (y := 100 * zrp (fun j => w.getD j 0) 0 + zrp (fun j => w.getD j 0) 2) (m := zrp (fun j => w.getD j 0) 5) (d := zrp (fun j => w.getD j 0) 8) (by omega) hg1 (by omega)
      unfold zri
      split <;> omega
    have x150 : ∀ Q' : zO → zH → Prop, z_Cl 150 [.ref p] h2 Q' = _ := fun Q' => t150 hP hsd.st
    simp only [if_pos hz] at x150
    simp (disch := first | omega | assumption | exact zq_r _ | exact zn_0 | exact zo_i _ | exact zo_r _ | exact zq_k _ | exact zq_n | exact zn_1 _ | exact zn_2 _ _ | exact zn_3 _ _ _ | exact zn_4 _ _ _ _ | exact zn_5 _ _ _ _ _ | exact zc_i _ | exact zc_r _ | exact zo_l _ | exact zo_k _ | exact zo_n | exact zc_rk _ | (rw [zx_id (by omega)]; omega) | (rw [zw_id (by omega)]; omega) | (apply z_ok_v; assumption) | (simp only [z_new_1, z_pu_1, mh_1]; omega)) only [z_EvO_some, z_EvG_t, z_Bk_n, z_Bk_s, z_brT, z_brF, z_br_pos, z_br_neg, not_true_eq_false, not_false_eq_true, Bool.true_eq_false, Bool.false_eq_true, Bool.not_eq_false, Bool.not_eq_true, eq_self, z_kl_i, z_kl_l, z_kl_r, z_kl_k, z_kl_n, z_kl_u, z_kl_v, zi_f, zl_f, z_put_r, z_nul_n, z_nul_r, zcmp_lt, zcmp_le, zcmp_ge, zcmp_gt, zcmp_eq, zw_id, zx_id, Nat.reduceAdd, z_tf_i, z_tf_l, z_tf_z, zl_zx, zi_zw, z_gf0, z_gf1, z_gf2, z_gf3, z_gf4, z_gf5, z_gf6, z_gf7, z_pf0, z_pf1, z_pf2, z_pf3, z_pf4, z_pf5, z_pf6, z_pf7, z_ob1, zb_0, zb_1, zb_tf, r201_0, r201_1, r201_4, r201_7, r201_8, r201_9, r201_12, r201_13, r201_16, r201_19, r201_24, r201_25, x150]
    exact this
  · rw [if_neg hz] at this
    have x150 : ∀ Q' : zO → zH → Prop, z_Cl 150 [.ref p] h2 Q' = _ := fun Q' => t150 hP hsd.st
    simp only [if_neg hz] at x150
    simp (disch := first | omega | assumption | exact zq_r _ | exact zn_0 | exact zo_i _ | exact zo_r _ | exact zq_k _ | exact zq_n | exact zn_1 _ | exact zn_2 _ _ | exact zn_3 _ _ _ | exact zn_4 _ _ _ _ | exact zn_5 _ _ _ _ _ | exact zc_i _ | exact zc_r _ | exact zo_l _ | exact zo_k _ | exact zo_n | exact zc_rk _ | (rw [zx_id (by omega)]; omega) | (rw [zw_id (by omega)]; omega) | (apply z_ok_v; assumption) | (simp only [z_new_1, z_pu_1, mh_1]; omega)) only [z_EvO_some, z_EvG_t, z_Bk_n, z_Bk_s, z_brT, z_brF, z_br_pos, z_br_neg, not_true_eq_false, not_false_eq_true, Bool.true_eq_false, Bool.false_eq_true, Bool.not_eq_false, Bool.not_eq_true, eq_self, z_kl_i, z_kl_l, z_kl_r, z_kl_k, z_kl_n, z_kl_u, z_kl_v, zi_f, zl_f, z_put_r, z_nul_n, z_nul_r, zcmp_lt, zcmp_le, zcmp_ge, zcmp_gt, zcmp_eq, zw_id, zx_id, Nat.reduceAdd, z_tf_i, z_tf_l, z_tf_z, zl_zx, zi_zw, z_gf0, z_gf1, z_gf2, z_gf3, z_gf4, z_gf5, z_gf6, z_gf7, z_pf0, z_pf1, z_pf2, z_pf3, z_pf4, z_pf5, z_pf6, z_pf7, z_ob1, zb_0, zb_1, zb_tf, r201_0, r201_1, r201_4, r201_7, r201_8, r201_9, r201_12, r201_13, r201_16, r201_19, r201_24, r201_25, x150]
    exact this
end ZCm
