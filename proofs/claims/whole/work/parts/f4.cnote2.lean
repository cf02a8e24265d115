/-! a type noted: the class -/
section ZCo
variable {h : zH} {Q : zO → zH → Prop} {G : Nat → Nat → Int} {σ : zNs} {x : zTy} {T : Int}
theorem zpi_a {u : Nat → Int} {k : Nat} {x : Int} {i : Nat} (hi : i < 4) : zpi u k x (k + i) = zhb x 0 [] i := by
  have : i = 0 ∨ i = 1 ∨ i = 2 ∨ i = 3 := by omega
  unfold zpi
  rcases this with rfl | rfl | rfl | rfl
  · rw [va_up_ne _ _ (by omega), va_up_ne _ _ (by omega), va_up_ne _ _ (by omega)]
    exact va_up_self _ _ _
  · rw [va_up_ne _ _ (by omega), va_up_ne _ _ (by omega), va_up_self]
    rfl
  · rw [va_up_ne _ _ (by omega), va_up_self]
    rfl
  · rw [va_up_self]
    rfl
theorem zpi_o {u : Nat → Int} {k : Nat} {x : Int} {j : Nat} (hj : j < k ∨ k + 4 ≤ j) : zpi u k x j = u j := by
  unfold zpi
  rw [va_up_ne _ _ (by omega), va_up_ne _ _ (by omega), va_up_ne _ _ (by omega), va_up_ne _ _ (by omega)]
theorem t118 (hK : zKI G σ) (hx : zTo x) (h6 : ∀ i, i < 13 → G 6 i = zhT x i) (hn28 : (znts σ.1 x).length ≤ 28) (hc : σ.2.1.length < 512) (hT : -9223372036854775808 ≤ T ∧ T ≤ 9223372036854775807) (hT2 : σ.2.2 < 0 ∨ (-2147483648 ≤ T ∧ T ≤ 2147483647))
    (kk : ∀ G', zKI G' (znote σ (T, x)) → (∀ a : Nat, ¬ (7 ≤ a ∧ a ≤ 10) → G' a = G a) → (∀ j, j ≠ 2 → j ≠ 6 → j ≠ 7 → G' 7 j = G 7 j) → Q (.inl none) (ch h G')) : z_Cl 118 [.ref 7, zl T, .ref 5] (ch h G) Q := by
  have hK1 := zKI_ts hK hx h6 hn28
  have hG1 : ∀ a : Nat, ¬ (7 ≤ a ∧ a ≤ 10) → (if zidx x σ.1 < σ.1.length then G else zgT G σ.1.length) a = G a := fun a ha => by
    split
    · rfl
    · unfold zgT
      rw [va_up_ne _ _ (by omega), va_up_ne _ _ (by omega)]
  have hG7 : ∀ j, j ≠ 6 → (if zidx x σ.1 < σ.1.length then G else zgT G σ.1.length) 7 j = G 7 j := fun j hj => by
    split
    · rfl
    · unfold zgT
      rw [va_up_self, va_up_ne _ _ hj]
  have x83 : ∀ Q' : zO → zH → Prop, z_Cl 83 [.ref 7, .ref 5] (ch h G) Q' = _ := fun Q' => t83 hK hx h6 hn28
  generalize (if zidx x σ.1 < σ.1.length then G else zgT G σ.1.length) = G1 at *
  obtain ⟨⟨k1, k2, k3⟩, k4, k5, k6, k7, k8, k9⟩ := id hK1
  have k1 : G1 7 2 = σ.2.1.length := k1
  have k3 : G1 7 7 = σ.2.2 := k3
  have k8 : -1 ≤ σ.2.2 := k8
  have k9 : σ.2.2 ≤ 27 := k9
  have hi27 : (zidx x σ.1 : Int) ≤ 27 := by
    have h1 := zidx_le x σ.1
    unfold znts at hn28
    split at hn28
    · omega
    · rw [List.length_append] at hn28
      have : [x].length = 1 := rfl
      omega
  have hfin : ∀ G', zKI G' (znote σ (T, x)) → (∀ a : Nat, ¬ (7 ≤ a ∧ a ≤ 10) → G' a = G1 a) → (∀ j, j ≠ 2 → j ≠ 6 → j ≠ 7 → G' 7 j = G1 7 j) → Q (.inl none) (ch h G') := fun G' a1 a2 a3 => kk G' a1 (fun a ha => (a2 a ha).trans (hG1 a ha)) (fun j j1 j2 j3 => (a3 j j1 j2 j3).trans (hG7 j j2))
  by_cases hb : 0 ≤ σ.2.2 ∧ (zidx x σ.1 : Int) ≠ σ.2.2
  · have hTi : -2147483648 ≤ T ∧ T ≤ 2147483647 := by omega
    have en : znote σ (T, x) = (znts σ.1 x, σ.2.1 ++ [(T, (zidx x σ.1 : Int))], (zidx x σ.1 : Int)) := by
      unfold znote
      rw [if_pos hb]
    have hl : (σ.2.1 ++ [(T, (zidx x σ.1 : Int))]).length = σ.2.1.length + 1 := by rw [List.length_append]; rfl
    let n := σ.2.1.length
    have c8 : ∀ y z w : Nat → Int, va_up (va_up (va_up G1 8 y) 9 z) 7 w 7 = w := fun y z w => va_up_self _ _ _
    have fin := hfin (va_up (va_up (va_up (va_up G1 8 (zpi (G1 8) (2 + 4 * σ.2.1.length) T)) 9 (va_up (G1 9) σ.2.1.length (zidx x σ.1))) 7 (va_up (G1 7) 2 (σ.2.1.length + 1))) 7 (va_up (va_up (G1 7) 2 (σ.2.1.length + 1)) 7 (zidx x σ.1))) (by
      rw [en]
      refine ⟨⟨?_, ?_, ?_⟩, fun t ht => ?_, fun j hj => ?_, k6, by rw [hl]; omega, by show -1 ≤ (zidx x σ.1 : Int); omega, hi27⟩
      · rw [va_up_self, va_up_ne _ _ (by decide), va_up_self]
        show _ = (((σ.2.1 ++ [(T, (zidx x σ.1 : Int))]).length : Nat) : Int)
        rw [hl]; omega
      · rw [va_up_self, va_up_ne _ _ (by decide), va_up_ne _ _ (by decide)]; exact k2
      · rw [va_up_self, va_up_self]
      · rw [va_up_ne _ _ (by decide), va_up_ne _ _ (by decide), va_up_ne _ _ (by decide), va_up_ne _ _ (by decide)]
        exact k4 t ht
      · have hj : j < (σ.2.1 ++ [(T, (zidx x σ.1 : Int))]).length := hj
        rw [hl] at hj
        rw [va_up_ne _ _ (show (9 : Nat) ≠ 7 by decide), va_up_ne _ _ (show (9 : Nat) ≠ 7 by decide), va_up_self, va_up_ne _ _ (show (8 : Nat) ≠ 7 by decide), va_up_ne _ _ (show (8 : Nat) ≠ 7 by decide), va_up_ne _ _ (show (8 : Nat) ≠ 9 by decide), va_up_self]
        show va_up (G1 9) σ.2.1.length (zidx x σ.1 : Int) j = ((σ.2.1 ++ [(T, (zidx x σ.1 : Int))]).getD j (0, 0)).2 ∧ (0 ≤ ((σ.2.1 ++ [(T, (zidx x σ.1 : Int))]).getD j (0, 0)).2 ∧ ((σ.2.1 ++ [(T, (zidx x σ.1 : Int))]).getD j (0, 0)).2 ≤ 27) ∧ ∀ i, i < 4 → zpi (G1 8) (2 + 4 * σ.2.1.length) T (2 + 4 * j + i) = zhb ((σ.2.1 ++ [(T, (zidx x σ.1 : Int))]).getD j (0, 0)).1 0 [] i
        by_cases hj2 : j < σ.2.1.length
        · rw [List.getD_eq_getElem?_getD, List.getElem?_append_left hj2, ← List.getD_eq_getElem?_getD, va_up_ne _ _ (by omega)]
          refine ⟨(k5 j hj2).1, (k5 j hj2).2.1, fun i hi => ?_⟩
          rw [zpi_o (by omega)]
          exact (k5 j hj2).2.2 i hi
        · have hj3 : j = σ.2.1.length := by omega
          subst hj3
          rw [List.getD_eq_getElem?_getD, List.getElem?_append_right (Nat.le_refl _), Nat.sub_self, va_up_self]
          exact ⟨rfl, ⟨by show (0 : Int) ≤ (zidx x σ.1 : Int); omega, hi27⟩, fun i hi => zpi_a hi⟩) (fun a ha => by rw [va_up_ne _ _ (by omega), va_up_ne _ _ (by omega), va_up_ne _ _ (by omega), va_up_ne _ _ (by omega)]) (fun j j1 j2 j3 => by rw [va_up_self, va_up_ne _ _ j3, va_up_ne _ _ j1])
    have s22' : ∀ Q' : zO → zH → Prop, z_Cl 22 [.ref 8, zi (2 + (σ.2.1.length : Int) * 4), zi T] (ch h G1) Q' = Q' (.inl none) (ch h (va_up G1 8 (zpi (G1 8) (2 + 4 * σ.2.1.length) T))) := fun Q' => by
      rw [s22 (h := ch h G1) cat_8 (by omega) (by omega) hTi, cpu_8]
      rw [show (2 + (σ.2.1.length : Int) * 4).toNat = 2 + 4 * σ.2.1.length by omega]
    have n87 : ∀ y : Nat → Int, va_up G1 8 y 7 = G1 7 := fun y => va_up_ne _ _ (by decide)
    have n89 : ∀ y : Nat → Int, va_up G1 8 y 9 = G1 9 := fun y => va_up_ne _ _ (by decide)
    have n97 : ∀ y z : Nat → Int, va_up (va_up G1 8 y) 9 z 7 = G1 7 := fun y z => by rw [va_up_ne _ _ (by decide), va_up_ne _ _ (by decide)]
    have eb : Int.bmod (zidx x σ.1 : Int) 256 = zidx x σ.1 := zb_small _ (by omega)
    have en2 : ((σ.2.1.length : Nat) : Int).toNat = σ.2.1.length := by omega
    have ne : ¬ (zidx x σ.1 : Int) = σ.2.2 := hb.2
    simp (disch := first | omega | assumption | exact zq_r _ | exact zn_0 | exact zo_i _ | exact zo_r _ | exact zq_k _ | exact zq_n | exact zn_1 _ | exact zn_2 _ _ | exact zn_3 _ _ _ | exact zn_4 _ _ _ _ | exact zn_5 _ _ _ _ _ | exact zc_i _ | exact zc_r _ | exact zo_l _ | exact zo_k _ | exact zo_n | exact zc_rk _ | (rw [zx_id (by omega)]; omega) | (rw [zw_id (by omega)]; omega) | (apply z_ok_v; assumption) | (simp only [z_new_1, z_pu_1, mh_1]; omega)) only [z_EvO_some, z_EvG_t, z_Bk_n, z_Bk_s, z_brT, z_brF, z_br_pos, z_br_neg, not_true_eq_false, not_false_eq_true, Bool.true_eq_false, Bool.false_eq_true, Bool.not_eq_false, Bool.not_eq_true, eq_self, z_kl_i, z_kl_l, z_kl_r, z_kl_k, z_kl_n, z_kl_u, z_kl_v, zi_f, zl_f, z_put_r, z_nul_n, z_nul_r, zcmp_lt, zcmp_le, zcmp_ge, zcmp_gt, zcmp_eq, zw_id, zx_id, Nat.reduceAdd, z_tf_i, z_tf_l, z_tf_z, zl_zx, zi_zw, z_gf0, z_gf1, z_gf2, z_gf3, z_gf4, z_gf5, z_gf6, z_gf7, z_pf0, z_pf1, z_pf2, z_pf3, z_pf4, z_pf5, z_pf6, z_pf7, z_ob1, zb_0, zb_1, zb_tf, cat_o, cat_k, ch_1, cgf0_0, cgf0_1, cgf0_2, cgf0_3, cpf0_3, cgf0_4, cgf0_5, cgf0_6, cgf0_7, cpf0_7, cob_0, cat_0, cpu_0, cgf5_0, cgf5_1, cpf5_1, cob_5, cat_5, cpu_5, cat_6, cpu_6, cgf7_0, cgf7_1, cpf7_1, cgf7_2, cpf7_2, cgf7_3, cpf7_3, cgf7_4, cgf7_5, cgf7_6, cpf7_6, cgf7_7, cpf7_7, cob_7, cat_7, cpu_7, cat_8, cpu_8, cat_9, cpu_9, cat_10, cpu_10, cat_11, cpu_11, zg_ai_A, zg_al_A, zg_si_A, zg_sl_A, zg_ab_b, zg_sb_b, z_len_A, z_len_L, e118, r118_0, r118_1, r118_2, r118_5, r118_7, r118_8, r118_11, r118_14, r118_16, r118_17, r118_20, r118_23, r118_24, r118_27, r118_30, r118_33, r118_34, r118_37, r118_38, r118_39, r118_42, r118_43, r118_44, r118_45, r118_46, r118_47, r118_50, r118_51, r118_54, r118_55, r118_58, r118_60, r118_61, r118_62, r118_63, r118_64, r118_67, r118_68, r118_69, r118_72, r118_73, r118_75, r118_78, x83, k1, k3, s22', n87, n89, n97, eb, en2, c8]
    exact fin
  · have en : znote σ (T, x) = (znts σ.1 x, σ.2.1, (zidx x σ.1 : Int)) := by
      unfold znote
      rw [if_neg hb]
    have fin := hfin (va_up G1 7 (va_up (G1 7) 7 (zidx x σ.1))) (by
      rw [en]
      refine ⟨⟨?_, ?_, ?_⟩, fun t ht => ?_, ?_, k6, k7, by show -1 ≤ (zidx x σ.1 : Int); omega, hi27⟩
      · rw [va_up_self, va_up_ne _ _ (by decide)]; exact k1
      · rw [va_up_self, va_up_ne _ _ (by decide)]; exact k2
      · rw [va_up_self, va_up_self]
      · rw [va_up_ne _ _ (by decide)]; exact k4 t ht
      · rw [va_up_ne _ _ (show (9 : Nat) ≠ 7 by decide), va_up_ne _ _ (show (8 : Nat) ≠ 7 by decide)]; exact k5) (fun a ha => va_up_ne _ _ (by omega)) (fun j j1 j2 j3 => by rw [va_up_self, va_up_ne _ _ j3])
    by_cases h0 : σ.2.2 < 0
    · simp (disch := first | omega | assumption | exact zq_r _ | exact zn_0 | exact zo_i _ | exact zo_r _ | exact zq_k _ | exact zq_n | exact zn_1 _ | exact zn_2 _ _ | exact zn_3 _ _ _ | exact zn_4 _ _ _ _ | exact zn_5 _ _ _ _ _ | exact zc_i _ | exact zc_r _ | exact zo_l _ | exact zo_k _ | exact zo_n | exact zc_rk _ | (rw [zx_id (by omega)]; omega) | (rw [zw_id (by omega)]; omega) | (apply z_ok_v; assumption) | (simp only [z_new_1, z_pu_1, mh_1]; omega)) only [z_EvO_some, z_EvG_t, z_Bk_n, z_Bk_s, z_brT, z_brF, z_br_pos, z_br_neg, not_true_eq_false, not_false_eq_true, Bool.true_eq_false, Bool.false_eq_true, Bool.not_eq_false, Bool.not_eq_true, eq_self, z_kl_i, z_kl_l, z_kl_r, z_kl_k, z_kl_n, z_kl_u, z_kl_v, zi_f, zl_f, z_put_r, z_nul_n, z_nul_r, zcmp_lt, zcmp_le, zcmp_ge, zcmp_gt, zcmp_eq, zw_id, zx_id, Nat.reduceAdd, z_tf_i, z_tf_l, z_tf_z, zl_zx, zi_zw, z_gf0, z_gf1, z_gf2, z_gf3, z_gf4, z_gf5, z_gf6, z_gf7, z_pf0, z_pf1, z_pf2, z_pf3, z_pf4, z_pf5, z_pf6, z_pf7, z_ob1, zb_0, zb_1, zb_tf, cat_o, cat_k, ch_1, cgf0_0, cgf0_1, cgf0_2, cgf0_3, cpf0_3, cgf0_4, cgf0_5, cgf0_6, cgf0_7, cpf0_7, cob_0, cat_0, cpu_0, cgf5_0, cgf5_1, cpf5_1, cob_5, cat_5, cpu_5, cat_6, cpu_6, cgf7_0, cgf7_1, cpf7_1, cgf7_2, cpf7_2, cgf7_3, cpf7_3, cgf7_4, cgf7_5, cgf7_6, cpf7_6, cgf7_7, cpf7_7, cob_7, cat_7, cpu_7, cat_8, cpu_8, cat_9, cpu_9, cat_10, cpu_10, cat_11, cpu_11, zg_ai_A, zg_al_A, zg_si_A, zg_sl_A, zg_ab_b, zg_sb_b, z_len_A, z_len_L, e118, r118_0, r118_1, r118_2, r118_5, r118_7, r118_8, r118_11, r118_14, r118_16, r118_17, r118_20, r118_23, r118_24, r118_27, r118_30, r118_33, r118_34, r118_37, r118_38, r118_39, r118_42, r118_43, r118_44, r118_45, r118_46, r118_47, r118_50, r118_51, r118_54, r118_55, r118_58, r118_60, r118_61, r118_62, r118_63, r118_64, r118_67, r118_68, r118_69, r118_72, r118_73, r118_75, r118_78, x83, k1, k3]
      exact fin
    · have he : (zidx x σ.1 : Int) = σ.2.2 := by omega
      simp (disch := first | omega | assumption | exact zq_r _ | exact zn_0 | exact zo_i _ | exact zo_r _ | exact zq_k _ | exact zq_n | exact zn_1 _ | exact zn_2 _ _ | exact zn_3 _ _ _ | exact zn_4 _ _ _ _ | exact zn_5 _ _ _ _ _ | exact zc_i _ | exact zc_r _ | exact zo_l _ | exact zo_k _ | exact zo_n | exact zc_rk _ | (rw [zx_id (by omega)]; omega) | (rw [zw_id (by omega)]; omega) | (apply z_ok_v; assumption) | (simp only [z_new_1, z_pu_1, mh_1]; omega)) only [z_EvO_some, z_EvG_t, z_Bk_n, z_Bk_s, z_brT, z_brF, z_br_pos, z_br_neg, not_true_eq_false, not_false_eq_true, Bool.true_eq_false, Bool.false_eq_true, Bool.not_eq_false, Bool.not_eq_true, eq_self, z_kl_i, z_kl_l, z_kl_r, z_kl_k, z_kl_n, z_kl_u, z_kl_v, zi_f, zl_f, z_put_r, z_nul_n, z_nul_r, zcmp_lt, zcmp_le, zcmp_ge, zcmp_gt, zcmp_eq, zw_id, zx_id, Nat.reduceAdd, z_tf_i, z_tf_l, z_tf_z, zl_zx, zi_zw, z_gf0, z_gf1, z_gf2, z_gf3, z_gf4, z_gf5, z_gf6, z_gf7, z_pf0, z_pf1, z_pf2, z_pf3, z_pf4, z_pf5, z_pf6, z_pf7, z_ob1, zb_0, zb_1, zb_tf, cat_o, cat_k, ch_1, cgf0_0, cgf0_1, cgf0_2, cgf0_3, cpf0_3, cgf0_4, cgf0_5, cgf0_6, cgf0_7, cpf0_7, cob_0, cat_0, cpu_0, cgf5_0, cgf5_1, cpf5_1, cob_5, cat_5, cpu_5, cat_6, cpu_6, cgf7_0, cgf7_1, cpf7_1, cgf7_2, cpf7_2, cgf7_3, cpf7_3, cgf7_4, cgf7_5, cgf7_6, cpf7_6, cgf7_7, cpf7_7, cob_7, cat_7, cpu_7, cat_8, cpu_8, cat_9, cpu_9, cat_10, cpu_10, cat_11, cpu_11, zg_ai_A, zg_al_A, zg_si_A, zg_sl_A, zg_ab_b, zg_sb_b, z_len_A, z_len_L, e118, r118_0, r118_1, r118_2, r118_5, r118_7, r118_8, r118_11, r118_14, r118_16, r118_17, r118_20, r118_23, r118_24, r118_27, r118_30, r118_33, r118_34, r118_37, r118_38, r118_39, r118_42, r118_43, r118_44, r118_45, r118_46, r118_47, r118_50, r118_51, r118_54, r118_55, r118_58, r118_60, r118_61, r118_62, r118_63, r118_64, r118_67, r118_68, r118_69, r118_72, r118_73, r118_75, r118_78, x83, k1, k3]
      exact fin
end ZCo
/-! the types that may come -/
def zTI (σ : zNs) (U : List zTy) : Prop := σ.1.Nodup ∧ ∀ x ∈ σ.1, x ∈ U
theorem zidx_no {x : zTy} {l : List zTy} (h : ¬ zidx x l < l.length) : x ∉ l := fun hm => h (zidx_mem hm)
theorem znts_ti {σ : zNs} {U : List zTy} {x : zTy} (h : zTI σ U) (hx : x ∈ U) : (znts σ.1 x).Nodup ∧ (∀ y ∈ znts σ.1 x, y ∈ U) ∧ (znts σ.1 x).length ≤ U.length := by
  have key : (znts σ.1 x).Nodup ∧ ∀ y ∈ znts σ.1 x, y ∈ U := by
    unfold znts
    by_cases hc : zidx x σ.1 < σ.1.length
    · rw [if_pos hc]
      exact h
    · rw [if_neg hc]
      refine ⟨?_, fun y hy => ?_⟩
      · rw [List.nodup_append]
        refine ⟨h.1, by simp, fun a ha b hb => ?_⟩
        have hb : b = x := by simpa using hb
        rw [hb]
        intro e
        exact zidx_no hc (e ▸ ha)
      · rcases List.mem_append.mp hy with hy | hy
        · exact h.2 y hy
        · rw [List.mem_singleton.mp hy]; exact hx
  exact ⟨key.1, key.2, key.1.length_le_of_subset key.2⟩
theorem znote_ti {σ : zNs} {U : List zTy} {p : Int × zTy} (h : zTI σ U) (hx : p.2 ∈ U) : zTI (znote σ p) U ∧ (znote σ p).2.1.length ≤ σ.2.1.length + 1 := by
  have := znts_ti h hx
  refine ⟨⟨this.1, this.2.1⟩, ?_⟩
  unfold znote
  simp only
  split
  · rw [List.length_append]
    exact Nat.le_refl _
  · omega
theorem zfold_ti {U : List zTy} : ∀ {l : List (Int × zTy)} {σ : zNs}, zTI σ U → (∀ p ∈ l, p.2 ∈ U) → zTI (l.foldl znote σ) U ∧ (l.foldl znote σ).2.1.length ≤ σ.2.1.length + l.length := by
  intro l
  induction l with
  | nil => intro σ h _; exact ⟨h, Nat.le_refl _⟩
  | cons p l ih =>
    intro σ h hm
    have h1 := znote_ti h (hm p List.mem_cons_self)
    have h2 := ih h1.1 (fun q hq => hm q (List.mem_cons_of_mem _ hq))
    rw [List.foldl_cons, List.length_cons]
    exact ⟨h2.1, by omega⟩
