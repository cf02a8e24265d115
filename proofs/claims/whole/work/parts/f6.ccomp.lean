/-! compiled: the class -/
section ZCc
variable {s : Nat} {h : zH} {Q : zO → zH → Prop} {G G0 : Nat → Nat → Int} {σ : zNs} {Es : List zEr} {Ks : Nat → List Int} {Rs : Nat → List zRu} {U : List zTy}
/-- all that is noted, with what it shows -/
def zPl (Ks : Nat → List Int) (Rs : Nat → List zRu) : List zEr → Int → List (Int × zTy)
  | [], _ => []
  | E :: r, s => if s < zee Ks Rs E r then ((s, zTE E (zru Ks Rs E s)) :: (zDn Ks Rs E s (zee Ks Rs E r)).map (fun i => (zat Ks Rs E i, zTE E (some (zrl (zrs Rs E) ((zks Ks E).getD i 0)))))) ++ zPl Ks Rs r (zee Ks Rs E r) else zPl Ks Rs r s
theorem zPl_D : ∀ {r pre : List zEr} {s : Int}, Es = pre ++ r → (∀ j, j < pre.length → zend Ks Rs (Es.getD j zE0) ≤ s) → zPl Ks Rs r s = (zDl Ks Rs r s).map (fun d => (d, zty Ks Rs Es d)) := by
  intro r
  induction r with
  | nil => intro pre s _ _; rfl
  | cons E r ih =>
    intro pre s h hp
    unfold zPl zDl
    by_cases hs : s < zee Ks Rs E r
    · rw [if_pos hs, if_pos hs, List.map_cons, List.map_append, List.cons_append]
      have e0 : zty Ks Rs Es s = zTE E (zru Ks Rs E s) := by rw [zty_E, zera_h h hp (Int.le_refl _) hs]
      have e1 : (zDn Ks Rs E s (zee Ks Rs E r)).map (fun i => (zat Ks Rs E i, zTE E (some (zrl (zrs Rs E) ((zks Ks E).getD i 0))))) = (zDf Ks Rs E s (zee Ks Rs E r)).map (fun d => (d, zty Ks Rs Es d)) := by
        unfold zDf
        rw [List.map_map]
        apply List.map_congr_left
        intro i hi
        have hm := zDn_m hi
        show _ = (zat Ks Rs E i, zty Ks Rs Es (zat Ks Rs E i))
        rw [zty_E, zera_h h hp (by omega) hm.2.2.1, zru_lw, hm.2.2.2, if_neg (by omega), Int.toNat_natCast]
      rw [e0, e1]
      congr 1
      congr 1
      by_cases hr : r = []
      · rw [hr]; rfl
      · have ez : zee Ks Rs E r = zend Ks Rs E := if_neg hr
        obtain ⟨p1, p2⟩ := zpre_n (s' := zee Ks Rs E r) h hp (by omega) (by omega)
        exact ih p1 p2
    · rw [if_neg hs, if_neg hs]
      by_cases hr : r = []
      · rw [hr]; rfl
      · have ez : zee Ks Rs E r = zend Ks Rs E := if_neg hr
        obtain ⟨p1, p2⟩ := zpre_n (s' := s) h hp (Int.le_refl _) (by omega)
        exact ih p1 p2
theorem zPl_len : ∀ {r : List zEr} {s : Int}, (zPl Ks Rs r s).length = (zDl Ks Rs r s).length := by
  intro r
  induction r with
  | nil => intro s; rfl
  | cons E r ih =>
    intro s
    unfold zPl zDl
    split
    · rw [List.length_append, List.length_cons, List.length_map, List.length_cons, List.length_append, ih]
      unfold zDf
      rw [List.length_map]
      omega
    · exact ih
theorem zPl_U (hE : ∀ E ∈ Es, zEok E) (hok : zOk Es Ks Rs) (hU : ∀ E ∈ Es, ∀ x ∈ zUe Rs E, x ∈ U) : ∀ {r : List zEr} {s : Int}, (∀ E ∈ r, E ∈ Es) → ∀ p ∈ zPl Ks Rs r s, p.2 ∈ U := by
  intro r
  induction r with
  | nil => intro s _ p hp; cases hp
  | cons E r ih =>
    intro s hm p hp
    have hEm := hm E List.mem_cons_self
    have ih1 := fun s => ih (s := s) (fun E' h' => hm E' (List.mem_cons_of_mem _ h'))
    unfold zPl at hp
    split at hp
    · rcases List.mem_append.mp hp with hp | hp
      · rcases List.mem_cons.mp hp with rfl | hp
        · exact hU E hEm _ (zru_U (hE E hEm) hok)
        · obtain ⟨i, hi, rfl⟩ := List.mem_map.mp hp
          have hl := (zDn_m hi).1
          refine hU E hEm _ (List.mem_cons_of_mem _ (List.mem_map.mpr ⟨_, ?_, rfl⟩))
          by_cases h1 : E.1 1 < 0
          · have : zks Ks E = [] := if_pos h1
            rw [this] at hl
            exact absurd hl (Nat.not_lt_zero _)
          · have e1 : zks Ks E = Ks (E.1 1).toNat := if_neg h1
            have e2 : zrs Rs E = Rs (E.1 1).toNat := if_neg h1
            rw [e1] at hl ⊢
            rw [e2]
            exact zrl_mem (hok.2 _ (by have := (hE E hEm).2.1; omega)) hl
      · exact ih1 _ p hp
    · exact ih1 _ p hp
theorem l209 (hi : zCI s h G0 Es Ks Rs) (hU28 : U.length ≤ 28) (hU : ∀ E ∈ Es, ∀ x ∈ zUe Rs E, x ∈ U)
    (kk : ∀ (G' : Nat → Nat → Int) (σ' : zNs) (v1 v4 v5 : Value), zGk G0 G' → zKI G' σ' → σ' = (zPl Ks Rs Es (-2147483648)).foldl znote ([], [], -1) → z_Ev 209 110 [.ref 0, v1, z_um, zi Es.length, v4, v5] [] (ch h G') Q) :
    ∀ (r pre : List zEr) (s0 : Int) (G : Nat → Nat → Int) (σ : zNs), Es = pre ++ r → zGk G0 G → zKI G σ → zTI σ U → σ.2.1.length + (zPl Ks Rs r s0).length < 512 → (-2147483648 ≤ s0 ∧ s0 ≤ 2147483648) → (r ≠ [] → s0 ≤ 2147483647) → (zPl Ks Rs r s0).foldl znote σ = (zPl Ks Rs Es (-2147483648)).foldl znote ([], [], -1) → ∀ l4 l5, z_Ev 209 45 [.ref 0, zl s0, z_um, zi pre.length, l4, l5] [] (ch h G) Q := by
  have hok := hi.2.2.2.2.1
  have hoc := hi.2.2.2.2.2.1
  have h4 : Es.length ≤ 4 := by obtain ⟨PE, d1, d2, d3, d4, d5⟩ := hi.2.2.2.1; exact d3
  intro r
  induction r with
  | nil =>
    intro pre s0 G σ h1 hg hK hT hb hr hr2 hf l4 l5
    have hG := (hi.gk hg).2.2.2.2.2.2
    have el : pre.length = Es.length := by rw [h1, List.append_nil]
    have := kk G σ (zl s0) l4 l5 hg hK hf
    rw [el, k209_45]
    simp (disch := first | omega | assumption | exact zq_r _ | exact zn_0 | exact zo_i _ | exact zo_r _ | exact zq_k _ | exact zq_n | exact zn_1 _ | exact zn_2 _ _ | exact zn_3 _ _ _ | exact zn_4 _ _ _ _ | exact zn_5 _ _ _ _ _ | exact zc_i _ | exact zc_r _ | exact zo_l _ | exact zo_k _ | exact zo_n | exact zc_rk _ | (rw [zx_id (by omega)]; omega) | (rw [zw_id (by omega)]; omega) | (apply z_ok_v; assumption) | (simp only [z_new_1, z_pu_1, mh_1]; omega)) only [z_EvO_some, z_EvG_t, z_Bk_n, z_Bk_s, z_brT, z_brF, z_br_pos, z_br_neg, not_true_eq_false, not_false_eq_true, Bool.true_eq_false, Bool.false_eq_true, Bool.not_eq_false, Bool.not_eq_true, eq_self, z_kl_i, z_kl_l, z_kl_r, z_kl_k, z_kl_n, z_kl_u, z_kl_v, zi_f, zl_f, z_put_r, z_nul_n, z_nul_r, zcmp_lt, zcmp_le, zcmp_ge, zcmp_gt, zcmp_eq, zw_id, zx_id, Nat.reduceAdd, z_tf_i, z_tf_l, z_tf_z, zl_zx, zi_zw, z_gf0, z_gf1, z_gf2, z_gf3, z_gf4, z_gf5, z_gf6, z_gf7, z_pf0, z_pf1, z_pf2, z_pf3, z_pf4, z_pf5, z_pf6, z_pf7, z_ob1, zb_0, zb_1, zb_tf, cat_o, cat_k, ch_1, cgf0_0, cgf0_1, cgf0_2, cgf0_3, cpf0_3, cgf0_4, cgf0_5, cgf0_6, cgf0_7, cpf0_7, cob_0, cat_0, cpu_0, cgf5_0, cgf5_1, cpf5_1, cob_5, cat_5, cpu_5, cat_6, cpu_6, cgf7_0, cgf7_1, cpf7_1, cgf7_2, cpf7_2, cgf7_3, cpf7_3, cgf7_4, cgf7_5, cgf7_6, cpf7_6, cgf7_7, cpf7_7, cob_7, cat_7, cpu_7, cat_8, cpu_8, cat_9, cpu_9, cat_10, cpu_10, cat_11, cpu_11, zg_ai_A, zg_al_A, zg_si_A, zg_sl_A, zg_ab_b, zg_sb_b, z_len_A, z_len_L, r209_0, r209_1, r209_4, r209_7, r209_8, r209_11, r209_12, r209_15, r209_16, r209_17, r209_18, r209_21, r209_24, r209_27, r209_32, r209_33, r209_36, r209_39, r209_42, r209_43, r209_44, r209_46, r209_47, r209_50, r209_53, r209_54, r209_55, r209_58, r209_59, r209_60, r209_63, r209_66, r209_69, r209_70, r209_71, r209_74, r209_75, r209_76, r209_79, r209_81, r209_83, r209_84, r209_85, r209_88, r209_89, r209_90, r209_93, r209_94, r209_95, r209_96, r209_98, r209_101, r209_103, r209_104, r209_107, r209_111, r209_114, r209_117, r209_118, r209_121, r209_124, hG]
    exact this
  | cons E r ih =>
    intro pre s0 G σ h1 hg hK hT hb hr hr2 hf l4 l5
    have hiG := hi.gk hg
    have hG := hiG.2.2.2.2.2.2
    have hl : Es.length = pre.length + (r.length + 1) := by rw [h1, List.length_append, List.length_cons]
    have hEat := zE_at h1
    have hEm : E ∈ Es := by rw [h1]; exact List.mem_append_right _ List.mem_cons_self
    have hE := hok.1 E hEm
    have hr0 := hr2 (by simp)
    obtain ⟨PE, d1, d2, d3, d4, d5⟩ := id hi.2.2.2.1
    obtain ⟨a, a1, a2⟩ := d4 pre.length (by omega)
    rw [hEat] at a2
    have o4 : z_at (ch h G) (.ref 4) = zQA 7 4 PE := by rw [cat_o (by decide)]; exact d2
    have ex : zg_aq (zQA 7 4 PE) (pre.length : Int) = some (.ref a) := by
      show z_aq _ _ = _
      rw [z_aq_A (by omega) (by omega) (by omega), Int.toNat_natCast, a1]
      rfl
    have h1' : Es = (pre ++ [E]) ++ r := by rw [h1, List.append_assoc]; rfl
    have el' : ((pre ++ [E]).length : Int) = (pre.length : Int) + 1 := by rw [List.length_append]; simp
    have er := zend_r hE hok.2
    have hee : -2147483648 ≤ zee Ks Rs E r ∧ zee Ks Rs E r ≤ 2147483648 := by unfold zee; split <;> omega
    -- from the end of the era on
    have tl : ∀ (l4 l5 : Value), z_Ev 209 81 [.ref 0, zl s0, z_um, zi pre.length, zl (zee Ks Rs E r), z_um] [] (ch h G) Q := by
      intro _ _
      have ePl : zPl Ks Rs (E :: r) s0 = if s0 < zee Ks Rs E r then ((s0, zTE E (zru Ks Rs E s0)) :: (zDn Ks Rs E s0 (zee Ks Rs E r)).map (fun i => (zat Ks Rs E i, zTE E (some (zrl (zrs Rs E) ((zks Ks E).getD i 0)))))) ++ zPl Ks Rs r (zee Ks Rs E r) else zPl Ks Rs r s0 := rfl
      rw [ePl] at hb hf
      by_cases hs : s0 < zee Ks Rs E r
      · rw [if_pos hs] at hb hf
        rw [List.length_append, List.length_cons, List.length_map] at hb
        rw [List.foldl_append] at hf
        simp (disch := first | omega | assumption | exact zq_r _ | exact zn_0 | exact zo_i _ | exact zo_r _ | exact zq_k _ | exact zq_n | exact zn_1 _ | exact zn_2 _ _ | exact zn_3 _ _ _ | exact zn_4 _ _ _ _ | exact zn_5 _ _ _ _ _ | exact zc_i _ | exact zc_r _ | exact zo_l _ | exact zo_k _ | exact zo_n | exact zc_rk _ | (rw [zx_id (by omega)]; omega) | (rw [zw_id (by omega)]; omega) | (apply z_ok_v; assumption) | (simp only [z_new_1, z_pu_1, mh_1]; omega)) only [z_EvO_some, z_EvG_t, z_Bk_n, z_Bk_s, z_brT, z_brF, z_br_pos, z_br_neg, not_true_eq_false, not_false_eq_true, Bool.true_eq_false, Bool.false_eq_true, Bool.not_eq_false, Bool.not_eq_true, eq_self, z_kl_i, z_kl_l, z_kl_r, z_kl_k, z_kl_n, z_kl_u, z_kl_v, zi_f, zl_f, z_put_r, z_nul_n, z_nul_r, zcmp_lt, zcmp_le, zcmp_ge, zcmp_gt, zcmp_eq, zw_id, zx_id, Nat.reduceAdd, z_tf_i, z_tf_l, z_tf_z, zl_zx, zi_zw, z_gf0, z_gf1, z_gf2, z_gf3, z_gf4, z_gf5, z_gf6, z_gf7, z_pf0, z_pf1, z_pf2, z_pf3, z_pf4, z_pf5, z_pf6, z_pf7, z_ob1, zb_0, zb_1, zb_tf, cat_o, cat_k, ch_1, cgf0_0, cgf0_1, cgf0_2, cgf0_3, cpf0_3, cgf0_4, cgf0_5, cgf0_6, cgf0_7, cpf0_7, cob_0, cat_0, cpu_0, cgf5_0, cgf5_1, cpf5_1, cob_5, cat_5, cpu_5, cat_6, cpu_6, cgf7_0, cgf7_1, cpf7_1, cgf7_2, cpf7_2, cgf7_3, cpf7_3, cgf7_4, cgf7_5, cgf7_6, cpf7_6, cgf7_7, cpf7_7, cob_7, cat_7, cpu_7, cat_8, cpu_8, cat_9, cpu_9, cat_10, cpu_10, cat_11, cpu_11, zg_ai_A, zg_al_A, zg_si_A, zg_sl_A, zg_ab_b, zg_sb_b, z_len_A, z_len_L, r209_0, r209_1, r209_4, r209_7, r209_8, r209_11, r209_12, r209_15, r209_16, r209_17, r209_18, r209_21, r209_24, r209_27, r209_32, r209_33, r209_36, r209_39, r209_42, r209_43, r209_44, r209_46, r209_47, r209_50, r209_53, r209_54, r209_55, r209_58, r209_59, r209_60, r209_63, r209_66, r209_69, r209_70, r209_71, r209_74, r209_75, r209_76, r209_79, r209_81, r209_83, r209_84, r209_85, r209_88, r209_89, r209_90, r209_93, r209_94, r209_95, r209_96, r209_98, r209_101, r209_103, r209_104, r209_107, r209_110, r209_111, r209_114, r209_117, r209_118, r209_121, r209_124, hG, o4, ex]
        refine t198 hiG a2 hE (hoc.1 E hEm) hU28 (hU E hEm) (by omega) hK hT (by omega) (fun G' q1 q2 => ?_)
        have hti := zfold_ti (l := (s0, zTE E (zru Ks Rs E s0)) :: (zDn Ks Rs E s0 (zee Ks Rs E r)).map (fun i => (zat Ks Rs E i, zTE E (some (zrl (zrs Rs E) ((zks Ks E).getD i 0)))))) hT (fun p hp => by
          rcases List.mem_cons.mp hp with rfl | hp
          · exact hU E hEm _ (zru_U hE hok)
          · obtain ⟨i, hi2, rfl⟩ := List.mem_map.mp hp
            have hl2 := (zDn_m hi2).1
            refine hU E hEm _ (List.mem_cons_of_mem _ (List.mem_map.mpr ⟨_, ?_, rfl⟩))
            by_cases h1 : E.1 1 < 0
            · have : zks Ks E = [] := if_pos h1
              rw [this] at hl2
              exact absurd hl2 (Nat.not_lt_zero _)
            · have e1 : zks Ks E = Ks (E.1 1).toNat := if_neg h1
              have e2 : zrs Rs E = Rs (E.1 1).toNat := if_neg h1
              rw [e1] at hl2 ⊢
              rw [e2]
              exact zrl_mem (hok.2 _ (by have := hE.2.1; omega)) hl2)
        have hb2 := hti.2
        rw [List.length_cons, List.length_map] at hb2
        have xr := ih (pre ++ [E]) (zee Ks Rs E r) G' _ h1' (hg.trans q1) q2 hti.1 (by omega) hee (fun hne => by
          have ez : zee Ks Rs E r = zend Ks Rs E := if_neg hne
          omega) hf
        rw [el'] at xr
        simp (disch := first | omega | assumption | exact zq_r _ | exact zn_0 | exact zo_i _ | exact zo_r _ | exact zq_k _ | exact zq_n | exact zn_1 _ | exact zn_2 _ _ | exact zn_3 _ _ _ | exact zn_4 _ _ _ _ | exact zn_5 _ _ _ _ _ | exact zc_i _ | exact zc_r _ | exact zo_l _ | exact zo_k _ | exact zo_n | exact zc_rk _ | (rw [zx_id (by omega)]; omega) | (rw [zw_id (by omega)]; omega) | (apply z_ok_v; assumption) | (simp only [z_new_1, z_pu_1, mh_1]; omega)) only [z_EvO_some, z_EvG_t, z_Bk_n, z_Bk_s, z_brT, z_brF, z_br_pos, z_br_neg, not_true_eq_false, not_false_eq_true, Bool.true_eq_false, Bool.false_eq_true, Bool.not_eq_false, Bool.not_eq_true, eq_self, z_kl_i, z_kl_l, z_kl_r, z_kl_k, z_kl_n, z_kl_u, z_kl_v, zi_f, zl_f, z_put_r, z_nul_n, z_nul_r, zcmp_lt, zcmp_le, zcmp_ge, zcmp_gt, zcmp_eq, zw_id, zx_id, Nat.reduceAdd, z_tf_i, z_tf_l, z_tf_z, zl_zx, zi_zw, z_gf0, z_gf1, z_gf2, z_gf3, z_gf4, z_gf5, z_gf6, z_gf7, z_pf0, z_pf1, z_pf2, z_pf3, z_pf4, z_pf5, z_pf6, z_pf7, z_ob1, zb_0, zb_1, zb_tf, cat_o, cat_k, ch_1, cgf0_0, cgf0_1, cgf0_2, cgf0_3, cpf0_3, cgf0_4, cgf0_5, cgf0_6, cgf0_7, cpf0_7, cob_0, cat_0, cpu_0, cgf5_0, cgf5_1, cpf5_1, cob_5, cat_5, cpu_5, cat_6, cpu_6, cgf7_0, cgf7_1, cpf7_1, cgf7_2, cpf7_2, cgf7_3, cpf7_3, cgf7_4, cgf7_5, cgf7_6, cpf7_6, cgf7_7, cpf7_7, cob_7, cat_7, cpu_7, cat_8, cpu_8, cat_9, cpu_9, cat_10, cpu_10, cat_11, cpu_11, zg_ai_A, zg_al_A, zg_si_A, zg_sl_A, zg_ab_b, zg_sb_b, z_len_A, z_len_L, r209_0, r209_1, r209_4, r209_7, r209_8, r209_11, r209_12, r209_15, r209_16, r209_17, r209_18, r209_21, r209_24, r209_27, r209_32, r209_33, r209_36, r209_39, r209_42, r209_43, r209_44, r209_46, r209_47, r209_50, r209_53, r209_54, r209_55, r209_58, r209_59, r209_60, r209_63, r209_66, r209_69, r209_70, r209_71, r209_74, r209_75, r209_76, r209_79, r209_81, r209_83, r209_84, r209_85, r209_88, r209_89, r209_90, r209_93, r209_94, r209_95, r209_96, r209_98, r209_101, r209_103, r209_104, r209_107, r209_110, r209_111, r209_114, r209_117, r209_118, r209_121, r209_124]
        exact xr _ _
      · rw [if_neg hs] at hb hf
        have xr := ih (pre ++ [E]) s0 G σ h1' hg hK hT hb hr (fun _ => hr0) hf
        rw [el'] at xr
        simp (disch := first | omega | assumption | exact zq_r _ | exact zn_0 | exact zo_i _ | exact zo_r _ | exact zq_k _ | exact zq_n | exact zn_1 _ | exact zn_2 _ _ | exact zn_3 _ _ _ | exact zn_4 _ _ _ _ | exact zn_5 _ _ _ _ _ | exact zc_i _ | exact zc_r _ | exact zo_l _ | exact zo_k _ | exact zo_n | exact zc_rk _ | (rw [zx_id (by omega)]; omega) | (rw [zw_id (by omega)]; omega) | (apply z_ok_v; assumption) | (simp only [z_new_1, z_pu_1, mh_1]; omega)) only [z_EvO_some, z_EvG_t, z_Bk_n, z_Bk_s, z_brT, z_brF, z_br_pos, z_br_neg, not_true_eq_false, not_false_eq_true, Bool.true_eq_false, Bool.false_eq_true, Bool.not_eq_false, Bool.not_eq_true, eq_self, z_kl_i, z_kl_l, z_kl_r, z_kl_k, z_kl_n, z_kl_u, z_kl_v, zi_f, zl_f, z_put_r, z_nul_n, z_nul_r, zcmp_lt, zcmp_le, zcmp_ge, zcmp_gt, zcmp_eq, zw_id, zx_id, Nat.reduceAdd, z_tf_i, z_tf_l, z_tf_z, zl_zx, zi_zw, z_gf0, z_gf1, z_gf2, z_gf3, z_gf4, z_gf5, z_gf6, z_gf7, z_pf0, z_pf1, z_pf2, z_pf3, z_pf4, z_pf5, z_pf6, z_pf7, z_ob1, zb_0, zb_1, zb_tf, cat_o, cat_k, ch_1, cgf0_0, cgf0_1, cgf0_2, cgf0_3, cpf0_3, cgf0_4, cgf0_5, cgf0_6, cgf0_7, cpf0_7, cob_0, cat_0, cpu_0, cgf5_0, cgf5_1, cpf5_1, cob_5, cat_5, cpu_5, cat_6, cpu_6, cgf7_0, cgf7_1, cpf7_1, cgf7_2, cpf7_2, cgf7_3, cpf7_3, cgf7_4, cgf7_5, cgf7_6, cpf7_6, cgf7_7, cpf7_7, cob_7, cat_7, cpu_7, cat_8, cpu_8, cat_9, cpu_9, cat_10, cpu_10, cat_11, cpu_11, zg_ai_A, zg_al_A, zg_si_A, zg_sl_A, zg_ab_b, zg_sb_b, z_len_A, z_len_L, r209_0, r209_1, r209_4, r209_7, r209_8, r209_11, r209_12, r209_15, r209_16, r209_17, r209_18, r209_21, r209_24, r209_27, r209_32, r209_33, r209_36, r209_39, r209_42, r209_43, r209_44, r209_46, r209_47, r209_50, r209_53, r209_54, r209_55, r209_58, r209_59, r209_60, r209_63, r209_66, r209_69, r209_70, r209_71, r209_74, r209_75, r209_76, r209_79, r209_81, r209_83, r209_84, r209_85, r209_88, r209_89, r209_90, r209_93, r209_94, r209_95, r209_96, r209_98, r209_101, r209_103, r209_104, r209_107, r209_110, r209_111, r209_114, r209_117, r209_118, r209_121, r209_124]
        exact xr _ _
    rw [k209_45]
    by_cases hlast : r = []
    · have ez : zee Ks Rs E r = 2147483648 := if_pos hlast
      have h0 : r.length = 0 := by rw [hlast]; rfl
      rw [ez] at tl
      have eG : G 0 3 = (pre.length : Int) + 1 := by rw [hG]; omega
      simp (disch := first | omega | assumption | exact zq_r _ | exact zn_0 | exact zo_i _ | exact zo_r _ | exact zq_k _ | exact zq_n | exact zn_1 _ | exact zn_2 _ _ | exact zn_3 _ _ _ | exact zn_4 _ _ _ _ | exact zn_5 _ _ _ _ _ | exact zc_i _ | exact zc_r _ | exact zo_l _ | exact zo_k _ | exact zo_n | exact zc_rk _ | (rw [zx_id (by omega)]; omega) | (rw [zw_id (by omega)]; omega) | (apply z_ok_v; assumption) | (simp only [z_new_1, z_pu_1, mh_1]; omega)) only [z_EvO_some, z_EvG_t, z_Bk_n, z_Bk_s, z_brT, z_brF, z_br_pos, z_br_neg, not_true_eq_false, not_false_eq_true, Bool.true_eq_false, Bool.false_eq_true, Bool.not_eq_false, Bool.not_eq_true, eq_self, z_kl_i, z_kl_l, z_kl_r, z_kl_k, z_kl_n, z_kl_u, z_kl_v, zi_f, zl_f, z_put_r, z_nul_n, z_nul_r, zcmp_lt, zcmp_le, zcmp_ge, zcmp_gt, zcmp_eq, zw_id, zx_id, Nat.reduceAdd, z_tf_i, z_tf_l, z_tf_z, zl_zx, zi_zw, z_gf0, z_gf1, z_gf2, z_gf3, z_gf4, z_gf5, z_gf6, z_gf7, z_pf0, z_pf1, z_pf2, z_pf3, z_pf4, z_pf5, z_pf6, z_pf7, z_ob1, zb_0, zb_1, zb_tf, cat_o, cat_k, ch_1, cgf0_0, cgf0_1, cgf0_2, cgf0_3, cpf0_3, cgf0_4, cgf0_5, cgf0_6, cgf0_7, cpf0_7, cob_0, cat_0, cpu_0, cgf5_0, cgf5_1, cpf5_1, cob_5, cat_5, cpu_5, cat_6, cpu_6, cgf7_0, cgf7_1, cpf7_1, cgf7_2, cpf7_2, cgf7_3, cpf7_3, cgf7_4, cgf7_5, cgf7_6, cpf7_6, cgf7_7, cpf7_7, cob_7, cat_7, cpu_7, cat_8, cpu_8, cat_9, cpu_9, cat_10, cpu_10, cat_11, cpu_11, zg_ai_A, zg_al_A, zg_si_A, zg_sl_A, zg_ab_b, zg_sb_b, z_len_A, z_len_L, r209_0, r209_1, r209_4, r209_7, r209_8, r209_11, r209_12, r209_15, r209_16, r209_17, r209_18, r209_21, r209_24, r209_27, r209_32, r209_33, r209_36, r209_39, r209_42, r209_43, r209_44, r209_46, r209_47, r209_50, r209_53, r209_54, r209_55, r209_58, r209_59, r209_60, r209_63, r209_66, r209_69, r209_70, r209_71, r209_74, r209_75, r209_76, r209_79, r209_83, r209_84, r209_85, r209_88, r209_89, r209_90, r209_93, r209_94, r209_95, r209_96, r209_98, r209_101, r209_103, r209_104, r209_107, r209_110, r209_111, r209_114, r209_117, r209_118, r209_121, r209_124, eG]
      exact tl l4 l5
    · have ez : zee Ks Rs E r = zend Ks Rs E := if_neg hlast
      have h0 : r.length ≠ 0 := fun e => hlast (List.length_eq_zero_iff.mp e)
      rw [ez] at tl
      have x111 : ∀ Q' : zO → zH → Prop, z_Cl 111 [.ref 0, .ref a] (ch h G) Q' = _ := fun Q' => t111 hiG.S hok ((a2.onch (G := G) hi.1).q) hE
      simp (disch := first | omega | assumption | exact zq_r _ | exact zn_0 | exact zo_i _ | exact zo_r _ | exact zq_k _ | exact zq_n | exact zn_1 _ | exact zn_2 _ _ | exact zn_3 _ _ _ | exact zn_4 _ _ _ _ | exact zn_5 _ _ _ _ _ | exact zc_i _ | exact zc_r _ | exact zo_l _ | exact zo_k _ | exact zo_n | exact zc_rk _ | (rw [zx_id (by omega)]; omega) | (rw [zw_id (by omega)]; omega) | (apply z_ok_v; assumption) | (simp only [z_new_1, z_pu_1, mh_1]; omega)) only [z_EvO_some, z_EvG_t, z_Bk_n, z_Bk_s, z_brT, z_brF, z_br_pos, z_br_neg, not_true_eq_false, not_false_eq_true, Bool.true_eq_false, Bool.false_eq_true, Bool.not_eq_false, Bool.not_eq_true, eq_self, z_kl_i, z_kl_l, z_kl_r, z_kl_k, z_kl_n, z_kl_u, z_kl_v, zi_f, zl_f, z_put_r, z_nul_n, z_nul_r, zcmp_lt, zcmp_le, zcmp_ge, zcmp_gt, zcmp_eq, zw_id, zx_id, Nat.reduceAdd, z_tf_i, z_tf_l, z_tf_z, zl_zx, zi_zw, z_gf0, z_gf1, z_gf2, z_gf3, z_gf4, z_gf5, z_gf6, z_gf7, z_pf0, z_pf1, z_pf2, z_pf3, z_pf4, z_pf5, z_pf6, z_pf7, z_ob1, zb_0, zb_1, zb_tf, cat_o, cat_k, ch_1, cgf0_0, cgf0_1, cgf0_2, cgf0_3, cpf0_3, cgf0_4, cgf0_5, cgf0_6, cgf0_7, cpf0_7, cob_0, cat_0, cpu_0, cgf5_0, cgf5_1, cpf5_1, cob_5, cat_5, cpu_5, cat_6, cpu_6, cgf7_0, cgf7_1, cpf7_1, cgf7_2, cpf7_2, cgf7_3, cpf7_3, cgf7_4, cgf7_5, cgf7_6, cpf7_6, cgf7_7, cpf7_7, cob_7, cat_7, cpu_7, cat_8, cpu_8, cat_9, cpu_9, cat_10, cpu_10, cat_11, cpu_11, zg_ai_A, zg_al_A, zg_si_A, zg_sl_A, zg_ab_b, zg_sb_b, z_len_A, z_len_L, r209_0, r209_1, r209_4, r209_7, r209_8, r209_11, r209_12, r209_15, r209_16, r209_17, r209_18, r209_21, r209_24, r209_27, r209_32, r209_33, r209_36, r209_39, r209_42, r209_43, r209_44, r209_46, r209_47, r209_50, r209_53, r209_54, r209_55, r209_58, r209_59, r209_60, r209_63, r209_66, r209_69, r209_70, r209_71, r209_74, r209_75, r209_76, r209_79, r209_83, r209_84, r209_85, r209_88, r209_89, r209_90, r209_93, r209_94, r209_95, r209_96, r209_98, r209_101, r209_103, r209_104, r209_107, r209_110, r209_111, r209_114, r209_117, r209_118, r209_121, r209_124, hG, o4, ex, x111]
      exact tl l4 l5
theorem t18 : z_Cl 18 [.ref 7] (ch h G) Q = Q (.inl none) (ch h (va_up G 7 (va_up (va_up (va_up (G 7) 2 0) 6 0) 7 (-1)))) := by
  have e : ∀ y z : Nat → Int, va_up (va_up G 7 y) 7 z = va_up G 7 z := fun y z => by
    funext a
    by_cases ha : a = 7
    · rw [ha, va_up_self, va_up_self]
    · rw [va_up_ne _ _ ha, va_up_ne _ _ ha, va_up_ne _ _ ha]
  have e7 : ∀ y : Nat → Int, va_up G 7 y 7 = y := fun y => va_up_self _ _ _
  simp (disch := first | omega | assumption | exact zq_r _ | exact zn_0 | exact zo_i _ | exact zo_r _ | exact zq_k _ | exact zq_n | exact zn_1 _ | exact zn_2 _ _ | exact zn_3 _ _ _ | exact zn_4 _ _ _ _ | exact zn_5 _ _ _ _ _ | exact zc_i _ | exact zc_r _ | exact zo_l _ | exact zo_k _ | exact zo_n | exact zc_rk _ | (rw [zx_id (by omega)]; omega) | (rw [zw_id (by omega)]; omega) | (apply z_ok_v; assumption) | (simp only [z_new_1, z_pu_1, mh_1]; omega)) only [z_EvO_some, z_EvG_t, z_Bk_n, z_Bk_s, z_brT, z_brF, z_br_pos, z_br_neg, not_true_eq_false, not_false_eq_true, Bool.true_eq_false, Bool.false_eq_true, Bool.not_eq_false, Bool.not_eq_true, eq_self, z_kl_i, z_kl_l, z_kl_r, z_kl_k, z_kl_n, z_kl_u, z_kl_v, zi_f, zl_f, z_put_r, z_nul_n, z_nul_r, zcmp_lt, zcmp_le, zcmp_ge, zcmp_gt, zcmp_eq, zw_id, zx_id, Nat.reduceAdd, z_tf_i, z_tf_l, z_tf_z, zl_zx, zi_zw, z_gf0, z_gf1, z_gf2, z_gf3, z_gf4, z_gf5, z_gf6, z_gf7, z_pf0, z_pf1, z_pf2, z_pf3, z_pf4, z_pf5, z_pf6, z_pf7, z_ob1, zb_0, zb_1, zb_tf, cat_o, cat_k, ch_1, cgf0_0, cgf0_1, cgf0_2, cgf0_3, cpf0_3, cgf0_4, cgf0_5, cgf0_6, cgf0_7, cpf0_7, cob_0, cat_0, cpu_0, cgf5_0, cgf5_1, cpf5_1, cob_5, cat_5, cpu_5, cat_6, cpu_6, cgf7_0, cgf7_1, cpf7_1, cgf7_2, cpf7_2, cgf7_3, cpf7_3, cgf7_4, cgf7_5, cgf7_6, cpf7_6, cgf7_7, cpf7_7, cob_7, cat_7, cpu_7, cat_8, cpu_8, cat_9, cpu_9, cat_10, cpu_10, cat_11, cpu_11, zg_ai_A, zg_al_A, zg_si_A, zg_sl_A, zg_ab_b, zg_sb_b, z_len_A, z_len_L, e18, r18_0, r18_1, r18_2, r18_5, r18_6, r18_7, r18_10, r18_11, r18_12, r18_15, e, e7]
end ZCc
