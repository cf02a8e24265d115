/-! times -/
def znum (w : List Int) (a b x : Int) : Int := if b - a = 1 ∨ b - a = 2 then (if zdgs (zsub w a.toNat b.toNat) 0 ≤ x then zdgs (zsub w a.toNat b.toNat) 0 else -1000000) else -1000000
def zsix (w : List Int) (a : Int) : Int := if a + 3 ≤ w.length ∧ w.getD a.toNat 0 = 58 ∧ zdgs (zsub w (a.toNat + 1) (a.toNat + 3)) 0 ≤ 59 then zdgs (zsub w (a.toNat + 1) (a.toNat + 3)) 0 else -1000000
theorem znum_r (w : List Int) (a b x : Int) (ha : 0 ≤ a) (hb : b ≤ w.length) : znum w a b x = -1000000 ∨ (0 ≤ znum w a b x ∧ znum w a b x ≤ 99 ∧ znum w a b x ≤ x) := by
  unfold znum
  split
  · rename_i hl
    have hlen : (zsub w a.toNat b.toNat).length ≤ 2 := by rw [zsub_len (by omega) (by omega)]; omega
    split
    · rename_i hx
      generalize hq : zsub w a.toNat b.toNat = l at *
      match l, hlen with
      | [], _ => have := zsub_len (w := w) (a := a.toNat) (b := b.toNat) (by omega) (by omega); rw [hq] at this; simp at this; omega
      | [c], _ =>
        rw [zdgs_1] at hx ⊢
        split at hx
        · rename_i h1
          have := (zdig_iff c).mp h1
          rw [if_pos h1]
          omega
        · rename_i h1
          rw [if_neg h1]
          exact Or.inl rfl
      | [c, d], _ =>
        rw [zdgs_2] at hx ⊢
        split at hx
        · rename_i h1
          have := (zdig_iff c).mp h1.1
          have := (zdig_iff d).mp h1.2
          rw [if_pos h1]
          omega
        · rename_i h1
          rw [if_neg h1]
          exact Or.inl rfl
      | _ :: _ :: _ :: _, hl => simp at hl
    · exact Or.inl rfl
  · exact Or.inl rfl
theorem zsix_r (w : List Int) (a : Int) (ha : 0 ≤ a) : zsix w a = -1000000 ∨ (0 ≤ zsix w a ∧ zsix w a ≤ 59) := by
  unfold zsix
  split
  · rename_i hl
    rcases zdgs_r (l := zsub w (a.toNat + 1) (a.toNat + 3)) (by rw [zsub_len (by omega) (by omega)]; omega) with h1 | h1
    · exact Or.inl h1
    · exact Or.inr ⟨h1.1, hl.2.2⟩
  · exact Or.inl rfl
theorem zix_r (c : Int) : ∀ (w : List Int) (i : Int), zix c w i = -1 ∨ (i ≤ zix c w i ∧ zix c w i < i + w.length) := by
  intro w
  induction w with
  | nil => intro i; exact Or.inl rfl
  | cons a r ih =>
    intro i
    rw [zix]
    split
    · right; simp; omega
    · rcases ih (i + 1) with h1 | h1
      · exact Or.inl h1
      · right; simp; omega
/-- what the class makes of a word, step by step -/
def ztE (w : List Int) (f e : Int) : Int := if (w.length : Int) - e ≠ 0 ∧ (w.length : Int) - e ≠ 3 ∧ (w.length : Int) - e ≠ 6 then -1000000 else if znum w f e 24 = -1000000 ∨ ((w.length : Int) - e ≠ 0 ∧ zsix w e = -1000000) ∨ ((w.length : Int) - e = 6 ∧ zsix w (e + 3) = -1000000) then -1000000 else (if f = 1 then -1 else 1) * (znum w f e 24 * 3600 + (if (w.length : Int) - e = 0 then 0 else zsix w e) * 60 + (if (w.length : Int) - e < 6 then 0 else zsix w (e + 3)))
def zt_f (w : List Int) : Int := if 0 < w.length ∧ w.getD 0 0 = 45 then 1 else 0
def zt_e (w : List Int) : Int := if zix 58 w 0 < 0 then w.length else zix 58 w 0
section ZTm
variable {h : zH} {Q : zO → zH → Prop} {a b c x y : Int} {v v2 : Value} {w w2 : List Int}
theorem u171 (hs : zSt h v w) (ha : 0 ≤ a ∧ a ≤ 1000) (hb : 0 ≤ b ∧ b ≤ w.length) (hx : 0 ≤ x ∧ x ≤ 1000) : z_Cl 171 [v, zi a, zi b, zi x] h Q = Q (.inl (some (zi (znum w a b x)))) h := s171 hs ha hb hx
theorem u174 (hs : zSt h v w) (ha : 0 ≤ a ∧ a ≤ 1000) : z_Cl 174 [v, zi a] h Q = Q (.inl (some (zi (zsix w a)))) h := s174 hs ha
theorem s196 (hs : zSt h v w) : z_Cl 196 [v] h Q = Q (.inl (some (zi (ztE w (zt_f w) (zt_e w))))) h := by
  have hv := zSt_rf hs
  have hw := zSt_w hs
  have hr := zix_r 58 w 0
  have hf : zt_f w = 0 ∨ zt_f w = 1 := by unfold zt_f; split <;> simp
  have he : 0 ≤ zt_e w ∧ zt_e w ≤ w.length := by unfold zt_e; split <;> omega
  have key : ∀ (f e c : Int) (l4 l5 l6 l7 l8 : Value), (f = 0 ∨ f = 1) → (0 ≤ e ∧ e ≤ w.length) → z_Ev 196 43 [v, zi f, zi c, zi e, l4, l5, l6, l7, l8] [] h Q = Q (.inl (some (zi (ztE w f e)))) h := by
    intro f e c l4 l5 l6 l7 l8 hf he
    have n1 := znum_r w f e 24 (by omega) (by omega)
    have n2 := zsix_r w e (by omega)
    have n3 := zsix_r w (e + 3) (by omega)
    unfold ztE
    simp (disch := first | omega | assumption | exact zq_r _ | exact zn_0 | exact zo_i _ | exact zo_r _ | exact zq_k _ | exact zq_n | exact zn_1 _ | exact zn_2 _ _ | exact zn_3 _ _ _ | exact zn_4 _ _ _ _ | exact zn_5 _ _ _ _ _ | exact zc_i _ | exact zc_r _ | exact zo_l _ | exact zo_k _ | exact zo_n | exact zc_rk _ | (rw [zx_id (by omega)]; omega) | (rw [zw_id (by omega)]; omega) | (apply z_ok_v; assumption)) only [z_EvO_some, z_EvG_t, z_Bk_n, z_Bk_s, z_brT, z_brF, z_br_pos, z_br_neg, not_true_eq_false, not_false_eq_true, Bool.true_eq_false, Bool.false_eq_true, Bool.not_eq_false, Bool.not_eq_true, eq_self, z_kl_i, z_kl_l, z_kl_r, z_kl_k, z_kl_n, z_kl_u, z_kl_v, zi_f, zl_f, z_put_r, z_nul_n, z_nul_r, zcmp_lt, zcmp_le, zcmp_ge, zcmp_gt, zcmp_eq, zw_id, zx_id, Nat.reduceAdd, z_tf_i, z_tf_l, z_tf_z, zl_zx, zi_zw, z_gf0, z_gf1, z_gf2, z_gf3, z_gf4, z_gf5, z_gf6, z_gf7, z_pf0, z_pf1, z_pf2, z_pf3, z_pf4, z_pf5, z_pf6, z_pf7, z_ob1, zb_0, zb_1, zb_tf, r196_0, r196_1, r196_4, r196_7, r196_8, r196_9, r196_12, r196_14, r196_17, r196_18, r196_21, r196_22, r196_23, r196_24, r196_26, r196_29, r196_30, r196_31, r196_34, r196_35, r196_38, r196_41, r196_42, r196_43, r196_44, r196_47, r196_48, r196_49, r196_51, r196_53, r196_56, r196_58, r196_59, r196_62, r196_64, r196_66, r196_69, r196_71, r196_72, r196_73, r196_74, r196_75, r196_77, r196_80, r196_82, r196_84, r196_87, r196_88, r196_91, r196_92, r196_93, r196_96, r196_98, r196_100, r196_102, r196_105, r196_106, r196_109, r196_110, r196_111, r196_112, r196_113, r196_116, r196_118, r196_120, r196_122, r196_125, r196_127, r196_129, r196_132, r196_134, r196_136, r196_139, r196_141, r196_142, r196_144, r196_147, r196_148, r196_150, r196_152, r196_153, r196_154, r196_156, r196_157, r196_159, r196_160, r196_161, r196_164, r196_166, r196_167, r196_170, r196_172, t103 hs, zSt_ob hs, u171 hs, u174 hs]
    repeat' (first | refine z_br_eq (fun _ => ?_) (fun _ => ?_) | simp (disch := first | omega | assumption | exact zq_r _ | exact zn_0 | exact zo_i _ | exact zo_r _ | exact zq_k _ | exact zq_n | exact zn_1 _ | exact zn_2 _ _ | exact zn_3 _ _ _ | exact zn_4 _ _ _ _ | exact zn_5 _ _ _ _ _ | exact zc_i _ | exact zc_r _ | exact zo_l _ | exact zo_k _ | exact zo_n | exact zc_rk _ | (rw [zx_id (by omega)]; omega) | (rw [zw_id (by omega)]; omega) | (apply z_ok_v; assumption)) only [z_EvO_some, z_EvG_t, z_Bk_n, z_Bk_s, z_brT, z_brF, z_br_pos, z_br_neg, not_true_eq_false, not_false_eq_true, Bool.true_eq_false, Bool.false_eq_true, Bool.not_eq_false, Bool.not_eq_true, eq_self, z_kl_i, z_kl_l, z_kl_r, z_kl_k, z_kl_n, z_kl_u, z_kl_v, zi_f, zl_f, z_put_r, z_nul_n, z_nul_r, zcmp_lt, zcmp_le, zcmp_ge, zcmp_gt, zcmp_eq, zw_id, zx_id, Nat.reduceAdd, z_tf_i, z_tf_l, z_tf_z, zl_zx, zi_zw, z_gf0, z_gf1, z_gf2, z_gf3, z_gf4, z_gf5, z_gf6, z_gf7, z_pf0, z_pf1, z_pf2, z_pf3, z_pf4, z_pf5, z_pf6, z_pf7, z_ob1, zb_0, zb_1, zb_tf, r196_0, r196_1, r196_4, r196_7, r196_8, r196_9, r196_12, r196_14, r196_17, r196_18, r196_21, r196_22, r196_23, r196_24, r196_26, r196_29, r196_30, r196_31, r196_34, r196_35, r196_38, r196_41, r196_42, r196_43, r196_44, r196_47, r196_48, r196_49, r196_51, r196_53, r196_56, r196_58, r196_59, r196_62, r196_64, r196_66, r196_69, r196_71, r196_72, r196_73, r196_74, r196_75, r196_77, r196_80, r196_82, r196_84, r196_87, r196_88, r196_91, r196_92, r196_93, r196_96, r196_98, r196_100, r196_102, r196_105, r196_106, r196_109, r196_110, r196_111, r196_112, r196_113, r196_116, r196_118, r196_120, r196_122, r196_125, r196_127, r196_129, r196_132, r196_134, r196_136, r196_139, r196_141, r196_142, r196_144, r196_147, r196_148, r196_150, r196_152, r196_153, r196_154, r196_156, r196_157, r196_159, r196_160, r196_161, r196_164, r196_166, r196_167, r196_170, r196_172, t103 hs, zSt_ob hs, u171 hs, u174 hs])
    all_goals ((repeat' split) <;> first | rfl | (exfalso; omega) | exact z_qi (by omega))
  have b0 : 0 < w.length → 0 ≤ w.getD (0 : Int).toNat 0 ∧ w.getD (0 : Int).toNat 0 ≤ 127 := fun q => zw_c hw.2 0 q
  have key2 : ∀ (f : Int) (l2 l3 l4 l5 l6 l7 l8 : Value), f = zt_f w → z_Ev 196 23 [v, zi f, l2, l3, l4, l5, l6, l7, l8] [] h Q = Q (.inl (some (zi (ztE w (zt_f w) (zt_e w))))) h := by
    intro f l2 l3 l4 l5 l6 l7 l8 hff
    subst hff
    by_cases hc : zix 58 w 0 < 0
    · have e1 : zt_e w = w.length := by unfold zt_e; rw [if_pos hc]
      simp (disch := first | omega | assumption | exact zq_r _ | exact zn_0 | exact zo_i _ | exact zo_r _ | exact zq_k _ | exact zq_n | exact zn_1 _ | exact zn_2 _ _ | exact zn_3 _ _ _ | exact zn_4 _ _ _ _ | exact zn_5 _ _ _ _ _ | exact zc_i _ | exact zc_r _ | exact zo_l _ | exact zo_k _ | exact zo_n | exact zc_rk _ | (rw [zx_id (by omega)]; omega) | (rw [zw_id (by omega)]; omega) | (apply z_ok_v; assumption)) only [z_EvO_some, z_EvG_t, z_Bk_n, z_Bk_s, z_brT, z_brF, z_br_pos, z_br_neg, not_true_eq_false, not_false_eq_true, Bool.true_eq_false, Bool.false_eq_true, Bool.not_eq_false, Bool.not_eq_true, eq_self, z_kl_i, z_kl_l, z_kl_r, z_kl_k, z_kl_n, z_kl_u, z_kl_v, zi_f, zl_f, z_put_r, z_nul_n, z_nul_r, zcmp_lt, zcmp_le, zcmp_ge, zcmp_gt, zcmp_eq, zw_id, zx_id, Nat.reduceAdd, z_tf_i, z_tf_l, z_tf_z, zl_zx, zi_zw, z_gf0, z_gf1, z_gf2, z_gf3, z_gf4, z_gf5, z_gf6, z_gf7, z_pf0, z_pf1, z_pf2, z_pf3, z_pf4, z_pf5, z_pf6, z_pf7, z_ob1, zb_0, zb_1, zb_tf, r196_0, r196_1, r196_4, r196_7, r196_8, r196_9, r196_12, r196_14, r196_17, r196_18, r196_21, r196_22, r196_23, r196_24, r196_26, r196_29, r196_30, r196_31, r196_34, r196_35, r196_38, r196_41, r196_42, r196_44, r196_47, r196_48, r196_49, r196_51, r196_53, r196_56, r196_58, r196_59, r196_62, r196_64, r196_66, r196_69, r196_71, r196_72, r196_73, r196_74, r196_75, r196_77, r196_80, r196_82, r196_84, r196_87, r196_88, r196_91, r196_92, r196_93, r196_96, r196_98, r196_100, r196_102, r196_105, r196_106, r196_109, r196_110, r196_111, r196_112, r196_113, r196_116, r196_118, r196_120, r196_122, r196_125, r196_127, r196_129, r196_132, r196_134, r196_136, r196_139, r196_141, r196_142, r196_144, r196_147, r196_148, r196_150, r196_152, r196_153, r196_154, r196_156, r196_157, r196_159, r196_160, r196_161, r196_164, r196_166, r196_167, r196_170, r196_172, t103 hs, zSt_ob hs, t145 hs]
      rw [key _ _ _ _ _ _ _ _ hf (by omega), e1]
    · have e1 : zt_e w = zix 58 w 0 := by unfold zt_e; rw [if_neg hc]
      simp (disch := first | omega | assumption | exact zq_r _ | exact zn_0 | exact zo_i _ | exact zo_r _ | exact zq_k _ | exact zq_n | exact zn_1 _ | exact zn_2 _ _ | exact zn_3 _ _ _ | exact zn_4 _ _ _ _ | exact zn_5 _ _ _ _ _ | exact zc_i _ | exact zc_r _ | exact zo_l _ | exact zo_k _ | exact zo_n | exact zc_rk _ | (rw [zx_id (by omega)]; omega) | (rw [zw_id (by omega)]; omega) | (apply z_ok_v; assumption)) only [z_EvO_some, z_EvG_t, z_Bk_n, z_Bk_s, z_brT, z_brF, z_br_pos, z_br_neg, not_true_eq_false, not_false_eq_true, Bool.true_eq_false, Bool.false_eq_true, Bool.not_eq_false, Bool.not_eq_true, eq_self, z_kl_i, z_kl_l, z_kl_r, z_kl_k, z_kl_n, z_kl_u, z_kl_v, zi_f, zl_f, z_put_r, z_nul_n, z_nul_r, zcmp_lt, zcmp_le, zcmp_ge, zcmp_gt, zcmp_eq, zw_id, zx_id, Nat.reduceAdd, z_tf_i, z_tf_l, z_tf_z, zl_zx, zi_zw, z_gf0, z_gf1, z_gf2, z_gf3, z_gf4, z_gf5, z_gf6, z_gf7, z_pf0, z_pf1, z_pf2, z_pf3, z_pf4, z_pf5, z_pf6, z_pf7, z_ob1, zb_0, zb_1, zb_tf, r196_0, r196_1, r196_4, r196_7, r196_8, r196_9, r196_12, r196_14, r196_17, r196_18, r196_21, r196_22, r196_23, r196_24, r196_26, r196_29, r196_30, r196_31, r196_34, r196_35, r196_38, r196_41, r196_42, r196_44, r196_47, r196_48, r196_49, r196_51, r196_53, r196_56, r196_58, r196_59, r196_62, r196_64, r196_66, r196_69, r196_71, r196_72, r196_73, r196_74, r196_75, r196_77, r196_80, r196_82, r196_84, r196_87, r196_88, r196_91, r196_92, r196_93, r196_96, r196_98, r196_100, r196_102, r196_105, r196_106, r196_109, r196_110, r196_111, r196_112, r196_113, r196_116, r196_118, r196_120, r196_122, r196_125, r196_127, r196_129, r196_132, r196_134, r196_136, r196_139, r196_141, r196_142, r196_144, r196_147, r196_148, r196_150, r196_152, r196_153, r196_154, r196_156, r196_157, r196_159, r196_160, r196_161, r196_164, r196_166, r196_167, r196_170, r196_172, t103 hs, zSt_ob hs, t145 hs]
      rw [key _ _ _ _ _ _ _ _ hf (by omega), e1]
  by_cases h0 : w.length = 0
  · simp (disch := first | omega | assumption | exact zq_r _ | exact zn_0 | exact zo_i _ | exact zo_r _ | exact zq_k _ | exact zq_n | exact zn_1 _ | exact zn_2 _ _ | exact zn_3 _ _ _ | exact zn_4 _ _ _ _ | exact zn_5 _ _ _ _ _ | exact zc_i _ | exact zc_r _ | exact zo_l _ | exact zo_k _ | exact zo_n | exact zc_rk _ | (rw [zx_id (by omega)]; omega) | (rw [zw_id (by omega)]; omega) | (apply z_ok_v; assumption)) only [z_EvO_some, z_EvG_t, z_Bk_n, z_Bk_s, z_brT, z_brF, z_br_pos, z_br_neg, not_true_eq_false, not_false_eq_true, Bool.true_eq_false, Bool.false_eq_true, Bool.not_eq_false, Bool.not_eq_true, eq_self, z_kl_i, z_kl_l, z_kl_r, z_kl_k, z_kl_n, z_kl_u, z_kl_v, zi_f, zl_f, z_put_r, z_nul_n, z_nul_r, zcmp_lt, zcmp_le, zcmp_ge, zcmp_gt, zcmp_eq, zw_id, zx_id, Nat.reduceAdd, z_tf_i, z_tf_l, z_tf_z, zl_zx, zi_zw, z_gf0, z_gf1, z_gf2, z_gf3, z_gf4, z_gf5, z_gf6, z_gf7, z_pf0, z_pf1, z_pf2, z_pf3, z_pf4, z_pf5, z_pf6, z_pf7, z_ob1, zb_0, zb_1, zb_tf, e196, r196_0, r196_1, r196_4, r196_7, r196_8, r196_9, r196_12, r196_14, r196_17, r196_18, r196_21, r196_22, r196_24, r196_26, r196_29, r196_30, r196_31, r196_34, r196_35, r196_38, r196_41, r196_42, r196_43, r196_44, r196_47, r196_48, r196_49, r196_51, r196_53, r196_56, r196_58, r196_59, r196_62, r196_64, r196_66, r196_69, r196_71, r196_72, r196_73, r196_74, r196_75, r196_77, r196_80, r196_82, r196_84, r196_87, r196_88, r196_91, r196_92, r196_93, r196_96, r196_98, r196_100, r196_102, r196_105, r196_106, r196_109, r196_110, r196_111, r196_112, r196_113, r196_116, r196_118, r196_120, r196_122, r196_125, r196_127, r196_129, r196_132, r196_134, r196_136, r196_139, r196_141, r196_142, r196_144, r196_147, r196_148, r196_150, r196_152, r196_153, r196_154, r196_156, r196_157, r196_159, r196_160, r196_161, r196_164, r196_166, r196_167, r196_170, r196_172, zSt_ob hs, t65 hs, h0, decide_true]
    exact key2 _ _ _ _ _ _ _ _ (by unfold zt_f; rw [if_neg (by omega)])
  · have hb0 := b0 (by omega)
    simp (disch := first | omega | assumption | exact zq_r _ | exact zn_0 | exact zo_i _ | exact zo_r _ | exact zq_k _ | exact zq_n | exact zn_1 _ | exact zn_2 _ _ | exact zn_3 _ _ _ | exact zn_4 _ _ _ _ | exact zn_5 _ _ _ _ _ | exact zc_i _ | exact zc_r _ | exact zo_l _ | exact zo_k _ | exact zo_n | exact zc_rk _ | (rw [zx_id (by omega)]; omega) | (rw [zw_id (by omega)]; omega) | (apply z_ok_v; assumption)) only [z_EvO_some, z_EvG_t, z_Bk_n, z_Bk_s, z_brT, z_brF, z_br_pos, z_br_neg, not_true_eq_false, not_false_eq_true, Bool.true_eq_false, Bool.false_eq_true, Bool.not_eq_false, Bool.not_eq_true, eq_self, z_kl_i, z_kl_l, z_kl_r, z_kl_k, z_kl_n, z_kl_u, z_kl_v, zi_f, zl_f, z_put_r, z_nul_n, z_nul_r, zcmp_lt, zcmp_le, zcmp_ge, zcmp_gt, zcmp_eq, zw_id, zx_id, Nat.reduceAdd, z_tf_i, z_tf_l, z_tf_z, zl_zx, zi_zw, z_gf0, z_gf1, z_gf2, z_gf3, z_gf4, z_gf5, z_gf6, z_gf7, z_pf0, z_pf1, z_pf2, z_pf3, z_pf4, z_pf5, z_pf6, z_pf7, z_ob1, zb_0, zb_1, zb_tf, e196, r196_0, r196_1, r196_4, r196_7, r196_8, r196_9, r196_12, r196_14, r196_17, r196_18, r196_21, r196_22, r196_24, r196_26, r196_29, r196_30, r196_31, r196_34, r196_35, r196_38, r196_41, r196_42, r196_43, r196_44, r196_47, r196_48, r196_49, r196_51, r196_53, r196_56, r196_58, r196_59, r196_62, r196_64, r196_66, r196_69, r196_71, r196_72, r196_73, r196_74, r196_75, r196_77, r196_80, r196_82, r196_84, r196_87, r196_88, r196_91, r196_92, r196_93, r196_96, r196_98, r196_100, r196_102, r196_105, r196_106, r196_109, r196_110, r196_111, r196_112, r196_113, r196_116, r196_118, r196_120, r196_122, r196_125, r196_127, r196_129, r196_132, r196_134, r196_136, r196_139, r196_141, r196_142, r196_144, r196_147, r196_148, r196_150, r196_152, r196_153, r196_154, r196_156, r196_157, r196_159, r196_160, r196_161, r196_164, r196_166, r196_167, r196_170, r196_172, zSt_ob hs, t65 hs, h0, decide_false, t144 hs]
    refine z_br_eq (fun hq => ?_) (fun hq => ?_)
    · simp (disch := first | omega | assumption | exact zq_r _ | exact zn_0 | exact zo_i _ | exact zo_r _ | exact zq_k _ | exact zq_n | exact zn_1 _ | exact zn_2 _ _ | exact zn_3 _ _ _ | exact zn_4 _ _ _ _ | exact zn_5 _ _ _ _ _ | exact zc_i _ | exact zc_r _ | exact zo_l _ | exact zo_k _ | exact zo_n | exact zc_rk _ | (rw [zx_id (by omega)]; omega) | (rw [zw_id (by omega)]; omega) | (apply z_ok_v; assumption)) only [z_EvO_some, z_EvG_t, z_Bk_n, z_Bk_s, z_brT, z_brF, z_br_pos, z_br_neg, not_true_eq_false, not_false_eq_true, Bool.true_eq_false, Bool.false_eq_true, Bool.not_eq_false, Bool.not_eq_true, eq_self, z_kl_i, z_kl_l, z_kl_r, z_kl_k, z_kl_n, z_kl_u, z_kl_v, zi_f, zl_f, z_put_r, z_nul_n, z_nul_r, zcmp_lt, zcmp_le, zcmp_ge, zcmp_gt, zcmp_eq, zw_id, zx_id, Nat.reduceAdd, z_tf_i, z_tf_l, z_tf_z, zl_zx, zi_zw, z_gf0, z_gf1, z_gf2, z_gf3, z_gf4, z_gf5, z_gf6, z_gf7, z_pf0, z_pf1, z_pf2, z_pf3, z_pf4, z_pf5, z_pf6, z_pf7, z_ob1, zb_0, zb_1, zb_tf, r196_0, r196_1, r196_4, r196_7, r196_8, r196_9, r196_12, r196_14, r196_17, r196_18, r196_21, r196_22, r196_24, r196_26, r196_29, r196_30, r196_31, r196_34, r196_35, r196_38, r196_41, r196_42, r196_43, r196_44, r196_47, r196_48, r196_49, r196_51, r196_53, r196_56, r196_58, r196_59, r196_62, r196_64, r196_66, r196_69, r196_71, r196_72, r196_73, r196_74, r196_75, r196_77, r196_80, r196_82, r196_84, r196_87, r196_88, r196_91, r196_92, r196_93, r196_96, r196_98, r196_100, r196_102, r196_105, r196_106, r196_109, r196_110, r196_111, r196_112, r196_113, r196_116, r196_118, r196_120, r196_122, r196_125, r196_127, r196_129, r196_132, r196_134, r196_136, r196_139, r196_141, r196_142, r196_144, r196_147, r196_148, r196_150, r196_152, r196_153, r196_154, r196_156, r196_157, r196_159, r196_160, r196_161, r196_164, r196_166, r196_167, r196_170, r196_172]
      exact key2 _ _ _ _ _ _ _ _ (by unfold zt_f; rw [if_neg (fun q => hq q.2)])
    · simp (disch := first | omega | assumption | exact zq_r _ | exact zn_0 | exact zo_i _ | exact zo_r _ | exact zq_k _ | exact zq_n | exact zn_1 _ | exact zn_2 _ _ | exact zn_3 _ _ _ | exact zn_4 _ _ _ _ | exact zn_5 _ _ _ _ _ | exact zc_i _ | exact zc_r _ | exact zo_l _ | exact zo_k _ | exact zo_n | exact zc_rk _ | (rw [zx_id (by omega)]; omega) | (rw [zw_id (by omega)]; omega) | (apply z_ok_v; assumption)) only [z_EvO_some, z_EvG_t, z_Bk_n, z_Bk_s, z_brT, z_brF, z_br_pos, z_br_neg, not_true_eq_false, not_false_eq_true, Bool.true_eq_false, Bool.false_eq_true, Bool.not_eq_false, Bool.not_eq_true, eq_self, z_kl_i, z_kl_l, z_kl_r, z_kl_k, z_kl_n, z_kl_u, z_kl_v, zi_f, zl_f, z_put_r, z_nul_n, z_nul_r, zcmp_lt, zcmp_le, zcmp_ge, zcmp_gt, zcmp_eq, zw_id, zx_id, Nat.reduceAdd, z_tf_i, z_tf_l, z_tf_z, zl_zx, zi_zw, z_gf0, z_gf1, z_gf2, z_gf3, z_gf4, z_gf5, z_gf6, z_gf7, z_pf0, z_pf1, z_pf2, z_pf3, z_pf4, z_pf5, z_pf6, z_pf7, z_ob1, zb_0, zb_1, zb_tf, r196_0, r196_1, r196_4, r196_7, r196_8, r196_9, r196_12, r196_14, r196_17, r196_18, r196_21, r196_22, r196_24, r196_26, r196_29, r196_30, r196_31, r196_34, r196_35, r196_38, r196_41, r196_42, r196_43, r196_44, r196_47, r196_48, r196_49, r196_51, r196_53, r196_56, r196_58, r196_59, r196_62, r196_64, r196_66, r196_69, r196_71, r196_72, r196_73, r196_74, r196_75, r196_77, r196_80, r196_82, r196_84, r196_87, r196_88, r196_91, r196_92, r196_93, r196_96, r196_98, r196_100, r196_102, r196_105, r196_106, r196_109, r196_110, r196_111, r196_112, r196_113, r196_116, r196_118, r196_120, r196_122, r196_125, r196_127, r196_129, r196_132, r196_134, r196_136, r196_139, r196_141, r196_142, r196_144, r196_147, r196_148, r196_150, r196_152, r196_153, r196_154, r196_156, r196_157, r196_159, r196_160, r196_161, r196_164, r196_166, r196_167, r196_170, r196_172]
      exact key2 _ _ _ _ _ _ _ _ (by unfold zt_f; rw [if_pos ⟨by omega, by simpa using hq⟩])
end ZTm
