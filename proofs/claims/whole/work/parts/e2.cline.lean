/-! the class's standing, and a line -/
section ZMv
variable {s s' a p k : Nat} {h h' : zH} {w : List Int} {R : zRu} {E : zEr} {ks : List Int} {rs : List zRu} {Es : List zEr} {Ks : Nat → List Int} {Rs : Nat → List zRu}
theorem zSk.mv2 (hs : zSk s h p w) (hg : zAg s h h') (hF : zFr h) (hn : h.1 ≤ s') : zSk s' h' p w := by
  obtain ⟨q, r, u, ⟨b1, b2⟩, h1, h2, h3⟩ := hs
  have := zFr_lt hF h1 (zo_jk (by decide))
  have := zFr_lt hF h2 zA_jk
  exact ⟨q, r, u, ⟨⟨b1.1, by omega⟩, ⟨b2.1, by omega⟩⟩, hg.at hF b1 h1 (zo_jk (by decide)), hg.at hF b2 h2 zA_jk, h3⟩
theorem zRk.mv2 (hs : zRk s h a R) (hg : zAg s h h') (hF : zFr h) (hn : h.1 ≤ s') : zRk s' h' a R := by
  obtain ⟨d, c, v, ⟨b1, b2, b3⟩, h1, h2, h3, h4⟩ := hs
  have := zFr_lt hF h1 (zo_jk (by decide))
  have := zFr_lt hF h2 (zo_jk (by decide))
  have := zFr_lt hF h3 (zo_jk (by decide))
  refine ⟨d, c, v, ⟨⟨b1.1, by omega⟩, ⟨b2.1, by omega⟩, ⟨b3.1, by omega⟩⟩, hg.at hF b1 h1 (zo_jk (by decide)), hg.at hF b2 h2 (zo_jk (by decide)), hg.at hF b3 h3 (zo_jk (by decide)), ?_⟩
  rcases h4 with ⟨p, h4, h5⟩ | h4
  · exact Or.inl ⟨p, h4, h5.mv2 hg hF hn⟩
  · exact Or.inr h4
theorem zEk.mv2 (hs : zEk s h a E) (hg : zAg s h h') (hF : zFr h) (hn : h.1 ≤ s') : zEk s' h' a E := by
  obtain ⟨c, p, sec, ⟨b1, b2⟩, h1, h2, h3⟩ := hs
  have := zFr_lt hF h1 (zo_jk (by decide))
  have := zFr_lt hF h2 (zo_jk (by decide))
  exact ⟨c, p, sec, ⟨⟨b1.1, by omega⟩, ⟨b2.1, by omega⟩⟩, hg.at hF b1 h1 (zo_jk (by decide)), hg.at hF b2 h2 (zo_jk (by decide)), h3.mv2 hg hF hn⟩
theorem zCB.mv2 (hs : zCB s h Es Ks Rs) (hg : zAg s h h') (hF : zFr h) (hn : h.1 ≤ s') (hc : ∀ x : Nat, x = 3 ∨ x = 4 ∨ (12 ≤ x ∧ x ≤ 20) → z_at h' (.ref x) = z_at h (.ref x)) : zCB s' h' Es Ks Rs := by
  obtain ⟨PE, c1, c2, c3, c4, c5⟩ := hs
  refine ⟨PE, (hc 3 (by omega)).trans c1, (hc 4 (by omega)).trans c2, c3, fun i hi => ?_, fun k hk => ?_⟩
  · obtain ⟨a, e1, e2⟩ := c4 i hi
    exact ⟨a, e1, e2.mv2 hg hF hn⟩
  · obtain ⟨P, K, d1, d2, d3, d4, d5, d6, d7⟩ := c5 k hk
    refine ⟨P, K, (hc _ (by omega)).trans d1, (hc _ (by omega)).trans d2, (hc _ (by omega)).trans d3, d4, d5, d6, fun r hr => ?_⟩
    obtain ⟨a, e1, e2⟩ := d7 r hr
    exact ⟨a, e1, e2.mv2 hg hF hn⟩
end ZMv
/-- what a call of the class leaves alone -/
def zSm (K K' : zH) (A B : Nat) : Prop := K.1 ≤ K'.1 ∧ K'.1 ≤ K.1 + A ∧ K.2.1 ≤ K'.2.1 ∧ K'.2.1 ≤ K.2.1 + B ∧ (∀ a : Nat, 21 ≤ a ∧ a ≤ 62 → z_at K' (.ref a) = z_at K (.ref a)) ∧ ∀ k, z_at K' (.retAddr k) = z_at K (.retAddr k)
/-- how the class stands -/
def zCV (s : Nat) (K : zH) (G : Nat → Nat → Int) (w : List Int) (S : zStt) : Prop := zCI s K G S.1 S.2.1 S.2.2 ∧ ch K G = K ∧ zSB K s w ∧ (s = 2 ∨ (63 ≤ s ∧ s < K.1)) ∧ ∀ k, k < 3 → (S.2.1 k).length ≤ 68 * (S.2.2 k).length
section ZCl
variable {s : Nat} {K K' h h1 h2 : zH} {Q : zO → zH → Prop} {G : Nat → Nat → Int} {w w' : List Int} {S : zStt} {A B A2 B2 : Nat} {X Y : Nat → Prop}
theorem zEy.tr2 (x : zEy X h h1 A B) (y : zEy Y h1 h2 A2 B2) (hY : ∀ a, a < h.1 → Y a → X a) : zEy X h h2 (A + A2) (B + B2) := by
  obtain ⟨a1, a2, a3, a4, a5, a6, a7⟩ := x
  obtain ⟨b1, b2, b3, b4, b5, b6, b7⟩ := y
  exact ⟨by omega, by omega, by omega, by omega, fun a ha hX => (b5 a (by omega) (fun hy => hX (hY a ha hy))).trans (a5 a ha hX), fun k => (b6 k).trans (a6 k), b7⟩
theorem zLk.of (hk : zLk K) (hg : ∀ k, z_at K' (.retAddr k) = z_at K (.retAddr k)) : zLk K' := by
  obtain ⟨L, xs, e⟩ := hk
  exact ⟨L, xs, (funext hg).trans e⟩
theorem zEy.sm (y : zEy X K K' A B) (h63 : 63 ≤ K.1) (hX : ∀ a, X a → ¬ (21 ≤ a ∧ a ≤ 62)) : zSm K K' A B := ⟨y.1, y.2.1, y.2.2.1, y.2.2.2.1, fun a ha => y.2.2.2.2.1 a (by omega) (fun hx => hX a hx ha), y.2.2.2.2.2.1⟩
/-- only the draft has changed -/
theorem zCV.ey (hv : zCV s K G w S) (y : zEy (fun a => a = 1 ∨ a = s) K K' A B) (hb : zSB K' s w') : zCV s K' G w' S := by
  obtain ⟨hi, hc, hsb, hs, hl⟩ := hv
  obtain ⟨hF, hLk, h63, hCB, hok, hoc, hG⟩ := hi
  obtain ⟨y1, y2, y3, y4, y5, y6, y7⟩ := y
  refine ⟨⟨y7, hLk.of y6, by omega, ?_, hok, hoc, hG⟩, ?_, hb, by omega, hl⟩
  · exact hCB.ag (fun x hx hx2 => y5 x hx2 (by have := hx.1; have := hx.2; omega)) hF (fun x hx => y5 x (by omega) (by omega))
  · refine ch_of (h := K) (fun a ha => ?_)
    rw [hc]
    obtain ⟨b, hb2⟩ : ∃ b : Nat, b = a := ⟨a, rfl⟩
    subst hb2
    have ha : b = 0 ∨ (5 ≤ b ∧ b ≤ 11) := ha
    exact y5 b (by omega) (by omega)
/-- the draft's row has moved -/
theorem zCV.mv {s' : Nat} (hv : zCV s K G w S) (y : zEy (fun a => a = 1 ∨ a = s) K K' A B) (hb : zSB K' s' w') (hn : K.1 ≤ s') : zCV s' K' G w' S := by
  obtain ⟨hi, hc, hsb, hs, hl⟩ := hv
  obtain ⟨hF, hLk, h63, hCB, hok, hoc, hG⟩ := hi
  obtain ⟨y1, y2, y3, y4, y5, y6, y7⟩ := y
  have hlt : s' < K'.1 := by
    obtain ⟨m, N, u, q1, q2, q3⟩ := hb
    exact zFr_lt y7 q2 zA_jk
  refine ⟨⟨y7, hLk.of y6, by omega, ?_, hok, hoc, hG⟩, ?_, hb, by omega, hl⟩
  · exact hCB.mv2 (fun x hx hx2 => y5 x hx2 (by have := hx.1; have := hx.2; omega)) hF hn (fun x hx => y5 x (by omega) (by omega))
  · refine ch_of (h := K) (fun a ha => ?_)
    rw [hc]
    obtain ⟨b, hb2⟩ : ∃ b : Nat, b = a := ⟨a, rfl⟩
    subst hb2
    have ha : b = 0 ∨ (5 ≤ b ∧ b ≤ 11) := ha
    exact y5 b (by omega) (by omega)
theorem zCV.at0 (hv : zCV s K G w S) : z_at K (.ref 0) = .inr (0, cfs0 (G 0)) := by
  rw [← hv.2.1]
  exact cat_0
/-- an answer or a throw -/
def zTh (c v : Int) (K' : zH) (Q : zO → zH → Prop) : Prop := if c = 0 then Q (.inl (some (zi v))) K' else Q (.inr K'.1) (z_new K' 6 (.inr (if c = 1 then 13 else 12, [])))
theorem t211s {p L : Nat} (hl : zLn L h p w) (hn : zwn w ≠ 9) : z_Cl 211 [.ref p] h Q = Q (.inl (some .null)) h := by
  obtain ⟨t, sa, ea, B', E', q1, q2, q3, q4, q5, q6⟩ := hl
  have := zwn_r w
  simp (disch := first | omega | assumption | exact zq_r _ | exact zn_0 | exact zo_i _ | exact zo_r _ | exact zq_k _ | exact zq_n | exact zn_1 _ | exact zn_2 _ _ | exact zn_3 _ _ _ | exact zn_4 _ _ _ _ | exact zn_5 _ _ _ _ _ | exact zc_i _ | exact zc_r _ | exact zo_l _ | exact zo_k _ | exact zo_n | exact zc_rk _ | (rw [zx_id (by omega)]; omega) | (rw [zw_id (by omega)]; omega) | (apply z_ok_v; assumption) | (simp only [z_new_1, z_pu_1, mh_1]; omega)) only [z_EvO_some, z_EvG_t, z_Bk_n, z_Bk_s, z_brT, z_brF, z_br_pos, z_br_neg, not_true_eq_false, not_false_eq_true, Bool.true_eq_false, Bool.false_eq_true, Bool.not_eq_false, Bool.not_eq_true, eq_self, z_kl_i, z_kl_l, z_kl_r, z_kl_k, z_kl_n, z_kl_u, z_kl_v, zi_f, zl_f, z_put_r, z_nul_n, z_nul_r, zcmp_lt, zcmp_le, zcmp_ge, zcmp_gt, zcmp_eq, zw_id, zx_id, Nat.reduceAdd, z_tf_i, z_tf_l, z_tf_z, zl_zx, zi_zw, z_gf0, z_gf1, z_gf2, z_gf3, z_gf4, z_gf5, z_gf6, z_gf7, z_pf0, z_pf1, z_pf2, z_pf3, z_pf4, z_pf5, z_pf6, z_pf7, z_ob1, zb_0, zb_1, zb_tf, e211, r211_0, r211_1, r211_4, r211_6, r211_9, r211_10, r211_11, r211_14, r211_16, r211_19, r211_22, r211_23, r211_24, r211_25, r211_26, r211_29, r211_32, r211_33, r211_34, r211_35, r211_38, r211_39, r211_42, r211_43, r211_44, r211_45, r211_48, r211_51, r211_52, r211_53, r211_55, r211_58, r211_61, r211_63, r211_64, r211_66, r211_69, r211_70, r211_72, r211_75, r211_76, r211_77, r211_80, r211_81, r211_84, r211_86, r211_89, r211_90, r211_91, r211_94, r211_95, r211_96, r211_97, r211_98, r211_99, r211_101, r211_104, r211_106, r211_108, r211_111, r211_114, r211_116, r211_119, r211_120, q1]
theorem t214s {p L : Nat} (hl : zLn L h p w) (hn : ¬ (4 ≤ zwn w ∧ zwn w ≤ 8)) : z_Cl 214 [.ref p] h Q = Q (.inl (some .null)) h := by
  obtain ⟨t, sa, ea, B', E', q1, q2, q3, q4, q5, q6⟩ := hl
  have := zwn_r w
  by_cases h4 : zwn w < 4
  · simp (disch := first | omega | assumption | exact zq_r _ | exact zn_0 | exact zo_i _ | exact zo_r _ | exact zq_k _ | exact zq_n | exact zn_1 _ | exact zn_2 _ _ | exact zn_3 _ _ _ | exact zn_4 _ _ _ _ | exact zn_5 _ _ _ _ _ | exact zc_i _ | exact zc_r _ | exact zo_l _ | exact zo_k _ | exact zo_n | exact zc_rk _ | (rw [zx_id (by omega)]; omega) | (rw [zw_id (by omega)]; omega) | (apply z_ok_v; assumption) | (simp only [z_new_1, z_pu_1, mh_1]; omega)) only [z_EvO_some, z_EvG_t, z_Bk_n, z_Bk_s, z_brT, z_brF, z_br_pos, z_br_neg, not_true_eq_false, not_false_eq_true, Bool.true_eq_false, Bool.false_eq_true, Bool.not_eq_false, Bool.not_eq_true, eq_self, z_kl_i, z_kl_l, z_kl_r, z_kl_k, z_kl_n, z_kl_u, z_kl_v, zi_f, zl_f, z_put_r, z_nul_n, z_nul_r, zcmp_lt, zcmp_le, zcmp_ge, zcmp_gt, zcmp_eq, zw_id, zx_id, Nat.reduceAdd, z_tf_i, z_tf_l, z_tf_z, zl_zx, zi_zw, z_gf0, z_gf1, z_gf2, z_gf3, z_gf4, z_gf5, z_gf6, z_gf7, z_pf0, z_pf1, z_pf2, z_pf3, z_pf4, z_pf5, z_pf6, z_pf7, z_ob1, zb_0, zb_1, zb_tf, e214, r214_0, r214_1, r214_4, r214_5, r214_6, r214_7, r214_10, r214_11, r214_13, r214_16, r214_17, r214_18, r214_21, r214_23, r214_26, r214_29, r214_30, r214_31, r214_32, r214_33, r214_35, r214_38, r214_41, r214_42, r214_43, r214_44, r214_46, r214_49, r214_52, r214_53, r214_54, r214_56, r214_58, r214_61, r214_64, r214_66, r214_67, r214_69, r214_71, r214_74, r214_77, r214_79, r214_80, r214_82, r214_85, r214_86, r214_88, r214_91, r214_93, r214_96, r214_98, r214_101, r214_102, r214_103, r214_105, r214_106, r214_107, r214_110, r214_113, r214_114, r214_116, r214_119, r214_120, r214_121, r214_123, r214_126, r214_127, r214_128, r214_130, r214_132, r214_135, r214_137, r214_139, r214_142, r214_145, r214_147, r214_150, r214_151, q1]
  · simp (disch := first | omega | assumption | exact zq_r _ | exact zn_0 | exact zo_i _ | exact zo_r _ | exact zq_k _ | exact zq_n | exact zn_1 _ | exact zn_2 _ _ | exact zn_3 _ _ _ | exact zn_4 _ _ _ _ | exact zn_5 _ _ _ _ _ | exact zc_i _ | exact zc_r _ | exact zo_l _ | exact zo_k _ | exact zo_n | exact zc_rk _ | (rw [zx_id (by omega)]; omega) | (rw [zw_id (by omega)]; omega) | (apply z_ok_v; assumption) | (simp only [z_new_1, z_pu_1, mh_1]; omega)) only [z_EvO_some, z_EvG_t, z_Bk_n, z_Bk_s, z_brT, z_brF, z_br_pos, z_br_neg, not_true_eq_false, not_false_eq_true, Bool.true_eq_false, Bool.false_eq_true, Bool.not_eq_false, Bool.not_eq_true, eq_self, z_kl_i, z_kl_l, z_kl_r, z_kl_k, z_kl_n, z_kl_u, z_kl_v, zi_f, zl_f, z_put_r, z_nul_n, z_nul_r, zcmp_lt, zcmp_le, zcmp_ge, zcmp_gt, zcmp_eq, zw_id, zx_id, Nat.reduceAdd, z_tf_i, z_tf_l, z_tf_z, zl_zx, zi_zw, z_gf0, z_gf1, z_gf2, z_gf3, z_gf4, z_gf5, z_gf6, z_gf7, z_pf0, z_pf1, z_pf2, z_pf3, z_pf4, z_pf5, z_pf6, z_pf7, z_ob1, zb_0, zb_1, zb_tf, e214, r214_0, r214_1, r214_4, r214_5, r214_6, r214_7, r214_10, r214_11, r214_13, r214_16, r214_17, r214_18, r214_21, r214_23, r214_26, r214_29, r214_30, r214_31, r214_32, r214_33, r214_35, r214_38, r214_41, r214_42, r214_43, r214_44, r214_46, r214_49, r214_52, r214_53, r214_54, r214_56, r214_58, r214_61, r214_64, r214_66, r214_67, r214_69, r214_71, r214_74, r214_77, r214_79, r214_80, r214_82, r214_85, r214_86, r214_88, r214_91, r214_93, r214_96, r214_98, r214_101, r214_102, r214_103, r214_105, r214_106, r214_107, r214_110, r214_113, r214_114, r214_116, r214_119, r214_120, r214_121, r214_123, r214_126, r214_127, r214_128, r214_130, r214_132, r214_135, r214_137, r214_139, r214_142, r214_145, r214_147, r214_150, r214_151, q1]
theorem t0n {Es : List zEr} {Ks : Nat → List Int} {Rs : Nat → List zRu} {a : Nat} (hi : zCI s h G Es Ks Rs) (hf : zfull Es) : z_Cl 0 [.ref 0, .ref a] (ch h G) Q = Q (.inl (some (zi 0))) (ch h G) := by
  obtain ⟨hF, hLk, h63, ⟨PE, d1, d2, d3, d4, d5⟩, hok, hoc, hG⟩ := id hi
  have b0 : z_tf .boolean (zi 0) = true := by decide
  rcases hf with hf | ⟨hf, hu⟩
  · have hG4 : G 0 3 = 4 := by rw [hG, hf]; rfl
    simp (disch := first | omega | assumption | exact zq_r _ | exact zn_0 | exact zo_i _ | exact zo_r _ | exact zq_k _ | exact zq_n | exact zn_1 _ | exact zn_2 _ _ | exact zn_3 _ _ _ | exact zn_4 _ _ _ _ | exact zn_5 _ _ _ _ _ | exact zc_i _ | exact zc_r _ | exact zo_l _ | exact zo_k _ | exact zo_n | exact zc_rk _ | (rw [zx_id (by omega)]; omega) | (rw [zw_id (by omega)]; omega) | (apply z_ok_v; assumption) | (simp only [z_new_1, z_pu_1, mh_1]; omega)) only [z_EvO_some, z_EvG_t, z_Bk_n, z_Bk_s, z_brT, z_brF, z_br_pos, z_br_neg, not_true_eq_false, not_false_eq_true, Bool.true_eq_false, Bool.false_eq_true, Bool.not_eq_false, Bool.not_eq_true, eq_self, z_kl_i, z_kl_l, z_kl_r, z_kl_k, z_kl_n, z_kl_u, z_kl_v, zi_f, zl_f, z_put_r, z_nul_n, z_nul_r, zcmp_lt, zcmp_le, zcmp_ge, zcmp_gt, zcmp_eq, zw_id, zx_id, Nat.reduceAdd, z_tf_i, z_tf_l, z_tf_z, zl_zx, zi_zw, z_gf0, z_gf1, z_gf2, z_gf3, z_gf4, z_gf5, z_gf6, z_gf7, z_pf0, z_pf1, z_pf2, z_pf3, z_pf4, z_pf5, z_pf6, z_pf7, z_ob1, zb_0, zb_1, zb_tf, cat_o, cat_k, ch_1, cgf0_0, cgf0_1, cgf0_2, cgf0_3, cpf0_3, cgf0_4, cgf0_5, cgf0_6, cgf0_7, cpf0_7, cob_0, cat_0, cpu_0, cgf5_0, cgf5_1, cpf5_1, cob_5, cat_5, cpu_5, cat_6, cpu_6, cgf7_0, cgf7_1, cpf7_1, cgf7_2, cpf7_2, cgf7_3, cpf7_3, cgf7_4, cgf7_5, cgf7_6, cpf7_6, cgf7_7, cpf7_7, cob_7, cat_7, cpu_7, cat_8, cpu_8, cat_9, cpu_9, cat_10, cpu_10, cat_11, cpu_11, zg_ai_A, zg_al_A, zg_si_A, zg_sl_A, zg_ab_b, zg_sb_b, z_len_A, z_len_L, e0, r0_0, r0_1, r0_4, r0_5, r0_8, r0_9, r0_12, r0_15, r0_16, r0_19, r0_20, r0_23, r0_24, r0_25, r0_26, r0_29, r0_32, r0_33, r0_34, r0_35, r0_38, r0_39, r0_42, r0_43, r0_44, r0_45, r0_46, r0_49, r0_50, r0_51, r0_54, r0_55, hG4, b0]
  · by_cases h4 : Es.length = 4
    · have hG4 : G 0 3 = 4 := by rw [hG, h4]; rfl
      simp (disch := first | omega | assumption | exact zq_r _ | exact zn_0 | exact zo_i _ | exact zo_r _ | exact zq_k _ | exact zq_n | exact zn_1 _ | exact zn_2 _ _ | exact zn_3 _ _ _ | exact zn_4 _ _ _ _ | exact zn_5 _ _ _ _ _ | exact zc_i _ | exact zc_r _ | exact zo_l _ | exact zo_k _ | exact zo_n | exact zc_rk _ | (rw [zx_id (by omega)]; omega) | (rw [zw_id (by omega)]; omega) | (apply z_ok_v; assumption) | (simp only [z_new_1, z_pu_1, mh_1]; omega)) only [z_EvO_some, z_EvG_t, z_Bk_n, z_Bk_s, z_brT, z_brF, z_br_pos, z_br_neg, not_true_eq_false, not_false_eq_true, Bool.true_eq_false, Bool.false_eq_true, Bool.not_eq_false, Bool.not_eq_true, eq_self, z_kl_i, z_kl_l, z_kl_r, z_kl_k, z_kl_n, z_kl_u, z_kl_v, zi_f, zl_f, z_put_r, z_nul_n, z_nul_r, zcmp_lt, zcmp_le, zcmp_ge, zcmp_gt, zcmp_eq, zw_id, zx_id, Nat.reduceAdd, z_tf_i, z_tf_l, z_tf_z, zl_zx, zi_zw, z_gf0, z_gf1, z_gf2, z_gf3, z_gf4, z_gf5, z_gf6, z_gf7, z_pf0, z_pf1, z_pf2, z_pf3, z_pf4, z_pf5, z_pf6, z_pf7, z_ob1, zb_0, zb_1, zb_tf, cat_o, cat_k, ch_1, cgf0_0, cgf0_1, cgf0_2, cgf0_3, cpf0_3, cgf0_4, cgf0_5, cgf0_6, cgf0_7, cpf0_7, cob_0, cat_0, cpu_0, cgf5_0, cgf5_1, cpf5_1, cob_5, cat_5, cpu_5, cat_6, cpu_6, cgf7_0, cgf7_1, cpf7_1, cgf7_2, cpf7_2, cgf7_3, cpf7_3, cgf7_4, cgf7_5, cgf7_6, cpf7_6, cgf7_7, cpf7_7, cob_7, cat_7, cpu_7, cat_8, cpu_8, cat_9, cpu_9, cat_10, cpu_10, cat_11, cpu_11, zg_ai_A, zg_al_A, zg_si_A, zg_sl_A, zg_ab_b, zg_sb_b, z_len_A, z_len_L, e0, r0_0, r0_1, r0_4, r0_5, r0_8, r0_9, r0_12, r0_15, r0_16, r0_19, r0_20, r0_23, r0_24, r0_25, r0_26, r0_29, r0_32, r0_33, r0_34, r0_35, r0_38, r0_39, r0_42, r0_43, r0_44, r0_45, r0_46, r0_49, r0_50, r0_51, r0_54, r0_55, hG4, b0]
    · obtain ⟨e, e1, e2⟩ := d4 (Es.length - 1) (by omega)
      obtain ⟨c, p, sec, -, a1, a2, a3⟩ := id e2
      rw [hu] at a1
      have o4 : z_at (ch h G) (.ref 4) = zQA 7 4 PE := by rw [cat_o (by decide)]; exact d2
      have hge := e2
      have he : 63 ≤ e := by obtain ⟨c, p, sec, ⟨z1, -⟩, -⟩ := e2; exact z1.1
      have oe : z_at (ch h G) (.ref e) = _ := (cat_o (by omega)).trans a1
      have ex : zg_aq (zQA 7 4 PE) ((Es.length : Int) - 1) = some (.ref e) := by
        show z_aq _ _ = _
        rw [z_aq_A (by omega) (by omega) (by omega), show ((Es.length : Int) - 1).toNat = Es.length - 1 by omega, e1]
        rfl
      simp (disch := first | omega | assumption | exact zq_r _ | exact zn_0 | exact zo_i _ | exact zo_r _ | exact zq_k _ | exact zq_n | exact zn_1 _ | exact zn_2 _ _ | exact zn_3 _ _ _ | exact zn_4 _ _ _ _ | exact zn_5 _ _ _ _ _ | exact zc_i _ | exact zc_r _ | exact zo_l _ | exact zo_k _ | exact zo_n | exact zc_rk _ | (rw [zx_id (by omega)]; omega) | (rw [zw_id (by omega)]; omega) | (apply z_ok_v; assumption) | (simp only [z_new_1, z_pu_1, mh_1]; omega)) only [z_EvO_some, z_EvG_t, z_Bk_n, z_Bk_s, z_brT, z_brF, z_br_pos, z_br_neg, not_true_eq_false, not_false_eq_true, Bool.true_eq_false, Bool.false_eq_true, Bool.not_eq_false, Bool.not_eq_true, eq_self, z_kl_i, z_kl_l, z_kl_r, z_kl_k, z_kl_n, z_kl_u, z_kl_v, zi_f, zl_f, z_put_r, z_nul_n, z_nul_r, zcmp_lt, zcmp_le, zcmp_ge, zcmp_gt, zcmp_eq, zw_id, zx_id, Nat.reduceAdd, z_tf_i, z_tf_l, z_tf_z, zl_zx, zi_zw, z_gf0, z_gf1, z_gf2, z_gf3, z_gf4, z_gf5, z_gf6, z_gf7, z_pf0, z_pf1, z_pf2, z_pf3, z_pf4, z_pf5, z_pf6, z_pf7, z_ob1, zb_0, zb_1, zb_tf, cat_o, cat_k, ch_1, cgf0_0, cgf0_1, cgf0_2, cgf0_3, cpf0_3, cgf0_4, cgf0_5, cgf0_6, cgf0_7, cpf0_7, cob_0, cat_0, cpu_0, cgf5_0, cgf5_1, cpf5_1, cob_5, cat_5, cpu_5, cat_6, cpu_6, cgf7_0, cgf7_1, cpf7_1, cgf7_2, cpf7_2, cgf7_3, cpf7_3, cgf7_4, cgf7_5, cgf7_6, cpf7_6, cgf7_7, cpf7_7, cob_7, cat_7, cpu_7, cat_8, cpu_8, cat_9, cpu_9, cat_10, cpu_10, cat_11, cpu_11, zg_ai_A, zg_al_A, zg_si_A, zg_sl_A, zg_ab_b, zg_sb_b, z_len_A, z_len_L, e0, r0_0, r0_1, r0_4, r0_5, r0_8, r0_9, r0_12, r0_15, r0_16, r0_19, r0_20, r0_23, r0_24, r0_25, r0_26, r0_29, r0_32, r0_33, r0_34, r0_35, r0_38, r0_39, r0_42, r0_43, r0_44, r0_45, r0_46, r0_49, r0_50, r0_51, r0_54, r0_55, hG, b0, o4, ex, oe]
theorem t0 {Es : List zEr} {Ks : Nat → List Int} {Rs : Nat → List zRu} {a : Nat} {E : zEr} (hi : zCI s h G Es Ks Rs) (hf : ¬ zfull Es) (ha : zEk s h a E) (hE : zEok E) (hEc : ∀ c ∈ E.2, 32 ≤ c ∧ c ≤ 126)
    (kk : ∀ h', h'.1 = h.1 → h'.2.1 = h.2.1 → h'.2.2.2 = h.2.2.2 → (∀ x : Nat, x ≠ 4 → z_at h' (.ref x) = z_at h (.ref x)) → zCI s h' (va_up G 0 (va_up (G 0) 3 (Es.length + 1))) (Es ++ [E]) Ks Rs → Q (.inl (some (zi 1))) (ch h' (va_up G 0 (va_up (G 0) 3 (Es.length + 1))))) : z_Cl 0 [.ref 0, .ref a] (ch h G) Q := by
  obtain ⟨hF, hLk, h63, ⟨PE, d1, d2, d3, d4, d5⟩, hok, hoc, hG⟩ := id hi
  have b1 : z_tf .boolean (zi 1) = true := by decide
  unfold zfull at hf
  have h4 : Es.length < 4 := by omega
  have he : 63 ≤ a := by obtain ⟨c, p, sec, ⟨z1, -⟩, -⟩ := id ha; exact z1.1
  let h2 := z_pu h 4 (zQA 7 4 (va_up PE Es.length (some a)))
  have hat : ∀ x : Nat, x ≠ 4 → z_at h2 (.ref x) = z_at h (.ref x) := fun x hx => z_at_pu_n hx
  have hag : zAg s h h2 := fun x hx _ => hat x (by have := hx.1; omega)
  have eL : (Es ++ [E]).length = Es.length + 1 := by rw [List.length_append]; rfl
  have hci : zCI s h2 (va_up G 0 (va_up (G 0) 3 (Es.length + 1))) (Es ++ [E]) Ks Rs := by
    refine ⟨fun x hx => ?_, hLk, h63, ⟨va_up PE Es.length (some a), ?_, z_at_pu_s _ _ _, by omega, fun i hi => ?_, fun k hk => (d5 k hk).ag hag hF (hat _ (by omega)) (hat _ (by omega)) (hat _ (by omega))⟩, ⟨fun E' hE' => ?_, hok.2⟩, ⟨fun E' hE' => ?_, hoc.2⟩, ?_⟩
    · have hx : h.1 ≤ x := hx
      rw [hat x (by omega)]
      exact hF x hx
    · rw [hat 3 (by decide)]; exact d1
    · by_cases hi2 : i < Es.length
      · obtain ⟨e, e1, e2⟩ := d4 i hi2
        refine ⟨e, by rw [va_up_ne _ _ (by omega)]; exact e1, ?_⟩
        rw [List.getD_eq_getElem?_getD, List.getElem?_append_left hi2, ← List.getD_eq_getElem?_getD]
        exact e2.ag hag hF
      · have hi3 : i = Es.length := by omega
        subst hi3
        refine ⟨a, va_up_self _ _ _, ?_⟩
        rw [List.getD_eq_getElem?_getD, List.getElem?_append_right (Nat.le_refl _), Nat.sub_self]
        exact ha.ag hag hF
    · rcases List.mem_append.mp hE' with hm | hm
      · exact hok.1 E' hm
      · rw [List.mem_singleton.mp hm]; exact hE
    · rcases List.mem_append.mp hE' with hm | hm
      · exact hoc.1 E' hm
      · rw [List.mem_singleton.mp hm]; exact hEc
    · rw [va_up_self, va_up_self, eL]
      omega
  have fin := kk h2 rfl rfl rfl hat hci
  have o4 : z_at (ch h G) (.ref 4) = zQA 7 4 PE := by rw [cat_o (by decide)]; exact d2
  obtain ⟨c, p, sec, -, a1, -⟩ := id ha
  have oa : z_at (ch h G) (.ref a) = _ := (cat_o (by omega)).trans a1
  have y4 : ∀ fs : List Value, zg_sq (.inr (10, fs)) (zQA 7 4 PE) (.ref a) (Es.length : Int) = some (zQA 7 4 (va_up PE Es.length (some a))) := by
    intro fs
    have e1 : z_aok (.inr (10, fs)) (zQA 7 4 PE) (.ref a) = some a := rfl
    unfold zg_sq
    rw [e1]
    have e2 : z_ty (zQA 7 4 PE) = 7 := rfl
    show z_sq (zQA 7 4 PE) (z_ty (zQA 7 4 PE)) _ _ = _
    rw [e2, z_sq_A (by omega) (by omega)]
    have e3 : ((Es.length : Nat) : Int).toNat = Es.length := by omega
    rw [e3]
  have y5 : z_pu (ch h G) 4 (zQA 7 4 (va_up PE Es.length (some a))) = ch h2 G := cpu_o (by decide)
  by_cases h0 : Es.length = 0
  · have hG0 : G 0 3 = 0 := by rw [hG, h0]; rfl
    have e0' : (Es.length : Int) = 0 := by rw [h0]; rfl
    rw [e0'] at y4
    rw [e0'] at fin
    simp (disch := first | omega | assumption | exact zq_r _ | exact zn_0 | exact zo_i _ | exact zo_r _ | exact zq_k _ | exact zq_n | exact zn_1 _ | exact zn_2 _ _ | exact zn_3 _ _ _ | exact zn_4 _ _ _ _ | exact zn_5 _ _ _ _ _ | exact zc_i _ | exact zc_r _ | exact zo_l _ | exact zo_k _ | exact zo_n | exact zc_rk _ | (rw [zx_id (by omega)]; omega) | (rw [zw_id (by omega)]; omega) | (apply z_ok_v; assumption) | (simp only [z_new_1, z_pu_1, mh_1]; omega)) only [z_EvO_some, z_EvG_t, z_Bk_n, z_Bk_s, z_brT, z_brF, z_br_pos, z_br_neg, not_true_eq_false, not_false_eq_true, Bool.true_eq_false, Bool.false_eq_true, Bool.not_eq_false, Bool.not_eq_true, eq_self, z_kl_i, z_kl_l, z_kl_r, z_kl_k, z_kl_n, z_kl_u, z_kl_v, zi_f, zl_f, z_put_r, z_nul_n, z_nul_r, zcmp_lt, zcmp_le, zcmp_ge, zcmp_gt, zcmp_eq, zw_id, zx_id, Nat.reduceAdd, z_tf_i, z_tf_l, z_tf_z, zl_zx, zi_zw, z_gf0, z_gf1, z_gf2, z_gf3, z_gf4, z_gf5, z_gf6, z_gf7, z_pf0, z_pf1, z_pf2, z_pf3, z_pf4, z_pf5, z_pf6, z_pf7, z_ob1, zb_0, zb_1, zb_tf, cat_o, cat_k, ch_1, cgf0_0, cgf0_1, cgf0_2, cgf0_3, cpf0_3, cgf0_4, cgf0_5, cgf0_6, cgf0_7, cpf0_7, cob_0, cat_0, cpu_0, cgf5_0, cgf5_1, cpf5_1, cob_5, cat_5, cpu_5, cat_6, cpu_6, cgf7_0, cgf7_1, cpf7_1, cgf7_2, cpf7_2, cgf7_3, cpf7_3, cgf7_4, cgf7_5, cgf7_6, cpf7_6, cgf7_7, cpf7_7, cob_7, cat_7, cpu_7, cat_8, cpu_8, cat_9, cpu_9, cat_10, cpu_10, cat_11, cpu_11, zg_ai_A, zg_al_A, zg_si_A, zg_sl_A, zg_ab_b, zg_sb_b, z_len_A, z_len_L, e0, r0_0, r0_1, r0_4, r0_5, r0_8, r0_9, r0_12, r0_15, r0_16, r0_19, r0_20, r0_23, r0_24, r0_25, r0_26, r0_29, r0_32, r0_33, r0_34, r0_35, r0_38, r0_39, r0_42, r0_43, r0_44, r0_45, r0_46, r0_49, r0_50, r0_51, r0_54, r0_55, hG0, b1, o4, oa, y4, y5]
    exact fin
  · obtain ⟨e, e1, e2⟩ := d4 (Es.length - 1) (by omega)
    have hu := hok.E (show Es.length - 1 < Es.length by omega)
    have hu3 : (Es.getD (Es.length - 1) zE0).1 3 = 1 := by have := hu.2.2.2.1; omega
    obtain ⟨c', p', sec', ⟨z1, -⟩, a1', -⟩ := id e2
    rw [hu3] at a1'
    have oe : z_at (ch h G) (.ref e) = _ := (cat_o (by have := z1.1; omega)).trans a1'
    have ex : zg_aq (zQA 7 4 PE) ((Es.length : Int) - 1) = some (.ref e) := by
      show z_aq _ _ = _
      rw [z_aq_A (by omega) (by omega) (by omega), show ((Es.length : Int) - 1).toNat = Es.length - 1 by omega, e1]
      rfl
    simp (disch := first | omega | assumption | exact zq_r _ | exact zn_0 | exact zo_i _ | exact zo_r _ | exact zq_k _ | exact zq_n | exact zn_1 _ | exact zn_2 _ _ | exact zn_3 _ _ _ | exact zn_4 _ _ _ _ | exact zn_5 _ _ _ _ _ | exact zc_i _ | exact zc_r _ | exact zo_l _ | exact zo_k _ | exact zo_n | exact zc_rk _ | (rw [zx_id (by omega)]; omega) | (rw [zw_id (by omega)]; omega) | (apply z_ok_v; assumption) | (simp only [z_new_1, z_pu_1, mh_1]; omega)) only [z_EvO_some, z_EvG_t, z_Bk_n, z_Bk_s, z_brT, z_brF, z_br_pos, z_br_neg, not_true_eq_false, not_false_eq_true, Bool.true_eq_false, Bool.false_eq_true, Bool.not_eq_false, Bool.not_eq_true, eq_self, z_kl_i, z_kl_l, z_kl_r, z_kl_k, z_kl_n, z_kl_u, z_kl_v, zi_f, zl_f, z_put_r, z_nul_n, z_nul_r, zcmp_lt, zcmp_le, zcmp_ge, zcmp_gt, zcmp_eq, zw_id, zx_id, Nat.reduceAdd, z_tf_i, z_tf_l, z_tf_z, zl_zx, zi_zw, z_gf0, z_gf1, z_gf2, z_gf3, z_gf4, z_gf5, z_gf6, z_gf7, z_pf0, z_pf1, z_pf2, z_pf3, z_pf4, z_pf5, z_pf6, z_pf7, z_ob1, zb_0, zb_1, zb_tf, cat_o, cat_k, ch_1, cgf0_0, cgf0_1, cgf0_2, cgf0_3, cpf0_3, cgf0_4, cgf0_5, cgf0_6, cgf0_7, cpf0_7, cob_0, cat_0, cpu_0, cgf5_0, cgf5_1, cpf5_1, cob_5, cat_5, cpu_5, cat_6, cpu_6, cgf7_0, cgf7_1, cpf7_1, cgf7_2, cpf7_2, cgf7_3, cpf7_3, cgf7_4, cgf7_5, cgf7_6, cpf7_6, cgf7_7, cpf7_7, cob_7, cat_7, cpu_7, cat_8, cpu_8, cat_9, cpu_9, cat_10, cpu_10, cat_11, cpu_11, zg_ai_A, zg_al_A, zg_si_A, zg_sl_A, zg_ab_b, zg_sb_b, z_len_A, z_len_L, e0, r0_0, r0_1, r0_4, r0_5, r0_8, r0_9, r0_12, r0_15, r0_16, r0_19, r0_20, r0_23, r0_24, r0_25, r0_26, r0_29, r0_32, r0_33, r0_34, r0_35, r0_38, r0_39, r0_42, r0_43, r0_44, r0_45, r0_46, r0_49, r0_50, r0_51, r0_54, r0_55, hG, b1, o4, oa, ex, oe, y4, y5]
    exact fin
end ZCl
