/-! a line cut into its words: the class, whole -/
/-- how many words, and word i -/
def zwn (w : List Int) : Int := (zsp (zdW w) w.length).1
def zwd_ (w : List Int) (i : Nat) : List Int := zsub w ((zsp (zdW w) w.length).2.1 i).toNat ((zsp (zdW w) w.length).2.2 i).toNat
/-- a Line -/
def zLn (L : Nat) (h : zH) (p : Nat) (w : List Int) : Prop := ∃ (t sa ea : Nat) (B E : Nat → Int), z_at h (.ref p) = .inr (6, [.ref t, .ref sa, .ref ea, zi (zwn w)]) ∧ zSd L h t w ∧ z_at h (.ref sa) = zA 1 9 B ∧ z_at h (.ref ea) = zA 1 9 E ∧ w.length ≤ 60 ∧ ∀ k : Nat, k < 9 → (k : Int) < zwn w → B k = (zsp (zdW w) w.length).2.1 k ∧ E k = (zsp (zdW w) w.length).2.2 k
theorem zLn.ex {L : Nat} {h h1 : zH} {A B : Nat} {p : Nat} {w : List Int} (hs : zLn L h p w) (x : zEx h h1 A B) (hF : zFr h) : zLn L h1 p w := by
  obtain ⟨t, sa, ea, B', E', q1, q2, q3, q4, q5⟩ := hs
  exact ⟨t, sa, ea, B', E', x.at hF rfl q1 (zo_jk (by decide)), q2.ex x hF, x.at hF rfl q3 zA_jk, x.at hF rfl q4 zA_jk, q5⟩
theorem zwn_r (w : List Int) : 0 ≤ zwn w ∧ zwn w ≤ w.length := ⟨(zsp_p (zdW w) w.length).1, (zsp_p (zdW w) w.length).2.1⟩
theorem zwd_p (w : List Int) (i : Nat) (hi : (i : Int) < zwn w) : 0 ≤ (zsp (zdW w) w.length).2.1 i ∧ (zsp (zdW w) w.length).2.1 i < (zsp (zdW w) w.length).2.2 i ∧ (zsp (zdW w) w.length).2.2 i ≤ w.length := by
  have := (zsp_p (zdW w) w.length).2.2.2 i hi
  exact ⟨this.1, this.2.1, this.2.2.1⟩
theorem zwd_len (w : List Int) (i : Nat) (hi : (i : Int) < zwn w) : 1 ≤ (zwd_ w i).length ∧ (zwd_ w i).length ≤ w.length := by
  have := zwd_p w i hi
  unfold zwd_
  rw [zsub_len (by omega) (by omega)]
  omega
section ZLn2
variable {h : zH} {Q : zO → zH → Prop} {v v0 v1 v2 v3 : Value} {w : List Int} {s t p : Nat} {i : Int}
theorem t153 {L : Nat} (hF : zFr h) (hs : z_at h (.ref s) = .inr (6, [v0, v1, v2, v3])) (ht : zSd L h t w) (hw : w.length ≤ 60)
    (kk : ∀ h', zEy (fun a => a = s) h h' 2 18 → zLn L h' s w → Q (.inl none) h') : z_Cl 153 [.ref s, .ref t] h Q := by
  have hsl : s < h.1 := zFr_lt hF hs (zo_jk (by decide))
  obtain ⟨q, r, u, q0, q1, q2, q3⟩ := id ht
  have htl : t < h.1 := zFr_lt hF q1 (zo_jk (by decide))
  have hql : q < h.1 := zFr_lt hF q2 zA_jk
  have hst : t ≠ s := by
    rintro rfl
    rw [hs] at q1
    have := (Prod.mk.inj (Sum.inr.inj q1)).1
    omega
  have hsq : q ≠ s := by
    rintro rfl
    rw [hs] at q2
    unfold zA at q2
    cases q2
  -- the heap before the loop
  let H0 := z_pu (z_pu (z_new (z_pu (z_new h 9 (zA 1 9 (fun _ => 0))) s (.inr (6, [v0, .ref h.1, v2, v3]))) 9 (zA 1 9 (fun _ => 0))) s (.inr (6, [v0, .ref h.1, .ref (h.1 + 1), v3]))) s (.inr (6, [.ref t, .ref h.1, .ref (h.1 + 1), v3]))
  have hx0 : zEy (fun a => a = s) h H0 2 18 := by
    refine ((((((zEx.refl hF).ey (X := fun a => a = s)).new (n := 9)).pu (Or.inr rfl) ?_).new (n := 9)).pu (Or.inr rfl) ?_).pu (Or.inr rfl) ?_
    all_goals ((try simp only [z_pu_1, z_new_1]); omega)
  have hat : z_at H0 (.ref s) = .inr (6, [.ref t, .ref h.1, .ref (h.1 + 1), v3]) := z_at_pu_s _ _ _
  have ha1 : z_at H0 (.ref h.1) = zA 1 9 (fun _ => 0) := by
    show z_at (z_pu _ s _) _ = _
    rw [z_at_pu_n (by omega), z_at_pu_n (by omega), z_at_new_n (by simp only [z_pu_1, z_new_1]; omega), z_at_pu_n (by omega), z_at_new_s]
  have ha2 : z_at H0 (.ref (h.1 + 1)) = zA 1 9 (fun _ => 0) := by
    show z_at (z_pu _ s _) _ = _
    rw [z_at_pu_n (by omega), z_at_pu_n (by omega), z_at_new_e (by simp only [z_pu_1, z_new_1])]
  have hxx : ∀ B E : Nat → Int, zEy (fun a => a = s) h (z_pu (z_pu H0 h.1 (zA 1 9 B)) (h.1 + 1) (zA 1 9 E)) 2 18 := fun B E => (hx0.pu (Or.inl (Nat.le_refl _)) (by show h.1 < h.1 + 1 + 1; omega)).pu (Or.inl (by omega)) (by show h.1 + 1 < h.1 + 1 + 1; omega)
  have hsd : ∀ B E : Nat → Int, zSd L (z_pu (z_pu H0 h.1 (zA 1 9 B)) (h.1 + 1) (zA 1 9 E)) t w := fun B E => ⟨q, r, u, q0, (hxx B E).at hF rfl q1 (zo_jk (by decide)) (fun a ha => by cases ha; exact hst), (hxx B E).at hF rfl q2 zA_jk (fun a ha => by cases ha; exact hsq), q3⟩
  have t1 : ∀ x : Nat, z_tf (.array .int) (.ref x) = true := fun x => rfl
  have t2 : ∀ x : Nat, z_tf (.object "java/lang/String") (.ref x) = true := fun x => rfl
  have hend := l153 (h := H0) (Q := Q) (v := .ref t) (w := w) (s := s) (sa := h.1) (ea := h.1 + 1) (by omega) (by omega) (fun B E => (hsd B E).st) hw hat (fun B E hBE => by
    refine kk _ ((hxx B E).pu (Or.inr rfl) (by show s < h.1 + 1 + 1; omega)) ⟨t, h.1, h.1 + 1, B, E, z_at_pu_s _ _ _, ?_, ?_, ?_, hw, hBE⟩
    · have hy := (hxx B E).pu (e := .inr (6, [.ref t, .ref h.1, .ref (h.1 + 1), zi (zsp (zdW w) w.length).1])) (Or.inr rfl) (show s < h.1 + 1 + 1 by omega)
      exact ⟨q, r, u, q0, hy.at hF rfl q1 (zo_jk (by decide)) (fun a ha => by cases ha; exact hst), hy.at hF rfl q2 zA_jk (fun a ha => by cases ha; exact hsq), q3⟩
    · rw [z_at_pu_n (by omega), z_at_pu_n (by omega), z_at_pu_s]
    · rw [z_at_pu_n (by omega), z_at_pu_s]) w.length 0 (fun _ => 0) (fun _ => 0) (by omega) (fun k a1 a2 => by simp [zsp] at a2; omega)
  have e2 : z_pu (z_pu H0 h.1 (zA 1 9 (fun _ => 0))) (h.1 + 1) (zA 1 9 (fun _ => 0)) = H0 := by
    rw [z_pu_id ha1, z_pu_id ha2]
  rw [e2] at hend
  have e9 : (9 : Int).toNat = 9 := rfl
  simp (disch := first | omega | assumption | exact zq_r _ | exact zn_0 | exact zo_i _ | exact zo_r _ | exact zq_k _ | exact zq_n | exact zn_1 _ | exact zn_2 _ _ | exact zn_3 _ _ _ | exact zn_4 _ _ _ _ | exact zn_5 _ _ _ _ _ | exact zc_i _ | exact zc_r _ | exact zo_l _ | exact zo_k _ | exact zo_n | exact zc_rk _ | (rw [zx_id (by omega)]; omega) | (rw [zw_id (by omega)]; omega) | (apply z_ok_v; assumption) | (simp only [z_new_1, z_pu_1, mh_1]; omega)) only [z_EvO_some, z_EvG_t, z_Bk_n, z_Bk_s, z_brT, z_brF, z_br_pos, z_br_neg, not_true_eq_false, not_false_eq_true, Bool.true_eq_false, Bool.false_eq_true, Bool.not_eq_false, Bool.not_eq_true, eq_self, z_kl_i, z_kl_l, z_kl_r, z_kl_k, z_kl_n, z_kl_u, z_kl_v, zi_f, zl_f, z_put_r, z_nul_n, z_nul_r, zcmp_lt, zcmp_le, zcmp_ge, zcmp_gt, zcmp_eq, zw_id, zx_id, Nat.reduceAdd, z_tf_i, z_tf_l, z_tf_z, zl_zx, zi_zw, z_gf0, z_gf1, z_gf2, z_gf3, z_gf4, z_gf5, z_gf6, z_gf7, z_pf0, z_pf1, z_pf2, z_pf3, z_pf4, z_pf5, z_pf6, z_pf7, z_ob1, zb_0, zb_1, zb_tf, z_at_pu_e, z_at_pu_n, z_at_pu_k, z_at_new_e, z_at_new_n, z_at_new_k, z_new_1, z_pu_1, z_atr_r, e153, r153_0, r153_1, r153_4, r153_5, r153_7, r153_9, r153_12, r153_13, r153_15, r153_17, r153_20, r153_21, r153_22, r153_25, r153_26, r153_27, r153_28, r153_30, r153_31, r153_34, r153_37, r153_38, r153_39, r153_42, r153_44, r153_47, r153_50, r153_51, r153_54, r153_55, r153_56, r153_57, r153_58, r153_61, r153_63, r153_66, r153_69, r153_70, r153_72, r153_75, r153_76, r153_79, r153_80, r153_81, r153_82, r153_83, r153_84, r153_85, r153_87, r153_90, r153_91, r153_94, r153_95, r153_96, r153_97, r153_98, r153_99, r153_100, r153_101, r153_104, r153_107, r153_108, r153_109, r153_112, hs, t1, t2, e9]
  exact hend
theorem t169 {L : Nat} (hF : zFr h) (hL : zLit h) (hl : zLn L h p w) (hi : 0 ≤ i ∧ i < 9 ∧ i < zwn w) (hv : z_isref v = true)
    (kk : ∀ h' p', zEx h h' 2 1004 → zSd L h' p' (zwd_ w i.toNat) → Q (.inl (some (.ref p'))) h') : z_Cl 169 [.ref p, zi i, v] h Q := by
  obtain ⟨t, sa, ea, B, E, q1, q2, q3, q4, q5, q6⟩ := hl
  have hr := zwn_r w
  obtain ⟨e1, e2⟩ := q6 i.toNat (by omega) (by omega)
  have hp := zwd_p w i.toNat (by omega)
  have hlen := zwd_len w i.toNat (by omega)
  obtain ⟨qq, r, u, -, s1, -⟩ := id q2
  simp (disch := first | omega | assumption | exact zq_r _ | exact zn_0 | exact zo_i _ | exact zo_r _ | exact zq_k _ | exact zq_n | exact zn_1 _ | exact zn_2 _ _ | exact zn_3 _ _ _ | exact zn_4 _ _ _ _ | exact zn_5 _ _ _ _ _ | exact zc_i _ | exact zc_r _ | exact zo_l _ | exact zo_k _ | exact zo_n | exact zc_rk _ | (rw [zx_id (by omega)]; omega) | (rw [zw_id (by omega)]; omega) | (apply z_ok_v; assumption) | (simp only [z_new_1, z_pu_1, mh_1]; omega)) only [z_EvO_some, z_EvG_t, z_Bk_n, z_Bk_s, z_brT, z_brF, z_br_pos, z_br_neg, not_true_eq_false, not_false_eq_true, Bool.true_eq_false, Bool.false_eq_true, Bool.not_eq_false, Bool.not_eq_true, eq_self, z_kl_i, z_kl_l, z_kl_r, z_kl_k, z_kl_n, z_kl_u, z_kl_v, zi_f, zl_f, z_put_r, z_nul_n, z_nul_r, zcmp_lt, zcmp_le, zcmp_ge, zcmp_gt, zcmp_eq, zw_id, zx_id, Nat.reduceAdd, z_tf_i, z_tf_l, z_tf_z, zl_zx, zi_zw, z_gf0, z_gf1, z_gf2, z_gf3, z_gf4, z_gf5, z_gf6, z_gf7, z_pf0, z_pf1, z_pf2, z_pf3, z_pf4, z_pf5, z_pf6, z_pf7, z_ob1, zb_0, zb_1, zb_tf, e169, r169_0, r169_1, r169_4, r169_5, r169_6, r169_9, r169_12, r169_13, r169_15, r169_18, r169_19, r169_20, r169_21, r169_24, r169_25, r169_28, r169_29, r169_30, r169_31, r169_34, r169_35, r169_36, r169_39, q1, q3, q4, zg_ai_A, e1, e2, zSt_ob q2.st]
  refine t164 hF q2 hL.e (by omega) (by omega) (fun h' v' x hs => ?_)
  rcases hs with ⟨p', rfl, hd⟩ | ⟨-, h9, -⟩
  · simp (disch := first | omega | assumption | exact zq_r _ | exact zn_0 | exact zo_i _ | exact zo_r _ | exact zq_k _ | exact zq_n | exact zn_1 _ | exact zn_2 _ _ | exact zn_3 _ _ _ | exact zn_4 _ _ _ _ | exact zn_5 _ _ _ _ _ | exact zc_i _ | exact zc_r _ | exact zo_l _ | exact zo_k _ | exact zo_n | exact zc_rk _ | (rw [zx_id (by omega)]; omega) | (rw [zw_id (by omega)]; omega) | (apply z_ok_v; assumption) | (simp only [z_new_1, z_pu_1, mh_1]; omega)) only [z_EvO_some, z_EvG_t, z_Bk_n, z_Bk_s, z_brT, z_brF, z_br_pos, z_br_neg, not_true_eq_false, not_false_eq_true, Bool.true_eq_false, Bool.false_eq_true, Bool.not_eq_false, Bool.not_eq_true, eq_self, z_kl_i, z_kl_l, z_kl_r, z_kl_k, z_kl_n, z_kl_u, z_kl_v, zi_f, zl_f, z_put_r, z_nul_n, z_nul_r, zcmp_lt, zcmp_le, zcmp_ge, zcmp_gt, zcmp_eq, zw_id, zx_id, Nat.reduceAdd, z_tf_i, z_tf_l, z_tf_z, zl_zx, zi_zw, z_gf0, z_gf1, z_gf2, z_gf3, z_gf4, z_gf5, z_gf6, z_gf7, z_pf0, z_pf1, z_pf2, z_pf3, z_pf4, z_pf5, z_pf6, z_pf7, z_ob1, zb_0, zb_1, zb_tf, r169_0, r169_1, r169_4, r169_5, r169_6, r169_9, r169_12, r169_13, r169_15, r169_18, r169_19, r169_20, r169_21, r169_24, r169_25, r169_28, r169_29, r169_30, r169_31, r169_34, r169_35, r169_36, r169_39]
    exact kk h' p' x hd
  · exfalso
    have : (zwd_ w i.toNat).length = 0 := by
      show (zsub w _ _).length = 0
      rw [h9]; rfl
    omega
theorem t169m {L : Nat} (hl : zLn L h p w) (hi : 0 ≤ i ∧ i ≤ 100 ∧ (9 ≤ i ∨ zwn w ≤ i)) (hv : z_isref v = true) : z_Cl 169 [.ref p, zi i, v] h Q = Q (.inl (some v)) h := by
  obtain ⟨t, sa, ea, B, E, q1, q2, q3, q4, q5, q6⟩ := hl
  have hr := zwn_r w
  simp (disch := first | omega | assumption | exact zq_r _ | exact zn_0 | exact zo_i _ | exact zo_r _ | exact zq_k _ | exact zq_n | exact zn_1 _ | exact zn_2 _ _ | exact zn_3 _ _ _ | exact zn_4 _ _ _ _ | exact zn_5 _ _ _ _ _ | exact zc_i _ | exact zc_r _ | exact zo_l _ | exact zo_k _ | exact zo_n | exact zc_rk _ | (rw [zx_id (by omega)]; omega) | (rw [zw_id (by omega)]; omega) | (apply z_ok_v; assumption) | (simp only [z_new_1, z_pu_1, mh_1]; omega)) only [z_EvO_some, z_EvG_t, z_Bk_n, z_Bk_s, z_brT, z_brF, z_br_pos, z_br_neg, not_true_eq_false, not_false_eq_true, Bool.true_eq_false, Bool.false_eq_true, Bool.not_eq_false, Bool.not_eq_true, eq_self, z_kl_i, z_kl_l, z_kl_r, z_kl_k, z_kl_n, z_kl_u, z_kl_v, zi_f, zl_f, z_put_r, z_nul_n, z_nul_r, zcmp_lt, zcmp_le, zcmp_ge, zcmp_gt, zcmp_eq, zw_id, zx_id, Nat.reduceAdd, z_tf_i, z_tf_l, z_tf_z, zl_zx, zi_zw, z_gf0, z_gf1, z_gf2, z_gf3, z_gf4, z_gf5, z_gf6, z_gf7, z_pf0, z_pf1, z_pf2, z_pf3, z_pf4, z_pf5, z_pf6, z_pf7, z_ob1, zb_0, zb_1, zb_tf, e169, r169_0, r169_1, r169_4, r169_5, r169_6, r169_9, r169_12, r169_13, r169_15, r169_18, r169_19, r169_20, r169_21, r169_24, r169_25, r169_28, r169_29, r169_30, r169_31, r169_34, r169_35, r169_36, r169_39, q1]
  repeat' (first | refine z_br_eq (fun _ => ?_) (fun _ => ?_) | simp (disch := first | omega | assumption | exact zq_r _ | exact zn_0 | exact zo_i _ | exact zo_r _ | exact zq_k _ | exact zq_n | exact zn_1 _ | exact zn_2 _ _ | exact zn_3 _ _ _ | exact zn_4 _ _ _ _ | exact zn_5 _ _ _ _ _ | exact zc_i _ | exact zc_r _ | exact zo_l _ | exact zo_k _ | exact zo_n | exact zc_rk _ | (rw [zx_id (by omega)]; omega) | (rw [zw_id (by omega)]; omega) | (apply z_ok_v; assumption) | (simp only [z_new_1, z_pu_1, mh_1]; omega)) only [z_EvO_some, z_EvG_t, z_Bk_n, z_Bk_s, z_brT, z_brF, z_br_pos, z_br_neg, not_true_eq_false, not_false_eq_true, Bool.true_eq_false, Bool.false_eq_true, Bool.not_eq_false, Bool.not_eq_true, eq_self, z_kl_i, z_kl_l, z_kl_r, z_kl_k, z_kl_n, z_kl_u, z_kl_v, zi_f, zl_f, z_put_r, z_nul_n, z_nul_r, zcmp_lt, zcmp_le, zcmp_ge, zcmp_gt, zcmp_eq, zw_id, zx_id, Nat.reduceAdd, z_tf_i, z_tf_l, z_tf_z, zl_zx, zi_zw, z_gf0, z_gf1, z_gf2, z_gf3, z_gf4, z_gf5, z_gf6, z_gf7, z_pf0, z_pf1, z_pf2, z_pf3, z_pf4, z_pf5, z_pf6, z_pf7, z_ob1, zb_0, zb_1, zb_tf, r169_0, r169_1, r169_4, r169_5, r169_6, r169_9, r169_12, r169_13, r169_15, r169_18, r169_19, r169_20, r169_21, r169_24, r169_25, r169_28, r169_29, r169_30, r169_31, r169_34, r169_35, r169_36, r169_39, q1])
  all_goals first | rfl | (exfalso; omega)
theorem t191 {L : Nat} (hF : zFr h) (hL : zLit h) (hl : zLn L h p w) (hi : 0 ≤ i ∧ i < 9 ∧ i < zwn w)
    (kk : ∀ h' p', zEx h h' 2 1004 → zSd L h' p' (zwd_ w i.toNat) → Q (.inl (some (.ref p'))) h') : z_Cl 191 [.ref p, zi i] h Q := by
  obtain ⟨t, sa, ea, B, E, q1, -⟩ := id hl
  simp (disch := first | omega | assumption | exact zq_r _ | exact zn_0 | exact zo_i _ | exact zo_r _ | exact zq_k _ | exact zq_n | exact zn_1 _ | exact zn_2 _ _ | exact zn_3 _ _ _ | exact zn_4 _ _ _ _ | exact zn_5 _ _ _ _ _ | exact zc_i _ | exact zc_r _ | exact zo_l _ | exact zo_k _ | exact zo_n | exact zc_rk _ | (rw [zx_id (by omega)]; omega) | (rw [zw_id (by omega)]; omega) | (apply z_ok_v; assumption) | (simp only [z_new_1, z_pu_1, mh_1]; omega)) only [z_EvO_some, z_EvG_t, z_Bk_n, z_Bk_s, z_brT, z_brF, z_br_pos, z_br_neg, not_true_eq_false, not_false_eq_true, Bool.true_eq_false, Bool.false_eq_true, Bool.not_eq_false, Bool.not_eq_true, eq_self, z_kl_i, z_kl_l, z_kl_r, z_kl_k, z_kl_n, z_kl_u, z_kl_v, zi_f, zl_f, z_put_r, z_nul_n, z_nul_r, zcmp_lt, zcmp_le, zcmp_ge, zcmp_gt, zcmp_eq, zw_id, zx_id, Nat.reduceAdd, z_tf_i, z_tf_l, z_tf_z, zl_zx, zi_zw, z_gf0, z_gf1, z_gf2, z_gf3, z_gf4, z_gf5, z_gf6, z_gf7, z_pf0, z_pf1, z_pf2, z_pf3, z_pf4, z_pf5, z_pf6, z_pf7, z_ob1, zb_0, zb_1, zb_tf, e191, r191_0, r191_1, r191_2, r191_4, r191_7, q1]
  refine t169 hF hL hl hi rfl (fun h' p' x hd => ?_)
  simp (disch := first | omega | assumption | exact zq_r _ | exact zn_0 | exact zo_i _ | exact zo_r _ | exact zq_k _ | exact zq_n | exact zn_1 _ | exact zn_2 _ _ | exact zn_3 _ _ _ | exact zn_4 _ _ _ _ | exact zn_5 _ _ _ _ _ | exact zc_i _ | exact zc_r _ | exact zo_l _ | exact zo_k _ | exact zo_n | exact zc_rk _ | (rw [zx_id (by omega)]; omega) | (rw [zw_id (by omega)]; omega) | (apply z_ok_v; assumption) | (simp only [z_new_1, z_pu_1, mh_1]; omega)) only [z_EvO_some, z_EvG_t, z_Bk_n, z_Bk_s, z_brT, z_brF, z_br_pos, z_br_neg, not_true_eq_false, not_false_eq_true, Bool.true_eq_false, Bool.false_eq_true, Bool.not_eq_false, Bool.not_eq_true, eq_self, z_kl_i, z_kl_l, z_kl_r, z_kl_k, z_kl_n, z_kl_u, z_kl_v, zi_f, zl_f, z_put_r, z_nul_n, z_nul_r, zcmp_lt, zcmp_le, zcmp_ge, zcmp_gt, zcmp_eq, zw_id, zx_id, Nat.reduceAdd, z_tf_i, z_tf_l, z_tf_z, zl_zx, zi_zw, z_gf0, z_gf1, z_gf2, z_gf3, z_gf4, z_gf5, z_gf6, z_gf7, z_pf0, z_pf1, z_pf2, z_pf3, z_pf4, z_pf5, z_pf6, z_pf7, z_ob1, zb_0, zb_1, zb_tf, r191_0, r191_1, r191_2, r191_4, r191_7]
  exact kk h' p' x hd
end ZLn2
