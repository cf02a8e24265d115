/-! a line cut into its words: the class -/
/-- only new cells and those of X -/
def zEy (X : Nat → Prop) (h h' : zH) (A B : Nat) : Prop := h.1 ≤ h'.1 ∧ h'.1 ≤ h.1 + A ∧ h.2.1 ≤ h'.2.1 ∧ h'.2.1 ≤ h.2.1 + B ∧ (∀ a, a < h.1 → ¬ X a → z_at h' (.ref a) = z_at h (.ref a)) ∧ (∀ k, z_at h' (.retAddr k) = z_at h (.retAddr k)) ∧ zFr h'
theorem zEx.ey {X : Nat → Prop} {h h' : zH} {A B : Nat} (x : zEx h h' A B) : zEy X h h' A B := by
  obtain ⟨a1, a2, a3, a4, a5, a6, a7⟩ := x
  exact ⟨a1, a2, a3, a4, fun a ha _ => a5 a ha, a6, a7⟩
theorem zEy.trans {X : Nat → Prop} {h h1 h2 : zH} {A B A2 B2 : Nat} (x : zEy X h h1 A B) (y : zEy X h1 h2 A2 B2) : zEy X h h2 (A + A2) (B + B2) := by
  obtain ⟨a1, a2, a3, a4, a5, a6, a7⟩ := x
  obtain ⟨b1, b2, b3, b4, b5, b6, b7⟩ := y
  exact ⟨by omega, by omega, by omega, by omega, fun a ha hx => (b5 a (by omega) hx).trans (a5 a ha hx), fun k => (b6 k).trans (a6 k), b7⟩
theorem zEy.mono {X : Nat → Prop} {h h1 : zH} {A B A2 B2 : Nat} (x : zEy X h h1 A B) (h2 : A ≤ A2) (h3 : B ≤ B2) : zEy X h h1 A2 B2 := by
  obtain ⟨a1, a2, a3, a4, a5, a6, a7⟩ := x
  exact ⟨a1, by omega, a3, by omega, a5, a6, a7⟩
theorem zEy.new {X : Nat → Prop} {h0 h : zH} {A B n : Nat} {e : zE} (x : zEy X h0 h A B) : zEy X h0 (z_new h n e) (A + 1) (B + n) := by
  obtain ⟨a1, a2, a3, a4, a5, a6, a7⟩ := x
  refine ⟨by rw [z_new_1]; omega, by rw [z_new_1]; omega, by rw [z_new_2]; omega, by rw [z_new_2]; omega, fun a ha hx => ?_, fun k => a6 k, zFr_new a7⟩
  rw [z_at_new_n (by omega)]
  exact a5 a ha hx
theorem zEy.pu {X : Nat → Prop} {h0 h : zH} {A B b : Nat} {e : zE} (x : zEy X h0 h A B) (h1 : h0.1 ≤ b ∨ X b) (h2 : b < h.1) : zEy X h0 (z_pu h b e) A B := by
  obtain ⟨a1, a2, a3, a4, a5, a6, a7⟩ := x
  refine ⟨a1, a2, a3, a4, fun a ha hx => ?_, fun k => a6 k, zFr_pu a7 h2⟩
  rw [z_at_pu_n (by rintro rfl; rcases h1 with h1 | h1; omega; exact hx h1)]
  exact a5 a ha hx
theorem zEy.at {X : Nat → Prop} {h h1 : zH} {A B : Nat} (x : zEy X h h1 A B) (hF : zFr h) {v : Value} (hv : z_isref v = true) {e : zE} (he : z_at h v = e) (hn : e ≠ z_jk) (hX : ∀ a, v = .ref a → ¬ X a) : z_at h1 v = e := by
  obtain ⟨a1, a2, a3, a4, a5, a6, a7⟩ := x
  cases v with
  | ref a => rw [a5 a (zFr_lt hF he hn) (hX a rfl)]; exact he
  | retAddr k => rw [a6 k]; exact he
  | null => exact he
  | _ => simp [z_isref] at hv
theorem z_pu_id {h : zH} {a : Nat} {e : zE} (he : z_at h (.ref a) = e) : z_pu h a e = h := by
  obtain ⟨x, y, c, k⟩ := h
  unfold z_pu
  have h1 : va_up c a e = c := by
    rw [← he]
    exact va_up_id c a
  rw [h1]
theorem z_pu_pu (h : zH) (a : Nat) (e e2 : zE) : z_pu (z_pu h a e) a e2 = z_pu h a e2 := by
  unfold z_pu
  dsimp only
  rw [va_up_up]
theorem z_pu_cm (h : zH) {a b : Nat} (e e2 : zE) (hab : a ≠ b) : z_pu (z_pu h a e) b e2 = z_pu (z_pu h b e2) a e := by
  unfold z_pu
  dsimp only
  congr 3
  funext j
  by_cases j1 : j = b
  · subst j1; rw [va_up_self, va_up_ne _ _ (Ne.symm hab), va_up_self]
  · by_cases j2 : j = a
    · subst j2; rw [va_up_ne _ _ j1, va_up_self, va_up_self]
    · rw [va_up_ne _ _ j1, va_up_ne _ _ j2, va_up_ne _ _ j2, va_up_ne _ _ j1]
section ZLn
variable {h : zH} {Q : zO → zH → Prop} {v : Value} {w : List Int} {s sa ea : Nat}
/-- the text by its places -/
def zdW (w : List Int) (j : Nat) : Int := w.getD j 0
theorem l153 (hse : sa ≠ ea) (hss : s ≠ sa ∧ s ≠ ea) (hs : ∀ B E : Nat → Int, zSt (z_pu (z_pu h sa (zA 1 9 B)) ea (zA 1 9 E)) v w) (hw60 : w.length ≤ 60) {v3 : Value}
    (ho : z_at h (.ref s) = .inr (6, [v, .ref sa, .ref ea, v3]))
    (kk : ∀ B E : Nat → Int, (∀ k : Nat, k < 9 → (k : Int) < (zsp (zdW w) w.length).1 → B k = (zsp (zdW w) w.length).2.1 k ∧ E k = (zsp (zdW w) w.length).2.2 k) → Q (.inl none) (z_pu (z_pu (z_pu h sa (zA 1 9 B)) ea (zA 1 9 E)) s (.inr (6, [v, .ref sa, .ref ea, zi (zsp (zdW w) w.length).1])))) :
    ∀ (r i : Nat) (B E : Nat → Int), i + r = w.length → (∀ k : Nat, k < 9 → (k : Int) < (zsp (zdW w) i).1 → B k = (zsp (zdW w) i).2.1 k ∧ E k = (zsp (zdW w) i).2.2 k) → z_Ev 153 29 [.ref s, v, zi (zsp (zdW w) i).1, zi i] [] (z_pu (z_pu h sa (zA 1 9 B)) ea (zA 1 9 E)) Q := by
  have hrf := zSt_rf (hs (fun _ => 0) (fun _ => 0))
  have hw := zSt_w (hs (fun _ => 0) (fun _ => 0))
  have hat : ∀ B E, z_at (z_pu (z_pu h sa (zA 1 9 B)) ea (zA 1 9 E)) (.ref s) = .inr (6, [v, .ref sa, .ref ea, v3]) := fun B E => by rw [z_at_pu_n hss.2, z_at_pu_n hss.1]; exact ho
  have has : ∀ B E, z_at (z_pu (z_pu h sa (zA 1 9 B)) ea (zA 1 9 E)) (.ref sa) = zA 1 9 B := fun B E => by rw [z_at_pu_n hse, z_at_pu_s]
  have hae : ∀ B E, z_at (z_pu (z_pu h sa (zA 1 9 B)) ea (zA 1 9 E)) (.ref ea) = zA 1 9 E := fun B E => by rw [z_at_pu_s]
  have hps : ∀ B E B', z_pu (z_pu (z_pu h sa (zA 1 9 B)) ea (zA 1 9 E)) sa (zA 1 9 B') = z_pu (z_pu h sa (zA 1 9 B')) ea (zA 1 9 E) := fun B E B' => by rw [z_pu_cm _ _ _ (Ne.symm hse), z_pu_pu]
  have hpe : ∀ B E E', z_pu (z_pu (z_pu h sa (zA 1 9 B)) ea (zA 1 9 E)) ea (zA 1 9 E') = z_pu (z_pu h sa (zA 1 9 B)) ea (zA 1 9 E') := fun B E E' => by rw [z_pu_pu]
  intro r
  induction r with
  | zero =>
    intro i B E hi hBE
    obtain rfl : i = w.length := by omega
    have := kk B E hBE
    rw [k153_29]
    simp (disch := first | omega | assumption | exact zq_r _ | exact zn_0 | exact zo_i _ | exact zo_r _ | exact zq_k _ | exact zq_n | exact zn_1 _ | exact zn_2 _ _ | exact zn_3 _ _ _ | exact zn_4 _ _ _ _ | exact zn_5 _ _ _ _ _ | exact zc_i _ | exact zc_r _ | exact zo_l _ | exact zo_k _ | exact zo_n | exact zc_rk _ | (rw [zx_id (by omega)]; omega) | (rw [zw_id (by omega)]; omega) | (apply z_ok_v; assumption) | (simp only [z_new_1, z_pu_1, mh_1]; omega)) only [z_EvO_some, z_EvG_t, z_Bk_n, z_Bk_s, z_brT, z_brF, z_br_pos, z_br_neg, not_true_eq_false, not_false_eq_true, Bool.true_eq_false, Bool.false_eq_true, Bool.not_eq_false, Bool.not_eq_true, eq_self, z_kl_i, z_kl_l, z_kl_r, z_kl_k, z_kl_n, z_kl_u, z_kl_v, zi_f, zl_f, z_put_r, z_nul_n, z_nul_r, zcmp_lt, zcmp_le, zcmp_ge, zcmp_gt, zcmp_eq, zw_id, zx_id, Nat.reduceAdd, z_tf_i, z_tf_l, z_tf_z, zl_zx, zi_zw, z_gf0, z_gf1, z_gf2, z_gf3, z_gf4, z_gf5, z_gf6, z_gf7, z_pf0, z_pf1, z_pf2, z_pf3, z_pf4, z_pf5, z_pf6, z_pf7, z_ob1, zb_0, zb_1, zb_tf, r153_0, r153_1, r153_4, r153_5, r153_7, r153_9, r153_12, r153_13, r153_15, r153_17, r153_20, r153_21, r153_22, r153_25, r153_26, r153_27, r153_28, r153_30, r153_31, r153_34, r153_37, r153_38, r153_39, r153_42, r153_44, r153_47, r153_50, r153_51, r153_54, r153_55, r153_56, r153_57, r153_58, r153_61, r153_63, r153_66, r153_69, r153_70, r153_72, r153_75, r153_76, r153_79, r153_80, r153_81, r153_82, r153_83, r153_84, r153_85, r153_87, r153_90, r153_91, r153_94, r153_95, r153_96, r153_97, r153_98, r153_99, r153_100, r153_101, r153_104, r153_107, r153_108, r153_109, r153_112, t103 (hs B E), zSt_ob (hs B E), hat]
    exact this
  | succ r ih =>
    intro i B E hi hBE
    have hp := zsp_p (zdW w) i
    have b1 := zw_c hw.2 i (by omega)
    have e0 : (i : Int).toNat = i := by omega
    have e1 : (i : Int) + 1 = ((i + 1 : Nat) : Int) := by omega
    rw [k153_29]
    by_cases hb : w.getD i 0 = 32
    · have h9 := ih (i + 1) B E (by omega) (by rw [zsp_b (show zdW w i = 32 from hb)]; exact hBE)
      rw [zsp_b (show zdW w i = 32 from hb), ← e1] at h9
      simp (disch := first | omega | assumption | exact zq_r _ | exact zn_0 | exact zo_i _ | exact zo_r _ | exact zq_k _ | exact zq_n | exact zn_1 _ | exact zn_2 _ _ | exact zn_3 _ _ _ | exact zn_4 _ _ _ _ | exact zn_5 _ _ _ _ _ | exact zc_i _ | exact zc_r _ | exact zo_l _ | exact zo_k _ | exact zo_n | exact zc_rk _ | (rw [zx_id (by omega)]; omega) | (rw [zw_id (by omega)]; omega) | (apply z_ok_v; assumption) | (simp only [z_new_1, z_pu_1, mh_1]; omega)) only [z_EvO_some, z_EvG_t, z_Bk_n, z_Bk_s, z_brT, z_brF, z_br_pos, z_br_neg, not_true_eq_false, not_false_eq_true, Bool.true_eq_false, Bool.false_eq_true, Bool.not_eq_false, Bool.not_eq_true, eq_self, z_kl_i, z_kl_l, z_kl_r, z_kl_k, z_kl_n, z_kl_u, z_kl_v, zi_f, zl_f, z_put_r, z_nul_n, z_nul_r, zcmp_lt, zcmp_le, zcmp_ge, zcmp_gt, zcmp_eq, zw_id, zx_id, Nat.reduceAdd, z_tf_i, z_tf_l, z_tf_z, zl_zx, zi_zw, z_gf0, z_gf1, z_gf2, z_gf3, z_gf4, z_gf5, z_gf6, z_gf7, z_pf0, z_pf1, z_pf2, z_pf3, z_pf4, z_pf5, z_pf6, z_pf7, z_ob1, zb_0, zb_1, zb_tf, r153_0, r153_1, r153_4, r153_5, r153_7, r153_9, r153_12, r153_13, r153_15, r153_17, r153_20, r153_21, r153_22, r153_25, r153_26, r153_27, r153_28, r153_30, r153_31, r153_34, r153_37, r153_38, r153_39, r153_42, r153_44, r153_47, r153_50, r153_51, r153_54, r153_55, r153_56, r153_57, r153_58, r153_61, r153_63, r153_66, r153_69, r153_70, r153_72, r153_75, r153_76, r153_79, r153_80, r153_81, r153_82, r153_83, r153_84, r153_85, r153_87, r153_90, r153_91, r153_94, r153_95, r153_96, r153_97, r153_98, r153_99, r153_100, r153_101, r153_104, r153_107, r153_108, r153_109, r153_112, t103 (hs B E), zSt_ob (hs B E), t144 (hs B E), e0, hb]
      exact h9
    · -- the end of the word is noted
      have fin : ∀ (B : Nat → Int), (zsp (zdW w) (i + 1)).1 ≤ 9 → (∀ k : Nat, k < 9 → (k : Int) < (zsp (zdW w) (i + 1)).1 → B k = (zsp (zdW w) (i + 1)).2.1 k ∧ ((k : Int) ≠ (zsp (zdW w) (i + 1)).1 - 1 → E k = (zsp (zdW w) (i + 1)).2.2 k)) → z_Ev 153 84 [.ref s, v, zi (zsp (zdW w) (i + 1)).1, zi i] [] (z_pu (z_pu h sa (zA 1 9 B)) ea (zA 1 9 E)) Q := by
        intro B h9 hB
        have hp1 := zsp_p (zdW w) (i + 1)
        have h5 := hp1.2.2.1 (by omega) (by rw [Nat.add_sub_cancel]; exact hb)
        have h6 := ih (i + 1) B (va_up E ((zsp (zdW w) (i + 1)).1 - 1).toNat (i + 1)) (by omega) (fun k a1 a2 => by
          refine ⟨(hB k a1 a2).1, ?_⟩
          by_cases hk : k = ((zsp (zdW w) (i + 1)).1 - 1).toNat
          · rw [hk, va_up_self, h5.2]
            omega
          · rw [va_up_ne _ _ hk]
            exact (hB k a1 a2).2 (by omega))
        rw [← e1] at h6
        simp (disch := first | omega | assumption | exact zq_r _ | exact zn_0 | exact zo_i _ | exact zo_r _ | exact zq_k _ | exact zq_n | exact zn_1 _ | exact zn_2 _ _ | exact zn_3 _ _ _ | exact zn_4 _ _ _ _ | exact zn_5 _ _ _ _ _ | exact zc_i _ | exact zc_r _ | exact zo_l _ | exact zo_k _ | exact zo_n | exact zc_rk _ | (rw [zx_id (by omega)]; omega) | (rw [zw_id (by omega)]; omega) | (apply z_ok_v; assumption) | (simp only [z_new_1, z_pu_1, mh_1]; omega)) only [z_EvO_some, z_EvG_t, z_Bk_n, z_Bk_s, z_brT, z_brF, z_br_pos, z_br_neg, not_true_eq_false, not_false_eq_true, Bool.true_eq_false, Bool.false_eq_true, Bool.not_eq_false, Bool.not_eq_true, eq_self, z_kl_i, z_kl_l, z_kl_r, z_kl_k, z_kl_n, z_kl_u, z_kl_v, zi_f, zl_f, z_put_r, z_nul_n, z_nul_r, zcmp_lt, zcmp_le, zcmp_ge, zcmp_gt, zcmp_eq, zw_id, zx_id, Nat.reduceAdd, z_tf_i, z_tf_l, z_tf_z, zl_zx, zi_zw, z_gf0, z_gf1, z_gf2, z_gf3, z_gf4, z_gf5, z_gf6, z_gf7, z_pf0, z_pf1, z_pf2, z_pf3, z_pf4, z_pf5, z_pf6, z_pf7, z_ob1, zb_0, zb_1, zb_tf, r153_0, r153_1, r153_4, r153_5, r153_7, r153_9, r153_12, r153_13, r153_15, r153_17, r153_20, r153_21, r153_22, r153_25, r153_26, r153_27, r153_28, r153_30, r153_31, r153_34, r153_37, r153_38, r153_39, r153_42, r153_44, r153_47, r153_50, r153_51, r153_54, r153_55, r153_56, r153_57, r153_58, r153_61, r153_63, r153_66, r153_69, r153_70, r153_72, r153_75, r153_76, r153_79, r153_80, r153_81, r153_82, r153_83, r153_84, r153_85, r153_87, r153_90, r153_91, r153_94, r153_95, r153_96, r153_97, r153_98, r153_99, r153_100, r153_101, r153_104, r153_107, r153_108, r153_109, r153_112, hat, hae, hpe, zg_si_A]
        exact h6
      have big : ¬ (zsp (zdW w) (i + 1)).1 ≤ 9 → (∀ k : Nat, k < 9 → (k : Int) < (zsp (zdW w) (i + 1)).1 → B k = (zsp (zdW w) (i + 1)).2.1 k ∧ E k = (zsp (zdW w) (i + 1)).2.2 k) → z_Ev 153 84 [.ref s, v, zi (zsp (zdW w) (i + 1)).1, zi i] [] (z_pu (z_pu h sa (zA 1 9 B)) ea (zA 1 9 E)) Q := by
        intro h9 hB
        have hp1 := zsp_p (zdW w) (i + 1)
        have h6 := ih (i + 1) B E (by omega) hB
        rw [← e1] at h6
        simp (disch := first | omega | assumption | exact zq_r _ | exact zn_0 | exact zo_i _ | exact zo_r _ | exact zq_k _ | exact zq_n | exact zn_1 _ | exact zn_2 _ _ | exact zn_3 _ _ _ | exact zn_4 _ _ _ _ | exact zn_5 _ _ _ _ _ | exact zc_i _ | exact zc_r _ | exact zo_l _ | exact zo_k _ | exact zo_n | exact zc_rk _ | (rw [zx_id (by omega)]; omega) | (rw [zw_id (by omega)]; omega) | (apply z_ok_v; assumption) | (simp only [z_new_1, z_pu_1, mh_1]; omega)) only [z_EvO_some, z_EvG_t, z_Bk_n, z_Bk_s, z_brT, z_brF, z_br_pos, z_br_neg, not_true_eq_false, not_false_eq_true, Bool.true_eq_false, Bool.false_eq_true, Bool.not_eq_false, Bool.not_eq_true, eq_self, z_kl_i, z_kl_l, z_kl_r, z_kl_k, z_kl_n, z_kl_u, z_kl_v, zi_f, zl_f, z_put_r, z_nul_n, z_nul_r, zcmp_lt, zcmp_le, zcmp_ge, zcmp_gt, zcmp_eq, zw_id, zx_id, Nat.reduceAdd, z_tf_i, z_tf_l, z_tf_z, zl_zx, zi_zw, z_gf0, z_gf1, z_gf2, z_gf3, z_gf4, z_gf5, z_gf6, z_gf7, z_pf0, z_pf1, z_pf2, z_pf3, z_pf4, z_pf5, z_pf6, z_pf7, z_ob1, zb_0, zb_1, zb_tf, r153_0, r153_1, r153_4, r153_5, r153_7, r153_9, r153_12, r153_13, r153_15, r153_17, r153_20, r153_21, r153_22, r153_25, r153_26, r153_27, r153_28, r153_30, r153_31, r153_34, r153_37, r153_38, r153_39, r153_42, r153_44, r153_47, r153_50, r153_51, r153_54, r153_55, r153_56, r153_57, r153_58, r153_61, r153_63, r153_66, r153_69, r153_70, r153_72, r153_75, r153_76, r153_79, r153_80, r153_81, r153_82, r153_83, r153_84, r153_85, r153_87, r153_90, r153_91, r153_94, r153_95, r153_96, r153_97, r153_98, r153_99, r153_100, r153_101, r153_104, r153_107, r153_108, r153_109, r153_112]
        exact h6
      by_cases hst : i = 0 ∨ zdW w (i - 1) = 32
      · have e3 := zsp_s (d := zdW w) hb hst
        have e4 : (zsp (zdW w) (i + 1)).1 = (zsp (zdW w) i).1 + 1 := by rw [e3]
        have go : z_Ev 153 66 [.ref s, v, zi (zsp (zdW w) i).1, zi i] [] (z_pu (z_pu h sa (zA 1 9 B)) ea (zA 1 9 E)) Q := by
          by_cases h9 : (zsp (zdW w) i).1 + 1 ≤ 9
          · simp (disch := first | omega | assumption | exact zq_r _ | exact zn_0 | exact zo_i _ | exact zo_r _ | exact zq_k _ | exact zq_n | exact zn_1 _ | exact zn_2 _ _ | exact zn_3 _ _ _ | exact zn_4 _ _ _ _ | exact zn_5 _ _ _ _ _ | exact zc_i _ | exact zc_r _ | exact zo_l _ | exact zo_k _ | exact zo_n | exact zc_rk _ | (rw [zx_id (by omega)]; omega) | (rw [zw_id (by omega)]; omega) | (apply z_ok_v; assumption) | (simp only [z_new_1, z_pu_1, mh_1]; omega)) only [z_EvO_some, z_EvG_t, z_Bk_n, z_Bk_s, z_brT, z_brF, z_br_pos, z_br_neg, not_true_eq_false, not_false_eq_true, Bool.true_eq_false, Bool.false_eq_true, Bool.not_eq_false, Bool.not_eq_true, eq_self, z_kl_i, z_kl_l, z_kl_r, z_kl_k, z_kl_n, z_kl_u, z_kl_v, zi_f, zl_f, z_put_r, z_nul_n, z_nul_r, zcmp_lt, zcmp_le, zcmp_ge, zcmp_gt, zcmp_eq, zw_id, zx_id, Nat.reduceAdd, z_tf_i, z_tf_l, z_tf_z, zl_zx, zi_zw, z_gf0, z_gf1, z_gf2, z_gf3, z_gf4, z_gf5, z_gf6, z_gf7, z_pf0, z_pf1, z_pf2, z_pf3, z_pf4, z_pf5, z_pf6, z_pf7, z_ob1, zb_0, zb_1, zb_tf, r153_0, r153_1, r153_4, r153_5, r153_7, r153_9, r153_12, r153_13, r153_15, r153_17, r153_20, r153_21, r153_22, r153_25, r153_26, r153_27, r153_28, r153_30, r153_31, r153_34, r153_37, r153_38, r153_39, r153_42, r153_44, r153_47, r153_50, r153_51, r153_54, r153_55, r153_56, r153_57, r153_58, r153_61, r153_63, r153_66, r153_69, r153_70, r153_72, r153_75, r153_76, r153_79, r153_80, r153_81, r153_82, r153_83, r153_85, r153_87, r153_90, r153_91, r153_94, r153_95, r153_96, r153_97, r153_98, r153_99, r153_100, r153_101, r153_104, r153_107, r153_108, r153_109, r153_112, hat, has, hps, zg_si_A, show (zsp (zdW w) i).1 + 1 - 1 = (zsp (zdW w) i).1 by omega]
            rw [← e4]
            refine fin _ (by omega) (fun k a1 a2 => ?_)
            rw [e3]
            dsimp only
            by_cases hk : k = (zsp (zdW w) i).1.toNat
            · rw [hk, va_up_self, va_up_self]
              exact ⟨rfl, fun q => by omega⟩
            · rw [va_up_ne _ _ hk, va_up_ne _ _ hk, va_up_ne _ _ hk]
              have := hBE k a1 (by omega)
              exact ⟨this.1, fun _ => this.2⟩
          · simp (disch := first | omega | assumption | exact zq_r _ | exact zn_0 | exact zo_i _ | exact zo_r _ | exact zq_k _ | exact zq_n | exact zn_1 _ | exact zn_2 _ _ | exact zn_3 _ _ _ | exact zn_4 _ _ _ _ | exact zn_5 _ _ _ _ _ | exact zc_i _ | exact zc_r _ | exact zo_l _ | exact zo_k _ | exact zo_n | exact zc_rk _ | (rw [zx_id (by omega)]; omega) | (rw [zw_id (by omega)]; omega) | (apply z_ok_v; assumption) | (simp only [z_new_1, z_pu_1, mh_1]; omega)) only [z_EvO_some, z_EvG_t, z_Bk_n, z_Bk_s, z_brT, z_brF, z_br_pos, z_br_neg, not_true_eq_false, not_false_eq_true, Bool.true_eq_false, Bool.false_eq_true, Bool.not_eq_false, Bool.not_eq_true, eq_self, z_kl_i, z_kl_l, z_kl_r, z_kl_k, z_kl_n, z_kl_u, z_kl_v, zi_f, zl_f, z_put_r, z_nul_n, z_nul_r, zcmp_lt, zcmp_le, zcmp_ge, zcmp_gt, zcmp_eq, zw_id, zx_id, Nat.reduceAdd, z_tf_i, z_tf_l, z_tf_z, zl_zx, zi_zw, z_gf0, z_gf1, z_gf2, z_gf3, z_gf4, z_gf5, z_gf6, z_gf7, z_pf0, z_pf1, z_pf2, z_pf3, z_pf4, z_pf5, z_pf6, z_pf7, z_ob1, zb_0, zb_1, zb_tf, r153_0, r153_1, r153_4, r153_5, r153_7, r153_9, r153_12, r153_13, r153_15, r153_17, r153_20, r153_21, r153_22, r153_25, r153_26, r153_27, r153_28, r153_30, r153_31, r153_34, r153_37, r153_38, r153_39, r153_42, r153_44, r153_47, r153_50, r153_51, r153_54, r153_55, r153_56, r153_57, r153_58, r153_61, r153_63, r153_66, r153_69, r153_70, r153_72, r153_75, r153_76, r153_79, r153_80, r153_81, r153_82, r153_83, r153_85, r153_87, r153_90, r153_91, r153_94, r153_95, r153_96, r153_97, r153_98, r153_99, r153_100, r153_101, r153_104, r153_107, r153_108, r153_109, r153_112]
            rw [← e4]
            refine big (by omega) (fun k a1 a2 => ?_)
            rw [e3]
            dsimp only
            rw [va_up_ne _ _ (by omega), va_up_ne _ _ (by omega)]
            exact hBE k a1 (by omega)
        by_cases hi0 : i = 0
        · simp (disch := first | omega | assumption | exact zq_r _ | exact zn_0 | exact zo_i _ | exact zo_r _ | exact zq_k _ | exact zq_n | exact zn_1 _ | exact zn_2 _ _ | exact zn_3 _ _ _ | exact zn_4 _ _ _ _ | exact zn_5 _ _ _ _ _ | exact zc_i _ | exact zc_r _ | exact zo_l _ | exact zo_k _ | exact zo_n | exact zc_rk _ | (rw [zx_id (by omega)]; omega) | (rw [zw_id (by omega)]; omega) | (apply z_ok_v; assumption) | (simp only [z_new_1, z_pu_1, mh_1]; omega)) only [z_EvO_some, z_EvG_t, z_Bk_n, z_Bk_s, z_brT, z_brF, z_br_pos, z_br_neg, not_true_eq_false, not_false_eq_true, Bool.true_eq_false, Bool.false_eq_true, Bool.not_eq_false, Bool.not_eq_true, eq_self, z_kl_i, z_kl_l, z_kl_r, z_kl_k, z_kl_n, z_kl_u, z_kl_v, zi_f, zl_f, z_put_r, z_nul_n, z_nul_r, zcmp_lt, zcmp_le, zcmp_ge, zcmp_gt, zcmp_eq, zw_id, zx_id, Nat.reduceAdd, z_tf_i, z_tf_l, z_tf_z, zl_zx, zi_zw, z_gf0, z_gf1, z_gf2, z_gf3, z_gf4, z_gf5, z_gf6, z_gf7, z_pf0, z_pf1, z_pf2, z_pf3, z_pf4, z_pf5, z_pf6, z_pf7, z_ob1, zb_0, zb_1, zb_tf, r153_0, r153_1, r153_4, r153_5, r153_7, r153_9, r153_12, r153_13, r153_15, r153_17, r153_20, r153_21, r153_22, r153_25, r153_26, r153_27, r153_28, r153_30, r153_31, r153_34, r153_37, r153_38, r153_39, r153_42, r153_44, r153_47, r153_50, r153_51, r153_54, r153_55, r153_56, r153_57, r153_58, r153_61, r153_63, r153_69, r153_70, r153_72, r153_75, r153_76, r153_79, r153_80, r153_81, r153_82, r153_83, r153_84, r153_85, r153_87, r153_90, r153_91, r153_94, r153_95, r153_96, r153_97, r153_98, r153_99, r153_100, r153_101, r153_104, r153_107, r153_108, r153_109, r153_112, t103 (hs B E), zSt_ob (hs B E), t144 (hs B E), e0]
          exact go
        · have hpv : w.getD (i - 1) 0 = 32 := by
            rcases hst with q | q
            · omega
            · exact q
          have e5 : ((i : Int) - 1).toNat = i - 1 := by omega
          simp (disch := first | omega | assumption | exact zq_r _ | exact zn_0 | exact zo_i _ | exact zo_r _ | exact zq_k _ | exact zq_n | exact zn_1 _ | exact zn_2 _ _ | exact zn_3 _ _ _ | exact zn_4 _ _ _ _ | exact zn_5 _ _ _ _ _ | exact zc_i _ | exact zc_r _ | exact zo_l _ | exact zo_k _ | exact zo_n | exact zc_rk _ | (rw [zx_id (by omega)]; omega) | (rw [zw_id (by omega)]; omega) | (apply z_ok_v; assumption) | (simp only [z_new_1, z_pu_1, mh_1]; omega)) only [z_EvO_some, z_EvG_t, z_Bk_n, z_Bk_s, z_brT, z_brF, z_br_pos, z_br_neg, not_true_eq_false, not_false_eq_true, Bool.true_eq_false, Bool.false_eq_true, Bool.not_eq_false, Bool.not_eq_true, eq_self, z_kl_i, z_kl_l, z_kl_r, z_kl_k, z_kl_n, z_kl_u, z_kl_v, zi_f, zl_f, z_put_r, z_nul_n, z_nul_r, zcmp_lt, zcmp_le, zcmp_ge, zcmp_gt, zcmp_eq, zw_id, zx_id, Nat.reduceAdd, z_tf_i, z_tf_l, z_tf_z, zl_zx, zi_zw, z_gf0, z_gf1, z_gf2, z_gf3, z_gf4, z_gf5, z_gf6, z_gf7, z_pf0, z_pf1, z_pf2, z_pf3, z_pf4, z_pf5, z_pf6, z_pf7, z_ob1, zb_0, zb_1, zb_tf, r153_0, r153_1, r153_4, r153_5, r153_7, r153_9, r153_12, r153_13, r153_15, r153_17, r153_20, r153_21, r153_22, r153_25, r153_26, r153_27, r153_28, r153_30, r153_31, r153_34, r153_37, r153_38, r153_39, r153_42, r153_44, r153_47, r153_50, r153_51, r153_54, r153_55, r153_56, r153_57, r153_58, r153_61, r153_63, r153_69, r153_70, r153_72, r153_75, r153_76, r153_79, r153_80, r153_81, r153_82, r153_83, r153_84, r153_85, r153_87, r153_90, r153_91, r153_94, r153_95, r153_96, r153_97, r153_98, r153_99, r153_100, r153_101, r153_104, r153_107, r153_108, r153_109, r153_112, t103 (hs B E), zSt_ob (hs B E), t144 (hs B E), e0, e5, hpv]
          exact go
      · have e3 := zsp_m (d := zdW w) hb hst
        have e4 : (zsp (zdW w) (i + 1)).1 = (zsp (zdW w) i).1 := by rw [e3]
        have b2 := zw_c hw.2 (i - 1) (by omega)
        have e5 : ((i : Int) - 1).toNat = i - 1 := by omega
        have hpv : ¬ w.getD (i - 1) 0 = 32 := fun q => hst (Or.inr q)
        have go : z_Ev 153 84 [.ref s, v, zi (zsp (zdW w) i).1, zi i] [] (z_pu (z_pu h sa (zA 1 9 B)) ea (zA 1 9 E)) Q := by
          rw [← e4]
          have hval : ∀ k : Nat, k < 9 → (k : Int) < (zsp (zdW w) (i + 1)).1 → B k = (zsp (zdW w) (i + 1)).2.1 k ∧ ((k : Int) ≠ (zsp (zdW w) (i + 1)).1 - 1 → E k = (zsp (zdW w) (i + 1)).2.2 k) := by
            intro k a1 a2
            rw [e3] at a2 ⊢
            dsimp only at a2 ⊢
            have := hBE k a1 a2
            refine ⟨this.1, fun q => ?_⟩
            rw [va_up_ne _ _ (by omega)]
            exact this.2
          by_cases h9 : (zsp (zdW w) (i + 1)).1 ≤ 9
          · exact fin B h9 hval
          · exact big h9 (fun k a1 a2 => ⟨(hval k a1 a2).1, (hval k a1 a2).2 (by omega)⟩)
        simp (disch := first | omega | assumption | exact zq_r _ | exact zn_0 | exact zo_i _ | exact zo_r _ | exact zq_k _ | exact zq_n | exact zn_1 _ | exact zn_2 _ _ | exact zn_3 _ _ _ | exact zn_4 _ _ _ _ | exact zn_5 _ _ _ _ _ | exact zc_i _ | exact zc_r _ | exact zo_l _ | exact zo_k _ | exact zo_n | exact zc_rk _ | (rw [zx_id (by omega)]; omega) | (rw [zw_id (by omega)]; omega) | (apply z_ok_v; assumption) | (simp only [z_new_1, z_pu_1, mh_1]; omega)) only [z_EvO_some, z_EvG_t, z_Bk_n, z_Bk_s, z_brT, z_brF, z_br_pos, z_br_neg, not_true_eq_false, not_false_eq_true, Bool.true_eq_false, Bool.false_eq_true, Bool.not_eq_false, Bool.not_eq_true, eq_self, z_kl_i, z_kl_l, z_kl_r, z_kl_k, z_kl_n, z_kl_u, z_kl_v, zi_f, zl_f, z_put_r, z_nul_n, z_nul_r, zcmp_lt, zcmp_le, zcmp_ge, zcmp_gt, zcmp_eq, zw_id, zx_id, Nat.reduceAdd, z_tf_i, z_tf_l, z_tf_z, zl_zx, zi_zw, z_gf0, z_gf1, z_gf2, z_gf3, z_gf4, z_gf5, z_gf6, z_gf7, z_pf0, z_pf1, z_pf2, z_pf3, z_pf4, z_pf5, z_pf6, z_pf7, z_ob1, zb_0, zb_1, zb_tf, r153_0, r153_1, r153_4, r153_5, r153_7, r153_9, r153_12, r153_13, r153_15, r153_17, r153_20, r153_21, r153_22, r153_25, r153_26, r153_27, r153_28, r153_30, r153_31, r153_34, r153_37, r153_38, r153_39, r153_42, r153_44, r153_47, r153_50, r153_51, r153_54, r153_55, r153_56, r153_57, r153_58, r153_61, r153_63, r153_66, r153_69, r153_70, r153_72, r153_75, r153_76, r153_79, r153_80, r153_81, r153_82, r153_83, r153_85, r153_87, r153_90, r153_91, r153_94, r153_95, r153_96, r153_97, r153_98, r153_99, r153_100, r153_101, r153_104, r153_107, r153_108, r153_109, r153_112, t103 (hs B E), zSt_ob (hs B E), t144 (hs B E), e0, e5]
        exact go
end ZLn
