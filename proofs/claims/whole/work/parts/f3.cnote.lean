/-! types and changes noted: the class -/
/-- a type's bytes, as the class has them -/
def zhT (x : zTy) (k : Nat) : Int := zhb x.1 x.2.1 x.2.2 k
/-- a type as it may come -/
def zTo (x : zTy) : Prop := (-1000000 ≤ x.1 ∧ x.1 ≤ 1000000) ∧ (x.2.1 = 0 ∨ x.2.1 = 1) ∧ x.2.2.length ≤ 8 ∧ ∀ c ∈ x.2.2, 32 ≤ c ∧ c ≤ 126
theorem znm_g {l : List Int} (h : ∀ c ∈ l, 32 ≤ c ∧ c ≤ 126) (j : Nat) : (j < l.length → 32 ≤ l.getD j 0 ∧ l.getD j 0 ≤ 126) ∧ (l.length ≤ j → l.getD j 0 = 0) := by
  refine ⟨fun hj => ?_, fun hj => ?_⟩
  · rw [List.getD_eq_getElem?_getD, List.getElem?_eq_getElem hj]
    exact h _ (List.getElem_mem hj)
  · rw [List.getD_eq_getElem?_getD, List.getElem?_eq_none hj]
    rfl
theorem zbm_q (x : Int) : -128 ≤ Int.bmod x 256 ∧ Int.bmod x 256 ≤ 127 ∧ Int.bmod x 256 % 256 = x % 256 := by
  have h := Int.bmod_emod (x := x) (m := 256)
  have h1 : Int.bmod x 256 = if x % 256 < (256 + 1) / 2 then x % 256 else x % 256 - 256 := by
    unfold Int.bmod
    rfl
  rw [h1]
  split <;> omega
theorem zhT_r {x : zTy} (hx : zTo x) (k : Nat) : -128 ≤ zhT x k ∧ zhT x k ≤ 127 := by
  obtain ⟨h1, h2, h3, h4⟩ := hx
  have g := znm_g h4 (k - 5)
  have b0 := zbm_q (x.1 / 16777216)
  have b1 := zbm_q (x.1 / 65536)
  have b2 := zbm_q (x.1 / 256)
  have b3 := zbm_q x.1
  unfold zhT zhb
  split
  · omega
  · split
    · omega
    · split
      · omega
      · split
        · omega
        · split
          · split <;> omega
          · rcases Nat.lt_or_ge (k - 5) x.2.2.length with hl | hl
            · have := g.1 hl; omega
            · have := g.2 hl; omega
theorem zhT_inj {x y : zTy} (hx : zTo x) (hy : zTo y) (h : ∀ k, k < 13 → zhT x k = zhT y k) : x = y := by
  obtain ⟨x1, x2, x3, x4⟩ := hx
  obtain ⟨y1, y2, y3, y4⟩ := hy
  have e0 : Int.bmod (x.1 / 16777216) 256 = Int.bmod (y.1 / 16777216) 256 := h 0 (by decide)
  have e1 : Int.bmod (x.1 / 65536) 256 = Int.bmod (y.1 / 65536) 256 := h 1 (by decide)
  have e2 : Int.bmod (x.1 / 256) 256 = Int.bmod (y.1 / 256) 256 := h 2 (by decide)
  have e3 : Int.bmod x.1 256 = Int.bmod y.1 256 := h 3 (by decide)
  have e4 : (if x.2.1 = 0 then (0 : Int) else 1) = (if y.2.1 = 0 then 0 else 1) := h 4 (by decide)
  have a0 := (zbm_q (x.1 / 16777216)).2.2
  have a1 := (zbm_q (x.1 / 65536)).2.2
  have a2 := (zbm_q (x.1 / 256)).2.2
  have a3 := (zbm_q x.1).2.2
  have c0 := (zbm_q (y.1 / 16777216)).2.2
  have c1 := (zbm_q (y.1 / 65536)).2.2
  have c2 := (zbm_q (y.1 / 256)).2.2
  have c3 := (zbm_q y.1).2.2
  have q1 : x.1 = y.1 := by omega
  have q2 : x.2.1 = y.2.1 := by
    rcases x2 with x2 | x2 <;> rcases y2 with y2 | y2 <;> rw [x2, y2] at e4 ⊢ <;> simp at e4
  have q3 : x.2.2 = y.2.2 := by
    have hn : ∀ j, j < 8 → x.2.2.getD j 0 = y.2.2.getD j 0 := fun j hj => by
      have := h (j + 5) (by omega)
      unfold zhT zhb at this
      rw [if_neg (by omega), if_neg (by omega), if_neg (by omega), if_neg (by omega), if_neg (by omega), if_neg (by omega), if_neg (by omega), if_neg (by omega), if_neg (by omega), if_neg (by omega), Nat.add_sub_cancel] at this
      exact this
    have hl : x.2.2.length = y.2.2.length := by
      rcases Nat.lt_trichotomy x.2.2.length y.2.2.length with hh | hh | hh
      · have := hn x.2.2.length (by omega)
        have g1 := (znm_g x4 x.2.2.length).2 (Nat.le_refl _)
        have g2 := (znm_g y4 x.2.2.length).1 hh
        omega
      · exact hh
      · have := hn y.2.2.length (by omega)
        have g1 := (znm_g y4 y.2.2.length).2 (Nat.le_refl _)
        have g2 := (znm_g x4 y.2.2.length).1 hh
        omega
    apply List.ext_getElem? 
    intro j
    rcases Nat.lt_or_ge j x.2.2.length with hj | hj
    · have := hn j (by omega)
      rw [List.getD_eq_getElem?_getD, List.getD_eq_getElem?_getD, List.getElem?_eq_getElem hj, List.getElem?_eq_getElem (by omega)] at this
      rw [List.getElem?_eq_getElem hj, List.getElem?_eq_getElem (by omega)]
      exact congrArg some this
    · rw [List.getElem?_eq_none hj, List.getElem?_eq_none (by omega)]
  obtain ⟨a, b, c⟩ := x
  obtain ⟨a', b', c'⟩ := y
  simp only at q1 q2 q3
  rw [q1, q2, q3]
/-- how the class keeps what is noted -/
def zKI (G : Nat → Nat → Int) (σ : zNs) : Prop := (G 7 2 = σ.2.1.length ∧ G 7 6 = σ.1.length ∧ G 7 7 = σ.2.2) ∧ (∀ t, t < σ.1.length → zTo (σ.1.getD t (0, 0, [])) ∧ ∀ i, i < 13 → G 10 (13 * t + i) = zhT (σ.1.getD t (0, 0, [])) i) ∧ (∀ j, j < σ.2.1.length → G 9 j = (σ.2.1.getD j (0, 0)).2 ∧ (0 ≤ (σ.2.1.getD j (0, 0)).2 ∧ (σ.2.1.getD j (0, 0)).2 ≤ 27) ∧ ∀ i, i < 4 → G 8 (2 + 4 * j + i) = zhb (σ.2.1.getD j (0, 0)).1 0 [] i) ∧ σ.1.length ≤ 28 ∧ σ.2.1.length ≤ 512 ∧ -1 ≤ σ.2.2 ∧ σ.2.2 ≤ 27
section ZCn
variable {h : zH} {Q : zO → zH → Prop} {G : Nat → Nat → Int} {σ : zNs} {x : zTy} {t : Nat} {T : Int}
theorem l21 (hK : zKI G σ) (hx : zTo x) (h6 : ∀ i, i < 13 → G 6 i = zhT x i) (ht : t < σ.1.length) : ∀ (n : Nat) (i : Int), 0 ≤ i → i + n = 13 → (∀ j : Nat, (j : Int) < i → zhT (σ.1.getD t (0, 0, [])) j = zhT x j) → z_Ev 21 2 [.ref 7, zi t, .ref 5, zi i] [] (ch h G) Q = Q (.inl (some (zi (zb (decide (σ.1.getD t (0, 0, []) = x)))))) (ch h G) := by
  have hT := hK.2.1 t ht
  have hl := hK.2.2.2.1
  intro n
  induction n with
  | zero =>
    intro i hi hn hj
    have he : σ.1.getD t (0, 0, []) = x := zhT_inj hT.1 hx (fun k hk => hj k (by omega))
    have b1 : z_tf .boolean (zi 1) = true := by decide
    rw [decide_eq_true he, zb_t, k21_2]
    simp (disch := first | omega | assumption | exact zq_r _ | exact zn_0 | exact zo_i _ | exact zo_r _ | exact zq_k _ | exact zq_n | exact zn_1 _ | exact zn_2 _ _ | exact zn_3 _ _ _ | exact zn_4 _ _ _ _ | exact zn_5 _ _ _ _ _ | exact zc_i _ | exact zc_r _ | exact zo_l _ | exact zo_k _ | exact zo_n | exact zc_rk _ | (rw [zx_id (by omega)]; omega) | (rw [zw_id (by omega)]; omega) | (apply z_ok_v; assumption) | (simp only [z_new_1, z_pu_1, mh_1]; omega)) only [z_EvO_some, z_EvG_t, z_Bk_n, z_Bk_s, z_brT, z_brF, z_br_pos, z_br_neg, not_true_eq_false, not_false_eq_true, Bool.true_eq_false, Bool.false_eq_true, Bool.not_eq_false, Bool.not_eq_true, eq_self, z_kl_i, z_kl_l, z_kl_r, z_kl_k, z_kl_n, z_kl_u, z_kl_v, zi_f, zl_f, z_put_r, z_nul_n, z_nul_r, zcmp_lt, zcmp_le, zcmp_ge, zcmp_gt, zcmp_eq, zw_id, zx_id, Nat.reduceAdd, z_tf_i, z_tf_l, z_tf_z, zl_zx, zi_zw, z_gf0, z_gf1, z_gf2, z_gf3, z_gf4, z_gf5, z_gf6, z_gf7, z_pf0, z_pf1, z_pf2, z_pf3, z_pf4, z_pf5, z_pf6, z_pf7, z_ob1, zb_0, zb_1, zb_tf, cat_o, cat_k, ch_1, cgf0_0, cgf0_1, cgf0_2, cgf0_3, cpf0_3, cgf0_4, cgf0_5, cgf0_6, cgf0_7, cpf0_7, cob_0, cat_0, cpu_0, cgf5_0, cgf5_1, cpf5_1, cob_5, cat_5, cpu_5, cat_6, cpu_6, cgf7_0, cgf7_1, cpf7_1, cgf7_2, cpf7_2, cgf7_3, cpf7_3, cgf7_4, cgf7_5, cgf7_6, cpf7_6, cgf7_7, cpf7_7, cob_7, cat_7, cpu_7, cat_8, cpu_8, cat_9, cpu_9, cat_10, cpu_10, cat_11, cpu_11, zg_ai_A, zg_al_A, zg_si_A, zg_sl_A, zg_ab_b, zg_sb_b, z_len_A, z_len_L, r21_0, r21_1, r21_3, r21_5, r21_8, r21_9, r21_12, r21_13, r21_15, r21_16, r21_17, r21_18, r21_19, r21_20, r21_23, r21_24, r21_25, r21_28, r21_29, r21_30, r21_33, r21_36, r21_37, b1]
  | succ n ih =>
    intro i hi hn hj
    have r1 := zhT_r hT.1 i.toNat
    have r2 := zhT_r hx i.toNat
    have e1 : ((t : Int) * 13 + i).toNat = 13 * t + i.toNat := by omega
    have g1 := hT.2 i.toNat (by omega)
    have g2 := h6 i.toNat (by omega)
    have b0 : z_tf .boolean (zi 0) = true := by decide
    rw [k21_2]
    by_cases hc : zhT (σ.1.getD t (0, 0, [])) i.toNat = zhT x i.toNat
    · have := ih (i + 1) (by omega) (by omega) (fun j hj2 => by
        by_cases hji : (j : Int) = i
        · rw [show j = i.toNat by omega]; exact hc
        · exact hj j (by omega))
      rw [← this]
      simp (disch := first | omega | assumption | exact zq_r _ | exact zn_0 | exact zo_i _ | exact zo_r _ | exact zq_k _ | exact zq_n | exact zn_1 _ | exact zn_2 _ _ | exact zn_3 _ _ _ | exact zn_4 _ _ _ _ | exact zn_5 _ _ _ _ _ | exact zc_i _ | exact zc_r _ | exact zo_l _ | exact zo_k _ | exact zo_n | exact zc_rk _ | (rw [zx_id (by omega)]; omega) | (rw [zw_id (by omega)]; omega) | (apply z_ok_v; assumption) | (simp only [z_new_1, z_pu_1, mh_1]; omega)) only [z_EvO_some, z_EvG_t, z_Bk_n, z_Bk_s, z_brT, z_brF, z_br_pos, z_br_neg, not_true_eq_false, not_false_eq_true, Bool.true_eq_false, Bool.false_eq_true, Bool.not_eq_false, Bool.not_eq_true, eq_self, z_kl_i, z_kl_l, z_kl_r, z_kl_k, z_kl_n, z_kl_u, z_kl_v, zi_f, zl_f, z_put_r, z_nul_n, z_nul_r, zcmp_lt, zcmp_le, zcmp_ge, zcmp_gt, zcmp_eq, zw_id, zx_id, Nat.reduceAdd, z_tf_i, z_tf_l, z_tf_z, zl_zx, zi_zw, z_gf0, z_gf1, z_gf2, z_gf3, z_gf4, z_gf5, z_gf6, z_gf7, z_pf0, z_pf1, z_pf2, z_pf3, z_pf4, z_pf5, z_pf6, z_pf7, z_ob1, zb_0, zb_1, zb_tf, cat_o, cat_k, ch_1, cgf0_0, cgf0_1, cgf0_2, cgf0_3, cpf0_3, cgf0_4, cgf0_5, cgf0_6, cgf0_7, cpf0_7, cob_0, cat_0, cpu_0, cgf5_0, cgf5_1, cpf5_1, cob_5, cat_5, cpu_5, cat_6, cpu_6, cgf7_0, cgf7_1, cpf7_1, cgf7_2, cpf7_2, cgf7_3, cpf7_3, cgf7_4, cgf7_5, cgf7_6, cpf7_6, cgf7_7, cpf7_7, cob_7, cat_7, cpu_7, cat_8, cpu_8, cat_9, cpu_9, cat_10, cpu_10, cat_11, cpu_11, zg_ai_A, zg_al_A, zg_si_A, zg_sl_A, zg_ab_b, zg_sb_b, z_len_A, z_len_L, r21_0, r21_1, r21_3, r21_5, r21_8, r21_9, r21_12, r21_13, r21_15, r21_16, r21_17, r21_18, r21_19, r21_20, r21_23, r21_24, r21_25, r21_28, r21_29, r21_30, r21_33, r21_36, r21_37, e1, g1, g2]
    · have he : σ.1.getD t (0, 0, []) ≠ x := fun e => hc (by rw [e])
      rw [decide_eq_false he, zb_f]
      simp (disch := first | omega | assumption | exact zq_r _ | exact zn_0 | exact zo_i _ | exact zo_r _ | exact zq_k _ | exact zq_n | exact zn_1 _ | exact zn_2 _ _ | exact zn_3 _ _ _ | exact zn_4 _ _ _ _ | exact zn_5 _ _ _ _ _ | exact zc_i _ | exact zc_r _ | exact zo_l _ | exact zo_k _ | exact zo_n | exact zc_rk _ | (rw [zx_id (by omega)]; omega) | (rw [zw_id (by omega)]; omega) | (apply z_ok_v; assumption) | (simp only [z_new_1, z_pu_1, mh_1]; omega)) only [z_EvO_some, z_EvG_t, z_Bk_n, z_Bk_s, z_brT, z_brF, z_br_pos, z_br_neg, not_true_eq_false, not_false_eq_true, Bool.true_eq_false, Bool.false_eq_true, Bool.not_eq_false, Bool.not_eq_true, eq_self, z_kl_i, z_kl_l, z_kl_r, z_kl_k, z_kl_n, z_kl_u, z_kl_v, zi_f, zl_f, z_put_r, z_nul_n, z_nul_r, zcmp_lt, zcmp_le, zcmp_ge, zcmp_gt, zcmp_eq, zw_id, zx_id, Nat.reduceAdd, z_tf_i, z_tf_l, z_tf_z, zl_zx, zi_zw, z_gf0, z_gf1, z_gf2, z_gf3, z_gf4, z_gf5, z_gf6, z_gf7, z_pf0, z_pf1, z_pf2, z_pf3, z_pf4, z_pf5, z_pf6, z_pf7, z_ob1, zb_0, zb_1, zb_tf, cat_o, cat_k, ch_1, cgf0_0, cgf0_1, cgf0_2, cgf0_3, cpf0_3, cgf0_4, cgf0_5, cgf0_6, cgf0_7, cpf0_7, cob_0, cat_0, cpu_0, cgf5_0, cgf5_1, cpf5_1, cob_5, cat_5, cpu_5, cat_6, cpu_6, cgf7_0, cgf7_1, cpf7_1, cgf7_2, cpf7_2, cgf7_3, cpf7_3, cgf7_4, cgf7_5, cgf7_6, cpf7_6, cgf7_7, cpf7_7, cob_7, cat_7, cpu_7, cat_8, cpu_8, cat_9, cpu_9, cat_10, cpu_10, cat_11, cpu_11, zg_ai_A, zg_al_A, zg_si_A, zg_sl_A, zg_ab_b, zg_sb_b, z_len_A, z_len_L, r21_0, r21_1, r21_3, r21_5, r21_8, r21_9, r21_12, r21_13, r21_15, r21_16, r21_17, r21_18, r21_19, r21_20, r21_23, r21_24, r21_25, r21_28, r21_29, r21_30, r21_33, r21_36, r21_37, e1, g1, g2, b0]
theorem t21 (hK : zKI G σ) (hx : zTo x) (h6 : ∀ i, i < 13 → G 6 i = zhT x i) (ht : t < σ.1.length) : z_Cl 21 [.ref 7, zi t, .ref 5] (ch h G) Q = Q (.inl (some (zi (zb (decide (σ.1.getD t (0, 0, []) = x)))))) (ch h G) := by
  rw [← l21 (h := h) (Q := Q) hK hx h6 ht 13 0 (by omega) (by omega) (fun j hj => by omega)]
  simp (disch := first | omega | assumption | exact zq_r _ | exact zn_0 | exact zo_i _ | exact zo_r _ | exact zq_k _ | exact zq_n | exact zn_1 _ | exact zn_2 _ _ | exact zn_3 _ _ _ | exact zn_4 _ _ _ _ | exact zn_5 _ _ _ _ _ | exact zc_i _ | exact zc_r _ | exact zo_l _ | exact zo_k _ | exact zo_n | exact zc_rk _ | (rw [zx_id (by omega)]; omega) | (rw [zw_id (by omega)]; omega) | (apply z_ok_v; assumption) | (simp only [z_new_1, z_pu_1, mh_1]; omega)) only [z_EvO_some, z_EvG_t, z_Bk_n, z_Bk_s, z_brT, z_brF, z_br_pos, z_br_neg, not_true_eq_false, not_false_eq_true, Bool.true_eq_false, Bool.false_eq_true, Bool.not_eq_false, Bool.not_eq_true, eq_self, z_kl_i, z_kl_l, z_kl_r, z_kl_k, z_kl_n, z_kl_u, z_kl_v, zi_f, zl_f, z_put_r, z_nul_n, z_nul_r, zcmp_lt, zcmp_le, zcmp_ge, zcmp_gt, zcmp_eq, zw_id, zx_id, Nat.reduceAdd, z_tf_i, z_tf_l, z_tf_z, zl_zx, zi_zw, z_gf0, z_gf1, z_gf2, z_gf3, z_gf4, z_gf5, z_gf6, z_gf7, z_pf0, z_pf1, z_pf2, z_pf3, z_pf4, z_pf5, z_pf6, z_pf7, z_ob1, zb_0, zb_1, zb_tf, e21, r21_0, r21_1, r21_3, r21_5, r21_8, r21_9, r21_12, r21_13, r21_15, r21_16, r21_17, r21_18, r21_19, r21_20, r21_23, r21_24, r21_25, r21_28, r21_29, r21_30, r21_33, r21_36, r21_37]
/-- the types, one more -/
def zgT (G : Nat → Nat → Int) (n : Nat) : Nat → Nat → Int := va_up (va_up G 10 (va_cpy (G 6) (G 10) 0 (13 * n) 13)) 7 (va_up (G 7) 6 (n + 1))
theorem l83 (hK : zKI G σ) (hx : zTo x) (h6 : ∀ i, i < 13 → G 6 i = zhT x i) (hn28 : (znts σ.1 x).length ≤ 28) : ∀ (n : Nat) (i : Nat), i + n = σ.1.length → i ≤ zidx x σ.1 → z_Ev 83 2 [.ref 7, .ref 5, zi i] [] (ch h G) Q = Q (.inl (some (zi (zidx x σ.1)))) (ch h (if zidx x σ.1 < σ.1.length then G else zgT G σ.1.length)) := by
  have hl := hK.2.2.2.1
  have q6 := hK.1.2.1
  intro n
  induction n with
  | zero =>
    intro i hi hle
    have hz := zidx_le x σ.1
    have hnot : ¬ zidx x σ.1 < σ.1.length := by omega
    have e28 : σ.1.length < 28 := by
      unfold znts at hn28
      rw [if_neg hnot, List.length_append] at hn28
      have : [x].length = 1 := rfl
      omega
    have ei : i = σ.1.length := by omega
    have ez : zidx x σ.1 = σ.1.length := by omega
    subst ei
    rw [if_neg hnot, ez, k83_2]
    have e7 : ∀ y : Nat → Int, va_up G 10 y 7 = G 7 := fun y => va_up_ne _ _ (by decide)
    have em : ((σ.1.length : Int) * 13).toNat = 13 * σ.1.length := by omega
    have e13 : (13 : Int).toNat = 13 := rfl
    have e00 : (0 : Int).toNat = 0 := rfl
    have eu : va_up (G 7) 6 ((σ.1.length : Int) + 1) 6 = (σ.1.length : Int) + 1 := va_up_self _ _ _
    have e77 : ∀ (y : Nat → Int) (z : Nat → Int), va_up (va_up G 10 y) 7 z 7 = z := fun y z => va_up_self _ _ _
    have es : (σ.1.length : Int) + 1 - 1 = σ.1.length := by omega
    unfold zgT
    simp (disch := first | omega | assumption | exact zq_r _ | exact zn_0 | exact zo_i _ | exact zo_r _ | exact zq_k _ | exact zq_n | exact zn_1 _ | exact zn_2 _ _ | exact zn_3 _ _ _ | exact zn_4 _ _ _ _ | exact zn_5 _ _ _ _ _ | exact zc_i _ | exact zc_r _ | exact zo_l _ | exact zo_k _ | exact zo_n | exact zc_rk _ | (rw [zx_id (by omega)]; omega) | (rw [zw_id (by omega)]; omega) | (apply z_ok_v; assumption) | (simp only [z_new_1, z_pu_1, mh_1]; omega)) only [z_EvO_some, z_EvG_t, z_Bk_n, z_Bk_s, z_brT, z_brF, z_br_pos, z_br_neg, not_true_eq_false, not_false_eq_true, Bool.true_eq_false, Bool.false_eq_true, Bool.not_eq_false, Bool.not_eq_true, eq_self, z_kl_i, z_kl_l, z_kl_r, z_kl_k, z_kl_n, z_kl_u, z_kl_v, zi_f, zl_f, z_put_r, z_nul_n, z_nul_r, zcmp_lt, zcmp_le, zcmp_ge, zcmp_gt, zcmp_eq, zw_id, zx_id, Nat.reduceAdd, z_tf_i, z_tf_l, z_tf_z, zl_zx, zi_zw, z_gf0, z_gf1, z_gf2, z_gf3, z_gf4, z_gf5, z_gf6, z_gf7, z_pf0, z_pf1, z_pf2, z_pf3, z_pf4, z_pf5, z_pf6, z_pf7, z_ob1, zb_0, zb_1, zb_tf, cat_o, cat_k, ch_1, cgf0_0, cgf0_1, cgf0_2, cgf0_3, cpf0_3, cgf0_4, cgf0_5, cgf0_6, cgf0_7, cpf0_7, cob_0, cat_0, cpu_0, cgf5_0, cgf5_1, cpf5_1, cob_5, cat_5, cpu_5, cat_6, cpu_6, cgf7_0, cgf7_1, cpf7_1, cgf7_2, cpf7_2, cgf7_3, cpf7_3, cgf7_4, cgf7_5, cgf7_6, cpf7_6, cgf7_7, cpf7_7, cob_7, cat_7, cpu_7, cat_8, cpu_8, cat_9, cpu_9, cat_10, cpu_10, cat_11, cpu_11, zg_ai_A, zg_al_A, zg_si_A, zg_sl_A, zg_ab_b, zg_sb_b, z_len_A, z_len_L, r83_0, r83_1, r83_3, r83_4, r83_7, r83_10, r83_11, r83_12, r83_13, r83_16, r83_19, r83_20, r83_21, r83_24, r83_27, r83_28, r83_31, r83_33, r83_36, r83_37, r83_40, r83_41, r83_42, r83_45, r83_46, r83_47, r83_50, r83_51, r83_54, r83_56, r83_57, r83_59, r83_62, r83_63, r83_64, r83_67, r83_68, r83_69, r83_72, r83_73, r83_76, r83_77, r83_78, z_atr_r, q6, z_cpy_A, em, e13, e00, e7, e77, eu, es]
  | succ n ih =>
    intro i hi hle
    rw [k83_2]
    by_cases hc : σ.1.getD i (0, 0, []) = x
    · have ez : zidx x σ.1 = i := by
        rcases Nat.lt_or_ge i (zidx x σ.1) with h1 | h1
        · exfalso
          have := zidx_ne h1
          rw [List.getD_eq_getElem?_getD, List.getElem?_eq_getElem (show i < σ.1.length by omega)] at hc
          rw [List.getElem?_eq_getElem (show i < σ.1.length by omega)] at this
          exact this (congrArg some hc)
        · omega
      rw [if_pos (by omega), ez]
      have d1 : decide (σ.1.getD i (0, 0, []) = x) = true := decide_eq_true hc
      simp (disch := first | omega | assumption | exact zq_r _ | exact zn_0 | exact zo_i _ | exact zo_r _ | exact zq_k _ | exact zq_n | exact zn_1 _ | exact zn_2 _ _ | exact zn_3 _ _ _ | exact zn_4 _ _ _ _ | exact zn_5 _ _ _ _ _ | exact zc_i _ | exact zc_r _ | exact zo_l _ | exact zo_k _ | exact zo_n | exact zc_rk _ | (rw [zx_id (by omega)]; omega) | (rw [zw_id (by omega)]; omega) | (apply z_ok_v; assumption) | (simp only [z_new_1, z_pu_1, mh_1]; omega)) only [z_EvO_some, z_EvG_t, z_Bk_n, z_Bk_s, z_brT, z_brF, z_br_pos, z_br_neg, not_true_eq_false, not_false_eq_true, Bool.true_eq_false, Bool.false_eq_true, Bool.not_eq_false, Bool.not_eq_true, eq_self, z_kl_i, z_kl_l, z_kl_r, z_kl_k, z_kl_n, z_kl_u, z_kl_v, zi_f, zl_f, z_put_r, z_nul_n, z_nul_r, zcmp_lt, zcmp_le, zcmp_ge, zcmp_gt, zcmp_eq, zw_id, zx_id, Nat.reduceAdd, z_tf_i, z_tf_l, z_tf_z, zl_zx, zi_zw, z_gf0, z_gf1, z_gf2, z_gf3, z_gf4, z_gf5, z_gf6, z_gf7, z_pf0, z_pf1, z_pf2, z_pf3, z_pf4, z_pf5, z_pf6, z_pf7, z_ob1, zb_0, zb_1, zb_tf, cat_o, cat_k, ch_1, cgf0_0, cgf0_1, cgf0_2, cgf0_3, cpf0_3, cgf0_4, cgf0_5, cgf0_6, cgf0_7, cpf0_7, cob_0, cat_0, cpu_0, cgf5_0, cgf5_1, cpf5_1, cob_5, cat_5, cpu_5, cat_6, cpu_6, cgf7_0, cgf7_1, cpf7_1, cgf7_2, cpf7_2, cgf7_3, cpf7_3, cgf7_4, cgf7_5, cgf7_6, cpf7_6, cgf7_7, cpf7_7, cob_7, cat_7, cpu_7, cat_8, cpu_8, cat_9, cpu_9, cat_10, cpu_10, cat_11, cpu_11, zg_ai_A, zg_al_A, zg_si_A, zg_sl_A, zg_ab_b, zg_sb_b, z_len_A, z_len_L, r83_0, r83_1, r83_3, r83_4, r83_7, r83_10, r83_11, r83_12, r83_13, r83_16, r83_19, r83_20, r83_21, r83_24, r83_27, r83_28, r83_31, r83_33, r83_36, r83_37, r83_40, r83_41, r83_42, r83_45, r83_46, r83_47, r83_50, r83_51, r83_54, r83_56, r83_57, r83_59, r83_62, r83_63, r83_64, r83_67, r83_68, r83_69, r83_72, r83_73, r83_76, r83_77, r83_78, q6, t21 hK hx h6 (show i < σ.1.length by omega), d1]
    · have hne : i ≠ zidx x σ.1 := by
        intro e
        have := zidx_get (x := x) (l := σ.1) (by omega)
        rw [← e, List.getElem?_eq_getElem (show i < σ.1.length by omega)] at this
        rw [List.getD_eq_getElem?_getD, List.getElem?_eq_getElem (show i < σ.1.length by omega)] at hc
        exact hc (Option.some.inj this)
      have := ih (i + 1) (by omega) (by omega)
      rw [show ((i + 1 : Nat) : Int) = (i : Int) + 1 by omega] at this
      rw [← this]
      have d1 : decide (σ.1.getD i (0, 0, []) = x) = false := decide_eq_false hc
      simp (disch := first | omega | assumption | exact zq_r _ | exact zn_0 | exact zo_i _ | exact zo_r _ | exact zq_k _ | exact zq_n | exact zn_1 _ | exact zn_2 _ _ | exact zn_3 _ _ _ | exact zn_4 _ _ _ _ | exact zn_5 _ _ _ _ _ | exact zc_i _ | exact zc_r _ | exact zo_l _ | exact zo_k _ | exact zo_n | exact zc_rk _ | (rw [zx_id (by omega)]; omega) | (rw [zw_id (by omega)]; omega) | (apply z_ok_v; assumption) | (simp only [z_new_1, z_pu_1, mh_1]; omega)) only [z_EvO_some, z_EvG_t, z_Bk_n, z_Bk_s, z_brT, z_brF, z_br_pos, z_br_neg, not_true_eq_false, not_false_eq_true, Bool.true_eq_false, Bool.false_eq_true, Bool.not_eq_false, Bool.not_eq_true, eq_self, z_kl_i, z_kl_l, z_kl_r, z_kl_k, z_kl_n, z_kl_u, z_kl_v, zi_f, zl_f, z_put_r, z_nul_n, z_nul_r, zcmp_lt, zcmp_le, zcmp_ge, zcmp_gt, zcmp_eq, zw_id, zx_id, Nat.reduceAdd, z_tf_i, z_tf_l, z_tf_z, zl_zx, zi_zw, z_gf0, z_gf1, z_gf2, z_gf3, z_gf4, z_gf5, z_gf6, z_gf7, z_pf0, z_pf1, z_pf2, z_pf3, z_pf4, z_pf5, z_pf6, z_pf7, z_ob1, zb_0, zb_1, zb_tf, cat_o, cat_k, ch_1, cgf0_0, cgf0_1, cgf0_2, cgf0_3, cpf0_3, cgf0_4, cgf0_5, cgf0_6, cgf0_7, cpf0_7, cob_0, cat_0, cpu_0, cgf5_0, cgf5_1, cpf5_1, cob_5, cat_5, cpu_5, cat_6, cpu_6, cgf7_0, cgf7_1, cpf7_1, cgf7_2, cpf7_2, cgf7_3, cpf7_3, cgf7_4, cgf7_5, cgf7_6, cpf7_6, cgf7_7, cpf7_7, cob_7, cat_7, cpu_7, cat_8, cpu_8, cat_9, cpu_9, cat_10, cpu_10, cat_11, cpu_11, zg_ai_A, zg_al_A, zg_si_A, zg_sl_A, zg_ab_b, zg_sb_b, z_len_A, z_len_L, r83_0, r83_1, r83_3, r83_4, r83_7, r83_10, r83_11, r83_12, r83_13, r83_16, r83_19, r83_20, r83_21, r83_24, r83_27, r83_28, r83_31, r83_33, r83_36, r83_37, r83_40, r83_41, r83_42, r83_45, r83_46, r83_47, r83_50, r83_51, r83_54, r83_56, r83_57, r83_59, r83_62, r83_63, r83_64, r83_67, r83_68, r83_69, r83_72, r83_73, r83_76, r83_77, r83_78, q6, t21 hK hx h6 (show i < σ.1.length by omega), d1]
theorem t83 (hK : zKI G σ) (hx : zTo x) (h6 : ∀ i, i < 13 → G 6 i = zhT x i) (hn28 : (znts σ.1 x).length ≤ 28) : z_Cl 83 [.ref 7, .ref 5] (ch h G) Q = Q (.inl (some (zi (zidx x σ.1)))) (ch h (if zidx x σ.1 < σ.1.length then G else zgT G σ.1.length)) := by
  rw [← l83 (h := h) (Q := Q) hK hx h6 hn28 σ.1.length 0 (by omega) (by omega)]
  simp (disch := first | omega | assumption | exact zq_r _ | exact zn_0 | exact zo_i _ | exact zo_r _ | exact zq_k _ | exact zq_n | exact zn_1 _ | exact zn_2 _ _ | exact zn_3 _ _ _ | exact zn_4 _ _ _ _ | exact zn_5 _ _ _ _ _ | exact zc_i _ | exact zc_r _ | exact zo_l _ | exact zo_k _ | exact zo_n | exact zc_rk _ | (rw [zx_id (by omega)]; omega) | (rw [zw_id (by omega)]; omega) | (apply z_ok_v; assumption) | (simp only [z_new_1, z_pu_1, mh_1]; omega)) only [z_EvO_some, z_EvG_t, z_Bk_n, z_Bk_s, z_brT, z_brF, z_br_pos, z_br_neg, not_true_eq_false, not_false_eq_true, Bool.true_eq_false, Bool.false_eq_true, Bool.not_eq_false, Bool.not_eq_true, eq_self, z_kl_i, z_kl_l, z_kl_r, z_kl_k, z_kl_n, z_kl_u, z_kl_v, zi_f, zl_f, z_put_r, z_nul_n, z_nul_r, zcmp_lt, zcmp_le, zcmp_ge, zcmp_gt, zcmp_eq, zw_id, zx_id, Nat.reduceAdd, z_tf_i, z_tf_l, z_tf_z, zl_zx, zi_zw, z_gf0, z_gf1, z_gf2, z_gf3, z_gf4, z_gf5, z_gf6, z_gf7, z_pf0, z_pf1, z_pf2, z_pf3, z_pf4, z_pf5, z_pf6, z_pf7, z_ob1, zb_0, zb_1, zb_tf, e83, r83_0, r83_1, r83_3, r83_4, r83_7, r83_10, r83_11, r83_12, r83_13, r83_16, r83_19, r83_20, r83_21, r83_24, r83_27, r83_28, r83_31, r83_33, r83_36, r83_37, r83_40, r83_41, r83_42, r83_45, r83_46, r83_47, r83_50, r83_51, r83_54, r83_56, r83_57, r83_59, r83_62, r83_63, r83_64, r83_67, r83_68, r83_69, r83_72, r83_73, r83_76, r83_77, r83_78]
  rfl
theorem zKI_ts (hK : zKI G σ) (hx : zTo x) (h6 : ∀ i, i < 13 → G 6 i = zhT x i) (hn28 : (znts σ.1 x).length ≤ 28) : zKI (if zidx x σ.1 < σ.1.length then G else zgT G σ.1.length) (znts σ.1 x, σ.2) := by
  unfold znts at hn28 ⊢
  by_cases hc : zidx x σ.1 < σ.1.length
  · rw [if_pos hc, if_pos hc]
    exact hK
  · rw [if_neg hc] at hn28 ⊢
    rw [if_neg hc]
    obtain ⟨⟨k1, k2, k3⟩, k4, k5, k6, k7, k8⟩ := hK
    have hl : (σ.1 ++ [x]).length = σ.1.length + 1 := by rw [List.length_append]; rfl
    have g7 : zgT G σ.1.length 7 = va_up (G 7) 6 (σ.1.length + 1) := va_up_self _ _ _
    have g8 : zgT G σ.1.length 8 = G 8 := by unfold zgT; rw [va_up_ne _ _ (by decide), va_up_ne _ _ (by decide)]
    have g9 : zgT G σ.1.length 9 = G 9 := by unfold zgT; rw [va_up_ne _ _ (by decide), va_up_ne _ _ (by decide)]
    have g10 : zgT G σ.1.length 10 = va_cpy (G 6) (G 10) 0 (13 * σ.1.length) 13 := by unfold zgT; rw [va_up_ne _ _ (by decide), va_up_self]
    refine ⟨⟨?_, ?_, ?_⟩, fun t ht => ?_, ?_, by show (σ.1 ++ [x]).length ≤ 28; omega, k7, k8⟩
    · rw [g7, va_up_ne _ _ (by decide)]; exact k1
    · rw [g7, va_up_self]
      show _ = (((σ.1 ++ [x]).length : Nat) : Int)
      rw [hl]; omega
    · rw [g7, va_up_ne _ _ (by decide)]; exact k3
    · have ht : t < (σ.1 ++ [x]).length := ht
      rw [hl] at ht
      rw [g10]
      show zTo ((σ.1 ++ [x]).getD t (0, 0, [])) ∧ ∀ i, i < 13 → va_cpy (G 6) (G 10) 0 (13 * σ.1.length) 13 (13 * t + i) = zhT ((σ.1 ++ [x]).getD t (0, 0, [])) i
      by_cases ht2 : t < σ.1.length
      · rw [List.getD_eq_getElem?_getD, List.getElem?_append_left ht2, ← List.getD_eq_getElem?_getD]
        refine ⟨(k4 t ht2).1, fun i hi => ?_⟩
        unfold va_cpy
        rw [if_neg (by omega)]
        exact (k4 t ht2).2 i hi
      · have ht3 : t = σ.1.length := by omega
        subst ht3
        rw [List.getD_eq_getElem?_getD, List.getElem?_append_right (Nat.le_refl _), Nat.sub_self]
        refine ⟨hx, fun i hi => ?_⟩
        unfold va_cpy
        rw [if_pos (by omega), show 0 + (13 * σ.1.length + i - 13 * σ.1.length) = i by omega]
        exact h6 i hi
    · rw [g8, g9]
      exact k5
end ZCn
