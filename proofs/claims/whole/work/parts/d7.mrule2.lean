/-! a rule added: the reference, whole -/
/-- a line that stands cut into words -/
def zLs (g : Nat → Nat → Int) (n : Nat) : Prop := (∀ j, j < 60 → 0 ≤ g 26 j ∧ g 26 j ≤ 65535) ∧ zTab g ∧ ∀ i : Nat, i < n → (0 ≤ g 27 i ∧ g 27 i < g 28 i ∧ g 28 i ≤ 60) ∧ ∀ j : Nat, g 27 i ≤ j → (j : Int) < g 28 i → 33 ≤ g 26 j ∧ g 26 j ≤ 126
def zWn (g : Nat → Nat → Int) (i : Nat) : List Int := zms (g 26) (g 27 i).toNat (g 28 i).toNat
/-- the numbers that reading words may change -/
def zF9 (f f' : Nat → Int) : Prop := ∀ k, k ≠ 4 → ¬ (10 ≤ k ∧ k ≤ 15) → f' k = f k
theorem zruleP_no {W : Nat → List Int} (h : zdayP (W 5) = none ∨ zyr (W 2) = -1000000 ∨ zlY (W 3) (zyr (W 2)) = -1000000 ∨ zlY (W 3) (zyr (W 2)) < zyr (W 2) ∨ (zclk (W 6)).1 < 0 ∨ zst (W 1) = -1000000 ∨ zmo (W 4) = -1000000 ∨ ztime (W 7) = -1000000 ∨ 3 < (zltr (W 8)).length) : zruleP W = none := by
  unfold zruleP
  rcases h with h | h
  · rw [h]
  · split
    · rfl
    · rw [if_pos h]
/-- the rule that good words say -/
def zruleR (W : Nat → List Int) (d : Int × Int × Int) : zRu := (fun k => [zst (W 1), zyr (W 2), zlY (W 3) (zyr (W 2)), zmo (W 4), d.1, d.2.1, d.2.2, (zclk (W 6)).1, (zclk (W 6)).2, ztime (W 7)].getD k 0, zltr (W 8))
theorem zruleP_yes {W : Nat → List Int} {d : Int × Int × Int} (h1 : zdayP (W 5) = some d) (h2 : zyr (W 2) ≠ -1000000) (h3 : zlY (W 3) (zyr (W 2)) ≠ -1000000) (h4 : zyr (W 2) ≤ zlY (W 3) (zyr (W 2))) (h5 : 0 ≤ (zclk (W 6)).1) (h6 : zst (W 1) ≠ -1000000) (h7 : zmo (W 4) ≠ -1000000) (h8 : ztime (W 7) ≠ -1000000) (h9 : (zltr (W 8)).length ≤ 3) : zruleP W = some (zruleR W d) := by
  unfold zruleP
  rw [h1]
  show (if _ then _ else _) = _
  rw [if_neg]
  · rfl
  · rintro (h | h | h | h | h | h | h | h)
    · exact h2 h
    · exact h3 h
    · omega
    · omega
    · exact h6 h
    · exact h7 h
    · exact h8 h
    · omega
section ZRm2
variable {h : zH} {Q : zO → zH → Prop} {f f3 : Nat → Int} {g g1 : Nat → Nat → Int} {k : Nat} {R : zRu} {Es : List zEr} {Ks : Nat → List Int} {Rs : Nat → List zRu} {m sec : Int} {d : Int × Int × Int}
theorem zltr_8 {w : List Int} : (zltr w).length = if w = [45] then 0 else w.length := by
  unfold zltr
  split <;> rfl
theorem l159w (hl : zLs g 9) (hs : zMS f g Es Ks Rs) (ho : zOk Es Ks Rs) (hk : k < 3) (hR : zRok R) (h6 : (Rs k).length < 6) (hlen : (Ks k).length ≤ 68 * (Rs k).length) (eR : R.2 = zltr (zWn g 8)) (eS : R.1 0 = k)
    (e28 : f3 28 = f 28) (hz : ∀ y, zday y m (f3 12) (f3 13) (f3 14) = zday y (R.1 3) (R.1 4) (R.1 6) (R.1 5)) (b12 : 0 ≤ f3 12 ∧ f3 12 ≤ 3) (b13 : 0 ≤ f3 13 ∧ f3 13 ≤ 31) (b14 : 0 ≤ f3 14 ∧ f3 14 ≤ 6) (hm : 1 ≤ m ∧ m ≤ 12) (hsec : sec = R.1 7)
    (u0 : ∀ a : Nat, ¬ (30 ≤ a ∧ a ≤ 38) → g1 a = g a) (u37 : g1 37 = va_up (g 37) (6 * k + (Rs k).length) (R.1 8)) (u38 : g1 38 = va_up (g 38) (6 * k + (Rs k).length) (R.1 9))
    (kk : ∀ g', (∀ a : Nat, (a < 29 ∨ (41 ≤ a ∧ a ≤ 48) ∨ 51 < a) → g' a = g a) → zMS f3 g' Es (va_up Ks k (zKa (Ks k) R (Rs k).length)) (va_up Rs k (Rs k ++ [R])) → Q (.inl (some (zi 1))) (mh h f3 g')) {c l3 l4 l10 : Value} :
    z_Ev 159 400 [.ref 21, c, zi (R.1 1), l3, l4, zi (R.1 2), zi m, zi sec, zi k, zi (6 * k + (Rs k).length), l10] [zi (6 * k + (Rs k).length), .ref 39] (mh h f3 g1) Q := by
  obtain ⟨hd, hT, hw⟩ := id hl
  have w8 := hw 8 (by omega)
  have r1 := hR.2.1
  have hl3 : R.2.length ≤ 3 := hR.2.2.2.2.2.2.2.2.2
  have hWl : (zWn g 8).length = (g 28 8).toNat - (g 27 8).toNat := zms_len _ _ _
  obtain ⟨a1, a2, a3, a4, a5, a6⟩ := hs.2.2 k hk
  have er : (6 * (k : Int) + ((Rs k).length : Int)).toNat = 6 * k + (Rs k).length := by omega
  have ek : ((k : Nat) : Int).toNat = k := by omega
  have ern : (6 * (k : Int) + ((Rs k).length : Int)) = ((6 * k + (Rs k).length : Nat) : Int) := by omega
  let g2 := va_up g1 39 (va_up (g1 39) (6 * k + (Rs k).length) R.2.length)
  have v0 : ∀ a : Nat, ¬ (30 ≤ a ∧ a ≤ 39) → g2 a = g a := fun a ha => by
    show va_up g1 39 _ a = _
    rw [va_up_ne _ _ (by omega)]
    exact u0 a (by omega)
  have hn8 : (R.2.length : Int) = if zWn g 8 = [45] then 0 else g 28 8 - g 27 8 := by
    rw [eR, zltr_8]
    split
    · rfl
    · rw [hWl]; omega
  have hn9 : g 27 8 + R.2.length ≤ 60 := by
    rw [hn8]
    split <;> omega
  have hlet : ∀ j : Nat, j < R.2.length → R.2.getD j 0 = g 26 ((g 27 8).toNat + j) := fun j hj => by
    rw [eR] at hj ⊢
    unfold zltr at hj ⊢
    split at hj
    · simp at hj
    · rename_i hne
      rw [if_neg hne]
      rw [hWl] at hj
      exact zms_getD (g 26) hj
  have mid : z_Ev 159 434 [.ref 21, c, zi (R.1 1), l3, l4, zi (R.1 2), zi m, zi sec, zi k, zi (6 * k + (Rs k).length), zi 0] [] (mh h f3 g2) Q := by
    rw [ern]
    refine l159l (g := g2) (n8 := R.2.length) (by omega) (by show va_up g1 39 _ 39 _ = _; rw [va_up_self, va_up_self]) hl3 (by rw [v0 27 (by omega)]; omega) (by rw [v0 26 (by omega)]; exact hd) (fun g' l10 q1 q2 q3 => ?_) R.2.length 0 g2 (by omega) (fun _ _ => rfl) (fun j hj => by omega) (fun _ _ => rfl)
    have c29 : g' 29 = g 29 := by rw [q1 29 (by decide), v0 29 (by omega)]
    let g3 := va_up g' 29 (va_up (g' 29) k ((Rs k).length + 1))
    have t0 : ∀ a : Nat, ¬ (29 ≤ a ∧ a ≤ 40) → g3 a = g a := fun a ha => by
      show va_up g' 29 _ a = _
      rw [va_up_ne _ _ (by omega), q1 a (by omega)]
      exact v0 a (by omega)
    have t1 : ∀ a : Nat, a ≠ 29 → a ≠ 40 → g3 a = g2 a := fun a h29 h40 => by
      show va_up g' 29 _ a = _
      rw [va_up_ne _ _ h29, q1 a h40]
    have zk : ∀ j, zfk g3 k j = zfk g k j := fun j => by
      unfold zfk
      rw [t0 50 (by omega), t0 51 (by omega)]
    have fo : zfo g3 k (Ks k).length := by
      have := zMS_fo hs ho hk
      unfold zfo at this ⊢
      rw [t0 50 (by omega), t0 51 (by omega)]
      exact this
    have fin := l159y (h := h) (f := f3) (Q := Q) (g := g3) (c := c) (l3 := l3) (l4 := l4) (m := m) (sec := sec) (p := (Rs k).length) (M := (Ks k).length) hk hR h6 hz b12 b13 b14 hm hsec (fun g4 w1 w2 w3 w4 w5 => by
      refine kk g4 (fun a ha => by rw [w1 a (by omega) (by omega) (by omega)]; exact t0 a (by omega)) ?_
      refine zMS_add (N := (Ks k).length + (R.1 2 - R.1 1 + 1).toNat) hs ho hk hR h6 rfl (by omega) e28 (fun a ha => by rw [w1 a (by omega) (by omega) (by omega)]; exact t0 a (by omega)) ?_ ?_ ?_ ?_ ?_ ⟨by rw [w2.1]; omega, fun x hx => by rw [w2.2 x hx, t0 49 (by omega)]⟩ (fun i hi => by rw [(w3 i hi).1, (w3 i hi).2, t0 50 (by omega), t0 51 (by omega)]; exact ⟨rfl, rfl⟩) w4 (by rw [w5, zdl_congr (fun j _ => zk j)])
      · rw [w1 29 (by decide) (by decide) (by decide)]
        refine ⟨?_, fun x hx => ?_⟩
        · show va_up g' 29 _ 29 _ = _
          rw [va_up_self, va_up_self]
        · show va_up g' 29 _ 29 _ = _
          rw [va_up_self, va_up_ne _ _ hx, c29]
      · rw [w1 37 (by decide) (by decide) (by decide), t1 37 (by decide) (by decide)]
        show va_up g1 39 _ 37 = _
        rw [va_up_ne _ _ (by decide), u37]
      · rw [w1 38 (by decide) (by decide) (by decide), t1 38 (by decide) (by decide)]
        show va_up g1 39 _ 38 = _
        rw [va_up_ne _ _ (by decide), u38]
      · rw [w1 39 (by decide) (by decide) (by decide), t1 39 (by decide) (by decide)]
        show va_up g1 39 _ 39 = _
        rw [va_up_self, u0 39 (by omega)]
      · rw [w1 40 (by decide) (by decide) (by decide)]
        have c40 : g3 40 = g' 40 := va_up_ne _ _ (by decide)
        rw [c40]
        refine ⟨fun j hj => ?_, fun x hx => ?_⟩
        · rw [q2 j hj, hlet j hj, v0 26 (by omega), v0 27 (by omega)]
        · rw [q3 x hx, v0 40 (by omega)]) (by omega) (R.1 2 - R.1 1 + 1).toNat 0 g3 (by omega) (fun _ _ _ _ => rfl) ⟨by rw [t0 49 (by omega), a3]; rfl, fun _ _ => rfl⟩ (fun _ _ => ⟨rfl, rfl⟩) fo rfl
    have e0 : R.1 1 + ((0 : Nat) : Int) = R.1 1 := by omega
    rw [e0, ern] at fin
    simp (disch := first | omega | assumption | exact zq_r _ | exact zn_0 | exact zo_i _ | exact zo_r _ | exact zq_k _ | exact zq_n | exact zn_1 _ | exact zn_2 _ _ | exact zn_3 _ _ _ | exact zn_4 _ _ _ _ | exact zn_5 _ _ _ _ _ | exact zc_i _ | exact zc_r _ | exact zo_l _ | exact zo_k _ | exact zo_n | exact zc_rk _ | (rw [zx_id (by omega)]; omega) | (rw [zw_id (by omega)]; omega) | (apply z_ok_v; assumption) | (simp only [z_new_1, z_pu_1, mh_1]; omega)) only [z_EvO_some, z_EvG_t, z_Bk_n, z_Bk_s, z_brT, z_brF, z_br_pos, z_br_neg, not_true_eq_false, not_false_eq_true, Bool.true_eq_false, Bool.false_eq_true, Bool.not_eq_false, Bool.not_eq_true, eq_self, z_kl_i, z_kl_l, z_kl_r, z_kl_k, z_kl_n, z_kl_u, z_kl_v, zi_f, zl_f, z_put_r, z_nul_n, z_nul_r, zcmp_lt, zcmp_le, zcmp_ge, zcmp_gt, zcmp_eq, zw_id, zx_id, Nat.reduceAdd, z_tf_i, z_tf_l, z_tf_z, zl_zx, zi_zw, z_gf0, z_gf1, z_gf2, z_gf3, z_gf4, z_gf5, z_gf6, z_gf7, z_pf0, z_pf1, z_pf2, z_pf3, z_pf4, z_pf5, z_pf6, z_pf7, z_ob1, zb_0, zb_1, zb_tf, mat_21, mpu_21, mat_22, mpu_22, mat_23, mpu_23, mat_24, mpu_24, mat_25, mpu_25, mat_26, mpu_26, mat_27, mpu_27, mat_28, mpu_28, mat_29, mpu_29, mat_30, mpu_30, mat_31, mpu_31, mat_32, mpu_32, mat_33, mpu_33, mat_34, mpu_34, mat_35, mpu_35, mat_36, mpu_36, mat_37, mpu_37, mat_38, mpu_38, mat_39, mpu_39, mat_40, mpu_40, mat_41, mpu_41, mat_42, mpu_42, mat_43, mpu_43, mat_44, mpu_44, mat_45, mpu_45, mat_46, mpu_46, mat_47, mpu_47, mat_48, mpu_48, mat_49, mpu_49, mat_50, mpu_50, mat_51, mpu_51, mat_52, mpu_52, mat_53, mpu_53, mat_54, mpu_54, mat_55, mpu_55, mat_56, mpu_56, mat_57, mpu_57, mat_58, mpu_58, mat_59, mpu_59, mat_60, mpu_60, mat_61, mpu_61, mgf_0, mgf_1, mgf_2, mgf_3, mgf_4, mpf_4, mgf_5, mgf_6, mpf_6, mgf_7, mpf_7, mgf_8, mgf_9, mgf_10, mpf_10, mgf_11, mpf_11, mgf_12, mpf_12, mgf_13, mpf_13, mgf_14, mpf_14, mgf_15, mpf_15, mgf_16, mgf_17, mgf_18, mgf_19, mgf_20, mgf_21, mgf_22, mgf_23, mgf_24, mgf_25, mgf_26, mgf_27, mgf_28, mpf_28, mgf_29, mgf_30, mgf_31, mgf_32, mgf_33, mgf_34, mgf_35, mgf_36, mgf_37, mgf_38, mgf_39, mgf_40, mpf_40, mgf_41, mpf_41, mgf_42, mpf_42, mgf_43, mpf_43, mgf_44, mgf_45, mpf_45, mgf_46, mpf_46, mgf_47, mpf_47, mgf_48, mgf_49, mgf_50, mgf_51, mgf_52, mgf_53, mgf_54, mgf_55, mgf_56, mpf_56, mgf_57, mgf_58, mpf_58, mgf_59, mpf_59, mgf_60, mpf_60, mob, zg_ai_A, zg_al_A, zg_si_A, zg_sl_A, zg_ab_z, zg_sb_z, z_len_A, z_len_L, r159_0, r159_1, r159_4, r159_5, r159_8, r159_9, r159_10, r159_11, r159_12, r159_13, r159_16, r159_17, r159_18, r159_19, r159_22, r159_23, r159_24, r159_25, r159_26, r159_29, r159_30, r159_32, r159_35, r159_36, r159_38, r159_41, r159_42, r159_43, r159_46, r159_49, r159_50, r159_51, r159_54, r159_55, r159_56, r159_59, r159_60, r159_61, r159_62, r159_64, r159_66, r159_68, r159_70, r159_73, r159_74, r159_75, r159_76, r159_78, r159_80, r159_82, r159_83, r159_86, r159_88, r159_89, r159_92, r159_94, r159_97, r159_98, r159_99, r159_102, r159_105, r159_106, r159_109, r159_110, r159_113, r159_114, r159_115, r159_118, r159_119, r159_120, r159_123, r159_124, r159_127, r159_129, r159_132, r159_135, r159_138, r159_139, r159_142, r159_144, r159_145, r159_146, r159_149, r159_150, r159_151, r159_152, r159_155, r159_156, r159_157, r159_160, r159_162, r159_164, r159_167, r159_168, r159_169, r159_172, r159_173, r159_174, r159_175, r159_178, r159_179, r159_180, r159_183, r159_186, r159_187, r159_188, r159_191, r159_193, r159_194, r159_195, r159_198, r159_200, r159_201, r159_204, r159_207, r159_208, r159_209, r159_212, r159_213, r159_214, r159_217, r159_219, r159_220, r159_221, r159_224, r159_226, r159_227, r159_228, r159_231, r159_233, r159_234, r159_237, r159_240, r159_241, r159_244, r159_246, r159_247, r159_248, r159_251, r159_253, r159_254, r159_255, r159_256, r159_259, r159_260, r159_261, r159_264, r159_265, r159_266, r159_268, r159_269, r159_271, r159_272, r159_275, r159_277, r159_278, r159_280, r159_283, r159_284, r159_285, r159_288, r159_289, r159_291, r159_293, r159_294, r159_295, r159_298, r159_300, r159_301, r159_302, r159_304, r159_305, r159_308, r159_310, r159_311, r159_312, r159_313, r159_316, r159_318, r159_320, r159_321, r159_322, r159_325, r159_327, r159_329, r159_330, r159_331, r159_334, r159_336, r159_337, r159_340, r159_341, r159_342, r159_345, r159_347, r159_348, r159_351, r159_352, r159_353, r159_356, r159_358, r159_359, r159_362, r159_363, r159_364, r159_367, r159_369, r159_371, r159_372, r159_373, r159_376, r159_378, r159_379, r159_382, r159_383, r159_384, r159_387, r159_389, r159_390, r159_393, r159_394, r159_395, r159_398, r159_400, r159_401, r159_403, r159_405, r159_408, r159_411, r159_412, r159_415, r159_416, r159_419, r159_421, r159_422, r159_423, r159_426, r159_428, r159_429, r159_430, r159_431, r159_432, r159_436, r159_437, r159_440, r159_442, r159_443, r159_446, r159_447, r159_450, r159_451, r159_453, r159_454, r159_456, r159_457, r159_458, r159_461, r159_462, r159_465, r159_467, r159_468, r159_470, r159_471, r159_472, r159_473, r159_476, r159_479, r159_480, r159_483, r159_485, r159_486, r159_487, r159_488, r159_489, r159_490, r159_491, r159_495, r159_497, r159_500, r159_501, r159_503, r159_505, r159_507, r159_509, r159_510, r159_513, r159_514, r159_517, r159_518, r159_521, r159_524, r159_527, r159_528, r159_530, r159_531, r159_532, r159_535, r159_538, r159_541, r159_542, ek, c29, a1]
    show z_Ev 159 493 _ _ (mh h f3 (va_up g' 29 (va_up (g 29) k ((Rs k).length + 1)))) Q
    rw [← c29]
    exact fin
  have x40 : ∀ Q' : zO → zH → Prop, z_Cl 40 [.ref 21, zi 8, zi 45] (mh h f3 g1) Q' = Q' (.inl (some (zi (zb (decide (zWn g 8 = [45])))))) (mh h f3 g1) := fun Q' => by
    have e : zW g1 8 = zWn g 8 := by
      unfold zW zWn
      rw [u0 26 (by omega), u0 27 (by omega), u0 28 (by omega)]
      rfl
    rw [← e]
    exact s40 (by rw [u0 26 (by omega)]; exact hd) (by
      unfold zwp
      rw [u0 27 (by omega), u0 28 (by omega)]
      refine ⟨by decide, by decide, ?_⟩
      show 0 ≤ g 27 8 ∧ g 27 8 ≤ g 28 8 ∧ g 28 8 ≤ 60
      omega) (by decide)
  have c27 : g1 27 = g 27 := u0 27 (by omega)
  have c28 : g1 28 = g 28 := u0 28 (by omega)
  by_cases hc : zWn g 8 = [45]
  · rw [if_pos hc] at hn8
    have hdc : decide (zWn g 8 = [45]) = true := decide_eq_true hc
    simp (disch := first | omega | assumption | exact zq_r _ | exact zn_0 | exact zo_i _ | exact zo_r _ | exact zq_k _ | exact zq_n | exact zn_1 _ | exact zn_2 _ _ | exact zn_3 _ _ _ | exact zn_4 _ _ _ _ | exact zn_5 _ _ _ _ _ | exact zc_i _ | exact zc_r _ | exact zo_l _ | exact zo_k _ | exact zo_n | exact zc_rk _ | (rw [zx_id (by omega)]; omega) | (rw [zw_id (by omega)]; omega) | (apply z_ok_v; assumption) | (simp only [z_new_1, z_pu_1, mh_1]; omega)) only [z_EvO_some, z_EvG_t, z_Bk_n, z_Bk_s, z_brT, z_brF, z_br_pos, z_br_neg, not_true_eq_false, not_false_eq_true, Bool.true_eq_false, Bool.false_eq_true, Bool.not_eq_false, Bool.not_eq_true, eq_self, z_kl_i, z_kl_l, z_kl_r, z_kl_k, z_kl_n, z_kl_u, z_kl_v, zi_f, zl_f, z_put_r, z_nul_n, z_nul_r, zcmp_lt, zcmp_le, zcmp_ge, zcmp_gt, zcmp_eq, zw_id, zx_id, Nat.reduceAdd, z_tf_i, z_tf_l, z_tf_z, zl_zx, zi_zw, z_gf0, z_gf1, z_gf2, z_gf3, z_gf4, z_gf5, z_gf6, z_gf7, z_pf0, z_pf1, z_pf2, z_pf3, z_pf4, z_pf5, z_pf6, z_pf7, z_ob1, zb_0, zb_1, zb_tf, mat_21, mpu_21, mat_22, mpu_22, mat_23, mpu_23, mat_24, mpu_24, mat_25, mpu_25, mat_26, mpu_26, mat_27, mpu_27, mat_28, mpu_28, mat_29, mpu_29, mat_30, mpu_30, mat_31, mpu_31, mat_32, mpu_32, mat_33, mpu_33, mat_34, mpu_34, mat_35, mpu_35, mat_36, mpu_36, mat_37, mpu_37, mat_38, mpu_38, mat_39, mpu_39, mat_40, mpu_40, mat_41, mpu_41, mat_42, mpu_42, mat_43, mpu_43, mat_44, mpu_44, mat_45, mpu_45, mat_46, mpu_46, mat_47, mpu_47, mat_48, mpu_48, mat_49, mpu_49, mat_50, mpu_50, mat_51, mpu_51, mat_52, mpu_52, mat_53, mpu_53, mat_54, mpu_54, mat_55, mpu_55, mat_56, mpu_56, mat_57, mpu_57, mat_58, mpu_58, mat_59, mpu_59, mat_60, mpu_60, mat_61, mpu_61, mgf_0, mgf_1, mgf_2, mgf_3, mgf_4, mpf_4, mgf_5, mgf_6, mpf_6, mgf_7, mpf_7, mgf_8, mgf_9, mgf_10, mpf_10, mgf_11, mpf_11, mgf_12, mpf_12, mgf_13, mpf_13, mgf_14, mpf_14, mgf_15, mpf_15, mgf_16, mgf_17, mgf_18, mgf_19, mgf_20, mgf_21, mgf_22, mgf_23, mgf_24, mgf_25, mgf_26, mgf_27, mgf_28, mpf_28, mgf_29, mgf_30, mgf_31, mgf_32, mgf_33, mgf_34, mgf_35, mgf_36, mgf_37, mgf_38, mgf_39, mgf_40, mpf_40, mgf_41, mpf_41, mgf_42, mpf_42, mgf_43, mpf_43, mgf_44, mgf_45, mpf_45, mgf_46, mpf_46, mgf_47, mpf_47, mgf_48, mgf_49, mgf_50, mgf_51, mgf_52, mgf_53, mgf_54, mgf_55, mgf_56, mpf_56, mgf_57, mgf_58, mpf_58, mgf_59, mpf_59, mgf_60, mpf_60, mob, zg_ai_A, zg_al_A, zg_si_A, zg_sl_A, zg_ab_z, zg_sb_z, z_len_A, z_len_L, r159_0, r159_1, r159_4, r159_5, r159_8, r159_9, r159_10, r159_11, r159_12, r159_13, r159_16, r159_17, r159_18, r159_19, r159_22, r159_23, r159_24, r159_25, r159_26, r159_29, r159_30, r159_32, r159_35, r159_36, r159_38, r159_41, r159_42, r159_43, r159_46, r159_49, r159_50, r159_51, r159_54, r159_55, r159_56, r159_59, r159_60, r159_61, r159_62, r159_64, r159_66, r159_68, r159_70, r159_73, r159_74, r159_75, r159_76, r159_78, r159_80, r159_82, r159_83, r159_86, r159_88, r159_89, r159_92, r159_94, r159_97, r159_98, r159_99, r159_102, r159_105, r159_106, r159_109, r159_110, r159_113, r159_114, r159_115, r159_118, r159_119, r159_120, r159_123, r159_124, r159_127, r159_129, r159_132, r159_135, r159_138, r159_139, r159_142, r159_144, r159_145, r159_146, r159_149, r159_150, r159_151, r159_152, r159_155, r159_156, r159_157, r159_160, r159_162, r159_164, r159_167, r159_168, r159_169, r159_172, r159_173, r159_174, r159_175, r159_178, r159_179, r159_180, r159_183, r159_186, r159_187, r159_188, r159_191, r159_193, r159_194, r159_195, r159_198, r159_200, r159_201, r159_204, r159_207, r159_208, r159_209, r159_212, r159_213, r159_214, r159_217, r159_219, r159_220, r159_221, r159_224, r159_226, r159_227, r159_228, r159_231, r159_233, r159_234, r159_237, r159_240, r159_241, r159_244, r159_246, r159_247, r159_248, r159_251, r159_253, r159_254, r159_255, r159_256, r159_259, r159_260, r159_261, r159_264, r159_265, r159_266, r159_268, r159_269, r159_271, r159_272, r159_275, r159_277, r159_278, r159_280, r159_283, r159_284, r159_285, r159_288, r159_289, r159_291, r159_293, r159_294, r159_295, r159_298, r159_300, r159_301, r159_302, r159_304, r159_305, r159_308, r159_310, r159_311, r159_312, r159_313, r159_316, r159_318, r159_320, r159_321, r159_322, r159_325, r159_327, r159_329, r159_330, r159_331, r159_334, r159_336, r159_337, r159_340, r159_341, r159_342, r159_345, r159_347, r159_348, r159_351, r159_352, r159_353, r159_356, r159_358, r159_359, r159_362, r159_363, r159_364, r159_367, r159_369, r159_371, r159_372, r159_373, r159_376, r159_378, r159_379, r159_382, r159_383, r159_384, r159_387, r159_389, r159_390, r159_393, r159_394, r159_395, r159_398, r159_400, r159_401, r159_403, r159_405, r159_408, r159_411, r159_412, r159_415, r159_416, r159_419, r159_421, r159_422, r159_423, r159_426, r159_428, r159_429, r159_430, r159_431, r159_432, r159_436, r159_437, r159_440, r159_442, r159_443, r159_446, r159_447, r159_450, r159_451, r159_453, r159_454, r159_456, r159_457, r159_458, r159_461, r159_462, r159_465, r159_467, r159_468, r159_470, r159_471, r159_472, r159_473, r159_476, r159_479, r159_480, r159_483, r159_485, r159_486, r159_487, r159_488, r159_489, r159_490, r159_491, r159_495, r159_497, r159_500, r159_501, r159_503, r159_505, r159_507, r159_509, r159_510, r159_513, r159_514, r159_517, r159_518, r159_521, r159_524, r159_527, r159_528, r159_530, r159_531, r159_532, r159_535, r159_538, r159_541, r159_542, x40, hdc, er]
    have : g2 = va_up g1 39 (va_up (g1 39) (6 * k + (Rs k).length) 0) := by
      show va_up g1 39 (va_up (g1 39) _ (R.2.length : Int)) = _
      rw [hn8]
    rw [← this]
    exact mid
  · rw [if_neg hc] at hn8
    have hdc : decide (zWn g 8 = [45]) = false := decide_eq_false hc
    simp (disch := first | omega | assumption | exact zq_r _ | exact zn_0 | exact zo_i _ | exact zo_r _ | exact zq_k _ | exact zq_n | exact zn_1 _ | exact zn_2 _ _ | exact zn_3 _ _ _ | exact zn_4 _ _ _ _ | exact zn_5 _ _ _ _ _ | exact zc_i _ | exact zc_r _ | exact zo_l _ | exact zo_k _ | exact zo_n | exact zc_rk _ | (rw [zx_id (by omega)]; omega) | (rw [zw_id (by omega)]; omega) | (apply z_ok_v; assumption) | (simp only [z_new_1, z_pu_1, mh_1]; omega)) only [z_EvO_some, z_EvG_t, z_Bk_n, z_Bk_s, z_brT, z_brF, z_br_pos, z_br_neg, not_true_eq_false, not_false_eq_true, Bool.true_eq_false, Bool.false_eq_true, Bool.not_eq_false, Bool.not_eq_true, eq_self, z_kl_i, z_kl_l, z_kl_r, z_kl_k, z_kl_n, z_kl_u, z_kl_v, zi_f, zl_f, z_put_r, z_nul_n, z_nul_r, zcmp_lt, zcmp_le, zcmp_ge, zcmp_gt, zcmp_eq, zw_id, zx_id, Nat.reduceAdd, z_tf_i, z_tf_l, z_tf_z, zl_zx, zi_zw, z_gf0, z_gf1, z_gf2, z_gf3, z_gf4, z_gf5, z_gf6, z_gf7, z_pf0, z_pf1, z_pf2, z_pf3, z_pf4, z_pf5, z_pf6, z_pf7, z_ob1, zb_0, zb_1, zb_tf, mat_21, mpu_21, mat_22, mpu_22, mat_23, mpu_23, mat_24, mpu_24, mat_25, mpu_25, mat_26, mpu_26, mat_27, mpu_27, mat_28, mpu_28, mat_29, mpu_29, mat_30, mpu_30, mat_31, mpu_31, mat_32, mpu_32, mat_33, mpu_33, mat_34, mpu_34, mat_35, mpu_35, mat_36, mpu_36, mat_37, mpu_37, mat_38, mpu_38, mat_39, mpu_39, mat_40, mpu_40, mat_41, mpu_41, mat_42, mpu_42, mat_43, mpu_43, mat_44, mpu_44, mat_45, mpu_45, mat_46, mpu_46, mat_47, mpu_47, mat_48, mpu_48, mat_49, mpu_49, mat_50, mpu_50, mat_51, mpu_51, mat_52, mpu_52, mat_53, mpu_53, mat_54, mpu_54, mat_55, mpu_55, mat_56, mpu_56, mat_57, mpu_57, mat_58, mpu_58, mat_59, mpu_59, mat_60, mpu_60, mat_61, mpu_61, mgf_0, mgf_1, mgf_2, mgf_3, mgf_4, mpf_4, mgf_5, mgf_6, mpf_6, mgf_7, mpf_7, mgf_8, mgf_9, mgf_10, mpf_10, mgf_11, mpf_11, mgf_12, mpf_12, mgf_13, mpf_13, mgf_14, mpf_14, mgf_15, mpf_15, mgf_16, mgf_17, mgf_18, mgf_19, mgf_20, mgf_21, mgf_22, mgf_23, mgf_24, mgf_25, mgf_26, mgf_27, mgf_28, mpf_28, mgf_29, mgf_30, mgf_31, mgf_32, mgf_33, mgf_34, mgf_35, mgf_36, mgf_37, mgf_38, mgf_39, mgf_40, mpf_40, mgf_41, mpf_41, mgf_42, mpf_42, mgf_43, mpf_43, mgf_44, mgf_45, mpf_45, mgf_46, mpf_46, mgf_47, mpf_47, mgf_48, mgf_49, mgf_50, mgf_51, mgf_52, mgf_53, mgf_54, mgf_55, mgf_56, mpf_56, mgf_57, mgf_58, mpf_58, mgf_59, mpf_59, mgf_60, mpf_60, mob, zg_ai_A, zg_al_A, zg_si_A, zg_sl_A, zg_ab_z, zg_sb_z, z_len_A, z_len_L, r159_0, r159_1, r159_4, r159_5, r159_8, r159_9, r159_10, r159_11, r159_12, r159_13, r159_16, r159_17, r159_18, r159_19, r159_22, r159_23, r159_24, r159_25, r159_26, r159_29, r159_30, r159_32, r159_35, r159_36, r159_38, r159_41, r159_42, r159_43, r159_46, r159_49, r159_50, r159_51, r159_54, r159_55, r159_56, r159_59, r159_60, r159_61, r159_62, r159_64, r159_66, r159_68, r159_70, r159_73, r159_74, r159_75, r159_76, r159_78, r159_80, r159_82, r159_83, r159_86, r159_88, r159_89, r159_92, r159_94, r159_97, r159_98, r159_99, r159_102, r159_105, r159_106, r159_109, r159_110, r159_113, r159_114, r159_115, r159_118, r159_119, r159_120, r159_123, r159_124, r159_127, r159_129, r159_132, r159_135, r159_138, r159_139, r159_142, r159_144, r159_145, r159_146, r159_149, r159_150, r159_151, r159_152, r159_155, r159_156, r159_157, r159_160, r159_162, r159_164, r159_167, r159_168, r159_169, r159_172, r159_173, r159_174, r159_175, r159_178, r159_179, r159_180, r159_183, r159_186, r159_187, r159_188, r159_191, r159_193, r159_194, r159_195, r159_198, r159_200, r159_201, r159_204, r159_207, r159_208, r159_209, r159_212, r159_213, r159_214, r159_217, r159_219, r159_220, r159_221, r159_224, r159_226, r159_227, r159_228, r159_231, r159_233, r159_234, r159_237, r159_240, r159_241, r159_244, r159_246, r159_247, r159_248, r159_251, r159_253, r159_254, r159_255, r159_256, r159_259, r159_260, r159_261, r159_264, r159_265, r159_266, r159_268, r159_269, r159_271, r159_272, r159_275, r159_277, r159_278, r159_280, r159_283, r159_284, r159_285, r159_288, r159_289, r159_291, r159_293, r159_294, r159_295, r159_298, r159_300, r159_301, r159_302, r159_304, r159_305, r159_308, r159_310, r159_311, r159_312, r159_313, r159_316, r159_318, r159_320, r159_321, r159_322, r159_325, r159_327, r159_329, r159_330, r159_331, r159_334, r159_336, r159_337, r159_340, r159_341, r159_342, r159_345, r159_347, r159_348, r159_351, r159_352, r159_353, r159_356, r159_358, r159_359, r159_362, r159_363, r159_364, r159_367, r159_369, r159_371, r159_372, r159_373, r159_376, r159_378, r159_379, r159_382, r159_383, r159_384, r159_387, r159_389, r159_390, r159_393, r159_394, r159_395, r159_398, r159_400, r159_401, r159_403, r159_405, r159_408, r159_411, r159_412, r159_415, r159_416, r159_419, r159_421, r159_422, r159_423, r159_426, r159_428, r159_429, r159_430, r159_431, r159_432, r159_436, r159_437, r159_440, r159_442, r159_443, r159_446, r159_447, r159_450, r159_451, r159_453, r159_454, r159_456, r159_457, r159_458, r159_461, r159_462, r159_465, r159_467, r159_468, r159_470, r159_471, r159_472, r159_473, r159_476, r159_479, r159_480, r159_483, r159_485, r159_486, r159_487, r159_488, r159_489, r159_490, r159_491, r159_495, r159_497, r159_500, r159_501, r159_503, r159_505, r159_507, r159_509, r159_510, r159_513, r159_514, r159_517, r159_518, r159_521, r159_524, r159_527, r159_528, r159_530, r159_531, r159_532, r159_535, r159_538, r159_541, r159_542, x40, hdc, er, c27, c28, Int.reduceToNat]
    have : g2 = va_up g1 39 (va_up (g1 39) (6 * k + (Rs k).length) (g 28 8 - g 27 8)) := by
      show va_up g1 39 (va_up (g1 39) _ (R.2.length : Int)) = _
      rw [hn8]
    rw [← this]
    exact mid
end ZRm2
