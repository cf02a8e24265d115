/-! an era compiled: the class -/
theorem zKI_cg {G G' : Nat → Nat → Int} {σ : zNs} (hK : zKI G σ) (hg : ∀ a : Nat, 7 ≤ a ∧ a ≤ 10 → G' a = G a) : zKI G' σ := by
  unfold zKI at hK ⊢
  rw [hg 7 (by omega), hg 8 (by omega), hg 9 (by omega), hg 10 (by omega)]
  exact hK
theorem zrl_mem {ks : List Int} {rs : List zRu} (hk : zKok ks rs) {i : Nat} (hi : i < ks.length) : zrl rs (ks.getD i 0) ∈ rs := by
  have h1 := (hk.2.1 i hi).1
  have h0 := Int.emod_nonneg (ks.getD i 0) (show (8 : Int) ≠ 0 by decide)
  unfold zrl
  rw [List.getD_eq_getElem?_getD, List.getElem?_eq_getElem (show (ks.getD i 0 % 8).toNat < rs.length by omega)]
  exact List.getElem_mem _
theorem zTE_ok {E : zEr} {o : Option zRu} (hE : zEok E) (hEc : ∀ c ∈ E.2, 32 ≤ c ∧ c ≤ 126) (ho : ∀ R, o = some R → zRok R ∧ ∀ c ∈ R.2, 32 ≤ c ∧ c ≤ 126) : zTo (zTE E o) := by
  have r1 := hE.1
  have r2 := zsv_r hE (fun R h => (ho R h).1)
  refine ⟨?_, ?_, ?_, fun c hc => ?_⟩
  · show -1000000 ≤ E.1 0 + zsv E o ∧ E.1 0 + zsv E o ≤ 1000000
    omega
  · show (if zsv E o = 0 then (0 : Int) else 1) = 0 ∨ (if zsv E o = 0 then (0 : Int) else 1) = 1
    split <;> simp
  · show ((zfn E.2 (zsv E o) (E.1 0 + zsv E o) (zlo o)).take 8).length ≤ 8
    rw [List.length_take]
    omega
  · have hc : c ∈ (zfn E.2 (zsv E o) (E.1 0 + zsv E o) (zlo o)).take 8 := hc
    refine zfn_c (by omega) hEc ?_ c (List.mem_of_mem_take hc)
    cases o with
    | none => intro c hc; cases hc
    | some R => exact (ho R rfl).2
theorem zhb_f {off sv : Int} {nm : List Int} {j : Nat} : zhb off (if sv = 0 then 0 else 1) nm j = zhb off sv nm j := by
  unfold zhb
  by_cases h : sv = 0
  · rw [if_pos h]
    rfl
  · rw [if_neg h]
    rfl
/-- all types that an era may show -/
def zUe (Rs : Nat → List zRu) (E : zEr) : List zTy := zTE E none :: (zrs Rs E).map (fun R => zTE E (some R))
section ZCe
variable {s a : Nat} {h : zH} {Q : zO → zH → Prop} {G G0 : Nat → Nat → Int} {σ : zNs} {Es : List zEr} {Ks : Nat → List Int} {Rs : Nat → List zRu} {E : zEr} {s0 e0 : Int} {U : List zTy}
/-- what compiling leaves alone -/
def zGk (G G' : Nat → Nat → Int) : Prop := (∀ a : Nat, ¬ (5 ≤ a ∧ a ≤ 10) → G' a = G a) ∧ ∀ j, j ≠ 2 → j ≠ 6 → j ≠ 7 → G' 7 j = G 7 j
theorem zGk.refl : zGk G G := ⟨fun _ _ => rfl, fun _ _ _ _ => rfl⟩
theorem zGk.trans {G1 G2 : Nat → Nat → Int} (x : zGk G G1) (y : zGk G1 G2) : zGk G G2 := ⟨fun a ha => (y.1 a ha).trans (x.1 a ha), fun j j1 j2 j3 => (y.2 j j1 j2 j3).trans (x.2 j j1 j2 j3)⟩
theorem zCI.gk (hi : zCI s h G0 Es Ks Rs) (hg : zGk G0 G) : zCI s h G Es Ks Rs := by
  obtain ⟨hF, hLk, h63, hCB, hok, hoc, hG⟩ := hi
  exact ⟨hF, hLk, h63, hCB, hok, hoc, by rw [hg.1 0 (by omega)]; exact hG⟩
/-- what holds is taken and noted -/
theorem p190n {v : Value} {o : Option zRu} {T : Int} (hi : zCI s h G Es Ks Rs) (he : zEk s h a E) (hE : zEok E) (hEc : ∀ c ∈ E.2, 32 ≤ c ∧ c ≤ 126) (hv : zRw s h v o) (ho : ∀ R, o = some R → zRok R ∧ ∀ c ∈ R.2, 32 ≤ c ∧ c ≤ 126)
    (hK : zKI G σ) (hU : zTI σ U) (hx : zTE E o ∈ U) (hU28 : U.length ≤ 28) (hc : σ.2.1.length < 512) (hT : -2147483648 ≤ T ∧ T ≤ 2147483647)
    (kk : ∀ G1, zGk G G1 → zKI G1 σ → (∀ i, i < 13 → G1 6 i = zhT (zTE E o) i) → (∀ Q' : zO → zH → Prop, (∀ G', zKI G' (znote σ (T, zTE E o)) → zGk G G' → Q' (.inl none) (ch h G')) → z_Cl 118 [.ref 7, zl T, .ref 5] (ch h G1) Q') → Q (.inl none) (ch h G1)) : z_Cl 190 [.ref 5, .ref a, v] (ch h G) Q := by
  obtain ⟨hF, hLk, h63, hCB, hok, hoc, hG⟩ := id hi
  refine p190 hF hLk he hE hv (fun R h => (ho R h).1) (fun y' hy' => ?_)
  unfold cn
  have g1 : zGk G (va_up (va_up G 5 (va_up (G 5) 1 (5 + ((zfn E.2 (zsv E o) (E.1 0 + zsv E o) (zlo o)).take 8).length))) 6 y') := ⟨fun a ha => by rw [va_up_ne _ _ (by omega), va_up_ne _ _ (by omega)], fun j _ _ _ => by rw [va_up_ne _ _ (by decide), va_up_ne _ _ (by decide)]⟩
  have k1 := zKI_cg (G' := va_up (va_up G 5 (va_up (G 5) 1 (5 + ((zfn E.2 (zsv E o) (E.1 0 + zsv E o) (zlo o)).take 8).length))) 6 y') hK (fun a ha => by rw [va_up_ne _ _ (by omega), va_up_ne _ _ (by omega)])
  have y6 : ∀ i, i < 13 → va_up (va_up G 5 (va_up (G 5) 1 (5 + ((zfn E.2 (zsv E o) (E.1 0 + zsv E o) (zlo o)).take 8).length))) 6 y' 6 i = zhT (zTE E o) i := fun i hi => by
    rw [va_up_self, hy' i hi]
    exact zhb_f.symm
  refine kk _ g1 k1 y6 (fun Q' kq => ?_)
  have hn := (znts_ti hU hx).2.2
  refine t118 k1 (zTE_ok hE hEc ho) y6 (by omega) hc (by omega) (Or.inr hT) (fun G' q1 q2 q3 => kq G' q1 ⟨fun a ha => (q2 a (by omega)).trans (g1.1 a ha), fun j j1 j2 j3 => (q3 j j1 j2 j3).trans (g1.2 j j1 j2 j3)⟩)
theorem l198 (hi : zCI s h G0 Es Ks Rs) (he : zEk s h a E) (hE : zEok E) (hEc : ∀ c ∈ E.2, 32 ≤ c ∧ c ≤ 126) (hc0 : 0 ≤ E.1 1) (hU28 : U.length ≤ 28) (hUe : ∀ x ∈ zUe Rs E, x ∈ U) (hse : -2147483648 ≤ s0 ∧ s0 ≤ 2147483648 ∧ -2147483648 ≤ e0 ∧ e0 ≤ 2147483648) :
    ∀ (n i : Nat) (G : Nat → Nat → Int) (σ : zNs), i + n = (zks Ks E).length → zGk G0 G → zKI G σ → zTI σ U → σ.2.1.length + ((List.range' i n).filter (zfh Ks Rs E s0 e0)).length < 512 →
    (∀ G', zGk G0 G' → zKI G' ((((List.range' i n).filter (zfh Ks Rs E s0 e0)).map (fun i => (zat Ks Rs E i, zTE E (some (zrl (zrs Rs E) ((zks Ks E).getD i 0)))))).foldl znote σ) → Q (.inl none) (ch h G')) →
    ∀ l8 l9, z_Ev 198 49 [.ref 0, .ref a, zl s0, z_um, zl e0, z_um, .ref (12 + 3 * (E.1 1).toNat), zi i, l8, l9] [] (ch h G) Q := by
  have hk3 : (E.1 1).toNat < 3 := by have := hE.2.1; omega
  have e1 : zks Ks E = Ks (E.1 1).toNat := if_neg (by omega)
  have e2 : zrs Rs E = Rs (E.1 1).toNat := if_neg (by omega)
  have hok := hi.2.2.2.2.1
  have hoc := hi.2.2.2.2.2.1
  have hkk := hok.2 _ hk3
  intro n
  induction n with
  | zero =>
    intro i G σ hin hg hK hU hb kk l8 l9
    obtain ⟨PE, fc, c1, c2, c3, c4, c5, c6⟩ := id (hi.gk hg).S
    obtain ⟨rr, ff, P, KK, d1, d2, d3, d4, d5, d6, d7⟩ := c6 _ hk3
    have := kk G hg hK
    rw [e1] at hin
    rw [k198_49]
    simp (disch := first | omega | assumption | exact zq_r _ | exact zn_0 | exact zo_i _ | exact zo_r _ | exact zq_k _ | exact zq_n | exact zn_1 _ | exact zn_2 _ _ | exact zn_3 _ _ _ | exact zn_4 _ _ _ _ | exact zn_5 _ _ _ _ _ | exact zc_i _ | exact zc_r _ | exact zo_l _ | exact zo_k _ | exact zo_n | exact zc_rk _ | (rw [zx_id (by omega)]; omega) | (rw [zw_id (by omega)]; omega) | (apply z_ok_v; assumption) | (simp only [z_new_1, z_pu_1, mh_1]; omega)) only [z_EvO_some, z_EvG_t, z_Bk_n, z_Bk_s, z_brT, z_brF, z_br_pos, z_br_neg, not_true_eq_false, not_false_eq_true, Bool.true_eq_false, Bool.false_eq_true, Bool.not_eq_false, Bool.not_eq_true, eq_self, z_kl_i, z_kl_l, z_kl_r, z_kl_k, z_kl_n, z_kl_u, z_kl_v, zi_f, zl_f, z_put_r, z_nul_n, z_nul_r, zcmp_lt, zcmp_le, zcmp_ge, zcmp_gt, zcmp_eq, zw_id, zx_id, Nat.reduceAdd, z_tf_i, z_tf_l, z_tf_z, zl_zx, zi_zw, z_gf0, z_gf1, z_gf2, z_gf3, z_gf4, z_gf5, z_gf6, z_gf7, z_pf0, z_pf1, z_pf2, z_pf3, z_pf4, z_pf5, z_pf6, z_pf7, z_ob1, zb_0, zb_1, zb_tf, r198_0, r198_1, r198_4, r198_5, r198_6, r198_7, r198_8, r198_11, r198_14, r198_15, r198_18, r198_19, r198_20, r198_23, r198_26, r198_27, r198_30, r198_31, r198_34, r198_35, r198_36, r198_39, r198_40, r198_43, r198_44, r198_46, r198_47, r198_51, r198_53, r198_56, r198_59, r198_61, r198_63, r198_64, r198_67, r198_70, r198_72, r198_74, r198_75, r198_76, r198_79, r198_81, r198_83, r198_84, r198_87, r198_89, r198_91, r198_92, r198_95, r198_98, r198_100, r198_103, r198_104, r198_107, r198_108, r198_110, r198_112, r198_115, r198_118, r198_119, r198_122, r198_124, r198_125, r198_128, r198_131, r198_134, r198_137, d1]
    exact this
  | succ n ih =>
    intro i G σ hin hg hK hU hb kk l8 l9
    have hiG := hi.gk hg
    obtain ⟨PE, fc, c1, c2, c3, c4, c5, c6⟩ := id hiG.S
    have hS := c6 _ hk3
    obtain ⟨rr, ff, P, KK, d1, d2, d3, d4, d5, d6, d7⟩ := id hS
    obtain ⟨cc, pp, sec, -, w1, w2, w3⟩ := id (he.onch (G := G) hi.1)
    have hlt : i < (Ks (E.1 1).toNat).length := by rw [← e1]; omega
    have r0 := hE.1
    have x85 : ∀ Q' : zO → zH → Prop, z_Cl 85 [.ref (12 + 3 * (E.1 1).toNat), zi i, zi (E.1 0)] (ch h G) Q' = _ := fun Q' => t85 (j := i) hS hkk (by omega) r0
    have ea : zfa (Ks (E.1 1).toNat) (Rs (E.1 1).toNat) (E.1 0) i = zat Ks Rs E i := by unfold zat; rw [e1, e2]
    have ra := zfa_q (off := E.1 0) hkk hlt r0
    rw [ea] at ra
    simp only [ea] at x85
    have x122 : ∀ Q' : zO → zH → Prop, z_Cl 122 [.ref (12 + 3 * (E.1 1).toNat), zl (zat Ks Rs E i), zi (E.1 0)] (ch h G) Q' = Q' (.inl (some (zi (zlw Ks Rs E (zat Ks Rs E i))))) (ch h G) := fun Q' => by
      have := t122 (Q := Q') (t := zat Ks Rs E i) hS hkk r0 (by omega)
      rw [this]
      unfold zlw
      rw [e1, e2]
    have rl := zlw_r (Ks := Ks) (Rs := Rs) (E := E) (t := zat Ks Rs E i)
    have rl8 : (zks Ks E).length ≤ 408 := by rw [e1]; exact d5
    have hob := zRS_ob hS
    have hrg : List.range' i (n + 1) = i :: List.range' (i + 1) n := rfl
    rw [hrg] at hb kk
    rw [List.filter_cons] at hb kk
    have e1' : ((i + 1 : Nat) : Int) = (i : Int) + 1 := by omega
    rw [k198_49]
    by_cases hz : zfh Ks Rs E s0 e0 i = true
    · rw [if_pos hz] at hb kk
      obtain ⟨z1, z2, z3⟩ := of_decide_eq_true hz
      have hRm := zrl_mem hkk hlt
      have hRr : zRok (zrl (Rs (E.1 1).toNat) ((Ks (E.1 1).toNat).getD i 0)) := hkk.2.2 _ hRm
      have hRc := hoc.2 _ hk3 _ hRm
      have hx : zTE E (some (zrl (zrs Rs E) ((zks Ks E).getD i 0))) ∈ U := by
        refine hUe _ (List.mem_cons_of_mem _ (List.mem_map.mpr ⟨_, ?_, rfl⟩))
        rw [e1, e2]
        exact hRm
      simp (disch := first | omega | assumption | exact zq_r _ | exact zn_0 | exact zo_i _ | exact zo_r _ | exact zq_k _ | exact zq_n | exact zn_1 _ | exact zn_2 _ _ | exact zn_3 _ _ _ | exact zn_4 _ _ _ _ | exact zn_5 _ _ _ _ _ | exact zc_i _ | exact zc_r _ | exact zo_l _ | exact zo_k _ | exact zo_n | exact zc_rk _ | (rw [zx_id (by omega)]; omega) | (rw [zw_id (by omega)]; omega) | (apply z_ok_v; assumption) | (simp only [z_new_1, z_pu_1, mh_1]; omega)) only [z_EvO_some, z_EvG_t, z_Bk_n, z_Bk_s, z_brT, z_brF, z_br_pos, z_br_neg, not_true_eq_false, not_false_eq_true, Bool.true_eq_false, Bool.false_eq_true, Bool.not_eq_false, Bool.not_eq_true, eq_self, z_kl_i, z_kl_l, z_kl_r, z_kl_k, z_kl_n, z_kl_u, z_kl_v, zi_f, zl_f, z_put_r, z_nul_n, z_nul_r, zcmp_lt, zcmp_le, zcmp_ge, zcmp_gt, zcmp_eq, zw_id, zx_id, Nat.reduceAdd, z_tf_i, z_tf_l, z_tf_z, zl_zx, zi_zw, z_gf0, z_gf1, z_gf2, z_gf3, z_gf4, z_gf5, z_gf6, z_gf7, z_pf0, z_pf1, z_pf2, z_pf3, z_pf4, z_pf5, z_pf6, z_pf7, z_ob1, zb_0, zb_1, zb_tf, cat_o, cat_k, ch_1, cgf0_0, cgf0_1, cgf0_2, cgf0_3, cpf0_3, cgf0_4, cgf0_5, cgf0_6, cgf0_7, cpf0_7, cob_0, cat_0, cpu_0, cgf5_0, cgf5_1, cpf5_1, cob_5, cat_5, cpu_5, cat_6, cpu_6, cgf7_0, cgf7_1, cpf7_1, cgf7_2, cpf7_2, cgf7_3, cpf7_3, cgf7_4, cgf7_5, cgf7_6, cpf7_6, cgf7_7, cpf7_7, cob_7, cat_7, cpu_7, cat_8, cpu_8, cat_9, cpu_9, cat_10, cpu_10, cat_11, cpu_11, zg_ai_A, zg_al_A, zg_si_A, zg_sl_A, zg_ab_b, zg_sb_b, z_len_A, z_len_L, r198_0, r198_1, r198_4, r198_5, r198_6, r198_7, r198_8, r198_11, r198_14, r198_15, r198_18, r198_19, r198_20, r198_23, r198_26, r198_27, r198_30, r198_31, r198_34, r198_35, r198_36, r198_39, r198_40, r198_43, r198_44, r198_46, r198_47, r198_51, r198_53, r198_56, r198_59, r198_61, r198_63, r198_64, r198_67, r198_70, r198_72, r198_74, r198_75, r198_76, r198_79, r198_81, r198_83, r198_84, r198_87, r198_89, r198_91, r198_92, r198_95, r198_98, r198_100, r198_103, r198_104, r198_107, r198_108, r198_110, r198_112, r198_115, r198_118, r198_119, r198_122, r198_124, r198_125, r198_128, r198_131, r198_134, r198_137, d1, w1, x85, x122, z3, hob]
      obtain ⟨PE', f1, f2, f3, f4, f5⟩ := hiG.2.2.2.1.onch (G := G) hi.1
      refine t26k (f5 _ hk3) hkk (by omega) (fun b hb2 => ?_)
      rw [Int.toNat_natCast] at hb2
      have hb3 := hb2.offch hiG.frc
      rw [List.length_cons] at hb
      simp only [List.map_cons, List.foldl_cons] at kk
      simp (disch := first | omega | assumption | exact zq_r _ | exact zn_0 | exact zo_i _ | exact zo_r _ | exact zq_k _ | exact zq_n | exact zn_1 _ | exact zn_2 _ _ | exact zn_3 _ _ _ | exact zn_4 _ _ _ _ | exact zn_5 _ _ _ _ _ | exact zc_i _ | exact zc_r _ | exact zo_l _ | exact zo_k _ | exact zo_n | exact zc_rk _ | (rw [zx_id (by omega)]; omega) | (rw [zw_id (by omega)]; omega) | (apply z_ok_v; assumption) | (simp only [z_new_1, z_pu_1, mh_1]; omega)) only [z_EvO_some, z_EvG_t, z_Bk_n, z_Bk_s, z_brT, z_brF, z_br_pos, z_br_neg, not_true_eq_false, not_false_eq_true, Bool.true_eq_false, Bool.false_eq_true, Bool.not_eq_false, Bool.not_eq_true, eq_self, z_kl_i, z_kl_l, z_kl_r, z_kl_k, z_kl_n, z_kl_u, z_kl_v, zi_f, zl_f, z_put_r, z_nul_n, z_nul_r, zcmp_lt, zcmp_le, zcmp_ge, zcmp_gt, zcmp_eq, zw_id, zx_id, Nat.reduceAdd, z_tf_i, z_tf_l, z_tf_z, zl_zx, zi_zw, z_gf0, z_gf1, z_gf2, z_gf3, z_gf4, z_gf5, z_gf6, z_gf7, z_pf0, z_pf1, z_pf2, z_pf3, z_pf4, z_pf5, z_pf6, z_pf7, z_ob1, zb_0, zb_1, zb_tf, cat_o, cat_k, ch_1, cgf0_0, cgf0_1, cgf0_2, cgf0_3, cpf0_3, cgf0_4, cgf0_5, cgf0_6, cgf0_7, cpf0_7, cob_0, cat_0, cpu_0, cgf5_0, cgf5_1, cpf5_1, cob_5, cat_5, cpu_5, cat_6, cpu_6, cgf7_0, cgf7_1, cpf7_1, cgf7_2, cpf7_2, cgf7_3, cpf7_3, cgf7_4, cgf7_5, cgf7_6, cpf7_6, cgf7_7, cpf7_7, cob_7, cat_7, cpu_7, cat_8, cpu_8, cat_9, cpu_9, cat_10, cpu_10, cat_11, cpu_11, zg_ai_A, zg_al_A, zg_si_A, zg_sl_A, zg_ab_b, zg_sb_b, z_len_A, z_len_L, r198_0, r198_1, r198_4, r198_5, r198_6, r198_7, r198_8, r198_11, r198_14, r198_15, r198_18, r198_19, r198_20, r198_23, r198_26, r198_27, r198_30, r198_31, r198_34, r198_35, r198_36, r198_39, r198_40, r198_43, r198_44, r198_46, r198_47, r198_51, r198_53, r198_56, r198_59, r198_61, r198_63, r198_64, r198_67, r198_70, r198_72, r198_74, r198_75, r198_76, r198_79, r198_81, r198_83, r198_84, r198_87, r198_89, r198_91, r198_92, r198_95, r198_98, r198_100, r198_103, r198_104, r198_107, r198_108, r198_110, r198_112, r198_115, r198_118, r198_119, r198_122, r198_124, r198_125, r198_128, r198_131, r198_134, r198_137]
      have hv : zRw s h (.ref b) (some (zrl (zrs Rs E) ((zks Ks E).getD i 0))) := by
        rw [e1, e2]
        exact ⟨b, rfl, hb3⟩
      refine p190n (T := zat Ks Rs E i) hiG he hE hEc hv (fun R' e => by
        rw [e1, e2] at e
        cases e
        exact ⟨hRr, hRc⟩) hK hU hx hU28 (by omega) (by omega) (fun G1 g1 k1 y6 c118 => ?_)
      simp (disch := first | omega | assumption | exact zq_r _ | exact zn_0 | exact zo_i _ | exact zo_r _ | exact zq_k _ | exact zq_n | exact zn_1 _ | exact zn_2 _ _ | exact zn_3 _ _ _ | exact zn_4 _ _ _ _ | exact zn_5 _ _ _ _ _ | exact zc_i _ | exact zc_r _ | exact zo_l _ | exact zo_k _ | exact zo_n | exact zc_rk _ | (rw [zx_id (by omega)]; omega) | (rw [zw_id (by omega)]; omega) | (apply z_ok_v; assumption) | (simp only [z_new_1, z_pu_1, mh_1]; omega)) only [z_EvO_some, z_EvG_t, z_Bk_n, z_Bk_s, z_brT, z_brF, z_br_pos, z_br_neg, not_true_eq_false, not_false_eq_true, Bool.true_eq_false, Bool.false_eq_true, Bool.not_eq_false, Bool.not_eq_true, eq_self, z_kl_i, z_kl_l, z_kl_r, z_kl_k, z_kl_n, z_kl_u, z_kl_v, zi_f, zl_f, z_put_r, z_nul_n, z_nul_r, zcmp_lt, zcmp_le, zcmp_ge, zcmp_gt, zcmp_eq, zw_id, zx_id, Nat.reduceAdd, z_tf_i, z_tf_l, z_tf_z, zl_zx, zi_zw, z_gf0, z_gf1, z_gf2, z_gf3, z_gf4, z_gf5, z_gf6, z_gf7, z_pf0, z_pf1, z_pf2, z_pf3, z_pf4, z_pf5, z_pf6, z_pf7, z_ob1, zb_0, zb_1, zb_tf, cat_o, cat_k, ch_1, cgf0_0, cgf0_1, cgf0_2, cgf0_3, cpf0_3, cgf0_4, cgf0_5, cgf0_6, cgf0_7, cpf0_7, cob_0, cat_0, cpu_0, cgf5_0, cgf5_1, cpf5_1, cob_5, cat_5, cpu_5, cat_6, cpu_6, cgf7_0, cgf7_1, cpf7_1, cgf7_2, cpf7_2, cgf7_3, cpf7_3, cgf7_4, cgf7_5, cgf7_6, cpf7_6, cgf7_7, cpf7_7, cob_7, cat_7, cpu_7, cat_8, cpu_8, cat_9, cpu_9, cat_10, cpu_10, cat_11, cpu_11, zg_ai_A, zg_al_A, zg_si_A, zg_sl_A, zg_ab_b, zg_sb_b, z_len_A, z_len_L, r198_0, r198_1, r198_4, r198_5, r198_6, r198_7, r198_8, r198_11, r198_14, r198_15, r198_18, r198_19, r198_20, r198_23, r198_26, r198_27, r198_30, r198_31, r198_34, r198_35, r198_36, r198_39, r198_40, r198_43, r198_44, r198_46, r198_47, r198_51, r198_53, r198_56, r198_59, r198_61, r198_63, r198_64, r198_67, r198_70, r198_72, r198_74, r198_75, r198_76, r198_79, r198_81, r198_83, r198_84, r198_87, r198_89, r198_91, r198_92, r198_95, r198_98, r198_100, r198_103, r198_104, r198_107, r198_108, r198_110, r198_112, r198_115, r198_118, r198_119, r198_122, r198_124, r198_125, r198_128, r198_131, r198_134, r198_137]
      refine c118 _ (fun G' q1 q2 => ?_)
      have hti := znote_ti (p := (zat Ks Rs E i, zTE E (some (zrl (zrs Rs E) ((zks Ks E).getD i 0))))) hU hx
      have xr := ih (i + 1) G' _ (by omega) (hg.trans q2) q1 hti.1 (by omega) kk
      rw [e1'] at xr
      simp (disch := first | omega | assumption | exact zq_r _ | exact zn_0 | exact zo_i _ | exact zo_r _ | exact zq_k _ | exact zq_n | exact zn_1 _ | exact zn_2 _ _ | exact zn_3 _ _ _ | exact zn_4 _ _ _ _ | exact zn_5 _ _ _ _ _ | exact zc_i _ | exact zc_r _ | exact zo_l _ | exact zo_k _ | exact zo_n | exact zc_rk _ | (rw [zx_id (by omega)]; omega) | (rw [zw_id (by omega)]; omega) | (apply z_ok_v; assumption) | (simp only [z_new_1, z_pu_1, mh_1]; omega)) only [z_EvO_some, z_EvG_t, z_Bk_n, z_Bk_s, z_brT, z_brF, z_br_pos, z_br_neg, not_true_eq_false, not_false_eq_true, Bool.true_eq_false, Bool.false_eq_true, Bool.not_eq_false, Bool.not_eq_true, eq_self, z_kl_i, z_kl_l, z_kl_r, z_kl_k, z_kl_n, z_kl_u, z_kl_v, zi_f, zl_f, z_put_r, z_nul_n, z_nul_r, zcmp_lt, zcmp_le, zcmp_ge, zcmp_gt, zcmp_eq, zw_id, zx_id, Nat.reduceAdd, z_tf_i, z_tf_l, z_tf_z, zl_zx, zi_zw, z_gf0, z_gf1, z_gf2, z_gf3, z_gf4, z_gf5, z_gf6, z_gf7, z_pf0, z_pf1, z_pf2, z_pf3, z_pf4, z_pf5, z_pf6, z_pf7, z_ob1, zb_0, zb_1, zb_tf, r198_0, r198_1, r198_4, r198_5, r198_6, r198_7, r198_8, r198_11, r198_14, r198_15, r198_18, r198_19, r198_20, r198_23, r198_26, r198_27, r198_30, r198_31, r198_34, r198_35, r198_36, r198_39, r198_40, r198_43, r198_44, r198_46, r198_47, r198_51, r198_53, r198_56, r198_59, r198_61, r198_63, r198_64, r198_67, r198_70, r198_72, r198_74, r198_75, r198_76, r198_79, r198_81, r198_83, r198_84, r198_87, r198_89, r198_91, r198_92, r198_95, r198_98, r198_100, r198_103, r198_104, r198_107, r198_108, r198_110, r198_112, r198_115, r198_118, r198_119, r198_122, r198_124, r198_125, r198_128, r198_131, r198_134, r198_137]
      exact xr _ _
    · rw [if_neg hz] at hb kk
      have xr := ih (i + 1) G σ (by omega) hg hK hU hb kk
      rw [e1'] at xr
      have hz' : ¬ (s0 < zat Ks Rs E i ∧ zat Ks Rs E i < e0 ∧ zlw Ks Rs E (zat Ks Rs E i) = i) := fun x => hz (decide_eq_true x)
      by_cases z1 : s0 < zat Ks Rs E i
      · by_cases z2 : zat Ks Rs E i < e0
        · have z3 : ¬ zlw Ks Rs E (zat Ks Rs E i) = i := fun x => hz' ⟨z1, z2, x⟩
          simp (disch := first | omega | assumption | exact zq_r _ | exact zn_0 | exact zo_i _ | exact zo_r _ | exact zq_k _ | exact zq_n | exact zn_1 _ | exact zn_2 _ _ | exact zn_3 _ _ _ | exact zn_4 _ _ _ _ | exact zn_5 _ _ _ _ _ | exact zc_i _ | exact zc_r _ | exact zo_l _ | exact zo_k _ | exact zo_n | exact zc_rk _ | (rw [zx_id (by omega)]; omega) | (rw [zw_id (by omega)]; omega) | (apply z_ok_v; assumption) | (simp only [z_new_1, z_pu_1, mh_1]; omega)) only [z_EvO_some, z_EvG_t, z_Bk_n, z_Bk_s, z_brT, z_brF, z_br_pos, z_br_neg, not_true_eq_false, not_false_eq_true, Bool.true_eq_false, Bool.false_eq_true, Bool.not_eq_false, Bool.not_eq_true, eq_self, z_kl_i, z_kl_l, z_kl_r, z_kl_k, z_kl_n, z_kl_u, z_kl_v, zi_f, zl_f, z_put_r, z_nul_n, z_nul_r, zcmp_lt, zcmp_le, zcmp_ge, zcmp_gt, zcmp_eq, zw_id, zx_id, Nat.reduceAdd, z_tf_i, z_tf_l, z_tf_z, zl_zx, zi_zw, z_gf0, z_gf1, z_gf2, z_gf3, z_gf4, z_gf5, z_gf6, z_gf7, z_pf0, z_pf1, z_pf2, z_pf3, z_pf4, z_pf5, z_pf6, z_pf7, z_ob1, zb_0, zb_1, zb_tf, r198_0, r198_1, r198_4, r198_5, r198_6, r198_7, r198_8, r198_11, r198_14, r198_15, r198_18, r198_19, r198_20, r198_23, r198_26, r198_27, r198_30, r198_31, r198_34, r198_35, r198_36, r198_39, r198_40, r198_43, r198_44, r198_46, r198_47, r198_51, r198_53, r198_56, r198_59, r198_61, r198_63, r198_64, r198_67, r198_70, r198_72, r198_74, r198_75, r198_76, r198_79, r198_81, r198_83, r198_84, r198_87, r198_89, r198_91, r198_92, r198_95, r198_98, r198_100, r198_103, r198_104, r198_107, r198_108, r198_110, r198_112, r198_115, r198_118, r198_119, r198_122, r198_124, r198_125, r198_128, r198_131, r198_134, r198_137, d1, w1, x85, x122, hob]
          exact xr _ _
        · simp (disch := first | omega | assumption | exact zq_r _ | exact zn_0 | exact zo_i _ | exact zo_r _ | exact zq_k _ | exact zq_n | exact zn_1 _ | exact zn_2 _ _ | exact zn_3 _ _ _ | exact zn_4 _ _ _ _ | exact zn_5 _ _ _ _ _ | exact zc_i _ | exact zc_r _ | exact zo_l _ | exact zo_k _ | exact zo_n | exact zc_rk _ | (rw [zx_id (by omega)]; omega) | (rw [zw_id (by omega)]; omega) | (apply z_ok_v; assumption) | (simp only [z_new_1, z_pu_1, mh_1]; omega)) only [z_EvO_some, z_EvG_t, z_Bk_n, z_Bk_s, z_brT, z_brF, z_br_pos, z_br_neg, not_true_eq_false, not_false_eq_true, Bool.true_eq_false, Bool.false_eq_true, Bool.not_eq_false, Bool.not_eq_true, eq_self, z_kl_i, z_kl_l, z_kl_r, z_kl_k, z_kl_n, z_kl_u, z_kl_v, zi_f, zl_f, z_put_r, z_nul_n, z_nul_r, zcmp_lt, zcmp_le, zcmp_ge, zcmp_gt, zcmp_eq, zw_id, zx_id, Nat.reduceAdd, z_tf_i, z_tf_l, z_tf_z, zl_zx, zi_zw, z_gf0, z_gf1, z_gf2, z_gf3, z_gf4, z_gf5, z_gf6, z_gf7, z_pf0, z_pf1, z_pf2, z_pf3, z_pf4, z_pf5, z_pf6, z_pf7, z_ob1, zb_0, zb_1, zb_tf, r198_0, r198_1, r198_4, r198_5, r198_6, r198_7, r198_8, r198_11, r198_14, r198_15, r198_18, r198_19, r198_20, r198_23, r198_26, r198_27, r198_30, r198_31, r198_34, r198_35, r198_36, r198_39, r198_40, r198_43, r198_44, r198_46, r198_47, r198_51, r198_53, r198_56, r198_59, r198_61, r198_63, r198_64, r198_67, r198_70, r198_72, r198_74, r198_75, r198_76, r198_79, r198_81, r198_83, r198_84, r198_87, r198_89, r198_91, r198_92, r198_95, r198_98, r198_100, r198_103, r198_104, r198_107, r198_108, r198_110, r198_112, r198_115, r198_118, r198_119, r198_122, r198_124, r198_125, r198_128, r198_131, r198_134, r198_137, d1, w1, x85, hob]
          exact xr _ _
      · simp (disch := first | omega | assumption | exact zq_r _ | exact zn_0 | exact zo_i _ | exact zo_r _ | exact zq_k _ | exact zq_n | exact zn_1 _ | exact zn_2 _ _ | exact zn_3 _ _ _ | exact zn_4 _ _ _ _ | exact zn_5 _ _ _ _ _ | exact zc_i _ | exact zc_r _ | exact zo_l _ | exact zo_k _ | exact zo_n | exact zc_rk _ | (rw [zx_id (by omega)]; omega) | (rw [zw_id (by omega)]; omega) | (apply z_ok_v; assumption) | (simp only [z_new_1, z_pu_1, mh_1]; omega)) only [z_EvO_some, z_EvG_t, z_Bk_n, z_Bk_s, z_brT, z_brF, z_br_pos, z_br_neg, not_true_eq_false, not_false_eq_true, Bool.true_eq_false, Bool.false_eq_true, Bool.not_eq_false, Bool.not_eq_true, eq_self, z_kl_i, z_kl_l, z_kl_r, z_kl_k, z_kl_n, z_kl_u, z_kl_v, zi_f, zl_f, z_put_r, z_nul_n, z_nul_r, zcmp_lt, zcmp_le, zcmp_ge, zcmp_gt, zcmp_eq, zw_id, zx_id, Nat.reduceAdd, z_tf_i, z_tf_l, z_tf_z, zl_zx, zi_zw, z_gf0, z_gf1, z_gf2, z_gf3, z_gf4, z_gf5, z_gf6, z_gf7, z_pf0, z_pf1, z_pf2, z_pf3, z_pf4, z_pf5, z_pf6, z_pf7, z_ob1, zb_0, zb_1, zb_tf, r198_0, r198_1, r198_4, r198_5, r198_6, r198_7, r198_8, r198_11, r198_14, r198_15, r198_18, r198_19, r198_20, r198_23, r198_26, r198_27, r198_30, r198_31, r198_34, r198_35, r198_36, r198_39, r198_40, r198_43, r198_44, r198_46, r198_47, r198_51, r198_53, r198_56, r198_59, r198_61, r198_63, r198_64, r198_67, r198_70, r198_72, r198_74, r198_75, r198_76, r198_79, r198_81, r198_83, r198_84, r198_87, r198_89, r198_91, r198_92, r198_95, r198_98, r198_100, r198_103, r198_104, r198_107, r198_108, r198_110, r198_112, r198_115, r198_118, r198_119, r198_122, r198_124, r198_125, r198_128, r198_131, r198_134, r198_137, d1, w1, x85, hob]
        exact xr _ _
theorem zru_mem (hE : zEok E) (hok : zOk Es Ks Rs) {t : Int} {R : zRu} (h : zru Ks Rs E t = some R) : R ∈ zrs Rs E := by
  rw [zru_lw] at h
  have r := zlw_r (Ks := Ks) (Rs := Rs) (E := E) (t := t)
  split at h
  · cases h
  · rename_i hc
    have h := Option.some.inj h
    rw [← h]
    by_cases h1 : E.1 1 < 0
    · have : zks Ks E = [] := if_pos h1
      rw [this] at r
      have : (([] : List Int).length : Int) = 0 := rfl
      omega
    · have e1 : zks Ks E = Ks (E.1 1).toNat := if_neg h1
      have e2 : zrs Rs E = Rs (E.1 1).toNat := if_neg h1
      rw [e1, e2]
      refine zrl_mem (hok.2 _ (by have := hE.2.1; omega)) ?_
      rw [← e1]
      omega
theorem zru_U (hE : zEok E) (hok : zOk Es Ks Rs) {t : Int} : zTE E (zru Ks Rs E t) ∈ zUe Rs E := by
  cases hz : zru Ks Rs E t with
  | none => exact List.mem_cons_self
  | some R => exact List.mem_cons_of_mem _ (List.mem_map.mpr ⟨R, zru_mem hE hok hz, rfl⟩)
theorem t198 (hi : zCI s h G Es Ks Rs) (he : zEk s h a E) (hE : zEok E) (hEc : ∀ c ∈ E.2, 32 ≤ c ∧ c ≤ 126) (hU28 : U.length ≤ 28) (hUe : ∀ x ∈ zUe Rs E, x ∈ U) (hse : -2147483648 ≤ s0 ∧ s0 ≤ 2147483647 ∧ -2147483648 ≤ e0 ∧ e0 ≤ 2147483648) (hK : zKI G σ) (hU : zTI σ U) (hb : σ.2.1.length + 1 + (zDn Ks Rs E s0 e0).length < 512)
    (kk : ∀ G', zGk G G' → zKI G' (((s0, zTE E (zru Ks Rs E s0)) :: (zDn Ks Rs E s0 e0).map (fun i => (zat Ks Rs E i, zTE E (some (zrl (zrs Rs E) ((zks Ks E).getD i 0)))))).foldl znote σ) → Q (.inl none) (ch h G')) : z_Cl 198 [.ref 0, .ref a, zl s0, zl e0] (ch h G) Q := by
  have hok := hi.2.2.2.2.1
  have hoc := hi.2.2.2.2.2.1
  have hE1 := hE.2.1
  obtain ⟨cc, pp, sec, -, w1, w2, w3⟩ := id (he.onch (G := G) hi.1)
  have c0 : z_isob (z_at (ch h G) (.ref 0)) 0 = true := rfl
  simp (disch := first | omega | assumption | exact zq_r _ | exact zn_0 | exact zo_i _ | exact zo_r _ | exact zq_k _ | exact zq_n | exact zn_1 _ | exact zn_2 _ _ | exact zn_3 _ _ _ | exact zn_4 _ _ _ _ | exact zn_5 _ _ _ _ _ | exact zc_i _ | exact zc_r _ | exact zo_l _ | exact zo_k _ | exact zo_n | exact zc_rk _ | (rw [zx_id (by omega)]; omega) | (rw [zw_id (by omega)]; omega) | (apply z_ok_v; assumption) | (simp only [z_new_1, z_pu_1, mh_1]; omega)) only [z_EvO_some, z_EvG_t, z_Bk_n, z_Bk_s, z_brT, z_brF, z_br_pos, z_br_neg, not_true_eq_false, not_false_eq_true, Bool.true_eq_false, Bool.false_eq_true, Bool.not_eq_false, Bool.not_eq_true, eq_self, z_kl_i, z_kl_l, z_kl_r, z_kl_k, z_kl_n, z_kl_u, z_kl_v, zi_f, zl_f, z_put_r, z_nul_n, z_nul_r, zcmp_lt, zcmp_le, zcmp_ge, zcmp_gt, zcmp_eq, zw_id, zx_id, Nat.reduceAdd, z_tf_i, z_tf_l, z_tf_z, zl_zx, zi_zw, z_gf0, z_gf1, z_gf2, z_gf3, z_gf4, z_gf5, z_gf6, z_gf7, z_pf0, z_pf1, z_pf2, z_pf3, z_pf4, z_pf5, z_pf6, z_pf7, z_ob1, zb_0, zb_1, zb_tf, cat_o, cat_k, ch_1, cgf0_0, cgf0_1, cgf0_2, cgf0_3, cpf0_3, cgf0_4, cgf0_5, cgf0_6, cgf0_7, cpf0_7, cob_0, cat_0, cpu_0, cgf5_0, cgf5_1, cpf5_1, cob_5, cat_5, cpu_5, cat_6, cpu_6, cgf7_0, cgf7_1, cpf7_1, cgf7_2, cpf7_2, cgf7_3, cpf7_3, cgf7_4, cgf7_5, cgf7_6, cpf7_6, cgf7_7, cpf7_7, cob_7, cat_7, cpu_7, cat_8, cpu_8, cat_9, cpu_9, cat_10, cpu_10, cat_11, cpu_11, zg_ai_A, zg_al_A, zg_si_A, zg_sl_A, zg_ab_b, zg_sb_b, z_len_A, z_len_L, e198, r198_0, r198_1, r198_4, r198_5, r198_6, r198_7, r198_8, r198_11, r198_14, r198_15, r198_18, r198_19, r198_20, r198_23, r198_26, r198_27, r198_30, r198_31, r198_34, r198_35, r198_36, r198_39, r198_40, r198_43, r198_44, r198_46, r198_47, r198_51, r198_53, r198_56, r198_59, r198_61, r198_63, r198_64, r198_67, r198_70, r198_72, r198_74, r198_75, r198_76, r198_79, r198_81, r198_83, r198_84, r198_87, r198_89, r198_91, r198_92, r198_95, r198_98, r198_100, r198_103, r198_104, r198_107, r198_108, r198_110, r198_112, r198_115, r198_118, r198_119, r198_122, r198_124, r198_125, r198_128, r198_131, r198_134, r198_137]
  refine t136k hi he hE (by omega) (fun v hv => ?_)
  have hvr : z_isref v = true := (hv.toV (G := G) hi.1 hi.2.1).rf
  simp (disch := first | omega | assumption | exact zq_r _ | exact zn_0 | exact zo_i _ | exact zo_r _ | exact zq_k _ | exact zq_n | exact zn_1 _ | exact zn_2 _ _ | exact zn_3 _ _ _ | exact zn_4 _ _ _ _ | exact zn_5 _ _ _ _ _ | exact zc_i _ | exact zc_r _ | exact zo_l _ | exact zo_k _ | exact zo_n | exact zc_rk _ | (rw [zx_id (by omega)]; omega) | (rw [zw_id (by omega)]; omega) | (apply z_ok_v; assumption) | (simp only [z_new_1, z_pu_1, mh_1]; omega)) only [z_EvO_some, z_EvG_t, z_Bk_n, z_Bk_s, z_brT, z_brF, z_br_pos, z_br_neg, not_true_eq_false, not_false_eq_true, Bool.true_eq_false, Bool.false_eq_true, Bool.not_eq_false, Bool.not_eq_true, eq_self, z_kl_i, z_kl_l, z_kl_r, z_kl_k, z_kl_n, z_kl_u, z_kl_v, zi_f, zl_f, z_put_r, z_nul_n, z_nul_r, zcmp_lt, zcmp_le, zcmp_ge, zcmp_gt, zcmp_eq, zw_id, zx_id, Nat.reduceAdd, z_tf_i, z_tf_l, z_tf_z, zl_zx, zi_zw, z_gf0, z_gf1, z_gf2, z_gf3, z_gf4, z_gf5, z_gf6, z_gf7, z_pf0, z_pf1, z_pf2, z_pf3, z_pf4, z_pf5, z_pf6, z_pf7, z_ob1, zb_0, zb_1, zb_tf, cat_o, cat_k, ch_1, cgf0_0, cgf0_1, cgf0_2, cgf0_3, cpf0_3, cgf0_4, cgf0_5, cgf0_6, cgf0_7, cpf0_7, cob_0, cat_0, cpu_0, cgf5_0, cgf5_1, cpf5_1, cob_5, cat_5, cpu_5, cat_6, cpu_6, cgf7_0, cgf7_1, cpf7_1, cgf7_2, cpf7_2, cgf7_3, cpf7_3, cgf7_4, cgf7_5, cgf7_6, cpf7_6, cgf7_7, cpf7_7, cob_7, cat_7, cpu_7, cat_8, cpu_8, cat_9, cpu_9, cat_10, cpu_10, cat_11, cpu_11, zg_ai_A, zg_al_A, zg_si_A, zg_sl_A, zg_ab_b, zg_sb_b, z_len_A, z_len_L, r198_0, r198_1, r198_4, r198_5, r198_6, r198_7, r198_8, r198_11, r198_14, r198_15, r198_18, r198_19, r198_20, r198_23, r198_26, r198_27, r198_30, r198_31, r198_34, r198_35, r198_36, r198_39, r198_40, r198_43, r198_44, r198_46, r198_47, r198_51, r198_53, r198_56, r198_59, r198_61, r198_63, r198_64, r198_67, r198_70, r198_72, r198_74, r198_75, r198_76, r198_79, r198_81, r198_83, r198_84, r198_87, r198_89, r198_91, r198_92, r198_95, r198_98, r198_100, r198_103, r198_104, r198_107, r198_108, r198_110, r198_112, r198_115, r198_118, r198_119, r198_122, r198_124, r198_125, r198_128, r198_131, r198_134, r198_137]
  have hx := hUe _ (zru_U hE hok (t := s0))
  refine p190n (T := s0) hi he hE hEc hv (fun R e => ⟨zru_ok hE hok.2 e, fun c hc => zlo_c (t := s0) hoc hok hE c (by rw [e]; exact hc)⟩) hK hU hx hU28 (by omega) (by omega) (fun G1 g1 k1 y6 c118 => ?_)
  simp (disch := first | omega | assumption | exact zq_r _ | exact zn_0 | exact zo_i _ | exact zo_r _ | exact zq_k _ | exact zq_n | exact zn_1 _ | exact zn_2 _ _ | exact zn_3 _ _ _ | exact zn_4 _ _ _ _ | exact zn_5 _ _ _ _ _ | exact zc_i _ | exact zc_r _ | exact zo_l _ | exact zo_k _ | exact zo_n | exact zc_rk _ | (rw [zx_id (by omega)]; omega) | (rw [zw_id (by omega)]; omega) | (apply z_ok_v; assumption) | (simp only [z_new_1, z_pu_1, mh_1]; omega)) only [z_EvO_some, z_EvG_t, z_Bk_n, z_Bk_s, z_brT, z_brF, z_br_pos, z_br_neg, not_true_eq_false, not_false_eq_true, Bool.true_eq_false, Bool.false_eq_true, Bool.not_eq_false, Bool.not_eq_true, eq_self, z_kl_i, z_kl_l, z_kl_r, z_kl_k, z_kl_n, z_kl_u, z_kl_v, zi_f, zl_f, z_put_r, z_nul_n, z_nul_r, zcmp_lt, zcmp_le, zcmp_ge, zcmp_gt, zcmp_eq, zw_id, zx_id, Nat.reduceAdd, z_tf_i, z_tf_l, z_tf_z, zl_zx, zi_zw, z_gf0, z_gf1, z_gf2, z_gf3, z_gf4, z_gf5, z_gf6, z_gf7, z_pf0, z_pf1, z_pf2, z_pf3, z_pf4, z_pf5, z_pf6, z_pf7, z_ob1, zb_0, zb_1, zb_tf, cat_o, cat_k, ch_1, cgf0_0, cgf0_1, cgf0_2, cgf0_3, cpf0_3, cgf0_4, cgf0_5, cgf0_6, cgf0_7, cpf0_7, cob_0, cat_0, cpu_0, cgf5_0, cgf5_1, cpf5_1, cob_5, cat_5, cpu_5, cat_6, cpu_6, cgf7_0, cgf7_1, cpf7_1, cgf7_2, cpf7_2, cgf7_3, cpf7_3, cgf7_4, cgf7_5, cgf7_6, cpf7_6, cgf7_7, cpf7_7, cob_7, cat_7, cpu_7, cat_8, cpu_8, cat_9, cpu_9, cat_10, cpu_10, cat_11, cpu_11, zg_ai_A, zg_al_A, zg_si_A, zg_sl_A, zg_ab_b, zg_sb_b, z_len_A, z_len_L, r198_0, r198_1, r198_4, r198_5, r198_6, r198_7, r198_8, r198_11, r198_14, r198_15, r198_18, r198_19, r198_20, r198_23, r198_26, r198_27, r198_30, r198_31, r198_34, r198_35, r198_36, r198_39, r198_40, r198_43, r198_44, r198_46, r198_47, r198_51, r198_53, r198_56, r198_59, r198_61, r198_63, r198_64, r198_67, r198_70, r198_72, r198_74, r198_75, r198_76, r198_79, r198_81, r198_83, r198_84, r198_87, r198_89, r198_91, r198_92, r198_95, r198_98, r198_100, r198_103, r198_104, r198_107, r198_108, r198_110, r198_112, r198_115, r198_118, r198_119, r198_122, r198_124, r198_125, r198_128, r198_131, r198_134, r198_137]
  refine c118 _ (fun G' q1 q2 => ?_)
  have hti := znote_ti (p := (s0, zTE E (zru Ks Rs E s0))) hU hx
  have hi' := hi.gk q2
  obtain ⟨cc', pp', sec', -, w1', w2', w3'⟩ := id (he.onch (G := G') hi.1)
  by_cases hc : E.1 1 < 0
  · have em : E.1 1 = -1 := by omega
    have ez : zDn Ks Rs E s0 e0 = [] := by unfold zDn zks; rw [if_pos hc]; rfl
    rw [ez] at kk
    have := kk G' q2 q1
    rw [em] at w1'
    simp (disch := first | omega | assumption | exact zq_r _ | exact zn_0 | exact zo_i _ | exact zo_r _ | exact zq_k _ | exact zq_n | exact zn_1 _ | exact zn_2 _ _ | exact zn_3 _ _ _ | exact zn_4 _ _ _ _ | exact zn_5 _ _ _ _ _ | exact zc_i _ | exact zc_r _ | exact zo_l _ | exact zo_k _ | exact zo_n | exact zc_rk _ | (rw [zx_id (by omega)]; omega) | (rw [zw_id (by omega)]; omega) | (apply z_ok_v; assumption) | (simp only [z_new_1, z_pu_1, mh_1]; omega)) only [z_EvO_some, z_EvG_t, z_Bk_n, z_Bk_s, z_brT, z_brF, z_br_pos, z_br_neg, not_true_eq_false, not_false_eq_true, Bool.true_eq_false, Bool.false_eq_true, Bool.not_eq_false, Bool.not_eq_true, eq_self, z_kl_i, z_kl_l, z_kl_r, z_kl_k, z_kl_n, z_kl_u, z_kl_v, zi_f, zl_f, z_put_r, z_nul_n, z_nul_r, zcmp_lt, zcmp_le, zcmp_ge, zcmp_gt, zcmp_eq, zw_id, zx_id, Nat.reduceAdd, z_tf_i, z_tf_l, z_tf_z, zl_zx, zi_zw, z_gf0, z_gf1, z_gf2, z_gf3, z_gf4, z_gf5, z_gf6, z_gf7, z_pf0, z_pf1, z_pf2, z_pf3, z_pf4, z_pf5, z_pf6, z_pf7, z_ob1, zb_0, zb_1, zb_tf, cat_o, cat_k, ch_1, cgf0_0, cgf0_1, cgf0_2, cgf0_3, cpf0_3, cgf0_4, cgf0_5, cgf0_6, cgf0_7, cpf0_7, cob_0, cat_0, cpu_0, cgf5_0, cgf5_1, cpf5_1, cob_5, cat_5, cpu_5, cat_6, cpu_6, cgf7_0, cgf7_1, cpf7_1, cgf7_2, cpf7_2, cgf7_3, cpf7_3, cgf7_4, cgf7_5, cgf7_6, cpf7_6, cgf7_7, cpf7_7, cob_7, cat_7, cpu_7, cat_8, cpu_8, cat_9, cpu_9, cat_10, cpu_10, cat_11, cpu_11, zg_ai_A, zg_al_A, zg_si_A, zg_sl_A, zg_ab_b, zg_sb_b, z_len_A, z_len_L, r198_0, r198_1, r198_4, r198_5, r198_6, r198_7, r198_8, r198_11, r198_14, r198_15, r198_18, r198_19, r198_20, r198_23, r198_26, r198_27, r198_30, r198_31, r198_34, r198_35, r198_36, r198_39, r198_40, r198_43, r198_44, r198_46, r198_47, r198_51, r198_53, r198_56, r198_59, r198_61, r198_63, r198_64, r198_67, r198_70, r198_72, r198_74, r198_75, r198_76, r198_79, r198_81, r198_83, r198_84, r198_87, r198_89, r198_91, r198_92, r198_95, r198_98, r198_100, r198_103, r198_104, r198_107, r198_108, r198_110, r198_112, r198_115, r198_118, r198_119, r198_122, r198_124, r198_125, r198_128, r198_131, r198_134, r198_137, w1']
    exact this
  · have hk3 : (E.1 1).toNat < 3 := by omega
    obtain ⟨PE, fc, c1, c2, c3, c4, c5, c6⟩ := id hi'.S
    have ex : zg_aq (zQA 6 3 zS3) (E.1 1) = some (.ref (12 + 3 * (E.1 1).toNat)) := zS3_at (by omega)
    have er : zDn Ks Rs E s0 e0 = (List.range' 0 (zks Ks E).length).filter (zfh Ks Rs E s0 e0) := by
      unfold zDn
      rw [List.range_eq_range']
    rw [er] at hb kk
    have xl := l198 (Q := Q) hi' he hE hEc (by omega) hU28 hUe (s0 := s0) (e0 := e0) (by omega) (zks Ks E).length 0 G' _ (by omega) zGk.refl q1 hti.1 (by omega) (fun G2 g2 k2 => kk G2 (q2.trans g2) k2) z_um z_um
    have xl : z_Ev 198 49 [.ref 0, .ref a, zl s0, z_um, zl e0, z_um, .ref (12 + 3 * (E.1 1).toNat), zi 0, z_um, z_um] [] (ch h G') Q := xl
    simp (disch := first | omega | assumption | exact zq_r _ | exact zn_0 | exact zo_i _ | exact zo_r _ | exact zq_k _ | exact zq_n | exact zn_1 _ | exact zn_2 _ _ | exact zn_3 _ _ _ | exact zn_4 _ _ _ _ | exact zn_5 _ _ _ _ _ | exact zc_i _ | exact zc_r _ | exact zo_l _ | exact zo_k _ | exact zo_n | exact zc_rk _ | (rw [zx_id (by omega)]; omega) | (rw [zw_id (by omega)]; omega) | (apply z_ok_v; assumption) | (simp only [z_new_1, z_pu_1, mh_1]; omega)) only [z_EvO_some, z_EvG_t, z_Bk_n, z_Bk_s, z_brT, z_brF, z_br_pos, z_br_neg, not_true_eq_false, not_false_eq_true, Bool.true_eq_false, Bool.false_eq_true, Bool.not_eq_false, Bool.not_eq_true, eq_self, z_kl_i, z_kl_l, z_kl_r, z_kl_k, z_kl_n, z_kl_u, z_kl_v, zi_f, zl_f, z_put_r, z_nul_n, z_nul_r, zcmp_lt, zcmp_le, zcmp_ge, zcmp_gt, zcmp_eq, zw_id, zx_id, Nat.reduceAdd, z_tf_i, z_tf_l, z_tf_z, zl_zx, zi_zw, z_gf0, z_gf1, z_gf2, z_gf3, z_gf4, z_gf5, z_gf6, z_gf7, z_pf0, z_pf1, z_pf2, z_pf3, z_pf4, z_pf5, z_pf6, z_pf7, z_ob1, zb_0, zb_1, zb_tf, cat_o, cat_k, ch_1, cgf0_0, cgf0_1, cgf0_2, cgf0_3, cpf0_3, cgf0_4, cgf0_5, cgf0_6, cgf0_7, cpf0_7, cob_0, cat_0, cpu_0, cgf5_0, cgf5_1, cpf5_1, cob_5, cat_5, cpu_5, cat_6, cpu_6, cgf7_0, cgf7_1, cpf7_1, cgf7_2, cpf7_2, cgf7_3, cpf7_3, cgf7_4, cgf7_5, cgf7_6, cpf7_6, cgf7_7, cpf7_7, cob_7, cat_7, cpu_7, cat_8, cpu_8, cat_9, cpu_9, cat_10, cpu_10, cat_11, cpu_11, zg_ai_A, zg_al_A, zg_si_A, zg_sl_A, zg_ab_b, zg_sb_b, z_len_A, z_len_L, r198_0, r198_1, r198_4, r198_5, r198_6, r198_7, r198_8, r198_11, r198_14, r198_15, r198_18, r198_19, r198_20, r198_23, r198_26, r198_27, r198_30, r198_31, r198_34, r198_35, r198_36, r198_39, r198_40, r198_43, r198_44, r198_46, r198_47, r198_51, r198_53, r198_56, r198_59, r198_61, r198_63, r198_64, r198_67, r198_70, r198_72, r198_74, r198_75, r198_76, r198_79, r198_81, r198_83, r198_84, r198_87, r198_89, r198_91, r198_92, r198_95, r198_98, r198_100, r198_103, r198_104, r198_107, r198_108, r198_110, r198_112, r198_115, r198_118, r198_119, r198_122, r198_124, r198_125, r198_128, r198_131, r198_134, r198_137, w1', c2, ex]
    exact xl
end ZCe
