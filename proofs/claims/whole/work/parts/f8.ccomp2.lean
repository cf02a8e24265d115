/-! compiled: the class, whole -/
/-- what is compiled -/
def zcmp_ (S : zStt) : zNs := (zPl S.2.1 S.2.2 S.1 (-2147483648)).foldl znote ([], [], -1)
def zimg (S : zStt) : List zTy × List (Int × Int) := ((zcmp_ S).1, (zcmp_ S).2.1)
/-- is there nothing to compile -/
abbrev znoc (Es : List zEr) : Prop := Es.length = 0 ∨ (Es.getD (Es.length - 1) zE0).1 3 ≠ 0
/-- sets lie apart -/
def zSp (S : zStt) : Prop := ∀ k, k < 3 → zKsp (S.2.1 k)
theorem zUe_len {Rs : Nat → List zRu} {E : zEr} (hE : zEok E) (h6 : ∀ k, k < 3 → (Rs k).length ≤ 6) : (zUe Rs E).length ≤ 7 := by
  unfold zUe zrs
  rw [List.length_cons, List.length_map]
  split
  · simp
  · have := h6 (E.1 1).toNat (by have := hE.2.1; omega)
    omega
theorem zU_len {Rs : Nat → List zRu} (h6 : ∀ k, k < 3 → (Rs k).length ≤ 6) : ∀ {Es : List zEr}, (∀ E ∈ Es, zEok E) → (Es.flatMap (zUe Rs)).length ≤ 7 * Es.length := by
  intro Es
  induction Es with
  | nil => intro _; simp
  | cons E r ih =>
    intro h
    have h1 := zUe_len (h E List.mem_cons_self) h6
    have h2 := ih (fun E' h' => h E' (List.mem_cons_of_mem _ h'))
    rw [List.flatMap_cons, List.length_append, List.length_cons]
    omega
def zCs (σ : zNs) : Prop := ∀ c ∈ σ.2.1, 0 ≤ c.2 ∧ c.2 < σ.1.length ∧ -2147483648 ≤ c.1 ∧ c.1 ≤ 2147483647
theorem znts_len {ts : List zTy} {x : zTy} : ts.length ≤ (znts ts x).length ∧ zidx x ts < (znts ts x).length := by
  unfold znts
  have := zidx_le x ts
  split
  · omega
  · rw [List.length_append]
    have : [x].length = 1 := rfl
    omega
theorem znote_cs {σ : zNs} {p : Int × zTy} (h : zCs σ) (hp : -2147483648 ≤ p.1 ∧ p.1 ≤ 2147483647) : zCs (znote σ p) ∧ 1 ≤ (znote σ p).1.length := by
  have hl := znts_len (ts := σ.1) (x := p.2)
  have old : ∀ c ∈ σ.2.1, 0 ≤ c.2 ∧ c.2 < (znts σ.1 p.2).length ∧ -2147483648 ≤ c.1 ∧ c.1 ≤ 2147483647 := fun c hc => by
    have := h c hc
    omega
  refine ⟨?_, by show 1 ≤ (znts σ.1 p.2).length; omega⟩
  show ∀ c ∈ (if 0 ≤ σ.2.2 ∧ (zidx p.2 σ.1 : Int) ≠ σ.2.2 then σ.2.1 ++ [(p.1, (zidx p.2 σ.1 : Int))] else σ.2.1), _
  intro c hc
  show 0 ≤ c.2 ∧ c.2 < ((znts σ.1 p.2).length : Int) ∧ _
  split at hc
  · rcases List.mem_append.mp hc with hc | hc
    · exact old c hc
    · rw [List.mem_singleton.mp hc]
      exact ⟨by show (0 : Int) ≤ (zidx p.2 σ.1 : Int); omega, by show (zidx p.2 σ.1 : Int) < _; omega, hp⟩
  · exact old c hc
theorem zfold_cs : ∀ {l : List (Int × zTy)} {σ : zNs}, zCs σ → (∀ p ∈ l, -2147483648 ≤ p.1 ∧ p.1 ≤ 2147483647) → zCs (l.foldl znote σ) ∧ (l ≠ [] → 1 ≤ (l.foldl znote σ).1.length) := by
  intro l
  induction l with
  | nil => intro σ h _; exact ⟨h, fun e => absurd rfl e⟩
  | cons p l ih =>
    intro σ h hp
    have h1 := znote_cs h (hp p List.mem_cons_self)
    have h2 := ih h1.1 (fun q hq => hp q (List.mem_cons_of_mem _ hq))
    rw [List.foldl_cons]
    refine ⟨h2.1, fun _ => ?_⟩
    cases l with
    | nil => exact h1.2
    | cons q l => exact h2.2 (by simp)
section ZCw
variable {s : Nat} {h : zH} {Q : zO → zH → Prop} {G : Nat → Nat → Int} {S : zStt}
/-- all that is noted lies in range -/
theorem zDl_rng {Es : List zEr} {Ks : Nat → List Int} {Rs : Nat → List zRu} (hok : zOk Es Ks Rs) : ∀ d ∈ zDl Ks Rs Es (-2147483648), -2147483648 ≤ d ∧ d ≤ 2147483647 := by
  intro d hd
  refine ⟨zDl_ge hd, ?_⟩
  rcases zDl_c (Es := Es) (pre := []) rfl d hd with h | ⟨j, hj, h⟩ | ⟨j, i, hj, hi, h⟩
  · omega
  · have := zend_r (hok.E (i := j) (by omega)) hok.2
    omega
  · have hE := hok.E hj
    by_cases h1 : (Es.getD j zE0).1 1 < 0
    · have : zks Ks (Es.getD j zE0) = [] := if_pos h1
      rw [this] at hi
      exact absurd hi (Nat.not_lt_zero _)
    · have e1 : zks Ks (Es.getD j zE0) = Ks ((Es.getD j zE0).1 1).toNat := if_neg h1
      have e2 : zrs Rs (Es.getD j zE0) = Rs ((Es.getD j zE0).1 1).toNat := if_neg h1
      rw [e1] at hi
      have := zfa_q (off := (Es.getD j zE0).1 0) (hok.2 _ (by have := hE.2.1; omega)) hi hE.1
      unfold zat at h
      rw [e1, e2] at h
      omega
theorem zcmp_f (hok : zOk S.1 S.2.1 S.2.2) (hsp : zSp S) (h6 : ∀ k, k < 3 → (S.2.2 k).length ≤ 6) (h4 : S.1.length ≤ 4) (hn : 1 ≤ S.1.length) : (zPl S.2.1 S.2.2 S.1 (-2147483648)).length < 512 ∧ zCs (zcmp_ S) ∧ 1 ≤ (zcmp_ S).1.length ∧ (∀ d ∈ zDl S.2.1 S.2.2 S.1 (-2147483648), -2147483648 ≤ d ∧ d ≤ 2147483647) := by
  have hc := zDl_cnt (Ks := S.2.1) (Rs := S.2.2) (fun k hk => ⟨hok.2 k hk, hsp k hk, h6 k hk⟩) (r := S.1) (s := -2147483648) hok.1
  have hr := zDl_rng hok
  have eP := zPl_D (Ks := S.2.1) (Rs := S.2.2) (Es := S.1) (r := S.1) (pre := []) (s := -2147483648) rfl (fun j hj => absurd hj (Nat.not_lt_zero _))
  have hf := zfold_cs (l := zPl S.2.1 S.2.2 S.1 (-2147483648)) (σ := ([], [], -1)) (fun c hc => by cases hc) (fun p hp => by
    rw [eP] at hp
    obtain ⟨d, hd, rfl⟩ := List.mem_map.mp hp
    exact hr d hd)
  refine ⟨?_, hf.1, hf.2 ?_, hr⟩
  · rw [zPl_len]
    omega
  · rw [eP]
    obtain ⟨q, q1, -⟩ := zDl_q (Ks := S.2.1) (Rs := S.2.2) (Es := S.1) (r := S.1) (pre := []) (s := -2147483648) rfl (fun j hj => absurd hj (Nat.not_lt_zero _)) (by intro e; rw [e] at hn; simp at hn) (-2147483648) (by omega) (by omega)
    intro e
    have := List.map_eq_nil_iff.mp e
    rw [this] at q1
    cases q1
theorem t209n (hi : zCI s h G S.1 S.2.1 S.2.2) (hn : znoc S.1) : z_Cl 209 [.ref 0] (ch h G) Q = Q (.inr h.1) (z_new (ch h G) 6 (.inr (12, []))) := by
  obtain ⟨hF, hLk, h63, ⟨PE, d1, d2, d3, d4, d5⟩, hok, hoc, hG⟩ := id hi
  by_cases h0 : S.1.length = 0
  · have hG0 : G 0 3 = 0 := by rw [hG, h0]; rfl
    simp (disch := first | omega | assumption | exact zq_r _ | exact zn_0 | exact zo_i _ | exact zo_r _ | exact zq_k _ | exact zq_n | exact zn_1 _ | exact zn_2 _ _ | exact zn_3 _ _ _ | exact zn_4 _ _ _ _ | exact zn_5 _ _ _ _ _ | exact zc_i _ | exact zc_r _ | exact zo_l _ | exact zo_k _ | exact zo_n | exact zc_rk _ | (rw [zx_id (by omega)]; omega) | (rw [zw_id (by omega)]; omega) | (apply z_ok_v; assumption) | (simp only [z_new_1, z_pu_1, mh_1]; omega)) only [z_EvO_some, z_EvG_t, z_Bk_n, z_Bk_s, z_brT, z_brF, z_br_pos, z_br_neg, not_true_eq_false, not_false_eq_true, Bool.true_eq_false, Bool.false_eq_true, Bool.not_eq_false, Bool.not_eq_true, eq_self, z_kl_i, z_kl_l, z_kl_r, z_kl_k, z_kl_n, z_kl_u, z_kl_v, zi_f, zl_f, z_put_r, z_nul_n, z_nul_r, zcmp_lt, zcmp_le, zcmp_ge, zcmp_gt, zcmp_eq, zw_id, zx_id, Nat.reduceAdd, z_tf_i, z_tf_l, z_tf_z, zl_zx, zi_zw, z_gf0, z_gf1, z_gf2, z_gf3, z_gf4, z_gf5, z_gf6, z_gf7, z_pf0, z_pf1, z_pf2, z_pf3, z_pf4, z_pf5, z_pf6, z_pf7, z_ob1, zb_0, zb_1, zb_tf, cat_o, cat_k, ch_1, cgf0_0, cgf0_1, cgf0_2, cgf0_3, cpf0_3, cgf0_4, cgf0_5, cgf0_6, cgf0_7, cpf0_7, cob_0, cat_0, cpu_0, cgf5_0, cgf5_1, cpf5_1, cob_5, cat_5, cpu_5, cat_6, cpu_6, cgf7_0, cgf7_1, cpf7_1, cgf7_2, cpf7_2, cgf7_3, cpf7_3, cgf7_4, cgf7_5, cgf7_6, cpf7_6, cgf7_7, cpf7_7, cob_7, cat_7, cpu_7, cat_8, cpu_8, cat_9, cpu_9, cat_10, cpu_10, cat_11, cpu_11, zg_ai_A, zg_al_A, zg_si_A, zg_sl_A, zg_ab_b, zg_sb_b, z_len_A, z_len_L, e209, r209_0, r209_1, r209_4, r209_7, r209_8, r209_11, r209_12, r209_15, r209_16, r209_17, r209_18, r209_21, r209_24, r209_27, r209_32, r209_33, r209_36, r209_39, r209_42, r209_43, r209_44, r209_46, r209_47, r209_50, r209_53, r209_54, r209_55, r209_58, r209_59, r209_60, r209_63, r209_66, r209_69, r209_70, r209_71, r209_74, r209_75, r209_76, r209_79, r209_81, r209_83, r209_84, r209_85, r209_88, r209_89, r209_90, r209_93, r209_94, r209_95, r209_96, r209_98, r209_101, r209_103, r209_104, r209_107, r209_110, r209_111, r209_114, r209_117, r209_118, r209_121, r209_124, hG0]
  · have hu : (S.1.getD (S.1.length - 1) zE0).1 3 ≠ 0 := by
      rcases hn with hn | hn
      · exact absurd hn h0
      · exact hn
    have hu1 : (S.1.getD (S.1.length - 1) zE0).1 3 = 1 := by
      have := (hok.E (show S.1.length - 1 < S.1.length by omega)).2.2.2.1
      omega
    obtain ⟨e, e1, e2⟩ := d4 (S.1.length - 1) (by omega)
    obtain ⟨c, p, sec, ⟨z1, -⟩, a1, -⟩ := id e2
    rw [hu1] at a1
    have o4 : z_at (ch h G) (.ref 4) = zQA 7 4 PE := by rw [cat_o (by decide)]; exact d2
    have oe : z_at (ch h G) (.ref e) = _ := (cat_o (by have := z1.1; omega)).trans a1
    have ex : zg_aq (zQA 7 4 PE) ((S.1.length : Int) - 1) = some (.ref e) := by
      show z_aq _ _ = _
      rw [z_aq_A (by omega) (by omega) (by omega), show ((S.1.length : Int) - 1).toNat = S.1.length - 1 by omega, e1]
      rfl
    simp (disch := first | omega | assumption | exact zq_r _ | exact zn_0 | exact zo_i _ | exact zo_r _ | exact zq_k _ | exact zq_n | exact zn_1 _ | exact zn_2 _ _ | exact zn_3 _ _ _ | exact zn_4 _ _ _ _ | exact zn_5 _ _ _ _ _ | exact zc_i _ | exact zc_r _ | exact zo_l _ | exact zo_k _ | exact zo_n | exact zc_rk _ | (rw [zx_id (by omega)]; omega) | (rw [zw_id (by omega)]; omega) | (apply z_ok_v; assumption) | (simp only [z_new_1, z_pu_1, mh_1]; omega)) only [z_EvO_some, z_EvG_t, z_Bk_n, z_Bk_s, z_brT, z_brF, z_br_pos, z_br_neg, not_true_eq_false, not_false_eq_true, Bool.true_eq_false, Bool.false_eq_true, Bool.not_eq_false, Bool.not_eq_true, eq_self, z_kl_i, z_kl_l, z_kl_r, z_kl_k, z_kl_n, z_kl_u, z_kl_v, zi_f, zl_f, z_put_r, z_nul_n, z_nul_r, zcmp_lt, zcmp_le, zcmp_ge, zcmp_gt, zcmp_eq, zw_id, zx_id, Nat.reduceAdd, z_tf_i, z_tf_l, z_tf_z, zl_zx, zi_zw, z_gf0, z_gf1, z_gf2, z_gf3, z_gf4, z_gf5, z_gf6, z_gf7, z_pf0, z_pf1, z_pf2, z_pf3, z_pf4, z_pf5, z_pf6, z_pf7, z_ob1, zb_0, zb_1, zb_tf, cat_o, cat_k, ch_1, cgf0_0, cgf0_1, cgf0_2, cgf0_3, cpf0_3, cgf0_4, cgf0_5, cgf0_6, cgf0_7, cpf0_7, cob_0, cat_0, cpu_0, cgf5_0, cgf5_1, cpf5_1, cob_5, cat_5, cpu_5, cat_6, cpu_6, cgf7_0, cgf7_1, cpf7_1, cgf7_2, cpf7_2, cgf7_3, cpf7_3, cgf7_4, cgf7_5, cgf7_6, cpf7_6, cgf7_7, cpf7_7, cob_7, cat_7, cpu_7, cat_8, cpu_8, cat_9, cpu_9, cat_10, cpu_10, cat_11, cpu_11, zg_ai_A, zg_al_A, zg_si_A, zg_sl_A, zg_ab_b, zg_sb_b, z_len_A, z_len_L, e209, r209_0, r209_1, r209_4, r209_7, r209_8, r209_11, r209_12, r209_15, r209_16, r209_17, r209_18, r209_21, r209_24, r209_27, r209_32, r209_33, r209_36, r209_39, r209_42, r209_43, r209_44, r209_46, r209_47, r209_50, r209_53, r209_54, r209_55, r209_58, r209_59, r209_60, r209_63, r209_66, r209_69, r209_70, r209_71, r209_74, r209_75, r209_76, r209_79, r209_81, r209_83, r209_84, r209_85, r209_88, r209_89, r209_90, r209_93, r209_94, r209_95, r209_96, r209_98, r209_101, r209_103, r209_104, r209_107, r209_110, r209_111, r209_114, r209_117, r209_118, r209_121, r209_124, hG, o4, ex, oe]
theorem t209 (hi : zCI s h G S.1 S.2.1 S.2.2) (hsp : zSp S) (hn : ¬ znoc S.1)
    (kk : ∀ G', (∀ a : Nat, ¬ (5 ≤ a ∧ a ≤ 10) → G' a = G a) → zIc G' (some (zimg S)) → Q (.inl (some (zi (zimg S).2.length))) (ch h G')) : z_Cl 209 [.ref 0] (ch h G) Q := by
  obtain ⟨hF, hLk, h63, ⟨PE, d1, d2, d3, d4, d5⟩, hok, hoc, hG⟩ := id hi
  unfold znoc at hn
  have h0 : S.1.length ≠ 0 := fun e => hn (Or.inl e)
  have hu : (S.1.getD (S.1.length - 1) zE0).1 3 = 0 := Classical.byContradiction (fun e => hn (Or.inr e))
  have h6 : ∀ k, k < 3 → (S.2.2 k).length ≤ 6 := fun k hk => by
    obtain ⟨P, KK, c1, c2, c3, c4, -⟩ := d5 k hk
    exact c4
  obtain ⟨f1, f2, f3, f4⟩ := zcmp_f hok hsp h6 d3 (by omega)
  obtain ⟨e, e1, e2⟩ := d4 (S.1.length - 1) (by omega)
  obtain ⟨c, p, sec, ⟨z1, -⟩, a1, -⟩ := id e2
  rw [hu] at a1
  have o4 : z_at (ch h G) (.ref 4) = zQA 7 4 PE := by rw [cat_o (by decide)]; exact d2
  have oe : z_at (ch h G) (.ref e) = _ := (cat_o (by have := z1.1; omega)).trans a1
  have ex : zg_aq (zQA 7 4 PE) ((S.1.length : Int) - 1) = some (.ref e) := by
    show z_aq _ _ = _
    rw [z_aq_A (by omega) (by omega) (by omega), show ((S.1.length : Int) - 1).toNat = S.1.length - 1 by omega, e1]
    rfl
  have hUl := zU_len h6 hok.1
  let G1 := va_up G 7 (va_up (va_up (va_up (G 7) 2 0) 6 0) 7 (-1))
  have g1 : zGk G G1 := ⟨fun a ha => va_up_ne _ _ (by omega), fun j j1 j2 j3 => by
    show va_up G 7 _ 7 j = _
    rw [va_up_self, va_up_ne _ _ j3, va_up_ne _ _ j2, va_up_ne _ _ j1]⟩
  have k1 : zKI G1 ([], [], -1) := by
    refine ⟨⟨?_, ?_, ?_⟩, fun t ht => absurd ht (Nat.not_lt_zero _), fun t ht => absurd ht (Nat.not_lt_zero _), by decide, by decide, by decide, by decide⟩
    · show va_up G 7 _ 7 2 = _
      rw [va_up_self, va_up_ne _ _ (by decide), va_up_ne _ _ (by decide), va_up_self]
      rfl
    · show va_up G 7 _ 7 6 = _
      rw [va_up_self, va_up_ne _ _ (by decide), va_up_self]
      rfl
    · show va_up G 7 _ 7 7 = _
      rw [va_up_self, va_up_self]
  have lp := l209 (Q := Q) (U := S.1.flatMap (zUe S.2.2)) (hi.gk g1) (by omega) (fun E hE x hx => List.mem_flatMap.mpr ⟨E, hE, hx⟩) (fun G' σ' v1 v4 v5 q1 q2 q3 => by
    obtain ⟨⟨w1, w2, w3⟩, w4, w5, w6, w7, w8⟩ := id q2
    have hcs : ∀ j, j < σ'.2.1.length → (σ'.2.1.getD j (0, 0)).2 < σ'.1.length ∧ -2147483648 ≤ (σ'.2.1.getD j (0, 0)).1 ∧ (σ'.2.1.getD j (0, 0)).1 ≤ 2147483647 := fun j hj => by
      have hm : σ'.2.1.getD j (0, 0) ∈ σ'.2.1 := by
        rw [List.getD_eq_getElem?_getD, List.getElem?_eq_getElem hj]
        exact List.getElem_mem hj
      rw [q3] at hm ⊢
      exact (f2 _ hm).2
    have hfi := zIc_fin q2 (by rw [q3]; exact f3) hcs
    have ei : (σ'.1, σ'.2.1) = zimg S := by rw [q3]; rfl
    rw [ei] at hfi
    have := kk _ (fun a ha => by rw [va_up_ne _ _ (by omega), va_up_ne _ _ (by omega), q1.1 a ha, g1.1 a ha]) hfi
    have e2 : (zimg S).2.length = σ'.2.1.length := by rw [← ei]
    rw [e2] at this
    have c7 : va_up (va_up G' 8 (zrw G' σ'.2.1.length σ'.1.length)) 7 (va_up (G' 7) 1 (3 + 5 * σ'.2.1.length + 13 * σ'.1.length)) 7 2 = σ'.2.1.length := by rw [va_up_self, va_up_ne _ _ (by decide)]; exact w1
    simp (disch := first | omega | assumption | exact zq_r _ | exact zn_0 | exact zo_i _ | exact zo_r _ | exact zq_k _ | exact zq_n | exact zn_1 _ | exact zn_2 _ _ | exact zn_3 _ _ _ | exact zn_4 _ _ _ _ | exact zn_5 _ _ _ _ _ | exact zc_i _ | exact zc_r _ | exact zo_l _ | exact zo_k _ | exact zo_n | exact zc_rk _ | (rw [zx_id (by omega)]; omega) | (rw [zw_id (by omega)]; omega) | (apply z_ok_v; assumption) | (simp only [z_new_1, z_pu_1, mh_1]; omega)) only [z_EvO_some, z_EvG_t, z_Bk_n, z_Bk_s, z_brT, z_brF, z_br_pos, z_br_neg, not_true_eq_false, not_false_eq_true, Bool.true_eq_false, Bool.false_eq_true, Bool.not_eq_false, Bool.not_eq_true, eq_self, z_kl_i, z_kl_l, z_kl_r, z_kl_k, z_kl_n, z_kl_u, z_kl_v, zi_f, zl_f, z_put_r, z_nul_n, z_nul_r, zcmp_lt, zcmp_le, zcmp_ge, zcmp_gt, zcmp_eq, zw_id, zx_id, Nat.reduceAdd, z_tf_i, z_tf_l, z_tf_z, zl_zx, zi_zw, z_gf0, z_gf1, z_gf2, z_gf3, z_gf4, z_gf5, z_gf6, z_gf7, z_pf0, z_pf1, z_pf2, z_pf3, z_pf4, z_pf5, z_pf6, z_pf7, z_ob1, zb_0, zb_1, zb_tf, cat_o, cat_k, ch_1, cgf0_0, cgf0_1, cgf0_2, cgf0_3, cpf0_3, cgf0_4, cgf0_5, cgf0_6, cgf0_7, cpf0_7, cob_0, cat_0, cpu_0, cgf5_0, cgf5_1, cpf5_1, cob_5, cat_5, cpu_5, cat_6, cpu_6, cgf7_0, cgf7_1, cpf7_1, cgf7_2, cpf7_2, cgf7_3, cpf7_3, cgf7_4, cgf7_5, cgf7_6, cpf7_6, cgf7_7, cpf7_7, cob_7, cat_7, cpu_7, cat_8, cpu_8, cat_9, cpu_9, cat_10, cpu_10, cat_11, cpu_11, zg_ai_A, zg_al_A, zg_si_A, zg_sl_A, zg_ab_b, zg_sb_b, z_len_A, z_len_L, r209_0, r209_1, r209_4, r209_7, r209_8, r209_11, r209_12, r209_15, r209_16, r209_17, r209_18, r209_21, r209_24, r209_27, r209_32, r209_33, r209_36, r209_39, r209_42, r209_43, r209_44, r209_46, r209_47, r209_50, r209_53, r209_54, r209_55, r209_58, r209_59, r209_60, r209_63, r209_66, r209_69, r209_70, r209_71, r209_74, r209_75, r209_76, r209_79, r209_81, r209_83, r209_84, r209_85, r209_88, r209_89, r209_90, r209_93, r209_94, r209_95, r209_96, r209_98, r209_101, r209_103, r209_104, r209_107, r209_110, r209_111, r209_114, r209_117, r209_118, r209_121, r209_124, t117 w1 w2 w7 w6, c7]
    exact this) S.1 [] (-2147483648) G1 ([], [], -1) rfl zGk.refl k1 ⟨List.nodup_nil, fun x hx => by cases hx⟩ (by simpa using f1) (by omega) (fun _ => by omega) rfl
  have lp : z_Ev 209 45 [.ref 0, zl (-2147483648), z_um, zi 0, z_um, z_um] [] (ch h G1) Q := lp z_um z_um
  simp (disch := first | omega | assumption | exact zq_r _ | exact zn_0 | exact zo_i _ | exact zo_r _ | exact zq_k _ | exact zq_n | exact zn_1 _ | exact zn_2 _ _ | exact zn_3 _ _ _ | exact zn_4 _ _ _ _ | exact zn_5 _ _ _ _ _ | exact zc_i _ | exact zc_r _ | exact zo_l _ | exact zo_k _ | exact zo_n | exact zc_rk _ | (rw [zx_id (by omega)]; omega) | (rw [zw_id (by omega)]; omega) | (apply z_ok_v; assumption) | (simp only [z_new_1, z_pu_1, mh_1]; omega)) only [z_EvO_some, z_EvG_t, z_Bk_n, z_Bk_s, z_brT, z_brF, z_br_pos, z_br_neg, not_true_eq_false, not_false_eq_true, Bool.true_eq_false, Bool.false_eq_true, Bool.not_eq_false, Bool.not_eq_true, eq_self, z_kl_i, z_kl_l, z_kl_r, z_kl_k, z_kl_n, z_kl_u, z_kl_v, zi_f, zl_f, z_put_r, z_nul_n, z_nul_r, zcmp_lt, zcmp_le, zcmp_ge, zcmp_gt, zcmp_eq, zw_id, zx_id, Nat.reduceAdd, z_tf_i, z_tf_l, z_tf_z, zl_zx, zi_zw, z_gf0, z_gf1, z_gf2, z_gf3, z_gf4, z_gf5, z_gf6, z_gf7, z_pf0, z_pf1, z_pf2, z_pf3, z_pf4, z_pf5, z_pf6, z_pf7, z_ob1, zb_0, zb_1, zb_tf, cat_o, cat_k, ch_1, cgf0_0, cgf0_1, cgf0_2, cgf0_3, cpf0_3, cgf0_4, cgf0_5, cgf0_6, cgf0_7, cpf0_7, cob_0, cat_0, cpu_0, cgf5_0, cgf5_1, cpf5_1, cob_5, cat_5, cpu_5, cat_6, cpu_6, cgf7_0, cgf7_1, cpf7_1, cgf7_2, cpf7_2, cgf7_3, cpf7_3, cgf7_4, cgf7_5, cgf7_6, cpf7_6, cgf7_7, cpf7_7, cob_7, cat_7, cpu_7, cat_8, cpu_8, cat_9, cpu_9, cat_10, cpu_10, cat_11, cpu_11, zg_ai_A, zg_al_A, zg_si_A, zg_sl_A, zg_ab_b, zg_sb_b, z_len_A, z_len_L, e209, r209_0, r209_1, r209_4, r209_7, r209_8, r209_11, r209_12, r209_15, r209_16, r209_17, r209_18, r209_21, r209_24, r209_27, r209_32, r209_33, r209_36, r209_39, r209_42, r209_43, r209_44, r209_46, r209_47, r209_50, r209_53, r209_54, r209_55, r209_58, r209_59, r209_60, r209_63, r209_66, r209_69, r209_70, r209_71, r209_74, r209_75, r209_76, r209_79, r209_81, r209_83, r209_84, r209_85, r209_88, r209_89, r209_90, r209_93, r209_94, r209_95, r209_96, r209_98, r209_101, r209_103, r209_104, r209_107, r209_110, r209_111, r209_114, r209_117, r209_118, r209_121, r209_124, hG, o4, ex, oe, t18]
  exact lp
end ZCw
