/-! what is found: the class, whole -/
section ZFd2
variable {s : Nat} {h : zH} {G : Nat → Nat → Int} {Es : List zEr} {Ks : Nat → List Int} {Rs : Nat → List zRu} {Q : zO → zH → Prop} {t lo o n : Int} {l : List Int} {y : Nat → Int}
theorem zCI.cf (hi : zCI s h G Es Ks Rs) (n : Int) (y : Nat → Int) : zCI s h (va_up (va_up G 0 (va_up (G 0) 7 n)) 11 y) Es Ks Rs := by
  obtain ⟨a1, a2, a3, a4, a5, a6, a7⟩ := hi
  refine ⟨a1, a2, a3, a4, a5, a6, ?_⟩
  rw [va_up_ne _ _ (by decide), va_up_self, va_up_ne _ _ (by decide)]
  exact a7
theorem ztr_ok {lo o : Int} {l : List Int} (hlo : -1000000000000000 ≤ lo ∧ lo ≤ 1000000000000000) (ho : -200000 ≤ o ∧ o ≤ 200000) : (ztr Ks Rs Es lo l o).length ≤ l.length + 1 := by
  unfold ztr
  split
  · exact zinu_len _ _
  · omega
theorem p166 (hi : zCI s h G Es Ks Rs) (hn1 : 1 ≤ Es.length) (hl : zFd l y) (hn : l.length ≤ 27) (hlo : -1000000000000000 ≤ lo ∧ lo ≤ 1000000000000000) (ho : -200000 ≤ o ∧ o ≤ 200000)
    (kk : ∀ y', zFd (ztr Ks Rs Es lo l o) y' → Q (.inl none) (cf h G (ztr Ks Rs Es lo l o).length y')) : z_Cl 166 [.ref 0, zl lo, zi o] (cf h G l.length y) Q := by
  have hi' := hi.cf l.length y
  have hok := hi.2.2.2.2.1
  have hr := (zoff_r hok hn1 (lo - o)).2
  have e148 := fun Q' : zO → zH → Prop => t148 (h := cf h G l.length y) (Q := Q') hi'.S hok hn1 (t := lo - o) (by omega)
  have ob : z_isob (z_at (cf h G l.length y) (.ref 0)) 0 = true := rfl
  simp (disch := first | omega | assumption | exact zq_r _ | exact zn_0 | exact zo_i _ | exact zo_r _ | exact zq_k _ | exact zq_n | exact zn_1 _ | exact zn_2 _ _ | exact zn_3 _ _ _ | exact zn_4 _ _ _ _ | exact zn_5 _ _ _ _ _ | exact zc_i _ | exact zc_r _ | exact zo_l _ | exact zo_k _ | exact zo_n | exact zc_rk _ | (rw [zx_id (by omega)]; omega) | (rw [zw_id (by omega)]; omega) | (apply z_ok_v; assumption) | (simp only [z_new_1, z_pu_1, mh_1]; omega)) only [z_EvO_some, z_EvG_t, z_Bk_n, z_Bk_s, z_brT, z_brF, z_br_pos, z_br_neg, not_true_eq_false, not_false_eq_true, Bool.true_eq_false, Bool.false_eq_true, Bool.not_eq_false, Bool.not_eq_true, eq_self, z_kl_i, z_kl_l, z_kl_r, z_kl_k, z_kl_n, z_kl_u, z_kl_v, zi_f, zl_f, z_put_r, z_nul_n, z_nul_r, zcmp_lt, zcmp_le, zcmp_ge, zcmp_gt, zcmp_eq, zw_id, zx_id, Nat.reduceAdd, z_tf_i, z_tf_l, z_tf_z, zl_zx, zi_zw, z_gf0, z_gf1, z_gf2, z_gf3, z_gf4, z_gf5, z_gf6, z_gf7, z_pf0, z_pf1, z_pf2, z_pf3, z_pf4, z_pf5, z_pf6, z_pf7, z_ob1, zb_0, zb_1, zb_tf, e166, r166_0, r166_1, r166_2, r166_3, r166_4, r166_6, r166_7, r166_9, r166_12, r166_13, r166_16, r166_17, r166_19, r166_22, ob, e148]
  by_cases hc : zoff Ks Rs Es (lo - o) = o
  · have e : ztr Ks Rs Es lo l o = zinu (lo - o) l := by unfold ztr; rw [if_pos hc]
    rw [e] at kk
    simp (disch := first | omega | assumption | exact zq_r _ | exact zn_0 | exact zo_i _ | exact zo_r _ | exact zq_k _ | exact zq_n | exact zn_1 _ | exact zn_2 _ _ | exact zn_3 _ _ _ | exact zn_4 _ _ _ _ | exact zn_5 _ _ _ _ _ | exact zc_i _ | exact zc_r _ | exact zo_l _ | exact zo_k _ | exact zo_n | exact zc_rk _ | (rw [zx_id (by omega)]; omega) | (rw [zw_id (by omega)]; omega) | (apply z_ok_v; assumption) | (simp only [z_new_1, z_pu_1, mh_1]; omega)) only [z_EvO_some, z_EvG_t, z_Bk_n, z_Bk_s, z_brT, z_brF, z_br_pos, z_br_neg, not_true_eq_false, not_false_eq_true, Bool.true_eq_false, Bool.false_eq_true, Bool.not_eq_false, Bool.not_eq_true, eq_self, z_kl_i, z_kl_l, z_kl_r, z_kl_k, z_kl_n, z_kl_u, z_kl_v, zi_f, zl_f, z_put_r, z_nul_n, z_nul_r, zcmp_lt, zcmp_le, zcmp_ge, zcmp_gt, zcmp_eq, zw_id, zx_id, Nat.reduceAdd, z_tf_i, z_tf_l, z_tf_z, zl_zx, zi_zw, z_gf0, z_gf1, z_gf2, z_gf3, z_gf4, z_gf5, z_gf6, z_gf7, z_pf0, z_pf1, z_pf2, z_pf3, z_pf4, z_pf5, z_pf6, z_pf7, z_ob1, zb_0, zb_1, zb_tf, r166_0, r166_1, r166_2, r166_3, r166_4, r166_6, r166_7, r166_9, r166_12, r166_13, r166_16, r166_17, r166_19, r166_22, ob]
    refine p4 hl hn (by omega) (fun y' hy' => ?_)
    simp (disch := first | omega | assumption | exact zq_r _ | exact zn_0 | exact zo_i _ | exact zo_r _ | exact zq_k _ | exact zq_n | exact zn_1 _ | exact zn_2 _ _ | exact zn_3 _ _ _ | exact zn_4 _ _ _ _ | exact zn_5 _ _ _ _ _ | exact zc_i _ | exact zc_r _ | exact zo_l _ | exact zo_k _ | exact zo_n | exact zc_rk _ | (rw [zx_id (by omega)]; omega) | (rw [zw_id (by omega)]; omega) | (apply z_ok_v; assumption) | (simp only [z_new_1, z_pu_1, mh_1]; omega)) only [z_EvO_some, z_EvG_t, z_Bk_n, z_Bk_s, z_brT, z_brF, z_br_pos, z_br_neg, not_true_eq_false, not_false_eq_true, Bool.true_eq_false, Bool.false_eq_true, Bool.not_eq_false, Bool.not_eq_true, eq_self, z_kl_i, z_kl_l, z_kl_r, z_kl_k, z_kl_n, z_kl_u, z_kl_v, zi_f, zl_f, z_put_r, z_nul_n, z_nul_r, zcmp_lt, zcmp_le, zcmp_ge, zcmp_gt, zcmp_eq, zw_id, zx_id, Nat.reduceAdd, z_tf_i, z_tf_l, z_tf_z, zl_zx, zi_zw, z_gf0, z_gf1, z_gf2, z_gf3, z_gf4, z_gf5, z_gf6, z_gf7, z_pf0, z_pf1, z_pf2, z_pf3, z_pf4, z_pf5, z_pf6, z_pf7, z_ob1, zb_0, zb_1, zb_tf, r166_0, r166_1, r166_2, r166_3, r166_4, r166_6, r166_7, r166_9, r166_12, r166_13, r166_16, r166_17, r166_19, r166_22]
    exact kk y' hy'
  · have e : ztr Ks Rs Es lo l o = l := by unfold ztr; rw [if_neg hc]
    rw [e] at kk
    simp (disch := first | omega | assumption | exact zq_r _ | exact zn_0 | exact zo_i _ | exact zo_r _ | exact zq_k _ | exact zq_n | exact zn_1 _ | exact zn_2 _ _ | exact zn_3 _ _ _ | exact zn_4 _ _ _ _ | exact zn_5 _ _ _ _ _ | exact zc_i _ | exact zc_r _ | exact zo_l _ | exact zo_k _ | exact zo_n | exact zc_rk _ | (rw [zx_id (by omega)]; omega) | (rw [zw_id (by omega)]; omega) | (apply z_ok_v; assumption) | (simp only [z_new_1, z_pu_1, mh_1]; omega)) only [z_EvO_some, z_EvG_t, z_Bk_n, z_Bk_s, z_brT, z_brF, z_br_pos, z_br_neg, not_true_eq_false, not_false_eq_true, Bool.true_eq_false, Bool.false_eq_true, Bool.not_eq_false, Bool.not_eq_true, eq_self, z_kl_i, z_kl_l, z_kl_r, z_kl_k, z_kl_n, z_kl_u, z_kl_v, zi_f, zl_f, z_put_r, z_nul_n, z_nul_r, zcmp_lt, zcmp_le, zcmp_ge, zcmp_gt, zcmp_eq, zw_id, zx_id, Nat.reduceAdd, z_tf_i, z_tf_l, z_tf_z, zl_zx, zi_zw, z_gf0, z_gf1, z_gf2, z_gf3, z_gf4, z_gf5, z_gf6, z_gf7, z_pf0, z_pf1, z_pf2, z_pf3, z_pf4, z_pf5, z_pf6, z_pf7, z_ob1, zb_0, zb_1, zb_tf, r166_0, r166_1, r166_2, r166_3, r166_4, r166_6, r166_7, r166_9, r166_12, r166_13, r166_16, r166_17, r166_19, r166_22]
    exact kk y hl
theorem foldl_take {α β : Type} (F : β → α → β) (b : β) (L : List α) (d : α) (i : Nat) (hi : i < L.length) : (L.take (i + 1)).foldl F b = F ((L.take i).foldl F b) (L.getD i d) := by
  rw [List.take_add_one, List.getElem?_eq_getElem hi, List.foldl_append, List.getD_eq_getElem?_getD, List.getElem?_eq_getElem hi]
  rfl
theorem ztr_fl {lo : Int} : ∀ (os l : List Int), (os.foldl (ztr Ks Rs Es lo) l).length ≤ l.length + os.length := by
  intro os
  induction os with
  | nil => intro l; exact Nat.le_refl _
  | cons o os ih =>
    intro l
    have h1 := ih (ztr Ks Rs Es lo l o)
    have h2 : (ztr Ks Rs Es lo l o).length ≤ l.length + 1 := by
      unfold ztr
      split
      · exact zinu_len _ _
      · omega
    rw [List.foldl_cons, List.length_cons]
    omega
theorem zofs_len {E : zEr} (hE : zEok E) (hr : ∀ k, k < 3 → (Rs k).length ≤ 6) : (zofs Rs E).length ≤ 7 := by
  unfold zofs
  have := hE.2.1
  split
  · simp
  · have := hr (E.1 1).toNat (by omega)
    simp
    omega
theorem zofs_r {E : zEr} (hE : zEok E) (hk : ∀ k, k < 3 → zKok (Ks k) (Rs k)) : ∀ o ∈ zofs Rs E, -200000 ≤ o ∧ o ≤ 200000 := by
  intro o ho
  unfold zofs at ho
  have r0 := hE.1
  have rv := zsv_r hE (o := none) (fun R hR => by cases hR)
  rcases List.mem_cons.mp ho with rfl | ho
  · omega
  · split at ho
    · cases ho
    · obtain ⟨R, hR, rfl⟩ := List.mem_map.mp ho
      have := hE.2.1
      have := ((hk (E.1 1).toNat (by omega)).2.2 R hR).2.2.2.2.2.2.2.2.1
      omega
/-- found so far, era by era -/
def zfe (Ks : Nat → List Int) (Rs : Nat → List zRu) (Es : List zEr) (lo : Int) (i : Nat) : List Int := (Es.take i).foldl (fun l E => (zofs Rs E).foldl (ztr Ks Rs Es lo) l) []
def zfr (Ks : Nat → List Int) (Rs : Nat → List zRu) (Es : List zEr) (lo : Int) (i r : Nat) : List Int := ((zofs Rs (Es.getD i zE0)).take (r + 1)).foldl (ztr Ks Rs Es lo) (zfe Ks Rs Es lo i)
theorem zfe_s (i : Nat) (hi : i < Es.length) : zfe Ks Rs Es lo (i + 1) = (zofs Rs (Es.getD i zE0)).foldl (ztr Ks Rs Es lo) (zfe Ks Rs Es lo i) := foldl_take _ _ _ zE0 i hi
theorem zfe_len (hE : ∀ E ∈ Es, zEok E) (hr : ∀ k, k < 3 → (Rs k).length ≤ 6) : ∀ i : Nat, i ≤ Es.length → (zfe Ks Rs Es lo i).length ≤ 7 * i := by
  intro i
  induction i with
  | zero => intro _; exact Nat.le_refl _
  | succ i ih =>
    intro hi
    rw [zfe_s i (by omega)]
    have h1 := ih (by omega)
    have h2 := ztr_fl (Ks := Ks) (Rs := Rs) (Es := Es) (lo := lo) (zofs Rs (Es.getD i zE0)) (zfe Ks Rs Es lo i)
    have h3 := zofs_len (Rs := Rs) (E := Es.getD i zE0) (by
      rw [List.getD_eq_getElem?_getD, List.getElem?_eq_getElem (by omega)]
      exact hE _ (List.getElem_mem _)) hr
    omega
theorem zfr_len (hE : ∀ E ∈ Es, zEok E) (hr : ∀ k, k < 3 → (Rs k).length ≤ 6) {i r : Nat} (hi : i < Es.length) : (zfr Ks Rs Es lo i r).length ≤ 7 * i + (r + 1) := by
  have h1 := zfe_len (Ks := Ks) (Rs := Rs) (lo := lo) hE hr i (by omega)
  have h2 := ztr_fl (Ks := Ks) (Rs := Rs) (Es := Es) (lo := lo) ((zofs Rs (Es.getD i zE0)).take (r + 1)) (zfe Ks Rs Es lo i)
  unfold zfr
  rw [List.length_take] at h2
  omega
theorem zfr_0 (i : Nat) : zfr Ks Rs Es lo i 0 = ztr Ks Rs Es lo (zfe Ks Rs Es lo i) ((Es.getD i zE0).1 0 + zsv (Es.getD i zE0) none) := rfl
theorem zofs_getD (E : zEr) (r : Nat) (hs : ¬ E.1 1 < 0) (hr : r < (Rs (E.1 1).toNat).length) : (zofs Rs E).getD (r + 1) 0 = E.1 0 + ((Rs (E.1 1).toNat).getD r zR0).1 9 := by
  unfold zofs
  rw [if_neg hs, List.getD_cons_succ, List.getD_eq_getElem?_getD, List.getElem?_map, List.getD_eq_getElem?_getD, List.getElem?_eq_getElem hr]
  rfl
theorem zfr_s (i r : Nat) (hs : ¬ (Es.getD i zE0).1 1 < 0) (hr : r < (Rs ((Es.getD i zE0).1 1).toNat).length) : zfr Ks Rs Es lo i (r + 1) = ztr Ks Rs Es lo (zfr Ks Rs Es lo i r) ((Es.getD i zE0).1 0 + ((Rs ((Es.getD i zE0).1 1).toNat).getD r zR0).1 9) := by
  have hl : (zofs Rs (Es.getD i zE0)).length = 1 + (Rs ((Es.getD i zE0).1 1).toNat).length := by
    unfold zofs
    rw [if_neg hs]
    simp
    omega
  have := foldl_take (ztr Ks Rs Es lo) (zfe Ks Rs Es lo i) (zofs Rs (Es.getD i zE0)) 0 (r + 1) (by omega)
  unfold zfr
  rw [this]
  rw [zofs_getD _ r hs hr]
theorem zfr_e (i : Nat) (hi : i < Es.length) : zfe Ks Rs Es lo (i + 1) = zfr Ks Rs Es lo i (if (Es.getD i zE0).1 1 < 0 then 0 else (Rs ((Es.getD i zE0).1 1).toNat).length) := by
  rw [zfe_s i hi]
  unfold zfr
  congr 1
  symm
  apply List.take_of_length_le
  unfold zofs
  split <;> simp
/-- the rules of an era -/
theorem l187r (hi : zCI s h G Es Ks Rs) (hlo : -1000000000000000 ≤ lo ∧ lo ≤ 1000000000000000) {i a : Nat} (hie : i < Es.length) (he : zEk s h a (Es.getD i zE0)) {R : Int} (hR : R = if (Es.getD i zE0).1 1 < 0 then 0 else ((Rs ((Es.getD i zE0).1 1).toNat).length : Int))
    (kk : ∀ y, zFd (zfe Ks Rs Es lo (i + 1)) y → ∀ l4 l5 l6, z_Ev 187 24 [.ref 0, zl lo, z_um, zi ((i : Int) + 1), l4, l5, l6] [] (cf h G (zfe Ks Rs Es lo (i + 1)).length y) Q) :
    ∀ (m r : Nat) (y : Nat → Int), ((r + m : Nat) : Int) = R → zFd (zfr Ks Rs Es lo i r) y → z_Ev 187 82 [.ref 0, zl lo, z_um, zi i, .ref a, zi R, zi r] [] (cf h G (zfr Ks Rs Es lo i r).length y) Q := by
  obtain ⟨hF, hLk, h63, hCB, hok, hoc, hG⟩ := id hi
  have hrs : ∀ k, k < 3 → (Rs k).length ≤ 6 := fun k hk => by
    obtain ⟨PE, -, -, -, -, c5⟩ := id hCB
    obtain ⟨P, K, -, -, -, q, -⟩ := c5 k hk
    exact q
  have hEs : ∀ E ∈ Es, zEok E := hok.1
  have hE := hok.E hie
  have r1 := hE.2.1
  have r0 := hE.1
  have hR6 : 0 ≤ R ∧ R ≤ 6 := by
    rw [hR]
    split
    · omega
    · have := hrs ((Es.getD i zE0).1 1).toNat (by omega)
      omega
  intro m
  induction m with
  | zero =>
    intro r y hm hy
    have e : zfe Ks Rs Es lo (i + 1) = zfr Ks Rs Es lo i r := by
      rw [zfr_e i hie]
      congr 1
      rw [hR] at hm
      split <;> rename_i hq
      · rw [if_pos hq] at hm; omega
      · rw [if_neg hq] at hm; omega
    rw [e] at kk
    have := kk y hy (.ref a) (zi R) (zi r)
    have hm' : (r : Int) = R := by omega
    rw [k187_82]
    simp (disch := first | omega | assumption | exact zq_r _ | exact zn_0 | exact zo_i _ | exact zo_r _ | exact zq_k _ | exact zq_n | exact zn_1 _ | exact zn_2 _ _ | exact zn_3 _ _ _ | exact zn_4 _ _ _ _ | exact zn_5 _ _ _ _ _ | exact zc_i _ | exact zc_r _ | exact zo_l _ | exact zo_k _ | exact zo_n | exact zc_rk _ | (rw [zx_id (by omega)]; omega) | (rw [zw_id (by omega)]; omega) | (apply z_ok_v; assumption) | (simp only [z_new_1, z_pu_1, mh_1]; omega)) only [z_EvO_some, z_EvG_t, z_Bk_n, z_Bk_s, z_brT, z_brF, z_br_pos, z_br_neg, not_true_eq_false, not_false_eq_true, Bool.true_eq_false, Bool.false_eq_true, Bool.not_eq_false, Bool.not_eq_true, eq_self, z_kl_i, z_kl_l, z_kl_r, z_kl_k, z_kl_n, z_kl_u, z_kl_v, zi_f, zl_f, z_put_r, z_nul_n, z_nul_r, zcmp_lt, zcmp_le, zcmp_ge, zcmp_gt, zcmp_eq, zw_id, zx_id, Nat.reduceAdd, z_tf_i, z_tf_l, z_tf_z, zl_zx, zi_zw, z_gf0, z_gf1, z_gf2, z_gf3, z_gf4, z_gf5, z_gf6, z_gf7, z_pf0, z_pf1, z_pf2, z_pf3, z_pf4, z_pf5, z_pf6, z_pf7, z_ob1, zb_0, zb_1, zb_tf, r187_0, r187_1, r187_2, r187_5, r187_6, r187_9, r187_10, r187_13, r187_14, r187_17, r187_18, r187_21, r187_22, r187_23, r187_25, r187_26, r187_29, r187_32, r187_33, r187_36, r187_37, r187_38, r187_40, r187_41, r187_42, r187_44, r187_45, r187_48, r187_51, r187_53, r187_56, r187_57, r187_60, r187_61, r187_64, r187_65, r187_68, r187_70, r187_73, r187_74, r187_77, r187_79, r187_80, r187_84, r187_86, r187_89, r187_90, r187_91, r187_93, r187_94, r187_97, r187_99, r187_102, r187_103, r187_106, r187_108, r187_109, r187_112, r187_115, r187_118, r187_121, r187_124, r187_127]
    exact this
  | succ m ih =>
    intro r y hm hy
    have hs : ¬ (Es.getD i zE0).1 1 < 0 := by
      intro hq
      rw [hR, if_pos hq] at hm
      omega
    rw [if_neg hs] at hR
    have hr9 : r < (Rs ((Es.getD i zE0).1 1).toNat).length := by omega
    have hrl := hrs ((Es.getD i zE0).1 1).toNat (by omega)
    have hS := (hi.cf (zfr Ks Rs Es lo i r).length y).S
    obtain ⟨PE, fc, h1, h2, h3, h4, h5, h6⟩ := id hS
    obtain ⟨rr, ff, P, K, g1, g2, g3, g4, g5, g6, g7⟩ := h6 ((Es.getD i zE0).1 1).toNat (by omega)
    obtain ⟨ra, e3, e4⟩ := g7 r hr9
    have hRok := (hok.2 ((Es.getD i zE0).1 1).toNat (by omega)).R hr9
    have r9 := hRok.2.2.2.2.2.2.2.2.1
    have e5 : zg_aq (zQA 8 6 P) (r : Int) = some (.ref ra) := by
      show z_aq _ _ = _
      rw [z_aq_A (by omega) (by omega) (by omega), Int.toNat_natCast, e3]
      rfl
    have hEq : zEq (ch h (va_up (va_up G 0 (va_up (G 0) 7 (zfr Ks Rs Es lo i r).length)) 11 y)) a (Es.getD i zE0) := (he.onch hF).q
    obtain ⟨c, p, ss, a1, a2, a3⟩ := id hEq
    have e80 := fun Q' : zO → zH → Prop => t80 (Q := Q') (v := .ref ra) (o := some ((Rs ((Es.getD i zE0).1 1).toNat).getD r zR0)) hEq hE ⟨ra, rfl, e4⟩ (fun R' hR' => by cases hR'; exact hRok)
    have ev : zsv (Es.getD i zE0) (some ((Rs ((Es.getD i zE0).1 1).toNat).getD r zR0)) = ((Rs ((Es.getD i zE0).1 1).toNat).getD r zR0).1 9 := by unfold zsv; rw [if_neg hs]
    rw [ev] at e80
    have hlen := zfr_len (Ks := Ks) (Rs := Rs) (lo := lo) hEs hrs (r := r) hie
    rw [k187_82]
    have hfold : ∀ (n : Int) (y : Nat → Int), ch h (va_up (va_up G 0 (va_up (G 0) 7 n)) 11 y) = cf h G n y := fun _ _ => rfl
    rw [hfold] at h1 h2 g1 g2 a1
    simp only [hfold] at e80
    have ob0 : z_isob (z_at (cf h G (zfr Ks Rs Es lo i r).length y) (.ref 0)) 0 = true := rfl
    simp (disch := first | omega | assumption | exact zq_r _ | exact zn_0 | exact zo_i _ | exact zo_r _ | exact zq_k _ | exact zq_n | exact zn_1 _ | exact zn_2 _ _ | exact zn_3 _ _ _ | exact zn_4 _ _ _ _ | exact zn_5 _ _ _ _ _ | exact zc_i _ | exact zc_r _ | exact zo_l _ | exact zo_k _ | exact zo_n | exact zc_rk _ | (rw [zx_id (by omega)]; omega) | (rw [zw_id (by omega)]; omega) | (apply z_ok_v; assumption) | (simp only [z_new_1, z_pu_1, mh_1]; omega)) only [z_EvO_some, z_EvG_t, z_Bk_n, z_Bk_s, z_brT, z_brF, z_br_pos, z_br_neg, not_true_eq_false, not_false_eq_true, Bool.true_eq_false, Bool.false_eq_true, Bool.not_eq_false, Bool.not_eq_true, eq_self, z_kl_i, z_kl_l, z_kl_r, z_kl_k, z_kl_n, z_kl_u, z_kl_v, zi_f, zl_f, z_put_r, z_nul_n, z_nul_r, zcmp_lt, zcmp_le, zcmp_ge, zcmp_gt, zcmp_eq, zw_id, zx_id, Nat.reduceAdd, z_tf_i, z_tf_l, z_tf_z, zl_zx, zi_zw, z_gf0, z_gf1, z_gf2, z_gf3, z_gf4, z_gf5, z_gf6, z_gf7, z_pf0, z_pf1, z_pf2, z_pf3, z_pf4, z_pf5, z_pf6, z_pf7, z_ob1, zb_0, zb_1, zb_tf, r187_0, r187_1, r187_2, r187_5, r187_6, r187_9, r187_10, r187_13, r187_14, r187_17, r187_18, r187_21, r187_22, r187_23, r187_25, r187_26, r187_29, r187_32, r187_33, r187_36, r187_37, r187_38, r187_40, r187_41, r187_42, r187_44, r187_45, r187_48, r187_51, r187_53, r187_56, r187_57, r187_60, r187_61, r187_64, r187_65, r187_68, r187_70, r187_73, r187_74, r187_77, r187_79, r187_80, r187_84, r187_86, r187_89, r187_90, r187_91, r187_93, r187_94, r187_97, r187_99, r187_102, r187_103, r187_106, r187_108, r187_109, r187_112, r187_115, r187_118, r187_121, r187_124, r187_127, ob0, h1, h2, a1, zS3_at, g1, g2, e5, e80]
    refine p166 hi (by omega) hy (by omega) hlo (by omega) (fun y' hy' => ?_)
    rw [← zfr_s i r hs hr9] at hy' ⊢
    simp (disch := first | omega | assumption | exact zq_r _ | exact zn_0 | exact zo_i _ | exact zo_r _ | exact zq_k _ | exact zq_n | exact zn_1 _ | exact zn_2 _ _ | exact zn_3 _ _ _ | exact zn_4 _ _ _ _ | exact zn_5 _ _ _ _ _ | exact zc_i _ | exact zc_r _ | exact zo_l _ | exact zo_k _ | exact zo_n | exact zc_rk _ | (rw [zx_id (by omega)]; omega) | (rw [zw_id (by omega)]; omega) | (apply z_ok_v; assumption) | (simp only [z_new_1, z_pu_1, mh_1]; omega)) only [z_EvO_some, z_EvG_t, z_Bk_n, z_Bk_s, z_brT, z_brF, z_br_pos, z_br_neg, not_true_eq_false, not_false_eq_true, Bool.true_eq_false, Bool.false_eq_true, Bool.not_eq_false, Bool.not_eq_true, eq_self, z_kl_i, z_kl_l, z_kl_r, z_kl_k, z_kl_n, z_kl_u, z_kl_v, zi_f, zl_f, z_put_r, z_nul_n, z_nul_r, zcmp_lt, zcmp_le, zcmp_ge, zcmp_gt, zcmp_eq, zw_id, zx_id, Nat.reduceAdd, z_tf_i, z_tf_l, z_tf_z, zl_zx, zi_zw, z_gf0, z_gf1, z_gf2, z_gf3, z_gf4, z_gf5, z_gf6, z_gf7, z_pf0, z_pf1, z_pf2, z_pf3, z_pf4, z_pf5, z_pf6, z_pf7, z_ob1, zb_0, zb_1, zb_tf, r187_0, r187_1, r187_2, r187_5, r187_6, r187_9, r187_10, r187_13, r187_14, r187_17, r187_18, r187_21, r187_22, r187_23, r187_25, r187_26, r187_29, r187_32, r187_33, r187_36, r187_37, r187_38, r187_40, r187_41, r187_42, r187_44, r187_45, r187_48, r187_51, r187_53, r187_56, r187_57, r187_60, r187_61, r187_64, r187_65, r187_68, r187_70, r187_73, r187_74, r187_77, r187_79, r187_80, r187_84, r187_86, r187_89, r187_90, r187_91, r187_93, r187_94, r187_97, r187_99, r187_102, r187_103, r187_106, r187_108, r187_109, r187_112, r187_115, r187_118, r187_121, r187_124, r187_127]
    have := ih (r + 1) y' (by omega) hy'
    rw [show ((r + 1 : Nat) : Int) = (r : Int) + 1 by omega] at this
    exact this
theorem l187 (hi : zCI s h G Es Ks Rs) (hlo : -1000000000000000 ≤ lo ∧ lo ≤ 1000000000000000)
    (kk : ∀ y, zFd (zfe Ks Rs Es lo Es.length) y → Q (.inl none) (cf h G (zfe Ks Rs Es lo Es.length).length y)) :
    ∀ (m i : Nat) (y : Nat → Int) (l4 l5 l6 : Value), i + m = Es.length → zFd (zfe Ks Rs Es lo i) y → z_Ev 187 24 [.ref 0, zl lo, z_um, zi i, l4, l5, l6] [] (cf h G (zfe Ks Rs Es lo i).length y) Q := by
  obtain ⟨hF, hLk, h63, hCB, hok, hoc, hG⟩ := id hi
  obtain ⟨PE, d1, d2, d3, d4, d5⟩ := id hCB
  have hrs : ∀ k, k < 3 → (Rs k).length ≤ 6 := fun k hk => by
    obtain ⟨P, K, -, -, -, q, -⟩ := d5 k hk
    exact q
  have hEs : ∀ E ∈ Es, zEok E := hok.1
  intro m
  induction m with
  | zero =>
    intro i y l4 l5 l6 hm hy
    have e : i = Es.length := by omega
    subst e
    have e03 : va_up (va_up G 0 (va_up (G 0) 7 ((zfe Ks Rs Es lo Es.length).length : Int))) 11 y 0 3 = Es.length := by rw [va_up_ne _ _ (by decide), va_up_self, va_up_ne _ _ (by decide)]; exact hG
    have := kk y hy
    rw [k187_24]
    unfold cf at this ⊢
    simp (disch := first | omega | assumption | exact zq_r _ | exact zn_0 | exact zo_i _ | exact zo_r _ | exact zq_k _ | exact zq_n | exact zn_1 _ | exact zn_2 _ _ | exact zn_3 _ _ _ | exact zn_4 _ _ _ _ | exact zn_5 _ _ _ _ _ | exact zc_i _ | exact zc_r _ | exact zo_l _ | exact zo_k _ | exact zo_n | exact zc_rk _ | (rw [zx_id (by omega)]; omega) | (rw [zw_id (by omega)]; omega) | (apply z_ok_v; assumption) | (simp only [z_new_1, z_pu_1, mh_1]; omega)) only [z_EvO_some, z_EvG_t, z_Bk_n, z_Bk_s, z_brT, z_brF, z_br_pos, z_br_neg, not_true_eq_false, not_false_eq_true, Bool.true_eq_false, Bool.false_eq_true, Bool.not_eq_false, Bool.not_eq_true, eq_self, z_kl_i, z_kl_l, z_kl_r, z_kl_k, z_kl_n, z_kl_u, z_kl_v, zi_f, zl_f, z_put_r, z_nul_n, z_nul_r, zcmp_lt, zcmp_le, zcmp_ge, zcmp_gt, zcmp_eq, zw_id, zx_id, Nat.reduceAdd, z_tf_i, z_tf_l, z_tf_z, zl_zx, zi_zw, z_gf0, z_gf1, z_gf2, z_gf3, z_gf4, z_gf5, z_gf6, z_gf7, z_pf0, z_pf1, z_pf2, z_pf3, z_pf4, z_pf5, z_pf6, z_pf7, z_ob1, zb_0, zb_1, zb_tf, cat_o, cat_k, ch_1, cgf0_0, cgf0_1, cgf0_2, cgf0_3, cpf0_3, cgf0_4, cgf0_5, cgf0_6, cgf0_7, cpf0_7, cob_0, cat_0, cpu_0, cgf5_0, cgf5_1, cpf5_1, cob_5, cat_5, cpu_5, cat_6, cpu_6, cgf7_0, cgf7_1, cpf7_1, cgf7_2, cpf7_2, cgf7_3, cpf7_3, cgf7_4, cgf7_5, cgf7_6, cpf7_6, cgf7_7, cpf7_7, cob_7, cat_7, cpu_7, cat_8, cpu_8, cat_9, cpu_9, cat_10, cpu_10, cat_11, cpu_11, zg_ai_A, zg_al_A, zg_si_A, zg_sl_A, zg_ab_b, zg_sb_b, z_len_A, z_len_L, r187_0, r187_1, r187_2, r187_5, r187_6, r187_9, r187_10, r187_13, r187_14, r187_17, r187_18, r187_21, r187_22, r187_23, r187_25, r187_26, r187_29, r187_32, r187_33, r187_36, r187_37, r187_38, r187_40, r187_41, r187_42, r187_44, r187_45, r187_48, r187_51, r187_53, r187_56, r187_57, r187_60, r187_61, r187_64, r187_65, r187_68, r187_70, r187_73, r187_74, r187_77, r187_79, r187_80, r187_84, r187_86, r187_89, r187_90, r187_91, r187_93, r187_94, r187_97, r187_99, r187_102, r187_103, r187_106, r187_108, r187_109, r187_112, r187_115, r187_118, r187_121, r187_124, r187_127, e03]
    exact this
  | succ m ih =>
    intro i y l4 l5 l6 hm hy
    have hie : i < Es.length := by omega
    obtain ⟨a, b1, b2⟩ := d4 i hie
    have hE := hok.E hie
    have r0 := hE.1
    have r1 := hE.2.1
    have hS := (hi.cf (zfe Ks Rs Es lo i).length y).S
    obtain ⟨PE', fc, h1, h2, h3, h4, h5, h6⟩ := id hS
    have h3' : z_at (cf h G (zfe Ks Rs Es lo i).length y) (.ref 4) = zQA 7 4 PE := by
      unfold cf
      rw [cat_o (by omega)]
      exact d2
    have e5 : zg_aq (zQA 7 4 PE) (i : Int) = some (.ref a) := by
      show z_aq _ _ = _
      rw [z_aq_A (by omega) (by omega) (by omega), Int.toNat_natCast, b1]
      rfl
    have hfold : ∀ (n : Int) (y : Nat → Int), ch h (va_up (va_up G 0 (va_up (G 0) 7 n)) 11 y) = cf h G n y := fun _ _ => rfl
    have hEq : ∀ n y, zEq (cf h G n y) a (Es.getD i zE0) := fun n y => (b2.onch hF).q
    obtain ⟨c, p, ss, hb0, q1, q2, q3⟩ := id b2
    have a1 : ∀ n y, z_at (cf h G n y) (.ref a) = .inr (10, [zi ((Es.getD i zE0).1 0), zi ((Es.getD i zE0).1 1), zi ((Es.getD i zE0).1 2), .ref p, zi ((Es.getD i zE0).1 3), zl ((Es.getD i zE0).1 4), .ref c]) := fun n y => by
      unfold cf
      rw [cat_o (by have := hb0.1; unfold zok3 at this; omega)]; exact q1
    have rv := zsv_r hE (o := none) (fun R hR => by cases hR)
    have e80 := fun Q' : zO → zH → Prop => t80 (Q := Q') (v := .null) (o := none) (hEq (zfe Ks Rs Es lo i).length y) hE rfl (fun R' hR' => by cases hR')
    have ob0 : z_isob (z_at (cf h G (zfe Ks Rs Es lo i).length y) (.ref 0)) 0 = true := rfl
    have hlen := zfe_len (Ks := Ks) (Rs := Rs) (lo := lo) hEs hrs i (by omega)
    rw [hfold] at h1
    have next : ∀ y, zFd (zfe Ks Rs Es lo (i + 1)) y → ∀ l4 l5 l6, z_Ev 187 24 [.ref 0, zl lo, z_um, zi ((i : Int) + 1), l4, l5, l6] [] (cf h G (zfe Ks Rs Es lo (i + 1)).length y) Q := by
      intro y' hy' l4 l5 l6
      have := ih (i + 1) y' l4 l5 l6 (by omega) hy'
      rw [show ((i + 1 : Nat) : Int) = (i : Int) + 1 by omega] at this
      exact this
    rw [k187_24]
    simp (disch := first | omega | assumption | exact zq_r _ | exact zn_0 | exact zo_i _ | exact zo_r _ | exact zq_k _ | exact zq_n | exact zn_1 _ | exact zn_2 _ _ | exact zn_3 _ _ _ | exact zn_4 _ _ _ _ | exact zn_5 _ _ _ _ _ | exact zc_i _ | exact zc_r _ | exact zo_l _ | exact zo_k _ | exact zo_n | exact zc_rk _ | (rw [zx_id (by omega)]; omega) | (rw [zw_id (by omega)]; omega) | (apply z_ok_v; assumption) | (simp only [z_new_1, z_pu_1, mh_1]; omega)) only [z_EvO_some, z_EvG_t, z_Bk_n, z_Bk_s, z_brT, z_brF, z_br_pos, z_br_neg, not_true_eq_false, not_false_eq_true, Bool.true_eq_false, Bool.false_eq_true, Bool.not_eq_false, Bool.not_eq_true, eq_self, z_kl_i, z_kl_l, z_kl_r, z_kl_k, z_kl_n, z_kl_u, z_kl_v, zi_f, zl_f, z_put_r, z_nul_n, z_nul_r, zcmp_lt, zcmp_le, zcmp_ge, zcmp_gt, zcmp_eq, zw_id, zx_id, Nat.reduceAdd, z_tf_i, z_tf_l, z_tf_z, zl_zx, zi_zw, z_gf0, z_gf1, z_gf2, z_gf3, z_gf4, z_gf5, z_gf6, z_gf7, z_pf0, z_pf1, z_pf2, z_pf3, z_pf4, z_pf5, z_pf6, z_pf7, z_ob1, zb_0, zb_1, zb_tf, r187_0, r187_1, r187_2, r187_5, r187_6, r187_9, r187_10, r187_13, r187_14, r187_17, r187_18, r187_21, r187_22, r187_23, r187_25, r187_26, r187_29, r187_32, r187_33, r187_36, r187_37, r187_38, r187_40, r187_41, r187_42, r187_44, r187_45, r187_48, r187_51, r187_53, r187_56, r187_57, r187_60, r187_61, r187_64, r187_65, r187_68, r187_70, r187_73, r187_74, r187_77, r187_79, r187_80, r187_84, r187_86, r187_89, r187_90, r187_91, r187_93, r187_94, r187_97, r187_99, r187_102, r187_103, r187_106, r187_108, r187_109, r187_112, r187_115, r187_118, r187_121, r187_124, r187_127, ob0, h1, h3', e5, a1, e80]
    refine p166 hi (by omega) hy (by omega) hlo (by omega) (fun y' hy' => ?_)
    rw [← zfr_0] at hy' ⊢
    by_cases hs : (Es.getD i zE0).1 1 < 0
    · have hs1 : (Es.getD i zE0).1 1 = -1 := by omega
      have := l187r (Q := Q) hi hlo hie b2 (R := 0) (by rw [if_pos hs]) next 0 0 y' rfl hy'
      simp (disch := first | omega | assumption | exact zq_r _ | exact zn_0 | exact zo_i _ | exact zo_r _ | exact zq_k _ | exact zq_n | exact zn_1 _ | exact zn_2 _ _ | exact zn_3 _ _ _ | exact zn_4 _ _ _ _ | exact zn_5 _ _ _ _ _ | exact zc_i _ | exact zc_r _ | exact zo_l _ | exact zo_k _ | exact zo_n | exact zc_rk _ | (rw [zx_id (by omega)]; omega) | (rw [zw_id (by omega)]; omega) | (apply z_ok_v; assumption) | (simp only [z_new_1, z_pu_1, mh_1]; omega)) only [z_EvO_some, z_EvG_t, z_Bk_n, z_Bk_s, z_brT, z_brF, z_br_pos, z_br_neg, not_true_eq_false, not_false_eq_true, Bool.true_eq_false, Bool.false_eq_true, Bool.not_eq_false, Bool.not_eq_true, eq_self, z_kl_i, z_kl_l, z_kl_r, z_kl_k, z_kl_n, z_kl_u, z_kl_v, zi_f, zl_f, z_put_r, z_nul_n, z_nul_r, zcmp_lt, zcmp_le, zcmp_ge, zcmp_gt, zcmp_eq, zw_id, zx_id, Nat.reduceAdd, z_tf_i, z_tf_l, z_tf_z, zl_zx, zi_zw, z_gf0, z_gf1, z_gf2, z_gf3, z_gf4, z_gf5, z_gf6, z_gf7, z_pf0, z_pf1, z_pf2, z_pf3, z_pf4, z_pf5, z_pf6, z_pf7, z_ob1, zb_0, zb_1, zb_tf, r187_0, r187_1, r187_2, r187_5, r187_6, r187_9, r187_10, r187_13, r187_14, r187_17, r187_18, r187_21, r187_22, r187_23, r187_25, r187_26, r187_29, r187_32, r187_33, r187_36, r187_37, r187_38, r187_40, r187_41, r187_42, r187_44, r187_45, r187_48, r187_51, r187_53, r187_56, r187_57, r187_60, r187_61, r187_64, r187_65, r187_68, r187_70, r187_73, r187_74, r187_77, r187_79, r187_80, r187_84, r187_86, r187_89, r187_90, r187_91, r187_93, r187_94, r187_97, r187_99, r187_102, r187_103, r187_106, r187_108, r187_109, r187_112, r187_115, r187_118, r187_121, r187_124, r187_127, a1]
      exact this
    · have hSS := (hi.cf (zfr Ks Rs Es lo i 0).length y').S
      obtain ⟨PE2, fc2, j1, j2, j3, j4, j5, j6⟩ := id hSS
      obtain ⟨rr, ff, P, K, g1, g2, g3, g4, g5, g6, g7⟩ := j6 ((Es.getD i zE0).1 1).toNat (by omega)
      have := l187r (Q := Q) hi hlo hie b2 (R := (Rs ((Es.getD i zE0).1 1).toNat).length) (by rw [if_neg hs]) next (Rs ((Es.getD i zE0).1 1).toNat).length 0 y' (by omega) hy'
      rw [hfold] at j1 j2 g1
      simp (disch := first | omega | assumption | exact zq_r _ | exact zn_0 | exact zo_i _ | exact zo_r _ | exact zq_k _ | exact zq_n | exact zn_1 _ | exact zn_2 _ _ | exact zn_3 _ _ _ | exact zn_4 _ _ _ _ | exact zn_5 _ _ _ _ _ | exact zc_i _ | exact zc_r _ | exact zo_l _ | exact zo_k _ | exact zo_n | exact zc_rk _ | (rw [zx_id (by omega)]; omega) | (rw [zw_id (by omega)]; omega) | (apply z_ok_v; assumption) | (simp only [z_new_1, z_pu_1, mh_1]; omega)) only [z_EvO_some, z_EvG_t, z_Bk_n, z_Bk_s, z_brT, z_brF, z_br_pos, z_br_neg, not_true_eq_false, not_false_eq_true, Bool.true_eq_false, Bool.false_eq_true, Bool.not_eq_false, Bool.not_eq_true, eq_self, z_kl_i, z_kl_l, z_kl_r, z_kl_k, z_kl_n, z_kl_u, z_kl_v, zi_f, zl_f, z_put_r, z_nul_n, z_nul_r, zcmp_lt, zcmp_le, zcmp_ge, zcmp_gt, zcmp_eq, zw_id, zx_id, Nat.reduceAdd, z_tf_i, z_tf_l, z_tf_z, zl_zx, zi_zw, z_gf0, z_gf1, z_gf2, z_gf3, z_gf4, z_gf5, z_gf6, z_gf7, z_pf0, z_pf1, z_pf2, z_pf3, z_pf4, z_pf5, z_pf6, z_pf7, z_ob1, zb_0, zb_1, zb_tf, r187_0, r187_1, r187_2, r187_5, r187_6, r187_9, r187_10, r187_13, r187_14, r187_17, r187_18, r187_21, r187_22, r187_23, r187_25, r187_26, r187_29, r187_32, r187_33, r187_36, r187_37, r187_38, r187_40, r187_41, r187_42, r187_44, r187_45, r187_48, r187_51, r187_53, r187_56, r187_57, r187_60, r187_61, r187_64, r187_65, r187_68, r187_70, r187_73, r187_74, r187_77, r187_79, r187_80, r187_84, r187_86, r187_89, r187_90, r187_91, r187_93, r187_94, r187_97, r187_99, r187_102, r187_103, r187_106, r187_108, r187_109, r187_112, r187_115, r187_118, r187_121, r187_124, r187_127, a1, j1, j2, zS3_at, g1]
      exact this
theorem p187 (hi : zCI s h G Es Ks Rs) (hlo : -9223372036854775808 ≤ lo ∧ lo ≤ 9223372036854775807)
    (kk : ∀ y, zFd (zfd Ks Rs Es lo) y → Q (.inl none) (cf h G (zfd Ks Rs Es lo).length y)) : z_Cl 187 [.ref 0, zl lo] (ch h G) Q := by
  have gid : va_up (va_up G 0 (va_up (G 0) 7 0)) 11 (G 11) = va_up G 0 (va_up (G 0) 7 0) := by
    have : va_up G 0 (va_up (G 0) 7 0) 11 = G 11 := va_up_ne _ _ (by decide)
    rw [← this]
    exact va_up_id _ 11
  have hfd : zFd [] (G 11) := ⟨fun j hj => by simp at hj, fun j hj => by simp at hj, fun i j hij hj => by simp at hj⟩
  by_cases hb : lo < -1000000000000000 ∨ 1000000000000000 < lo
  · have e : zfd Ks Rs Es lo = [] := by unfold zfd; rw [if_pos hb]
    rw [e] at kk
    have := kk (G 11) hfd
    unfold cf at this
    have e0 : ((([] : List Int).length : Nat) : Int) = 0 := rfl
    rw [e0, gid] at this
    rcases hb with hb | hb
    · simp (disch := first | omega | assumption | exact zq_r _ | exact zn_0 | exact zo_i _ | exact zo_r _ | exact zq_k _ | exact zq_n | exact zn_1 _ | exact zn_2 _ _ | exact zn_3 _ _ _ | exact zn_4 _ _ _ _ | exact zn_5 _ _ _ _ _ | exact zc_i _ | exact zc_r _ | exact zo_l _ | exact zo_k _ | exact zo_n | exact zc_rk _ | (rw [zx_id (by omega)]; omega) | (rw [zw_id (by omega)]; omega) | (apply z_ok_v; assumption) | (simp only [z_new_1, z_pu_1, mh_1]; omega)) only [z_EvO_some, z_EvG_t, z_Bk_n, z_Bk_s, z_brT, z_brF, z_br_pos, z_br_neg, not_true_eq_false, not_false_eq_true, Bool.true_eq_false, Bool.false_eq_true, Bool.not_eq_false, Bool.not_eq_true, eq_self, z_kl_i, z_kl_l, z_kl_r, z_kl_k, z_kl_n, z_kl_u, z_kl_v, zi_f, zl_f, z_put_r, z_nul_n, z_nul_r, zcmp_lt, zcmp_le, zcmp_ge, zcmp_gt, zcmp_eq, zw_id, zx_id, Nat.reduceAdd, z_tf_i, z_tf_l, z_tf_z, zl_zx, zi_zw, z_gf0, z_gf1, z_gf2, z_gf3, z_gf4, z_gf5, z_gf6, z_gf7, z_pf0, z_pf1, z_pf2, z_pf3, z_pf4, z_pf5, z_pf6, z_pf7, z_ob1, zb_0, zb_1, zb_tf, cat_o, cat_k, ch_1, cgf0_0, cgf0_1, cgf0_2, cgf0_3, cpf0_3, cgf0_4, cgf0_5, cgf0_6, cgf0_7, cpf0_7, cob_0, cat_0, cpu_0, cgf5_0, cgf5_1, cpf5_1, cob_5, cat_5, cpu_5, cat_6, cpu_6, cgf7_0, cgf7_1, cpf7_1, cgf7_2, cpf7_2, cgf7_3, cpf7_3, cgf7_4, cgf7_5, cgf7_6, cpf7_6, cgf7_7, cpf7_7, cob_7, cat_7, cpu_7, cat_8, cpu_8, cat_9, cpu_9, cat_10, cpu_10, cat_11, cpu_11, zg_ai_A, zg_al_A, zg_si_A, zg_sl_A, zg_ab_b, zg_sb_b, z_len_A, z_len_L, e187, r187_0, r187_1, r187_2, r187_5, r187_6, r187_9, r187_10, r187_13, r187_14, r187_17, r187_18, r187_21, r187_22, r187_23, r187_25, r187_26, r187_29, r187_32, r187_33, r187_36, r187_37, r187_38, r187_40, r187_41, r187_42, r187_44, r187_45, r187_48, r187_51, r187_53, r187_56, r187_57, r187_60, r187_61, r187_64, r187_65, r187_68, r187_70, r187_73, r187_74, r187_77, r187_79, r187_80, r187_84, r187_86, r187_89, r187_90, r187_91, r187_93, r187_94, r187_97, r187_99, r187_102, r187_103, r187_106, r187_108, r187_109, r187_112, r187_115, r187_118, r187_121, r187_124, r187_127]
      exact this
    · simp (disch := first | omega | assumption | exact zq_r _ | exact zn_0 | exact zo_i _ | exact zo_r _ | exact zq_k _ | exact zq_n | exact zn_1 _ | exact zn_2 _ _ | exact zn_3 _ _ _ | exact zn_4 _ _ _ _ | exact zn_5 _ _ _ _ _ | exact zc_i _ | exact zc_r _ | exact zo_l _ | exact zo_k _ | exact zo_n | exact zc_rk _ | (rw [zx_id (by omega)]; omega) | (rw [zw_id (by omega)]; omega) | (apply z_ok_v; assumption) | (simp only [z_new_1, z_pu_1, mh_1]; omega)) only [z_EvO_some, z_EvG_t, z_Bk_n, z_Bk_s, z_brT, z_brF, z_br_pos, z_br_neg, not_true_eq_false, not_false_eq_true, Bool.true_eq_false, Bool.false_eq_true, Bool.not_eq_false, Bool.not_eq_true, eq_self, z_kl_i, z_kl_l, z_kl_r, z_kl_k, z_kl_n, z_kl_u, z_kl_v, zi_f, zl_f, z_put_r, z_nul_n, z_nul_r, zcmp_lt, zcmp_le, zcmp_ge, zcmp_gt, zcmp_eq, zw_id, zx_id, Nat.reduceAdd, z_tf_i, z_tf_l, z_tf_z, zl_zx, zi_zw, z_gf0, z_gf1, z_gf2, z_gf3, z_gf4, z_gf5, z_gf6, z_gf7, z_pf0, z_pf1, z_pf2, z_pf3, z_pf4, z_pf5, z_pf6, z_pf7, z_ob1, zb_0, zb_1, zb_tf, cat_o, cat_k, ch_1, cgf0_0, cgf0_1, cgf0_2, cgf0_3, cpf0_3, cgf0_4, cgf0_5, cgf0_6, cgf0_7, cpf0_7, cob_0, cat_0, cpu_0, cgf5_0, cgf5_1, cpf5_1, cob_5, cat_5, cpu_5, cat_6, cpu_6, cgf7_0, cgf7_1, cpf7_1, cgf7_2, cpf7_2, cgf7_3, cpf7_3, cgf7_4, cgf7_5, cgf7_6, cpf7_6, cgf7_7, cpf7_7, cob_7, cat_7, cpu_7, cat_8, cpu_8, cat_9, cpu_9, cat_10, cpu_10, cat_11, cpu_11, zg_ai_A, zg_al_A, zg_si_A, zg_sl_A, zg_ab_b, zg_sb_b, z_len_A, z_len_L, e187, r187_0, r187_1, r187_2, r187_5, r187_6, r187_9, r187_10, r187_13, r187_14, r187_17, r187_18, r187_21, r187_22, r187_23, r187_25, r187_26, r187_29, r187_32, r187_33, r187_36, r187_37, r187_38, r187_40, r187_41, r187_42, r187_44, r187_45, r187_48, r187_51, r187_53, r187_56, r187_57, r187_60, r187_61, r187_64, r187_65, r187_68, r187_70, r187_73, r187_74, r187_77, r187_79, r187_80, r187_84, r187_86, r187_89, r187_90, r187_91, r187_93, r187_94, r187_97, r187_99, r187_102, r187_103, r187_106, r187_108, r187_109, r187_112, r187_115, r187_118, r187_121, r187_124, r187_127]
      exact this
  · have e : zfd Ks Rs Es lo = zfe Ks Rs Es lo Es.length := by
      unfold zfd zfe
      rw [if_neg hb, List.take_length]
    rw [e] at kk
    have := l187 (Q := Q) hi (by omega) kk Es.length 0 (G 11) z_um z_um z_um (by omega) hfd
    unfold cf at this
    have e0 : (((zfe Ks Rs Es lo 0).length : Nat) : Int) = 0 := rfl
    have e00 : ((0 : Nat) : Int) = 0 := rfl
    rw [e0, gid, e00] at this
    simp (disch := first | omega | assumption | exact zq_r _ | exact zn_0 | exact zo_i _ | exact zo_r _ | exact zq_k _ | exact zq_n | exact zn_1 _ | exact zn_2 _ _ | exact zn_3 _ _ _ | exact zn_4 _ _ _ _ | exact zn_5 _ _ _ _ _ | exact zc_i _ | exact zc_r _ | exact zo_l _ | exact zo_k _ | exact zo_n | exact zc_rk _ | (rw [zx_id (by omega)]; omega) | (rw [zw_id (by omega)]; omega) | (apply z_ok_v; assumption) | (simp only [z_new_1, z_pu_1, mh_1]; omega)) only [z_EvO_some, z_EvG_t, z_Bk_n, z_Bk_s, z_brT, z_brF, z_br_pos, z_br_neg, not_true_eq_false, not_false_eq_true, Bool.true_eq_false, Bool.false_eq_true, Bool.not_eq_false, Bool.not_eq_true, eq_self, z_kl_i, z_kl_l, z_kl_r, z_kl_k, z_kl_n, z_kl_u, z_kl_v, zi_f, zl_f, z_put_r, z_nul_n, z_nul_r, zcmp_lt, zcmp_le, zcmp_ge, zcmp_gt, zcmp_eq, zw_id, zx_id, Nat.reduceAdd, z_tf_i, z_tf_l, z_tf_z, zl_zx, zi_zw, z_gf0, z_gf1, z_gf2, z_gf3, z_gf4, z_gf5, z_gf6, z_gf7, z_pf0, z_pf1, z_pf2, z_pf3, z_pf4, z_pf5, z_pf6, z_pf7, z_ob1, zb_0, zb_1, zb_tf, cat_o, cat_k, ch_1, cgf0_0, cgf0_1, cgf0_2, cgf0_3, cpf0_3, cgf0_4, cgf0_5, cgf0_6, cgf0_7, cpf0_7, cob_0, cat_0, cpu_0, cgf5_0, cgf5_1, cpf5_1, cob_5, cat_5, cpu_5, cat_6, cpu_6, cgf7_0, cgf7_1, cpf7_1, cgf7_2, cpf7_2, cgf7_3, cpf7_3, cgf7_4, cgf7_5, cgf7_6, cpf7_6, cgf7_7, cpf7_7, cob_7, cat_7, cpu_7, cat_8, cpu_8, cat_9, cpu_9, cat_10, cpu_10, cat_11, cpu_11, zg_ai_A, zg_al_A, zg_si_A, zg_sl_A, zg_ab_b, zg_sb_b, z_len_A, z_len_L, e187, r187_0, r187_1, r187_2, r187_5, r187_6, r187_9, r187_10, r187_13, r187_14, r187_17, r187_18, r187_21, r187_22, r187_23, r187_25, r187_26, r187_29, r187_32, r187_33, r187_36, r187_37, r187_38, r187_40, r187_41, r187_42, r187_44, r187_45, r187_48, r187_51, r187_53, r187_56, r187_57, r187_60, r187_61, r187_64, r187_65, r187_68, r187_70, r187_73, r187_74, r187_77, r187_79, r187_80, r187_84, r187_86, r187_89, r187_90, r187_91, r187_93, r187_94, r187_97, r187_99, r187_102, r187_103, r187_106, r187_108, r187_109, r187_112, r187_115, r187_118, r187_121, r187_124, r187_127]
    exact this
end ZFd2
