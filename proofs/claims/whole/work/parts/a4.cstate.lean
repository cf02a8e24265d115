/-! what holds: the class -/
def zE0 : zEr := (fun _ => 0, [])
def zS3 (j : Nat) : Option Nat := if j = 0 then some 12 else if j = 1 then some 15 else if j = 2 then some 18 else none
def zEq (h : zH) (a : Nat) (E : zEr) : Prop := ∃ (c p : Nat) (s : Int), z_at h (.ref a) = .inr (10, [zi (E.1 0), zi (E.1 1), zi (E.1 2), .ref p, zi (E.1 3), zl (E.1 4), .ref c]) ∧ z_at h (.ref c) = .inr (8, [zi s, zi (E.1 5)]) ∧ zSt h (.ref p) E.2
theorem zEb.q {L a : Nat} {h : zH} {E : zEr} (hr : zEb L h a E) : zEq h a E := by
  obtain ⟨c, p, s, -, h1, h2, h3⟩ := hr
  exact ⟨c, p, s, h1, h2, h3.st⟩
/-- the class's rules and eras, as they are read -/
def zCS (h : zH) (Es : List zEr) (Ks : Nat → List Int) (Rs : Nat → List zRu) : Prop := ∃ (PE : Nat → Option Nat) (fc : Int), z_at h (.ref 0) = .inr (0, [.ref 1, .ref 3, .ref 4, zi Es.length, .ref 5, .ref 7, .ref 11, zi fc]) ∧ z_at h (.ref 3) = zQA 6 3 zS3 ∧ z_at h (.ref 4) = zQA 7 4 PE ∧ Es.length ≤ 4 ∧ (∀ i, i < Es.length → ∃ a, PE i = some a ∧ zEq h a (Es.getD i zE0)) ∧ (∀ k, k < 3 → zRS h (12 + 3 * k) (Ks k) (Rs k))
def zOk (Es : List zEr) (Ks : Nat → List Int) (Rs : Nat → List zRu) : Prop := (∀ E ∈ Es, zEok E) ∧ ∀ k, k < 3 → zKok (Ks k) (Rs k)
theorem zOk.E {Es : List zEr} {Ks : Nat → List Int} {Rs : Nat → List zRu} (h : zOk Es Ks Rs) {i : Nat} (hi : i < Es.length) : zEok (Es.getD i zE0) := by
  rw [List.getD_eq_getElem?_getD, List.getElem?_eq_getElem hi]
  exact h.1 _ (List.getElem_mem hi)
/-- when an era ends -/
def zend (Ks : Nat → List Int) (Rs : Nat → List zRu) (E : zEr) : Int := zled (E.1 5) (E.1 4) (E.1 0) (if E.1 1 < 0 then E.1 2 else zsn (Ks (E.1 1).toNat) (Rs (E.1 1).toNat) (E.1 4))
/-- the first number from N - n on of which p holds, or N -/
def zff (p : Nat → Bool) (N : Nat) : Nat → Nat
  | 0 => N
  | n + 1 => if p (N - (n + 1)) then N - (n + 1) else zff p N n
/-- the era's number -/
def zen (Ks : Nat → List Int) (Rs : Nat → List zRu) (Es : List zEr) (t : Int) : Nat := zff (fun i => decide (t < zend Ks Rs (Es.getD i zE0))) (Es.length - 1) (Es.length - 1)
/-- the rule that holds in an era -/
def zru (Ks : Nat → List Int) (Rs : Nat → List zRu) (E : zEr) (t : Int) : Option zRu := if E.1 1 < 0 then none else if zlt (Ks (E.1 1).toNat) (Rs (E.1 1).toNat) (E.1 0) t < 0 then none else some (zrl (Rs (E.1 1).toNat) ((Ks (E.1 1).toNat).getD (zlt (Ks (E.1 1).toNat) (Rs (E.1 1).toNat) (E.1 0) t).toNat 0))
def zsv (E : zEr) (o : Option zRu) : Int := if E.1 1 < 0 then E.1 2 else match o with
  | none => 0
  | some R => R.1 9
def zRv (h : zH) (v : Value) (o : Option zRu) : Prop := match o with
  | none => v = .null
  | some R => ∃ a, v = .ref a ∧ zRq h a R
/-- the offset at an instant -/
def zoff (Ks : Nat → List Int) (Rs : Nat → List zRu) (Es : List zEr) (t : Int) : Int := (Es.getD (zen Ks Rs Es t) zE0).1 0 + zsv (Es.getD (zen Ks Rs Es t) zE0) (zru Ks Rs (Es.getD (zen Ks Rs Es t) zE0) t)
theorem zff_r (p : Nat → Bool) (N n : Nat) : zff p N n ≤ N := by
  induction n with
  | zero => exact Nat.le_refl _
  | succ n ih => unfold zff; split <;> omega
theorem zRv.rf {h : zH} {v : Value} {o : Option zRu} (hv : zRv h v o) : z_isref v = true := by
  cases o with
  | none => cases hv; rfl
  | some R => obtain ⟨a, rfl, -⟩ := hv; rfl
theorem zru_ok {Ks : Nat → List Int} {Rs : Nat → List zRu} {E : zEr} {t : Int} (hE : zEok E) (hk : ∀ k, k < 3 → zKok (Ks k) (Rs k)) {R : zRu} (h : zru Ks Rs E t = some R) : zRok R := by
  unfold zru at h
  split at h
  · cases h
  · split at h
    · cases h
    · rename_i h1 h2
      cases h
      have hs := hE.2.1
      have h3 := zlf_r (fun i => decide (zfa (Ks (E.1 1).toNat) (Rs (E.1 1).toNat) (E.1 0) i ≤ t)) (Ks (E.1 1).toNat).length
      have h4 : zlf (fun i => decide (zfa (Ks (E.1 1).toNat) (Rs (E.1 1).toNat) (E.1 0) i ≤ t)) (Ks (E.1 1).toNat).length = zlt (Ks (E.1 1).toNat) (Rs (E.1 1).toNat) (E.1 0) t := rfl
      rw [h4] at h3
      exact (hk (E.1 1).toNat (by omega)).rl (by omega)
theorem zsv_r {E : zEr} {o : Option zRu} (hE : zEok E) (ho : ∀ R, o = some R → zRok R) : -89999 ≤ zsv E o ∧ zsv E o ≤ 89999 := by
  unfold zsv
  split
  · exact hE.2.2.1
  · cases o with
    | none => decide
    | some R => exact (ho R rfl).2.2.2.2.2.2.2.2.1
theorem zsn_r {ks : List Int} {rs : List zRu} (hk : zKok ks rs) (u : Int) : -89999 ≤ zsn ks rs u ∧ zsn ks rs u ≤ 89999 := by
  have h3 := zlf_r (fun i => decide (ks.getD i 0 / 8 ≤ u)) ks.length
  have h4 : zlf (fun i => decide (ks.getD i 0 / 8 ≤ u)) ks.length = zln ks u := rfl
  rw [h4] at h3
  unfold zsn
  split
  · decide
  · exact (hk.rl (j := (zln ks u).toNat) (by omega)).2.2.2.2.2.2.2.2.1
section ZCS
variable {h : zH} {Q : zO → zH → Prop} {Es : List zEr} {Ks : Nat → List Int} {Rs : Nat → List zRu} {s a : Nat} {i t : Int} {v : Value} {E : zEr} {o : Option zRu}
theorem zEok_u (hE : zEok E) : -1000000 ≤ E.1 4 ∧ E.1 4 ≤ 2147000000 := by
  obtain ⟨-, -, -, -, -, -, -, -, y, m, how, num, which, s, h1, h2, h3, h4, h5, h6, h7, h8⟩ := hE
  have := zday_r y m how num which h2 h3 (by omega)
  omega
theorem zend_r (hE : zEok E) (hk : ∀ k, k < 3 → zKok (Ks k) (Rs k)) : -1200000 ≤ zend Ks Rs E ∧ zend Ks Rs E ≤ 2147200000 := by
  have h1 := zEok_u hE
  have h2 := hE.1
  have h3 := hE.2.2.1
  have h4 := hE.2.1
  unfold zend zled
  split
  · omega
  · split
    · omega
    · split
      · omega
      · have := zsn_r (hk (E.1 1).toNat (by omega)) (E.1 4)
        omega
theorem zS3_at (hk : 0 ≤ i ∧ i ≤ 2) : zg_aq (zQA 6 3 zS3) i = some (.ref (12 + 3 * i.toNat)) := by
  show z_aq _ _ = _
  rw [z_aq_A (by omega) (by omega) (by omega)]
  have : i = 0 ∨ i = 1 ∨ i = 2 := by omega
  rcases this with rfl | rfl | rfl <;> rfl
theorem t111 (hs : zCS h Es Ks Rs) (ho : zOk Es Ks Rs) (he : zEq h a E) (hE : zEok E) : z_Cl 111 [.ref 0, .ref a] h Q = Q (.inl (some (zl (zend Ks Rs E)))) h := by
  obtain ⟨PE, fc, h1, h2, h3, h4, h5, h6⟩ := id hs
  obtain ⟨c, p, ss, a1, a2, a3⟩ := id he
  have r1 := zEok_u hE
  have r2 := hE.1
  have r3 := hE.2.2.1
  have r4 := hE.2.1
  have r5 := hE.2.2.2.2.1
  by_cases hc : E.1 1 < 0
  · have e1 : E.1 1 = -1 := by omega
    have e2 : zend Ks Rs E = zled (E.1 5) (E.1 4) (E.1 0) (E.1 2) := by unfold zend; rw [if_pos hc]
    rw [e2]
    simp (disch := first | omega | assumption | exact zq_r _ | exact zn_0 | exact zo_i _ | exact zo_r _ | exact zq_k _ | exact zq_n | exact zn_1 _ | exact zn_2 _ _ | exact zn_3 _ _ _ | exact zn_4 _ _ _ _ | exact zn_5 _ _ _ _ _ | exact zc_i _ | exact zc_r _ | exact zo_l _ | exact zo_k _ | exact zo_n | exact zc_rk _ | (rw [zx_id (by omega)]; omega) | (rw [zw_id (by omega)]; omega) | (apply z_ok_v; assumption) | (simp only [z_new_1, z_pu_1, mh_1]; omega)) only [z_EvO_some, z_EvG_t, z_Bk_n, z_Bk_s, z_brT, z_brF, z_br_pos, z_br_neg, not_true_eq_false, not_false_eq_true, Bool.true_eq_false, Bool.false_eq_true, Bool.not_eq_false, Bool.not_eq_true, eq_self, z_kl_i, z_kl_l, z_kl_r, z_kl_k, z_kl_n, z_kl_u, z_kl_v, zi_f, zl_f, z_put_r, z_nul_n, z_nul_r, zcmp_lt, zcmp_le, zcmp_ge, zcmp_gt, zcmp_eq, zw_id, zx_id, Nat.reduceAdd, z_tf_i, z_tf_l, z_tf_z, zl_zx, zi_zw, z_gf0, z_gf1, z_gf2, z_gf3, z_gf4, z_gf5, z_gf6, z_gf7, z_pf0, z_pf1, z_pf2, z_pf3, z_pf4, z_pf5, z_pf6, z_pf7, z_ob1, zb_0, zb_1, zb_tf, e111, r111_0, r111_1, r111_4, r111_5, r111_8, r111_9, r111_12, r111_15, r111_16, r111_19, r111_20, r111_23, r111_24, r111_25, r111_28, r111_31, r111_32, r111_33, r111_36, r111_37, r111_40, r111_41, r111_44, r111_45, r111_48, a1, a2, s9 a2]
  · have e2 : zend Ks Rs E = zled (E.1 5) (E.1 4) (E.1 0) (zsn (Ks (E.1 1).toNat) (Rs (E.1 1).toNat) (E.1 4)) := by unfold zend; rw [if_neg hc]
    have hS := h6 (E.1 1).toNat (by omega)
    have hk := ho.2 (E.1 1).toNat (by omega)
    have r6 := zsn_r hk (E.1 4)
    rw [e2]
    simp (disch := first | omega | assumption | exact zq_r _ | exact zn_0 | exact zo_i _ | exact zo_r _ | exact zq_k _ | exact zq_n | exact zn_1 _ | exact zn_2 _ _ | exact zn_3 _ _ _ | exact zn_4 _ _ _ _ | exact zn_5 _ _ _ _ _ | exact zc_i _ | exact zc_r _ | exact zo_l _ | exact zo_k _ | exact zo_n | exact zc_rk _ | (rw [zx_id (by omega)]; omega) | (rw [zw_id (by omega)]; omega) | (apply z_ok_v; assumption) | (simp only [z_new_1, z_pu_1, mh_1]; omega)) only [z_EvO_some, z_EvG_t, z_Bk_n, z_Bk_s, z_brT, z_brF, z_br_pos, z_br_neg, not_true_eq_false, not_false_eq_true, Bool.true_eq_false, Bool.false_eq_true, Bool.not_eq_false, Bool.not_eq_true, eq_self, z_kl_i, z_kl_l, z_kl_r, z_kl_k, z_kl_n, z_kl_u, z_kl_v, zi_f, zl_f, z_put_r, z_nul_n, z_nul_r, zcmp_lt, zcmp_le, zcmp_ge, zcmp_gt, zcmp_eq, zw_id, zx_id, Nat.reduceAdd, z_tf_i, z_tf_l, z_tf_z, zl_zx, zi_zw, z_gf0, z_gf1, z_gf2, z_gf3, z_gf4, z_gf5, z_gf6, z_gf7, z_pf0, z_pf1, z_pf2, z_pf3, z_pf4, z_pf5, z_pf6, z_pf7, z_ob1, zb_0, zb_1, zb_tf, e111, r111_0, r111_1, r111_4, r111_5, r111_8, r111_9, r111_12, r111_15, r111_16, r111_19, r111_20, r111_23, r111_24, r111_25, r111_28, r111_31, r111_32, r111_33, r111_36, r111_37, r111_40, r111_41, r111_44, r111_45, r111_48, a1, a2, s9 a2, h1, h2, zS3_at, zRS_ob hS, t86 hS hk]
theorem l134 (hs : zCS h Es Ks Rs) (ho : zOk Es Ks Rs) (hn : 1 ≤ Es.length) (ht : -9223372036854775808 ≤ t ∧ t ≤ 9223372036854775807) :
    ∀ n : Nat, n ≤ Es.length - 1 → z_Ev 134 2 [.ref 0, zl t, z_um, zi (((Es.length - 1 - n : Nat) : Int))] [] h Q = Q (.inl (some (zi ((zff (fun i => decide (t < zend Ks Rs (Es.getD i zE0))) (Es.length - 1) n : Nat) : Int)))) h := by
  obtain ⟨PE, fc, h1, h2, h3, h4, h5, h6⟩ := id hs
  intro n
  induction n with
  | zero =>
    intro hn
    have e : (((Es.length - 1 - 0 : Nat) : Int)) = (Es.length : Int) - 1 := by omega
    rw [k134_2, e]
    simp (disch := first | omega | assumption | exact zq_r _ | exact zn_0 | exact zo_i _ | exact zo_r _ | exact zq_k _ | exact zq_n | exact zn_1 _ | exact zn_2 _ _ | exact zn_3 _ _ _ | exact zn_4 _ _ _ _ | exact zn_5 _ _ _ _ _ | exact zc_i _ | exact zc_r _ | exact zo_l _ | exact zo_k _ | exact zo_n | exact zc_rk _ | (rw [zx_id (by omega)]; omega) | (rw [zw_id (by omega)]; omega) | (apply z_ok_v; assumption) | (simp only [z_new_1, z_pu_1, mh_1]; omega)) only [z_EvO_some, z_EvG_t, z_Bk_n, z_Bk_s, z_brT, z_brF, z_br_pos, z_br_neg, not_true_eq_false, not_false_eq_true, Bool.true_eq_false, Bool.false_eq_true, Bool.not_eq_false, Bool.not_eq_true, eq_self, z_kl_i, z_kl_l, z_kl_r, z_kl_k, z_kl_n, z_kl_u, z_kl_v, zi_f, zl_f, z_put_r, z_nul_n, z_nul_r, zcmp_lt, zcmp_le, zcmp_ge, zcmp_gt, zcmp_eq, zw_id, zx_id, Nat.reduceAdd, z_tf_i, z_tf_l, z_tf_z, zl_zx, zi_zw, z_gf0, z_gf1, z_gf2, z_gf3, z_gf4, z_gf5, z_gf6, z_gf7, z_pf0, z_pf1, z_pf2, z_pf3, z_pf4, z_pf5, z_pf6, z_pf7, z_ob1, zb_0, zb_1, zb_tf, r134_0, r134_1, r134_3, r134_4, r134_7, r134_8, r134_9, r134_12, r134_13, r134_14, r134_17, r134_18, r134_19, r134_22, r134_23, r134_24, r134_27, r134_28, r134_29, r134_32, r134_35, r134_36, r134_39, r134_40, r134_41, h1]
    show _ = Q (.inl (some (zi (((Es.length - 1 : Nat)) : Int)))) h
    rw [show (((Es.length - 1 : Nat)) : Int) = (Es.length : Int) - 1 by omega]
  | succ n ih =>
    intro hn
    obtain ⟨a, b1, b2⟩ := h5 (Es.length - 1 - (n + 1)) (by omega)
    have hE := ho.E (i := Es.length - 1 - (n + 1)) (by omega)
    obtain ⟨c, p, ss, a1, a2, a3⟩ := id b2
    have r := zend_r hE ho.2
    have e5 : zg_aq (zQA 7 4 PE) (((Es.length - 1 - (n + 1) : Nat) : Int)) = some (.ref a) := by
      show z_aq _ _ = _
      rw [z_aq_A (by omega) (by omega) (by omega), Int.toNat_natCast, b1]
      rfl
    have hz : z_isob (z_at h (.ref 0)) 0 = true := by rw [h1]; rfl
    rw [k134_2]
    by_cases hc : t < zend Ks Rs (Es.getD (Es.length - 1 - (n + 1)) zE0)
    · simp (disch := first | omega | assumption | exact zq_r _ | exact zn_0 | exact zo_i _ | exact zo_r _ | exact zq_k _ | exact zq_n | exact zn_1 _ | exact zn_2 _ _ | exact zn_3 _ _ _ | exact zn_4 _ _ _ _ | exact zn_5 _ _ _ _ _ | exact zc_i _ | exact zc_r _ | exact zo_l _ | exact zo_k _ | exact zo_n | exact zc_rk _ | (rw [zx_id (by omega)]; omega) | (rw [zw_id (by omega)]; omega) | (apply z_ok_v; assumption) | (simp only [z_new_1, z_pu_1, mh_1]; omega)) only [z_EvO_some, z_EvG_t, z_Bk_n, z_Bk_s, z_brT, z_brF, z_br_pos, z_br_neg, not_true_eq_false, not_false_eq_true, Bool.true_eq_false, Bool.false_eq_true, Bool.not_eq_false, Bool.not_eq_true, eq_self, z_kl_i, z_kl_l, z_kl_r, z_kl_k, z_kl_n, z_kl_u, z_kl_v, zi_f, zl_f, z_put_r, z_nul_n, z_nul_r, zcmp_lt, zcmp_le, zcmp_ge, zcmp_gt, zcmp_eq, zw_id, zx_id, Nat.reduceAdd, z_tf_i, z_tf_l, z_tf_z, zl_zx, zi_zw, z_gf0, z_gf1, z_gf2, z_gf3, z_gf4, z_gf5, z_gf6, z_gf7, z_pf0, z_pf1, z_pf2, z_pf3, z_pf4, z_pf5, z_pf6, z_pf7, z_ob1, zb_0, zb_1, zb_tf, r134_0, r134_1, r134_3, r134_4, r134_7, r134_8, r134_9, r134_12, r134_13, r134_14, r134_17, r134_18, r134_19, r134_22, r134_23, r134_24, r134_27, r134_28, r134_29, r134_32, r134_35, r134_36, r134_39, r134_40, r134_41, h1, h3, e5, t111 hs ho b2 hE]
      show _ = Q (.inl (some (zi (((if decide (t < zend Ks Rs (Es.getD (Es.length - 1 - (n + 1)) zE0)) then Es.length - 1 - (n + 1) else _ : Nat)) : Int)))) h
      rw [if_pos (decide_eq_true hc)]
    · have := ih (by omega)
      simp (disch := first | omega | assumption | exact zq_r _ | exact zn_0 | exact zo_i _ | exact zo_r _ | exact zq_k _ | exact zq_n | exact zn_1 _ | exact zn_2 _ _ | exact zn_3 _ _ _ | exact zn_4 _ _ _ _ | exact zn_5 _ _ _ _ _ | exact zc_i _ | exact zc_r _ | exact zo_l _ | exact zo_k _ | exact zo_n | exact zc_rk _ | (rw [zx_id (by omega)]; omega) | (rw [zw_id (by omega)]; omega) | (apply z_ok_v; assumption) | (simp only [z_new_1, z_pu_1, mh_1]; omega)) only [z_EvO_some, z_EvG_t, z_Bk_n, z_Bk_s, z_brT, z_brF, z_br_pos, z_br_neg, not_true_eq_false, not_false_eq_true, Bool.true_eq_false, Bool.false_eq_true, Bool.not_eq_false, Bool.not_eq_true, eq_self, z_kl_i, z_kl_l, z_kl_r, z_kl_k, z_kl_n, z_kl_u, z_kl_v, zi_f, zl_f, z_put_r, z_nul_n, z_nul_r, zcmp_lt, zcmp_le, zcmp_ge, zcmp_gt, zcmp_eq, zw_id, zx_id, Nat.reduceAdd, z_tf_i, z_tf_l, z_tf_z, zl_zx, zi_zw, z_gf0, z_gf1, z_gf2, z_gf3, z_gf4, z_gf5, z_gf6, z_gf7, z_pf0, z_pf1, z_pf2, z_pf3, z_pf4, z_pf5, z_pf6, z_pf7, z_ob1, zb_0, zb_1, zb_tf, r134_0, r134_1, r134_3, r134_4, r134_7, r134_8, r134_9, r134_12, r134_13, r134_14, r134_17, r134_18, r134_19, r134_22, r134_23, r134_24, r134_27, r134_28, r134_29, r134_32, r134_35, r134_36, r134_39, r134_40, r134_41, h1, h3, e5, t111 hs ho b2 hE]
      rw [show ((Es.length - 1 - (n + 1) : Nat) : Int) + 1 = ((Es.length - 1 - n : Nat) : Int) by omega, this]
      show _ = Q (.inl (some (zi (((if decide (t < zend Ks Rs (Es.getD (Es.length - 1 - (n + 1)) zE0)) then Es.length - 1 - (n + 1) else _ : Nat)) : Int)))) h
      rw [decide_eq_false hc]
      rfl
theorem t134 (hs : zCS h Es Ks Rs) (ho : zOk Es Ks Rs) (hn : 1 ≤ Es.length) (ht : -9223372036854775808 ≤ t ∧ t ≤ 9223372036854775807) : z_Cl 134 [.ref 0, zl t] h Q = Q (.inl (some (zi (zen Ks Rs Es t)))) h := by
  have := l134 (Q := Q) hs ho hn ht (Es.length - 1) (Nat.le_refl _)
  rw [Nat.sub_self] at this
  simp (disch := first | omega | assumption | exact zq_r _ | exact zn_0 | exact zo_i _ | exact zo_r _ | exact zq_k _ | exact zq_n | exact zn_1 _ | exact zn_2 _ _ | exact zn_3 _ _ _ | exact zn_4 _ _ _ _ | exact zn_5 _ _ _ _ _ | exact zc_i _ | exact zc_r _ | exact zo_l _ | exact zo_k _ | exact zo_n | exact zc_rk _ | (rw [zx_id (by omega)]; omega) | (rw [zw_id (by omega)]; omega) | (apply z_ok_v; assumption) | (simp only [z_new_1, z_pu_1, mh_1]; omega)) only [z_EvO_some, z_EvG_t, z_Bk_n, z_Bk_s, z_brT, z_brF, z_br_pos, z_br_neg, not_true_eq_false, not_false_eq_true, Bool.true_eq_false, Bool.false_eq_true, Bool.not_eq_false, Bool.not_eq_true, eq_self, z_kl_i, z_kl_l, z_kl_r, z_kl_k, z_kl_n, z_kl_u, z_kl_v, zi_f, zl_f, z_put_r, z_nul_n, z_nul_r, zcmp_lt, zcmp_le, zcmp_ge, zcmp_gt, zcmp_eq, zw_id, zx_id, Nat.reduceAdd, z_tf_i, z_tf_l, z_tf_z, zl_zx, zi_zw, z_gf0, z_gf1, z_gf2, z_gf3, z_gf4, z_gf5, z_gf6, z_gf7, z_pf0, z_pf1, z_pf2, z_pf3, z_pf4, z_pf5, z_pf6, z_pf7, z_ob1, zb_0, zb_1, zb_tf, e134, r134_0, r134_1, r134_3, r134_4, r134_7, r134_8, r134_9, r134_12, r134_13, r134_14, r134_17, r134_18, r134_19, r134_22, r134_23, r134_24, r134_27, r134_28, r134_29, r134_32, r134_35, r134_36, r134_39, r134_40, r134_41]
  exact this
theorem t136 (hs : zCS h Es Ks Rs) (ho : zOk Es Ks Rs) (he : zEq h a E) (hE : zEok E) (ht : -9223372036854775808 ≤ t ∧ t ≤ 9223372036854775807)
    (kk : ∀ v, zRv h v (zru Ks Rs E t) → Q (.inl (some v)) h) : z_Cl 136 [.ref 0, .ref a, zl t] h Q := by
  obtain ⟨PE, fc, h1, h2, h3, h4, h5, h6⟩ := id hs
  obtain ⟨c, p, ss, a1, a2, a3⟩ := id he
  have r2 := hE.1
  have r4 := hE.2.1
  by_cases hc : E.1 1 < 0
  · have e1 : E.1 1 = -1 := by omega
    have := kk .null (by unfold zru; rw [if_pos hc]; rfl)
    simp (disch := first | omega | assumption | exact zq_r _ | exact zn_0 | exact zo_i _ | exact zo_r _ | exact zq_k _ | exact zq_n | exact zn_1 _ | exact zn_2 _ _ | exact zn_3 _ _ _ | exact zn_4 _ _ _ _ | exact zn_5 _ _ _ _ _ | exact zc_i _ | exact zc_r _ | exact zo_l _ | exact zo_k _ | exact zo_n | exact zc_rk _ | (rw [zx_id (by omega)]; omega) | (rw [zw_id (by omega)]; omega) | (apply z_ok_v; assumption) | (simp only [z_new_1, z_pu_1, mh_1]; omega)) only [z_EvO_some, z_EvG_t, z_Bk_n, z_Bk_s, z_brT, z_brF, z_br_pos, z_br_neg, not_true_eq_false, not_false_eq_true, Bool.true_eq_false, Bool.false_eq_true, Bool.not_eq_false, Bool.not_eq_true, eq_self, z_kl_i, z_kl_l, z_kl_r, z_kl_k, z_kl_n, z_kl_u, z_kl_v, zi_f, zl_f, z_put_r, z_nul_n, z_nul_r, zcmp_lt, zcmp_le, zcmp_ge, zcmp_gt, zcmp_eq, zw_id, zx_id, Nat.reduceAdd, z_tf_i, z_tf_l, z_tf_z, zl_zx, zi_zw, z_gf0, z_gf1, z_gf2, z_gf3, z_gf4, z_gf5, z_gf6, z_gf7, z_pf0, z_pf1, z_pf2, z_pf3, z_pf4, z_pf5, z_pf6, z_pf7, z_ob1, zb_0, zb_1, zb_tf, e136, r136_0, r136_1, r136_4, r136_5, r136_8, r136_9, r136_10, r136_11, r136_14, r136_15, r136_18, r136_19, r136_21, r136_23, r136_25, r136_26, r136_27, r136_30, r136_33, r136_36, a1]
    exact this
  · have hS := h6 (E.1 1).toNat (by omega)
    have hk := ho.2 (E.1 1).toNat (by omega)
    have hl : (Ks (E.1 1).toNat).length ≤ 408 := by obtain ⟨rr, ff, P, K, g1, g2, g3, g4, g5, g6, g7⟩ := id hS; exact g5
    have r6 : zlt (Ks (E.1 1).toNat) (Rs (E.1 1).toNat) (E.1 0) t = -1 ∨ (0 ≤ zlt (Ks (E.1 1).toNat) (Rs (E.1 1).toNat) (E.1 0) t ∧ zlt (Ks (E.1 1).toNat) (Rs (E.1 1).toNat) (E.1 0) t < (Ks (E.1 1).toNat).length) := zlf_r _ _
    simp (disch := first | omega | assumption | exact zq_r _ | exact zn_0 | exact zo_i _ | exact zo_r _ | exact zq_k _ | exact zq_n | exact zn_1 _ | exact zn_2 _ _ | exact zn_3 _ _ _ | exact zn_4 _ _ _ _ | exact zn_5 _ _ _ _ _ | exact zc_i _ | exact zc_r _ | exact zo_l _ | exact zo_k _ | exact zo_n | exact zc_rk _ | (rw [zx_id (by omega)]; omega) | (rw [zw_id (by omega)]; omega) | (apply z_ok_v; assumption) | (simp only [z_new_1, z_pu_1, mh_1]; omega)) only [z_EvO_some, z_EvG_t, z_Bk_n, z_Bk_s, z_brT, z_brF, z_br_pos, z_br_neg, not_true_eq_false, not_false_eq_true, Bool.true_eq_false, Bool.false_eq_true, Bool.not_eq_false, Bool.not_eq_true, eq_self, z_kl_i, z_kl_l, z_kl_r, z_kl_k, z_kl_n, z_kl_u, z_kl_v, zi_f, zl_f, z_put_r, z_nul_n, z_nul_r, zcmp_lt, zcmp_le, zcmp_ge, zcmp_gt, zcmp_eq, zw_id, zx_id, Nat.reduceAdd, z_tf_i, z_tf_l, z_tf_z, zl_zx, zi_zw, z_gf0, z_gf1, z_gf2, z_gf3, z_gf4, z_gf5, z_gf6, z_gf7, z_pf0, z_pf1, z_pf2, z_pf3, z_pf4, z_pf5, z_pf6, z_pf7, z_ob1, zb_0, zb_1, zb_tf, e136, r136_0, r136_1, r136_4, r136_5, r136_8, r136_9, r136_10, r136_11, r136_14, r136_15, r136_18, r136_19, r136_21, r136_23, r136_25, r136_26, r136_27, r136_30, r136_33, r136_36, a1, h1, h2, zS3_at, zRS_ob hS, t122 hS hk]
    by_cases hj : zlt (Ks (E.1 1).toNat) (Rs (E.1 1).toNat) (E.1 0) t < 0
    · have := kk .null (by unfold zru; rw [if_neg hc, if_pos hj]; rfl)
      rw [t26n hS (by omega)]
      simp (disch := first | omega | assumption | exact zq_r _ | exact zn_0 | exact zo_i _ | exact zo_r _ | exact zq_k _ | exact zq_n | exact zn_1 _ | exact zn_2 _ _ | exact zn_3 _ _ _ | exact zn_4 _ _ _ _ | exact zn_5 _ _ _ _ _ | exact zc_i _ | exact zc_r _ | exact zo_l _ | exact zo_k _ | exact zo_n | exact zc_rk _ | (rw [zx_id (by omega)]; omega) | (rw [zw_id (by omega)]; omega) | (apply z_ok_v; assumption) | (simp only [z_new_1, z_pu_1, mh_1]; omega)) only [z_EvO_some, z_EvG_t, z_Bk_n, z_Bk_s, z_brT, z_brF, z_br_pos, z_br_neg, not_true_eq_false, not_false_eq_true, Bool.true_eq_false, Bool.false_eq_true, Bool.not_eq_false, Bool.not_eq_true, eq_self, z_kl_i, z_kl_l, z_kl_r, z_kl_k, z_kl_n, z_kl_u, z_kl_v, zi_f, zl_f, z_put_r, z_nul_n, z_nul_r, zcmp_lt, zcmp_le, zcmp_ge, zcmp_gt, zcmp_eq, zw_id, zx_id, Nat.reduceAdd, z_tf_i, z_tf_l, z_tf_z, zl_zx, zi_zw, z_gf0, z_gf1, z_gf2, z_gf3, z_gf4, z_gf5, z_gf6, z_gf7, z_pf0, z_pf1, z_pf2, z_pf3, z_pf4, z_pf5, z_pf6, z_pf7, z_ob1, zb_0, zb_1, zb_tf, r136_0, r136_1, r136_4, r136_5, r136_8, r136_9, r136_10, r136_11, r136_14, r136_15, r136_18, r136_19, r136_21, r136_23, r136_25, r136_26, r136_27, r136_30, r136_33, r136_36]
      exact this
    · refine t26 hS hk (by omega) (fun b hb => ?_)
      have := kk (.ref b) (by unfold zru; rw [if_neg hc, if_neg hj]; exact ⟨b, rfl, hb⟩)
      simp (disch := first | omega | assumption | exact zq_r _ | exact zn_0 | exact zo_i _ | exact zo_r _ | exact zq_k _ | exact zq_n | exact zn_1 _ | exact zn_2 _ _ | exact zn_3 _ _ _ | exact zn_4 _ _ _ _ | exact zn_5 _ _ _ _ _ | exact zc_i _ | exact zc_r _ | exact zo_l _ | exact zo_k _ | exact zo_n | exact zc_rk _ | (rw [zx_id (by omega)]; omega) | (rw [zw_id (by omega)]; omega) | (apply z_ok_v; assumption) | (simp only [z_new_1, z_pu_1, mh_1]; omega)) only [z_EvO_some, z_EvG_t, z_Bk_n, z_Bk_s, z_brT, z_brF, z_br_pos, z_br_neg, not_true_eq_false, not_false_eq_true, Bool.true_eq_false, Bool.false_eq_true, Bool.not_eq_false, Bool.not_eq_true, eq_self, z_kl_i, z_kl_l, z_kl_r, z_kl_k, z_kl_n, z_kl_u, z_kl_v, zi_f, zl_f, z_put_r, z_nul_n, z_nul_r, zcmp_lt, zcmp_le, zcmp_ge, zcmp_gt, zcmp_eq, zw_id, zx_id, Nat.reduceAdd, z_tf_i, z_tf_l, z_tf_z, zl_zx, zi_zw, z_gf0, z_gf1, z_gf2, z_gf3, z_gf4, z_gf5, z_gf6, z_gf7, z_pf0, z_pf1, z_pf2, z_pf3, z_pf4, z_pf5, z_pf6, z_pf7, z_ob1, zb_0, zb_1, zb_tf, r136_0, r136_1, r136_4, r136_5, r136_8, r136_9, r136_10, r136_11, r136_14, r136_15, r136_18, r136_19, r136_21, r136_23, r136_25, r136_26, r136_27, r136_30, r136_33, r136_36]
      exact this
theorem t13 (he : zEq h a E) (hE : zEok E) (hv : zRv h v o) (hr : ∀ R, o = some R → zRok R) : z_Cl 13 [.ref a, v] h Q = Q (.inl (some (zi (zsv E o)))) h := by
  obtain ⟨c, p, ss, a1, a2, a3⟩ := id he
  have hrf := hv.rf
  have r3 := hE.2.2.1
  have r4 := hE.2.1
  unfold zsv
  by_cases hc : E.1 1 < 0
  · have e1 : E.1 1 = -1 := by omega
    rw [if_pos hc]
    simp (disch := first | omega | assumption | exact zq_r _ | exact zn_0 | exact zo_i _ | exact zo_r _ | exact zq_k _ | exact zq_n | exact zn_1 _ | exact zn_2 _ _ | exact zn_3 _ _ _ | exact zn_4 _ _ _ _ | exact zn_5 _ _ _ _ _ | exact zc_i _ | exact zc_r _ | exact zo_l _ | exact zo_k _ | exact zo_n | exact zc_rk _ | (rw [zx_id (by omega)]; omega) | (rw [zw_id (by omega)]; omega) | (apply z_ok_v; assumption) | (simp only [z_new_1, z_pu_1, mh_1]; omega)) only [z_EvO_some, z_EvG_t, z_Bk_n, z_Bk_s, z_brT, z_brF, z_br_pos, z_br_neg, not_true_eq_false, not_false_eq_true, Bool.true_eq_false, Bool.false_eq_true, Bool.not_eq_false, Bool.not_eq_true, eq_self, z_kl_i, z_kl_l, z_kl_r, z_kl_k, z_kl_n, z_kl_u, z_kl_v, zi_f, zl_f, z_put_r, z_nul_n, z_nul_r, zcmp_lt, zcmp_le, zcmp_ge, zcmp_gt, zcmp_eq, zw_id, zx_id, Nat.reduceAdd, z_tf_i, z_tf_l, z_tf_z, zl_zx, zi_zw, z_gf0, z_gf1, z_gf2, z_gf3, z_gf4, z_gf5, z_gf6, z_gf7, z_pf0, z_pf1, z_pf2, z_pf3, z_pf4, z_pf5, z_pf6, z_pf7, z_ob1, zb_0, zb_1, zb_tf, e13, r13_0, r13_1, r13_4, r13_5, r13_8, r13_9, r13_12, r13_13, r13_14, r13_17, r13_18, r13_21, r13_22, r13_25, a1]
  · rw [if_neg hc]
    cases o with
    | none =>
      cases hv
      simp (disch := first | omega | assumption | exact zq_r _ | exact zn_0 | exact zo_i _ | exact zo_r _ | exact zq_k _ | exact zq_n | exact zn_1 _ | exact zn_2 _ _ | exact zn_3 _ _ _ | exact zn_4 _ _ _ _ | exact zn_5 _ _ _ _ _ | exact zc_i _ | exact zc_r _ | exact zo_l _ | exact zo_k _ | exact zo_n | exact zc_rk _ | (rw [zx_id (by omega)]; omega) | (rw [zw_id (by omega)]; omega) | (apply z_ok_v; assumption) | (simp only [z_new_1, z_pu_1, mh_1]; omega)) only [z_EvO_some, z_EvG_t, z_Bk_n, z_Bk_s, z_brT, z_brF, z_br_pos, z_br_neg, not_true_eq_false, not_false_eq_true, Bool.true_eq_false, Bool.false_eq_true, Bool.not_eq_false, Bool.not_eq_true, eq_self, z_kl_i, z_kl_l, z_kl_r, z_kl_k, z_kl_n, z_kl_u, z_kl_v, zi_f, zl_f, z_put_r, z_nul_n, z_nul_r, zcmp_lt, zcmp_le, zcmp_ge, zcmp_gt, zcmp_eq, zw_id, zx_id, Nat.reduceAdd, z_tf_i, z_tf_l, z_tf_z, zl_zx, zi_zw, z_gf0, z_gf1, z_gf2, z_gf3, z_gf4, z_gf5, z_gf6, z_gf7, z_pf0, z_pf1, z_pf2, z_pf3, z_pf4, z_pf5, z_pf6, z_pf7, z_ob1, zb_0, zb_1, zb_tf, e13, r13_0, r13_1, r13_4, r13_5, r13_8, r13_9, r13_12, r13_13, r13_14, r13_17, r13_18, r13_21, r13_22, r13_25, a1]
    | some R =>
      obtain ⟨b, rfl, d, cc, v, b1, -⟩ := hv
      have := (hr R rfl).2.2.2.2.2.2.2.2.1
      simp (disch := first | omega | assumption | exact zq_r _ | exact zn_0 | exact zo_i _ | exact zo_r _ | exact zq_k _ | exact zq_n | exact zn_1 _ | exact zn_2 _ _ | exact zn_3 _ _ _ | exact zn_4 _ _ _ _ | exact zn_5 _ _ _ _ _ | exact zc_i _ | exact zc_r _ | exact zo_l _ | exact zo_k _ | exact zo_n | exact zc_rk _ | (rw [zx_id (by omega)]; omega) | (rw [zw_id (by omega)]; omega) | (apply z_ok_v; assumption) | (simp only [z_new_1, z_pu_1, mh_1]; omega)) only [z_EvO_some, z_EvG_t, z_Bk_n, z_Bk_s, z_brT, z_brF, z_br_pos, z_br_neg, not_true_eq_false, not_false_eq_true, Bool.true_eq_false, Bool.false_eq_true, Bool.not_eq_false, Bool.not_eq_true, eq_self, z_kl_i, z_kl_l, z_kl_r, z_kl_k, z_kl_n, z_kl_u, z_kl_v, zi_f, zl_f, z_put_r, z_nul_n, z_nul_r, zcmp_lt, zcmp_le, zcmp_ge, zcmp_gt, zcmp_eq, zw_id, zx_id, Nat.reduceAdd, z_tf_i, z_tf_l, z_tf_z, zl_zx, zi_zw, z_gf0, z_gf1, z_gf2, z_gf3, z_gf4, z_gf5, z_gf6, z_gf7, z_pf0, z_pf1, z_pf2, z_pf3, z_pf4, z_pf5, z_pf6, z_pf7, z_ob1, zb_0, zb_1, zb_tf, e13, r13_0, r13_1, r13_4, r13_5, r13_8, r13_9, r13_12, r13_13, r13_14, r13_17, r13_18, r13_21, r13_22, r13_25, a1, b1]
theorem t80 (he : zEq h a E) (hE : zEok E) (hv : zRv h v o) (hr : ∀ R, o = some R → zRok R) : z_Cl 80 [.ref a, v] h Q = Q (.inl (some (zi (E.1 0 + zsv E o)))) h := by
  obtain ⟨c, p, ss, a1, a2, a3⟩ := id he
  have hrf := hv.rf
  have r2 := hE.1
  have r5 := zsv_r hE hr
  simp (disch := first | omega | assumption | exact zq_r _ | exact zn_0 | exact zo_i _ | exact zo_r _ | exact zq_k _ | exact zq_n | exact zn_1 _ | exact zn_2 _ _ | exact zn_3 _ _ _ | exact zn_4 _ _ _ _ | exact zn_5 _ _ _ _ _ | exact zc_i _ | exact zc_r _ | exact zo_l _ | exact zo_k _ | exact zo_n | exact zc_rk _ | (rw [zx_id (by omega)]; omega) | (rw [zw_id (by omega)]; omega) | (apply z_ok_v; assumption) | (simp only [z_new_1, z_pu_1, mh_1]; omega)) only [z_EvO_some, z_EvG_t, z_Bk_n, z_Bk_s, z_brT, z_brF, z_br_pos, z_br_neg, not_true_eq_false, not_false_eq_true, Bool.true_eq_false, Bool.false_eq_true, Bool.not_eq_false, Bool.not_eq_true, eq_self, z_kl_i, z_kl_l, z_kl_r, z_kl_k, z_kl_n, z_kl_u, z_kl_v, zi_f, zl_f, z_put_r, z_nul_n, z_nul_r, zcmp_lt, zcmp_le, zcmp_ge, zcmp_gt, zcmp_eq, zw_id, zx_id, Nat.reduceAdd, z_tf_i, z_tf_l, z_tf_z, zl_zx, zi_zw, z_gf0, z_gf1, z_gf2, z_gf3, z_gf4, z_gf5, z_gf6, z_gf7, z_pf0, z_pf1, z_pf2, z_pf3, z_pf4, z_pf5, z_pf6, z_pf7, z_ob1, zb_0, zb_1, zb_tf, e80, r80_0, r80_1, r80_4, r80_5, r80_6, r80_9, r80_10, a1, t13 he hE hv hr]
theorem t148 (hs : zCS h Es Ks Rs) (ho : zOk Es Ks Rs) (hn : 1 ≤ Es.length) (ht : -9223372036854775808 ≤ t ∧ t ≤ 9223372036854775807) : z_Cl 148 [.ref 0, zl t] h Q = Q (.inl (some (zi (zoff Ks Rs Es t)))) h := by
  apply z_Cl_eq
  obtain ⟨PE, fc, h1, h2, h3, h4, h5, h6⟩ := id hs
  have hz : zen Ks Rs Es t ≤ Es.length - 1 := zff_r _ _ _
  obtain ⟨a, b1, b2⟩ := h5 (zen Ks Rs Es t) (by omega)
  obtain ⟨c, p, ss, a1, a2, a3⟩ := id b2
  have hE := ho.E (i := zen Ks Rs Es t) (by omega)
  have e5 : zg_aq (zQA 7 4 PE) ((zen Ks Rs Es t : Nat) : Int) = some (.ref a) := by
    show z_aq _ _ = _
    rw [z_aq_A (by omega) (by omega) (by omega), Int.toNat_natCast, b1]
    rfl
  simp (disch := first | omega | assumption | exact zq_r _ | exact zn_0 | exact zo_i _ | exact zo_r _ | exact zq_k _ | exact zq_n | exact zn_1 _ | exact zn_2 _ _ | exact zn_3 _ _ _ | exact zn_4 _ _ _ _ | exact zn_5 _ _ _ _ _ | exact zc_i _ | exact zc_r _ | exact zo_l _ | exact zo_k _ | exact zo_n | exact zc_rk _ | (rw [zx_id (by omega)]; omega) | (rw [zw_id (by omega)]; omega) | (apply z_ok_v; assumption) | (simp only [z_new_1, z_pu_1, mh_1]; omega)) only [z_EvO_some, z_EvG_t, z_Bk_n, z_Bk_s, z_brT, z_brF, z_br_pos, z_br_neg, not_true_eq_false, not_false_eq_true, Bool.true_eq_false, Bool.false_eq_true, Bool.not_eq_false, Bool.not_eq_true, eq_self, z_kl_i, z_kl_l, z_kl_r, z_kl_k, z_kl_n, z_kl_u, z_kl_v, zi_f, zl_f, z_put_r, z_nul_n, z_nul_r, zcmp_lt, zcmp_le, zcmp_ge, zcmp_gt, zcmp_eq, zw_id, zx_id, Nat.reduceAdd, z_tf_i, z_tf_l, z_tf_z, zl_zx, zi_zw, z_gf0, z_gf1, z_gf2, z_gf3, z_gf4, z_gf5, z_gf6, z_gf7, z_pf0, z_pf1, z_pf2, z_pf3, z_pf4, z_pf5, z_pf6, z_pf7, z_ob1, zb_0, zb_1, zb_tf, e148, r148_0, r148_1, r148_4, r148_5, r148_6, r148_9, r148_10, r148_11, r148_12, r148_13, r148_14, r148_15, r148_18, r148_21, h1, h3, t134 hs ho hn ht, e5]
  refine t136 hs ho b2 hE ht (fun v hv => ?_)
  have hrf := hv.rf
  simp (disch := first | omega | assumption | exact zq_r _ | exact zn_0 | exact zo_i _ | exact zo_r _ | exact zq_k _ | exact zq_n | exact zn_1 _ | exact zn_2 _ _ | exact zn_3 _ _ _ | exact zn_4 _ _ _ _ | exact zn_5 _ _ _ _ _ | exact zc_i _ | exact zc_r _ | exact zo_l _ | exact zo_k _ | exact zo_n | exact zc_rk _ | (rw [zx_id (by omega)]; omega) | (rw [zw_id (by omega)]; omega) | (apply z_ok_v; assumption) | (simp only [z_new_1, z_pu_1, mh_1]; omega)) only [z_EvO_some, z_EvG_t, z_Bk_n, z_Bk_s, z_brT, z_brF, z_br_pos, z_br_neg, not_true_eq_false, not_false_eq_true, Bool.true_eq_false, Bool.false_eq_true, Bool.not_eq_false, Bool.not_eq_true, eq_self, z_kl_i, z_kl_l, z_kl_r, z_kl_k, z_kl_n, z_kl_u, z_kl_v, zi_f, zl_f, z_put_r, z_nul_n, z_nul_r, zcmp_lt, zcmp_le, zcmp_ge, zcmp_gt, zcmp_eq, zw_id, zx_id, Nat.reduceAdd, z_tf_i, z_tf_l, z_tf_z, zl_zx, zi_zw, z_gf0, z_gf1, z_gf2, z_gf3, z_gf4, z_gf5, z_gf6, z_gf7, z_pf0, z_pf1, z_pf2, z_pf3, z_pf4, z_pf5, z_pf6, z_pf7, z_ob1, zb_0, zb_1, zb_tf, r148_0, r148_1, r148_4, r148_5, r148_6, r148_9, r148_10, r148_11, r148_12, r148_13, r148_14, r148_15, r148_18, r148_21, a1, t80 b2 hE hv (fun R hR => zru_ok hE ho.2 hR)]
  exact ⟨rfl, trivial⟩
end ZCS
