/-! rules: the class -/
/-- a rule: 0 its set, 1 from, 2 to, 3 month, 4 5 6 DAY (how, which, number), 7 8 CLOCK (seconds, base), 9 save; and its letters -/
abbrev zRu : Type := (Nat → Int) × List Int
def zyr (w : List Int) : Int := if w.length = 4 ∧ 1970 ≤ zdgs w 0 ∧ zdgs w 0 ≤ 2037 then zdgs w 0 else -1000000
def zst (w : List Int) : Int := if w.length = 1 ∧ zdgs w 0 ≤ 2 then zdgs w 0 else -1000000
def zmo (w : List Int) : Int := if zmnm w = -1000000 then -1000000 else zmnm w + 1
def zlY (w : List Int) (fr : Int) : Int := if w = [111, 110, 108, 121] then fr else if w = [109, 97, 120] then 2037 else zyr w
def zltr (w : List Int) : List Int := if w = [45] then [] else w
/-- the rule that nine words say -/
def zruleP (W : Nat → List Int) : Option zRu :=
  match zdayP (W 5) with
  | none => none
  | some d => if zyr (W 2) = -1000000 ∨ zlY (W 3) (zyr (W 2)) = -1000000 ∨ zlY (W 3) (zyr (W 2)) < zyr (W 2) ∨ (zclk (W 6)).1 < 0 ∨ zst (W 1) = -1000000 ∨ zmo (W 4) = -1000000 ∨ ztime (W 7) = -1000000 ∨ 3 < (zltr (W 8)).length then none
    else some (fun k => [zst (W 1), zyr (W 2), zlY (W 3) (zyr (W 2)), zmo (W 4), d.1, d.2.1, d.2.2, (zclk (W 6)).1, (zclk (W 6)).2, ztime (W 7)].getD k 0, zltr (W 8))
theorem zyr_r (w : List Int) : zyr w = -1000000 ∨ (1970 ≤ zyr w ∧ zyr w ≤ 2037) := by
  unfold zyr; split <;> omega
theorem zlY_r (w : List Int) (fr : Int) (hf : fr = -1000000 ∨ (1970 ≤ fr ∧ fr ≤ 2037)) : zlY w fr = -1000000 ∨ (1970 ≤ zlY w fr ∧ zlY w fr ≤ 2037) := by
  have := zyr_r w
  unfold zlY; (repeat' split) <;> omega
theorem zst_r (w : List Int) : zst w = -1000000 ∨ (0 ≤ zst w ∧ zst w ≤ 2) := by
  unfold zst; split
  · rename_i h1
    obtain ⟨h1, h2⟩ := h1
    match w, h1 with
    | [c], _ => 
      by_cases hc : zdig c = true
      · right
        have : zdgs [c] 0 = c - 48 := by simp [zdgs, hc]
        have h3 := (zdig_iff c).mp hc
        rw [this] at h2 ⊢; omega
      · left
        simp [zdgs, hc]
  · exact Or.inl rfl
theorem zmo_r (w : List Int) : zmo w = -1000000 ∨ (1 ≤ zmo w ∧ zmo w ≤ 12) := by
  have := zun_r (fun m => zbg zMONTHS (10 * m) w) 12
  have e : zun (fun m => zbg zMONTHS (10 * m) w) 12 = zmnm w := rfl
  rw [e] at this
  unfold zmo; split <;> omega
theorem zLit.R {h : zH} (hL : zLit h) : zSt h (.retAddr 10) [82] := hL 5 _ rfl
theorem zLit.only {h : zH} (hL : zLit h) : zSt h (.retAddr 12) [111, 110, 108, 121] := hL 6 _ rfl
theorem zLit.max {h : zH} (hL : zLit h) : zSt h (.retAddr 14) [109, 97, 120] := hL 7 _ rfl
theorem zLit.minus {h : zH} (hL : zLit h) : zSt h (.retAddr 22) [45] := hL 11 _ rfl
theorem zLit.e2 {h : zH} (hL : zLit h) : zSt h (.retAddr 24) [] := hL 12 _ rfl
/-- a cell that is no object of that class stays -/
theorem zEy.at2 {h h1 : zH} {a A B c : Nat} {fs : List Value} (x : zEy (fun y => y = a) h h1 A B) (hF : zFr h) (ha : z_at h (.ref a) = .inr (c, fs)) {v : Value} (hv : z_isref v = true) {e : zE} (he : z_at h v = e) (hn : e ≠ z_jk) (hc : ∀ fs', e ≠ .inr (c, fs')) : z_at h1 v = e :=
  x.at hF hv he hn (fun b hb hba => by
    subst hb
    subst hba
    rw [ha] at he
    exact hc fs he.symm)
theorem zA_no {t n c : Nat} {u : Nat → Int} (fs : List Value) : zA t n u ≠ .inr (c, fs) := by unfold zA; exact fun q => by cases q
theorem zo_no {c d : Nat} {fs : List Value} (hc : c ≠ d) (fs' : List Value) : (.inr (c, fs) : zE) ≠ .inr (d, fs') := by
  intro q
  exact hc (Prod.mk.inj (Sum.inr.inj q)).1
theorem zSt.ey {h h1 : zH} {a A B c : Nat} {fs : List Value} {v : Value} {w : List Int} (hs : zSt h v w) (x : zEy (fun y => y = a) h h1 A B) (hF : zFr h) (ha : z_at h (.ref a) = .inr (c, fs)) (hc : 2 ≠ c) : zSt h1 v w := by
  obtain ⟨vv, r, u, q1, q2, q3, q4, q5⟩ := hs
  exact ⟨vv, r, u, q1, x.at2 hF ha q1 q2 (zo_jk (by decide)) (zo_no hc), q3, x.at2 hF ha q3 q4 zA_jk zA_no, q5⟩
theorem zLit.ey {h h1 : zH} {a A B c : Nat} {fs : List Value} (hL : zLit h) (x : zEy (fun y => y = a) h h1 A B) (hF : zFr h) (ha : z_at h (.ref a) = .inr (c, fs)) (hc : 2 ≠ c) : zLit h1 := fun j y hy => (hL j y hy).ey x hF ha hc
theorem zSd.ey {L : Nat} {h h1 : zH} {a A B c : Nat} {fs : List Value} {p : Nat} {w : List Int} (hs : zSd L h p w) (x : zEy (fun y => y = a) h h1 A B) (hF : zFr h) (ha : z_at h (.ref a) = .inr (c, fs)) (hc : 2 ≠ c) : zSd L h1 p w := by
  obtain ⟨q, r, u, q0, q1, q2, q3⟩ := hs
  exact ⟨q, r, u, q0, x.at2 hF ha rfl q1 (zo_jk (by decide)) (zo_no hc), x.at2 hF ha rfl q2 zA_jk zA_no, q3⟩
theorem zLn.ey {L : Nat} {h h1 : zH} {a A B c : Nat} {fs : List Value} {p : Nat} {w : List Int} (hs : zLn L h p w) (x : zEy (fun y => y = a) h h1 A B) (hF : zFr h) (ha : z_at h (.ref a) = .inr (c, fs)) (hc : 2 ≠ c) (hc6 : 6 ≠ c) : zLn L h1 p w := by
  obtain ⟨t, sa, ea, B', E', q1, q2, q3, q4, q5⟩ := hs
  exact ⟨t, sa, ea, B', E', x.at2 hF ha rfl q1 (zo_jk (by decide)) (zo_no hc6), q2.ey x hF ha hc, x.at2 hF ha rfl q3 zA_jk zA_no, x.at2 hF ha rfl q4 zA_jk zA_no, q5⟩
/-- a String made here, or the literal "" at k -/
def zSw (L k : Nat) (h : zH) (v : Value) (w : List Int) : Prop := (∃ p, v = .ref p ∧ zSd L h p w) ∨ (v = .retAddr k ∧ w = [] ∧ zSt h v w)
theorem zSw.st {L k : Nat} {h : zH} {v : Value} {w : List Int} (hs : zSw L k h v w) : zSt h v w := by
  rcases hs with ⟨p, rfl, h1⟩ | ⟨rfl, rfl, h1⟩
  · exact h1.st
  · exact h1
section ZRp
variable {L : Nat} {h : zH} {Q : zO → zH → Prop} {fr to : Int} {w : List Int} {p a d c : Nat} {v v0 v1 v2 v3 v4 v5 v6 v7 : Value}
theorem t192 (hL : zLit h) (hs : zSt h (.ref p) w) (hf : fr = -1000000 ∨ (1970 ≤ fr ∧ fr ≤ 2037)) : z_Cl 192 [.ref p, zi fr] h Q = Q (.inl (some (zi (zlY w fr)))) h := by
  unfold zlY
  by_cases h1 : w = [111, 110, 108, 121]
  · rw [if_pos h1]
    simp (disch := first | omega | assumption | exact zq_r _ | exact zn_0 | exact zo_i _ | exact zo_r _ | exact zq_k _ | exact zq_n | exact zn_1 _ | exact zn_2 _ _ | exact zn_3 _ _ _ | exact zn_4 _ _ _ _ | exact zn_5 _ _ _ _ _ | exact zc_i _ | exact zc_r _ | exact zo_l _ | exact zo_k _ | exact zo_n | exact zc_rk _ | (rw [zx_id (by omega)]; omega) | (rw [zw_id (by omega)]; omega) | (apply z_ok_v; assumption) | (simp only [z_new_1, z_pu_1, mh_1]; omega)) only [z_EvO_some, z_EvG_t, z_Bk_n, z_Bk_s, z_brT, z_brF, z_br_pos, z_br_neg, not_true_eq_false, not_false_eq_true, Bool.true_eq_false, Bool.false_eq_true, Bool.not_eq_false, Bool.not_eq_true, eq_self, z_kl_i, z_kl_l, z_kl_r, z_kl_k, z_kl_n, z_kl_u, z_kl_v, zi_f, zl_f, z_put_r, z_nul_n, z_nul_r, zcmp_lt, zcmp_le, zcmp_ge, zcmp_gt, zcmp_eq, zw_id, zx_id, Nat.reduceAdd, z_tf_i, z_tf_l, z_tf_z, zl_zx, zi_zw, z_gf0, z_gf1, z_gf2, z_gf3, z_gf4, z_gf5, z_gf6, z_gf7, z_pf0, z_pf1, z_pf2, z_pf3, z_pf4, z_pf5, z_pf6, z_pf7, z_ob1, zb_0, zb_1, zb_tf, e192, r192_0, r192_1, r192_3, r192_6, r192_9, r192_10, r192_11, r192_12, r192_14, r192_17, r192_20, r192_23, r192_26, r192_27, r192_30, zSt_ob hs, t102 hs hL.only, decide_eq_true h1]
  · rw [if_neg h1]
    by_cases h2 : w = [109, 97, 120]
    · rw [if_pos h2]
      simp (disch := first | omega | assumption | exact zq_r _ | exact zn_0 | exact zo_i _ | exact zo_r _ | exact zq_k _ | exact zq_n | exact zn_1 _ | exact zn_2 _ _ | exact zn_3 _ _ _ | exact zn_4 _ _ _ _ | exact zn_5 _ _ _ _ _ | exact zc_i _ | exact zc_r _ | exact zo_l _ | exact zo_k _ | exact zo_n | exact zc_rk _ | (rw [zx_id (by omega)]; omega) | (rw [zw_id (by omega)]; omega) | (apply z_ok_v; assumption) | (simp only [z_new_1, z_pu_1, mh_1]; omega)) only [z_EvO_some, z_EvG_t, z_Bk_n, z_Bk_s, z_brT, z_brF, z_br_pos, z_br_neg, not_true_eq_false, not_false_eq_true, Bool.true_eq_false, Bool.false_eq_true, Bool.not_eq_false, Bool.not_eq_true, eq_self, z_kl_i, z_kl_l, z_kl_r, z_kl_k, z_kl_n, z_kl_u, z_kl_v, zi_f, zl_f, z_put_r, z_nul_n, z_nul_r, zcmp_lt, zcmp_le, zcmp_ge, zcmp_gt, zcmp_eq, zw_id, zx_id, Nat.reduceAdd, z_tf_i, z_tf_l, z_tf_z, zl_zx, zi_zw, z_gf0, z_gf1, z_gf2, z_gf3, z_gf4, z_gf5, z_gf6, z_gf7, z_pf0, z_pf1, z_pf2, z_pf3, z_pf4, z_pf5, z_pf6, z_pf7, z_ob1, zb_0, zb_1, zb_tf, e192, r192_0, r192_1, r192_3, r192_6, r192_9, r192_10, r192_11, r192_12, r192_14, r192_17, r192_20, r192_23, r192_26, r192_27, r192_30, zSt_ob hs, t102 hs hL.only, t102 hs hL.max, decide_eq_false h1, decide_eq_true h2]
    · rw [if_neg h2]
      simp (disch := first | omega | assumption | exact zq_r _ | exact zn_0 | exact zo_i _ | exact zo_r _ | exact zq_k _ | exact zq_n | exact zn_1 _ | exact zn_2 _ _ | exact zn_3 _ _ _ | exact zn_4 _ _ _ _ | exact zn_5 _ _ _ _ _ | exact zc_i _ | exact zc_r _ | exact zo_l _ | exact zo_k _ | exact zo_n | exact zc_rk _ | (rw [zx_id (by omega)]; omega) | (rw [zw_id (by omega)]; omega) | (apply z_ok_v; assumption) | (simp only [z_new_1, z_pu_1, mh_1]; omega)) only [z_EvO_some, z_EvG_t, z_Bk_n, z_Bk_s, z_brT, z_brF, z_br_pos, z_br_neg, not_true_eq_false, not_false_eq_true, Bool.true_eq_false, Bool.false_eq_true, Bool.not_eq_false, Bool.not_eq_true, eq_self, z_kl_i, z_kl_l, z_kl_r, z_kl_k, z_kl_n, z_kl_u, z_kl_v, zi_f, zl_f, z_put_r, z_nul_n, z_nul_r, zcmp_lt, zcmp_le, zcmp_ge, zcmp_gt, zcmp_eq, zw_id, zx_id, Nat.reduceAdd, z_tf_i, z_tf_l, z_tf_z, zl_zx, zi_zw, z_gf0, z_gf1, z_gf2, z_gf3, z_gf4, z_gf5, z_gf6, z_gf7, z_pf0, z_pf1, z_pf2, z_pf3, z_pf4, z_pf5, z_pf6, z_pf7, z_ob1, zb_0, zb_1, zb_tf, e192, r192_0, r192_1, r192_3, r192_6, r192_9, r192_10, r192_11, r192_12, r192_14, r192_17, r192_20, r192_23, r192_26, r192_27, r192_30, zSt_ob hs, t102 hs hL.only, t102 hs hL.max, decide_eq_false h1, decide_eq_false h2, s175 hs]
      rfl
theorem t121 {st mo sv : Int} (hs : z_at h (.ref a) = .inr (9, [zi st, v1, v2, zi mo, v4, v5, zi sv, v])) (hv : zSt h v w) (h1 : -1000000 ≤ st ∧ st ≤ 100000) (h2 : -1000000 ≤ mo ∧ mo ≤ 100000) (h3 : -1000000 ≤ sv ∧ sv ≤ 100000) : z_Cl 121 [.ref a] h Q = Q (.inl (some (zi (if st = -1000000 ∨ mo = -1000000 ∨ sv = -1000000 ∨ 3 < w.length then 0 else 1)))) h := by
  have hrf := zSt_rf hv
  have hw := zSt_w hv
  have t0 : z_tf .boolean (zi 0) = true := by decide
  have t1 : z_tf .boolean (zi 1) = true := by decide
  simp (disch := first | omega | assumption | exact zq_r _ | exact zn_0 | exact zo_i _ | exact zo_r _ | exact zq_k _ | exact zq_n | exact zn_1 _ | exact zn_2 _ _ | exact zn_3 _ _ _ | exact zn_4 _ _ _ _ | exact zn_5 _ _ _ _ _ | exact zc_i _ | exact zc_r _ | exact zo_l _ | exact zo_k _ | exact zo_n | exact zc_rk _ | (rw [zx_id (by omega)]; omega) | (rw [zw_id (by omega)]; omega) | (apply z_ok_v; assumption) | (simp only [z_new_1, z_pu_1, mh_1]; omega)) only [z_EvO_some, z_EvG_t, z_Bk_n, z_Bk_s, z_brT, z_brF, z_br_pos, z_br_neg, not_true_eq_false, not_false_eq_true, Bool.true_eq_false, Bool.false_eq_true, Bool.not_eq_false, Bool.not_eq_true, eq_self, z_kl_i, z_kl_l, z_kl_r, z_kl_k, z_kl_n, z_kl_u, z_kl_v, zi_f, zl_f, z_put_r, z_nul_n, z_nul_r, zcmp_lt, zcmp_le, zcmp_ge, zcmp_gt, zcmp_eq, zw_id, zx_id, Nat.reduceAdd, z_tf_i, z_tf_l, z_tf_z, zl_zx, zi_zw, z_gf0, z_gf1, z_gf2, z_gf3, z_gf4, z_gf5, z_gf6, z_gf7, z_pf0, z_pf1, z_pf2, z_pf3, z_pf4, z_pf5, z_pf6, z_pf7, z_ob1, zb_0, zb_1, zb_tf, e121, r121_0, r121_1, r121_4, r121_6, r121_9, r121_10, r121_13, r121_15, r121_18, r121_19, r121_22, r121_24, r121_27, r121_28, r121_31, r121_34, r121_35, r121_38, r121_39, r121_42, r121_43, hs]
  repeat' (first | refine z_br_eq (fun _ => ?_) (fun _ => ?_) | simp (disch := first | omega | assumption | exact zq_r _ | exact zn_0 | exact zo_i _ | exact zo_r _ | exact zq_k _ | exact zq_n | exact zn_1 _ | exact zn_2 _ _ | exact zn_3 _ _ _ | exact zn_4 _ _ _ _ | exact zn_5 _ _ _ _ _ | exact zc_i _ | exact zc_r _ | exact zo_l _ | exact zo_k _ | exact zo_n | exact zc_rk _ | (rw [zx_id (by omega)]; omega) | (rw [zw_id (by omega)]; omega) | (apply z_ok_v; assumption) | (simp only [z_new_1, z_pu_1, mh_1]; omega)) only [z_EvO_some, z_EvG_t, z_Bk_n, z_Bk_s, z_brT, z_brF, z_br_pos, z_br_neg, not_true_eq_false, not_false_eq_true, Bool.true_eq_false, Bool.false_eq_true, Bool.not_eq_false, Bool.not_eq_true, eq_self, z_kl_i, z_kl_l, z_kl_r, z_kl_k, z_kl_n, z_kl_u, z_kl_v, zi_f, zl_f, z_put_r, z_nul_n, z_nul_r, zcmp_lt, zcmp_le, zcmp_ge, zcmp_gt, zcmp_eq, zw_id, zx_id, Nat.reduceAdd, z_tf_i, z_tf_l, z_tf_z, zl_zx, zi_zw, z_gf0, z_gf1, z_gf2, z_gf3, z_gf4, z_gf5, z_gf6, z_gf7, z_pf0, z_pf1, z_pf2, z_pf3, z_pf4, z_pf5, z_pf6, z_pf7, z_ob1, zb_0, zb_1, zb_tf, r121_0, r121_1, r121_4, r121_6, r121_9, r121_10, r121_13, r121_15, r121_18, r121_19, r121_22, r121_24, r121_27, r121_28, r121_31, r121_34, r121_35, r121_38, r121_39, r121_42, r121_43, hs, t103 hv, zSt_ob hv, t0, t1])
  all_goals ((repeat' split) <;> first | rfl | (exfalso; omega))
theorem t206 (hF : zFr h) (hL : zLit h) (hl : zLn L h p w) (h9 : zwn w = 9) (ha : z_at h (.ref a) = .inr (9, [v0, v1, v2, v3, v4, v5, v6, v7]))
    (kk : ∀ h' v', zEy (fun y => y = a) h h' 10 5020 → z_at h' (.ref a) = .inr (9, [zi (zst (zwd_ w 1)), zi fr, zi to, zi (zmo (zwd_ w 4)), .ref d, .ref c, zi (ztime (zwd_ w 7)), v']) → zSw L 24 h' v' (zltr (zwd_ w 8)) → Q (.inl none) h') : z_Cl 206 [.ref a, .ref p, zi fr, zi to, .ref d, .ref c] h Q := by
  obtain ⟨t, sa, ea, B, E, qp, -⟩ := id hl
  have hal : a < h.1 := zFr_lt hF ha (zo_jk (by decide))
  have td : ∀ x : Nat, z_tf (.object "ZoneDesk$Day") (.ref x) = true := fun x => rfl
  have tc : ∀ x : Nat, z_tf (.object "ZoneDesk$Clock") (.ref x) = true := fun x => rfl
  have ts : ∀ x : Nat, z_tf (.object "java/lang/String") (.ref x) = true := fun x => rfl
  have ts2 : ∀ x : Nat, z_tf (.object "java/lang/String") (.retAddr x) = true := fun x => rfl
  have o6 : z_isob (z_at h (.ref p)) 6 = true := by rw [qp]; rfl
  have hr := zst_r (zwd_ w 1)
  have hm := zmo_r (zwd_ w 4)
  have ht := ztime_r (zwd_ w 7)
  -- the heaps on the way
  have stp : ∀ (H : zH) (fs : List Value) (A B : Nat), zEy (fun y => y = a) h H A B → z_at H (.ref a) = .inr (9, fs) → zLit H ∧ zLn L H p w ∧ zFr H ∧ z_isob (z_at H (.ref p)) 6 = true := by
    intro H fs A B x e
    have l1 := hl.ey x hF ha (by decide) (by decide)
    obtain ⟨t', sa', ea', B', E', qp', -⟩ := id l1
    exact ⟨hL.ey x hF ha (by decide), l1, x.2.2.2.2.2.2, by rw [qp']; rfl⟩
  have wrd : ∀ (H : zH) (fs : List Value) (A B : Nat), zEy (fun y => y = a) h H A B → z_at H (.ref a) = .inr (9, fs) → ∀ (i : Int) (Q' : zO → zH → Prop), 0 ≤ i ∧ i < 9 → (∀ h' p', zEy (fun y => y = a) h h' (A + 2) (B + 1004) → z_at h' (.ref a) = .inr (9, fs) → zSd L h' p' (zwd_ w i.toNat) → zLit h' → a < h'.1 → Q' (.inl (some (.ref p'))) h') → z_Cl 191 [.ref p, zi i] H Q' := by
    intro H fs A B x e i Q' hi k
    obtain ⟨g1, g2, g3, g4⟩ := stp H fs A B x e
    refine t191 g3 g1 g2 (by omega) (fun h' p' y hd => ?_)
    exact k h' p' (x.trans y.ey) (y.at g3 rfl e (zo_jk (by decide))) hd (g1.ex y g3) (by have := x.1; have := y.1; omega)
  have x0 := (zEx.refl hF).ey (X := fun y => y = a)
  simp (disch := first | omega | assumption | exact zq_r _ | exact zn_0 | exact zo_i _ | exact zo_r _ | exact zq_k _ | exact zq_n | exact zn_1 _ | exact zn_2 _ _ | exact zn_3 _ _ _ | exact zn_4 _ _ _ _ | exact zn_5 _ _ _ _ _ | exact zc_i _ | exact zc_r _ | exact zo_l _ | exact zo_k _ | exact zo_n | exact zc_rk _ | (rw [zx_id (by omega)]; omega) | (rw [zw_id (by omega)]; omega) | (apply z_ok_v; assumption) | (simp only [z_new_1, z_pu_1, mh_1]; omega)) only [z_EvO_some, z_EvG_t, z_Bk_n, z_Bk_s, z_brT, z_brF, z_br_pos, z_br_neg, not_true_eq_false, not_false_eq_true, Bool.true_eq_false, Bool.false_eq_true, Bool.not_eq_false, Bool.not_eq_true, eq_self, z_kl_i, z_kl_l, z_kl_r, z_kl_k, z_kl_n, z_kl_u, z_kl_v, zi_f, zl_f, z_put_r, z_nul_n, z_nul_r, zcmp_lt, zcmp_le, zcmp_ge, zcmp_gt, zcmp_eq, zw_id, zx_id, Nat.reduceAdd, z_tf_i, z_tf_l, z_tf_z, zl_zx, zi_zw, z_gf0, z_gf1, z_gf2, z_gf3, z_gf4, z_gf5, z_gf6, z_gf7, z_pf0, z_pf1, z_pf2, z_pf3, z_pf4, z_pf5, z_pf6, z_pf7, z_ob1, zb_0, zb_1, zb_tf, z_at_pu_e, z_at_pu_n, z_at_pu_k, z_at_new_e, z_at_new_n, z_at_new_k, z_new_1, z_pu_1, z_atr_r, e206, r206_0, r206_1, r206_4, r206_5, r206_6, r206_7, r206_10, r206_13, r206_16, r206_17, r206_18, r206_21, r206_22, r206_23, r206_26, r206_27, r206_28, r206_29, r206_32, r206_35, r206_38, r206_39, r206_41, r206_44, r206_45, r206_47, r206_50, r206_51, r206_52, r206_54, r206_57, r206_60, r206_63, r206_64, r206_65, r206_67, r206_70, r206_72, r206_75, r206_78, r206_80, r206_83, r206_84, r206_86, r206_89, r206_92, o6]
  refine wrd h _ 0 0 x0 ha 1 _ (by omega) (fun h1 p1 x1 a1 d1 l1 b1 => ?_)
  have e1 : (if (zwd_ w (1 : Int).toNat).length = 1 ∧ zdgs (zwd_ w (1 : Int).toNat) 0 ≤ 2 then zdgs (zwd_ w (1 : Int).toNat) 0 else -1000000) = zst (zwd_ w 1) := rfl
  have i1 := (((x1.pu (e := .inr (9, [zi (zst (zwd_ w 1)), v1, v2, v3, v4, v5, v6, v7])) (Or.inr rfl) b1).pu (e := .inr (9, [zi (zst (zwd_ w 1)), zi fr, v2, v3, v4, v5, v6, v7])) (Or.inr rfl) b1).pu (e := .inr (9, [zi (zst (zwd_ w 1)), zi fr, zi to, v3, v4, v5, v6, v7])) (Or.inr rfl) b1)
  have o1 := (stp _ _ _ _ i1 (z_at_pu_s _ _ _)).2.2.2
  simp (disch := first | omega | assumption | exact zq_r _ | exact zn_0 | exact zo_i _ | exact zo_r _ | exact zq_k _ | exact zq_n | exact zn_1 _ | exact zn_2 _ _ | exact zn_3 _ _ _ | exact zn_4 _ _ _ _ | exact zn_5 _ _ _ _ _ | exact zc_i _ | exact zc_r _ | exact zo_l _ | exact zo_k _ | exact zo_n | exact zc_rk _ | (rw [zx_id (by omega)]; omega) | (rw [zw_id (by omega)]; omega) | (apply z_ok_v; assumption) | (simp only [z_new_1, z_pu_1, mh_1]; omega)) only [z_EvO_some, z_EvG_t, z_Bk_n, z_Bk_s, z_brT, z_brF, z_br_pos, z_br_neg, not_true_eq_false, not_false_eq_true, Bool.true_eq_false, Bool.false_eq_true, Bool.not_eq_false, Bool.not_eq_true, eq_self, z_kl_i, z_kl_l, z_kl_r, z_kl_k, z_kl_n, z_kl_u, z_kl_v, zi_f, zl_f, z_put_r, z_nul_n, z_nul_r, zcmp_lt, zcmp_le, zcmp_ge, zcmp_gt, zcmp_eq, zw_id, zx_id, Nat.reduceAdd, z_tf_i, z_tf_l, z_tf_z, zl_zx, zi_zw, z_gf0, z_gf1, z_gf2, z_gf3, z_gf4, z_gf5, z_gf6, z_gf7, z_pf0, z_pf1, z_pf2, z_pf3, z_pf4, z_pf5, z_pf6, z_pf7, z_ob1, zb_0, zb_1, zb_tf, z_at_pu_e, z_at_pu_n, z_at_pu_k, z_at_new_e, z_at_new_n, z_at_new_k, z_new_1, z_pu_1, z_atr_r, r206_0, r206_1, r206_4, r206_5, r206_6, r206_7, r206_10, r206_13, r206_16, r206_17, r206_18, r206_21, r206_22, r206_23, r206_26, r206_27, r206_28, r206_29, r206_32, r206_35, r206_38, r206_39, r206_41, r206_44, r206_45, r206_47, r206_50, r206_51, r206_52, r206_54, r206_57, r206_60, r206_63, r206_64, r206_65, r206_67, r206_70, r206_72, r206_75, r206_78, r206_80, r206_83, r206_84, r206_86, r206_89, r206_92, s173 d1.st, a1, e1, o1]
  refine wrd _ _ _ _ i1 (z_at_pu_s _ _ _) 4 _ (by omega) (fun h2 p2 x2 a2 d2 l2 b2 => ?_)
  have e2 : (if zmnm (zwd_ w (4 : Int).toNat) = -1000000 then -1000000 else zmnm (zwd_ w (4 : Int).toNat) + 1) = zmo (zwd_ w 4) := rfl
  have i2 := (((x2.pu (e := .inr (9, [zi (zst (zwd_ w 1)), zi fr, zi to, zi (zmo (zwd_ w 4)), v4, v5, v6, v7])) (Or.inr rfl) b2).pu (e := .inr (9, [zi (zst (zwd_ w 1)), zi fr, zi to, zi (zmo (zwd_ w 4)), .ref d, v5, v6, v7])) (Or.inr rfl) b2).pu (e := .inr (9, [zi (zst (zwd_ w 1)), zi fr, zi to, zi (zmo (zwd_ w 4)), .ref d, .ref c, v6, v7])) (Or.inr rfl) b2)
  have o2 := (stp _ _ _ _ i2 (z_at_pu_s _ _ _)).2.2.2
  simp (disch := first | omega | assumption | exact zq_r _ | exact zn_0 | exact zo_i _ | exact zo_r _ | exact zq_k _ | exact zq_n | exact zn_1 _ | exact zn_2 _ _ | exact zn_3 _ _ _ | exact zn_4 _ _ _ _ | exact zn_5 _ _ _ _ _ | exact zc_i _ | exact zc_r _ | exact zo_l _ | exact zo_k _ | exact zo_n | exact zc_rk _ | (rw [zx_id (by omega)]; omega) | (rw [zw_id (by omega)]; omega) | (apply z_ok_v; assumption) | (simp only [z_new_1, z_pu_1, mh_1]; omega)) only [z_EvO_some, z_EvG_t, z_Bk_n, z_Bk_s, z_brT, z_brF, z_br_pos, z_br_neg, not_true_eq_false, not_false_eq_true, Bool.true_eq_false, Bool.false_eq_true, Bool.not_eq_false, Bool.not_eq_true, eq_self, z_kl_i, z_kl_l, z_kl_r, z_kl_k, z_kl_n, z_kl_u, z_kl_v, zi_f, zl_f, z_put_r, z_nul_n, z_nul_r, zcmp_lt, zcmp_le, zcmp_ge, zcmp_gt, zcmp_eq, zw_id, zx_id, Nat.reduceAdd, z_tf_i, z_tf_l, z_tf_z, zl_zx, zi_zw, z_gf0, z_gf1, z_gf2, z_gf3, z_gf4, z_gf5, z_gf6, z_gf7, z_pf0, z_pf1, z_pf2, z_pf3, z_pf4, z_pf5, z_pf6, z_pf7, z_ob1, zb_0, zb_1, zb_tf, z_at_pu_e, z_at_pu_n, z_at_pu_k, z_at_new_e, z_at_new_n, z_at_new_k, z_new_1, z_pu_1, z_atr_r, r206_0, r206_1, r206_4, r206_5, r206_6, r206_7, r206_10, r206_13, r206_16, r206_17, r206_18, r206_21, r206_22, r206_23, r206_26, r206_27, r206_28, r206_29, r206_32, r206_35, r206_38, r206_39, r206_41, r206_44, r206_45, r206_47, r206_50, r206_51, r206_52, r206_54, r206_57, r206_60, r206_63, r206_64, r206_65, r206_67, r206_70, r206_72, r206_75, r206_78, r206_80, r206_83, r206_84, r206_86, r206_89, r206_92, t195 l2 d2.st, a2, e2, o2, td, tc]
  refine wrd _ _ _ _ i2 (z_at_pu_s _ _ _) 7 _ (by omega) (fun h3 p3 x3 a3 d3 l3 b3 => ?_)
  have e3 : zwd_ w (7 : Int).toNat = zwd_ w 7 := rfl
  have i3 := (x3.pu (e := .inr (9, [zi (zst (zwd_ w 1)), zi fr, zi to, zi (zmo (zwd_ w 4)), .ref d, .ref c, zi (ztime (zwd_ w 7)), v7])) (Or.inr rfl) b3)
  have o3 := (stp _ _ _ _ i3 (z_at_pu_s _ _ _)).2.2.2
  simp (disch := first | omega | assumption | exact zq_r _ | exact zn_0 | exact zo_i _ | exact zo_r _ | exact zq_k _ | exact zq_n | exact zn_1 _ | exact zn_2 _ _ | exact zn_3 _ _ _ | exact zn_4 _ _ _ _ | exact zn_5 _ _ _ _ _ | exact zc_i _ | exact zc_r _ | exact zo_l _ | exact zo_k _ | exact zo_n | exact zc_rk _ | (rw [zx_id (by omega)]; omega) | (rw [zw_id (by omega)]; omega) | (apply z_ok_v; assumption) | (simp only [z_new_1, z_pu_1, mh_1]; omega)) only [z_EvO_some, z_EvG_t, z_Bk_n, z_Bk_s, z_brT, z_brF, z_br_pos, z_br_neg, not_true_eq_false, not_false_eq_true, Bool.true_eq_false, Bool.false_eq_true, Bool.not_eq_false, Bool.not_eq_true, eq_self, z_kl_i, z_kl_l, z_kl_r, z_kl_k, z_kl_n, z_kl_u, z_kl_v, zi_f, zl_f, z_put_r, z_nul_n, z_nul_r, zcmp_lt, zcmp_le, zcmp_ge, zcmp_gt, zcmp_eq, zw_id, zx_id, Nat.reduceAdd, z_tf_i, z_tf_l, z_tf_z, zl_zx, zi_zw, z_gf0, z_gf1, z_gf2, z_gf3, z_gf4, z_gf5, z_gf6, z_gf7, z_pf0, z_pf1, z_pf2, z_pf3, z_pf4, z_pf5, z_pf6, z_pf7, z_ob1, zb_0, zb_1, zb_tf, z_at_pu_e, z_at_pu_n, z_at_pu_k, z_at_new_e, z_at_new_n, z_at_new_k, z_new_1, z_pu_1, z_atr_r, r206_0, r206_1, r206_4, r206_5, r206_6, r206_7, r206_10, r206_13, r206_16, r206_17, r206_18, r206_21, r206_22, r206_23, r206_26, r206_27, r206_28, r206_29, r206_32, r206_35, r206_38, r206_39, r206_41, r206_44, r206_45, r206_47, r206_50, r206_51, r206_52, r206_54, r206_57, r206_60, r206_63, r206_64, r206_65, r206_67, r206_70, r206_72, r206_75, r206_78, r206_80, r206_83, r206_84, r206_86, r206_89, r206_92, t196 d3.st, a3, e3, o3]
  refine wrd _ _ _ _ i3 (z_at_pu_s _ _ _) 8 _ (by omega) (fun h4 p4 x4 a4 d4 l4 b4 => ?_)
  have o4 := (stp _ _ _ _ x4 a4).2.2.2
  have e4 : zwd_ w (8 : Int).toNat = zwd_ w 8 := rfl
  rw [e4] at d4
  by_cases hm8 : zwd_ w 8 = [45]
  · have hx := x4.pu (e := .inr (9, [zi (zst (zwd_ w 1)), zi fr, zi to, zi (zmo (zwd_ w 4)), .ref d, .ref c, zi (ztime (zwd_ w 7)), .retAddr 24])) (Or.inr rfl) b4
    have := kk _ (.retAddr 24) (hx.mono (by omega) (by omega)) (z_at_pu_s _ _ _) (Or.inr ⟨rfl, by unfold zltr; rw [if_pos hm8], by
      have : zltr (zwd_ w 8) = [] := by unfold zltr; rw [if_pos hm8]
      rw [this]
      exact (hL.ey hx hF ha (by decide)).e2⟩)
    simp (disch := first | omega | assumption | exact zq_r _ | exact zn_0 | exact zo_i _ | exact zo_r _ | exact zq_k _ | exact zq_n | exact zn_1 _ | exact zn_2 _ _ | exact zn_3 _ _ _ | exact zn_4 _ _ _ _ | exact zn_5 _ _ _ _ _ | exact zc_i _ | exact zc_r _ | exact zo_l _ | exact zo_k _ | exact zo_n | exact zc_rk _ | (rw [zx_id (by omega)]; omega) | (rw [zw_id (by omega)]; omega) | (apply z_ok_v; assumption) | (simp only [z_new_1, z_pu_1, mh_1]; omega)) only [z_EvO_some, z_EvG_t, z_Bk_n, z_Bk_s, z_brT, z_brF, z_br_pos, z_br_neg, not_true_eq_false, not_false_eq_true, Bool.true_eq_false, Bool.false_eq_true, Bool.not_eq_false, Bool.not_eq_true, eq_self, z_kl_i, z_kl_l, z_kl_r, z_kl_k, z_kl_n, z_kl_u, z_kl_v, zi_f, zl_f, z_put_r, z_nul_n, z_nul_r, zcmp_lt, zcmp_le, zcmp_ge, zcmp_gt, zcmp_eq, zw_id, zx_id, Nat.reduceAdd, z_tf_i, z_tf_l, z_tf_z, zl_zx, zi_zw, z_gf0, z_gf1, z_gf2, z_gf3, z_gf4, z_gf5, z_gf6, z_gf7, z_pf0, z_pf1, z_pf2, z_pf3, z_pf4, z_pf5, z_pf6, z_pf7, z_ob1, zb_0, zb_1, zb_tf, z_at_pu_e, z_at_pu_n, z_at_pu_k, z_at_new_e, z_at_new_n, z_at_new_k, z_new_1, z_pu_1, z_atr_r, r206_0, r206_1, r206_4, r206_5, r206_6, r206_7, r206_10, r206_13, r206_16, r206_17, r206_18, r206_21, r206_22, r206_23, r206_26, r206_27, r206_28, r206_29, r206_32, r206_35, r206_38, r206_39, r206_41, r206_44, r206_45, r206_47, r206_50, r206_51, r206_52, r206_54, r206_57, r206_60, r206_63, r206_64, r206_65, r206_67, r206_70, r206_72, r206_75, r206_78, r206_80, r206_83, r206_84, r206_86, r206_89, r206_92, zSt_ob d4.st, t102 d4.st l4.minus, decide_eq_true hm8, a4, ts2]
    exact this
  · simp (disch := first | omega | assumption | exact zq_r _ | exact zn_0 | exact zo_i _ | exact zo_r _ | exact zq_k _ | exact zq_n | exact zn_1 _ | exact zn_2 _ _ | exact zn_3 _ _ _ | exact zn_4 _ _ _ _ | exact zn_5 _ _ _ _ _ | exact zc_i _ | exact zc_r _ | exact zo_l _ | exact zo_k _ | exact zo_n | exact zc_rk _ | (rw [zx_id (by omega)]; omega) | (rw [zw_id (by omega)]; omega) | (apply z_ok_v; assumption) | (simp only [z_new_1, z_pu_1, mh_1]; omega)) only [z_EvO_some, z_EvG_t, z_Bk_n, z_Bk_s, z_brT, z_brF, z_br_pos, z_br_neg, not_true_eq_false, not_false_eq_true, Bool.true_eq_false, Bool.false_eq_true, Bool.not_eq_false, Bool.not_eq_true, eq_self, z_kl_i, z_kl_l, z_kl_r, z_kl_k, z_kl_n, z_kl_u, z_kl_v, zi_f, zl_f, z_put_r, z_nul_n, z_nul_r, zcmp_lt, zcmp_le, zcmp_ge, zcmp_gt, zcmp_eq, zw_id, zx_id, Nat.reduceAdd, z_tf_i, z_tf_l, z_tf_z, zl_zx, zi_zw, z_gf0, z_gf1, z_gf2, z_gf3, z_gf4, z_gf5, z_gf6, z_gf7, z_pf0, z_pf1, z_pf2, z_pf3, z_pf4, z_pf5, z_pf6, z_pf7, z_ob1, zb_0, zb_1, zb_tf, z_at_pu_e, z_at_pu_n, z_at_pu_k, z_at_new_e, z_at_new_n, z_at_new_k, z_new_1, z_pu_1, z_atr_r, r206_0, r206_1, r206_4, r206_5, r206_6, r206_7, r206_10, r206_13, r206_16, r206_17, r206_18, r206_21, r206_22, r206_23, r206_26, r206_27, r206_28, r206_29, r206_32, r206_35, r206_38, r206_39, r206_41, r206_44, r206_45, r206_47, r206_50, r206_51, r206_52, r206_54, r206_57, r206_60, r206_63, r206_64, r206_65, r206_67, r206_70, r206_72, r206_75, r206_78, r206_80, r206_83, r206_84, r206_86, r206_89, r206_92, zSt_ob d4.st, t102 d4.st l4.minus, decide_eq_false hm8, o4]
    refine wrd _ _ _ _ x4 a4 8 _ (by omega) (fun h5 p5 x5 a5 d5 l5 b5 => ?_)
    rw [e4] at d5
    have hx := x5.pu (e := .inr (9, [zi (zst (zwd_ w 1)), zi fr, zi to, zi (zmo (zwd_ w 4)), .ref d, .ref c, zi (ztime (zwd_ w 7)), .ref p5])) (Or.inr rfl) b5
    have ez : zltr (zwd_ w 8) = zwd_ w 8 := by unfold zltr; rw [if_neg hm8]
    have hy := ((zEx.refl x5.2.2.2.2.2.2).ey (X := fun y => y = a)).pu (e := .inr (9, [zi (zst (zwd_ w 1)), zi fr, zi to, zi (zmo (zwd_ w 4)), .ref d, .ref c, zi (ztime (zwd_ w 7)), .ref p5])) (Or.inr rfl) b5
    have := kk _ (.ref p5) (hx.mono (by omega) (by omega)) (z_at_pu_s _ _ _) (Or.inl ⟨p5, rfl, by rw [ez]; exact d5.ey hy x5.2.2.2.2.2.2 a5 (by decide)⟩)
    simp (disch := first | omega | assumption | exact zq_r _ | exact zn_0 | exact zo_i _ | exact zo_r _ | exact zq_k _ | exact zq_n | exact zn_1 _ | exact zn_2 _ _ | exact zn_3 _ _ _ | exact zn_4 _ _ _ _ | exact zn_5 _ _ _ _ _ | exact zc_i _ | exact zc_r _ | exact zo_l _ | exact zo_k _ | exact zo_n | exact zc_rk _ | (rw [zx_id (by omega)]; omega) | (rw [zw_id (by omega)]; omega) | (apply z_ok_v; assumption) | (simp only [z_new_1, z_pu_1, mh_1]; omega)) only [z_EvO_some, z_EvG_t, z_Bk_n, z_Bk_s, z_brT, z_brF, z_br_pos, z_br_neg, not_true_eq_false, not_false_eq_true, Bool.true_eq_false, Bool.false_eq_true, Bool.not_eq_false, Bool.not_eq_true, eq_self, z_kl_i, z_kl_l, z_kl_r, z_kl_k, z_kl_n, z_kl_u, z_kl_v, zi_f, zl_f, z_put_r, z_nul_n, z_nul_r, zcmp_lt, zcmp_le, zcmp_ge, zcmp_gt, zcmp_eq, zw_id, zx_id, Nat.reduceAdd, z_tf_i, z_tf_l, z_tf_z, zl_zx, zi_zw, z_gf0, z_gf1, z_gf2, z_gf3, z_gf4, z_gf5, z_gf6, z_gf7, z_pf0, z_pf1, z_pf2, z_pf3, z_pf4, z_pf5, z_pf6, z_pf7, z_ob1, zb_0, zb_1, zb_tf, z_at_pu_e, z_at_pu_n, z_at_pu_k, z_at_new_e, z_at_new_n, z_at_new_k, z_new_1, z_pu_1, z_atr_r, r206_0, r206_1, r206_4, r206_5, r206_6, r206_7, r206_10, r206_13, r206_16, r206_17, r206_18, r206_21, r206_22, r206_23, r206_26, r206_27, r206_28, r206_29, r206_32, r206_35, r206_38, r206_39, r206_41, r206_44, r206_45, r206_47, r206_50, r206_51, r206_52, r206_54, r206_57, r206_60, r206_63, r206_64, r206_65, r206_67, r206_70, r206_72, r206_75, r206_78, r206_80, r206_83, r206_84, r206_86, r206_89, r206_92, a5, ts]
    exact this
end ZRp
