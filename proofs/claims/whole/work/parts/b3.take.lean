/-! what holds, as bytes: Held.take -/
/-- the thirteen bytes of what holds -/
def zhb (off sv : Int) (nm : List Int) (k : Nat) : Int := if k = 0 then Int.bmod (off / 16777216) 256 else if k = 1 then Int.bmod (off / 65536) 256 else if k = 2 then Int.bmod (off / 256) 256 else if k = 3 then Int.bmod off 256 else if k = 4 then (if sv = 0 then 0 else 1) else nm.getD (k - 5) 0
/-- a rule's value, its object standing apart -/
def zRw (s : Nat) (h : zH) (v : Value) (o : Option zRu) : Prop := match o with
  | none => v = .null
  | some R => ∃ a, v = .ref a ∧ zRk s h a R
section ZTk
variable {h : zH} {Q : zO → zH → Prop} {G : Nat → Nat → Int} {E : zEr} {o : Option zRu} {s a : Nat} {v : Value} {off sv : Int} {nm : List Int}
theorem zSk.onch {p : Nat} {w : List Int} (hs : zSk s h p w) (hF : zFr h) : zSk s (ch h G) p w := hs.ag (fun x hx _ => cat_o (by unfold zok3 at hx; omega)) hF
theorem zRk.onch {R : zRu} (hs : zRk s h a R) (hF : zFr h) : zRk s (ch h G) a R := hs.ag (fun x hx _ => cat_o (by unfold zok3 at hx; omega)) hF
theorem zEk.onch (hs : zEk s h a E) (hF : zFr h) : zEk s (ch h G) a E := hs.ag (fun x hx _ => cat_o (by unfold zok3 at hx; omega)) hF
theorem zRw.toV (hv : zRw s h v o) (hF : zFr h) (hk : zLk h) : zRv (ch h G) v o := by
  cases o with
  | none => exact hv
  | some R =>
    obtain ⟨a, h1, h2⟩ := hv
    exact ⟨a, h1, (h2.onch hF).q (zLk.lit (h := ch h G) hk)⟩
theorem l190 (hn : nm.length ≤ 8) {l1 l2 : Value} {l3 l4 : Int} (hv1 : z_kl l1 = l1) (hv2 : z_kl l2 = l2) :
    ∀ (m k : Nat) (y : Nat → Int), k + m = 13 → 5 + nm.length ≤ k → (∀ j, j < k → y j = zhb off sv nm j) → (∀ y', (∀ j, j < 13 → y' j = zhb off sv nm j) → Q (.inl none) (cn h G (5 + nm.length) y')) → z_Ev 190 74 [.ref 5, l1, l2, zi l3, zi l4, zi k] [] (cn h G (5 + nm.length) y) Q := by
  intro m
  induction m with
  | zero =>
    intro k y hk hkn hy kk
    have e : k = 13 := by omega
    subst e
    rw [k190_74]
    simp (disch := first | omega | assumption | exact zq_r _ | exact zn_0 | exact zo_i _ | exact zo_r _ | exact zq_k _ | exact zq_n | exact zn_1 _ | exact zn_2 _ _ | exact zn_3 _ _ _ | exact zn_4 _ _ _ _ | exact zn_5 _ _ _ _ _ | exact zc_i _ | exact zc_r _ | exact zo_l _ | exact zo_k _ | exact zo_n | exact zc_rk _ | (rw [zx_id (by omega)]; omega) | (rw [zw_id (by omega)]; omega) | (apply z_ok_v; assumption) | (simp only [z_new_1, z_pu_1, mh_1]; omega)) only [z_EvO_some, z_EvG_t, z_Bk_n, z_Bk_s, z_brT, z_brF, z_br_pos, z_br_neg, not_true_eq_false, not_false_eq_true, Bool.true_eq_false, Bool.false_eq_true, Bool.not_eq_false, Bool.not_eq_true, eq_self, z_kl_i, z_kl_l, z_kl_r, z_kl_k, z_kl_n, z_kl_u, z_kl_v, zi_f, zl_f, z_put_r, z_nul_n, z_nul_r, zcmp_lt, zcmp_le, zcmp_ge, zcmp_gt, zcmp_eq, zw_id, zx_id, Nat.reduceAdd, z_tf_i, z_tf_l, z_tf_z, zl_zx, zi_zw, z_gf0, z_gf1, z_gf2, z_gf3, z_gf4, z_gf5, z_gf6, z_gf7, z_pf0, z_pf1, z_pf2, z_pf3, z_pf4, z_pf5, z_pf6, z_pf7, z_ob1, zb_0, zb_1, zb_tf, r190_0, r190_1, r190_2, r190_5, r190_6, r190_7, r190_8, r190_11, r190_13, r190_14, r190_17, r190_18, r190_20, r190_23, r190_24, r190_27, r190_28, r190_29, r190_32, r190_33, r190_36, r190_37, r190_38, r190_39, r190_40, r190_41, r190_44, r190_45, r190_46, r190_49, r190_50, r190_52, r190_53, r190_56, r190_58, r190_61, r190_62, r190_65, r190_68, r190_69, r190_72, r190_76, r190_78, r190_81, r190_82, r190_85, r190_87, r190_88, r190_89, r190_92, r190_95]
    exact kk y hy
  | succ m ih =>
    intro k y hk hkn hy kk
    have e5 : va_up (va_up G 5 (va_up (G 5) 1 (5 + (nm.length : Int)))) 6 y 6 = y := va_up_self _ _ _
    have e1 : ((k : Int)).toNat = k := by omega
    have e0 : Int.bmod 0 256 = 0 := by decide
    have := ih (k + 1) (va_up y k 0) (by omega) (by omega) (fun j hj => by
      by_cases hjk : j = k
      · subst hjk
        rw [va_up_self]
        unfold zhb
        rw [if_neg (by omega), if_neg (by omega), if_neg (by omega), if_neg (by omega), if_neg (by omega), List.getD_eq_getElem?_getD, List.getElem?_eq_none (by omega)]
        rfl
      · rw [va_up_ne _ _ hjk]
        exact hy j (by omega)) kk
    have e3 : ((k : Int) + 1) = ((k + 1 : Nat) : Int) := by omega
    rw [k190_74]
    unfold cn at this ⊢
    simp (disch := first | omega | assumption | exact zq_r _ | exact zn_0 | exact zo_i _ | exact zo_r _ | exact zq_k _ | exact zq_n | exact zn_1 _ | exact zn_2 _ _ | exact zn_3 _ _ _ | exact zn_4 _ _ _ _ | exact zn_5 _ _ _ _ _ | exact zc_i _ | exact zc_r _ | exact zo_l _ | exact zo_k _ | exact zo_n | exact zc_rk _ | (rw [zx_id (by omega)]; omega) | (rw [zw_id (by omega)]; omega) | (apply z_ok_v; assumption) | (simp only [z_new_1, z_pu_1, mh_1]; omega)) only [z_EvO_some, z_EvG_t, z_Bk_n, z_Bk_s, z_brT, z_brF, z_br_pos, z_br_neg, not_true_eq_false, not_false_eq_true, Bool.true_eq_false, Bool.false_eq_true, Bool.not_eq_false, Bool.not_eq_true, eq_self, z_kl_i, z_kl_l, z_kl_r, z_kl_k, z_kl_n, z_kl_u, z_kl_v, zi_f, zl_f, z_put_r, z_nul_n, z_nul_r, zcmp_lt, zcmp_le, zcmp_ge, zcmp_gt, zcmp_eq, zw_id, zx_id, Nat.reduceAdd, z_tf_i, z_tf_l, z_tf_z, zl_zx, zi_zw, z_gf0, z_gf1, z_gf2, z_gf3, z_gf4, z_gf5, z_gf6, z_gf7, z_pf0, z_pf1, z_pf2, z_pf3, z_pf4, z_pf5, z_pf6, z_pf7, z_ob1, zb_0, zb_1, zb_tf, cat_o, cat_k, ch_1, cgf0_0, cgf0_1, cgf0_2, cgf0_3, cpf0_3, cgf0_4, cgf0_5, cgf0_6, cgf0_7, cpf0_7, cob_0, cat_0, cpu_0, cgf5_0, cgf5_1, cpf5_1, cob_5, cat_5, cpu_5, cat_6, cpu_6, cgf7_0, cgf7_1, cpf7_1, cgf7_2, cpf7_2, cgf7_3, cpf7_3, cgf7_4, cgf7_5, cgf7_6, cpf7_6, cgf7_7, cpf7_7, cob_7, cat_7, cpu_7, cat_8, cpu_8, cat_9, cpu_9, cat_10, cpu_10, cat_11, cpu_11, zg_ai_A, zg_al_A, zg_si_A, zg_sl_A, zg_ab_b, zg_sb_b, z_len_A, z_len_L, r190_0, r190_1, r190_2, r190_5, r190_6, r190_7, r190_8, r190_11, r190_13, r190_14, r190_17, r190_18, r190_20, r190_23, r190_24, r190_27, r190_28, r190_29, r190_32, r190_33, r190_36, r190_37, r190_38, r190_39, r190_40, r190_41, r190_44, r190_45, r190_46, r190_49, r190_50, r190_52, r190_53, r190_56, r190_58, r190_61, r190_62, r190_65, r190_68, r190_69, r190_72, r190_76, r190_78, r190_81, r190_82, r190_85, r190_87, r190_88, r190_89, r190_92, r190_95, e5, e1, e0, hv1, hv2, va_up_up, e3]
    exact this
theorem p190 (hF : zFr h) (hk : zLk h) (he : zEk s h a E) (hE : zEok E) (hv : zRw s h v o) (hr : ∀ R, o = some R → zRok R)
    (kk : ∀ y', (∀ j, j < 13 → y' j = zhb (E.1 0 + zsv E o) (zsv E o) ((zfn E.2 (zsv E o) (E.1 0 + zsv E o) (zlo o)).take 8) j) → Q (.inl none) (cn h G (5 + ((zfn E.2 (zsv E o) (E.1 0 + zsv E o) (zlo o)).take 8).length) y')) : z_Cl 190 [.ref 5, .ref a, v] (ch h G) Q := by
  have hEq : ∀ G', zEq (ch h G') a E := fun G' => (he.onch hF).q
  have hRv : ∀ G', zRv (ch h G') v o := fun G' => hv.toV hF hk
  have hrf := (hRv G).rf
  have r0 := hE.1
  have r1 := zsv_r hE hr
  have hfc := hE.2.2.2.2.2.2.1
  obtain ⟨c, p, sec, hb, a1, a2, a3⟩ := id he
  have b1 : ∀ G', z_at (ch h G') (.ref a) = .inr (10, [zi (E.1 0), zi (E.1 1), zi (E.1 2), .ref p, zi (E.1 3), zl (E.1 4), .ref c]) := fun G' => by
    rw [cat_o (by have := hb.1; unfold zok3 at this; omega)]; exact a1
  have b1c : ∀ n y, z_at (cn h G n y) (.ref a) = .inr (10, [zi (E.1 0), zi (E.1 1), zi (E.1 2), .ref p, zi (E.1 3), zl (E.1 4), .ref c]) := fun n y => b1 _
  have ob10 : ∀ G', z_isob (z_at (ch h G') (.ref a)) 10 = true := fun G' => by rw [b1]; rfl
  have c6 : z_at (ch h G) (.ref 6) = zA 2 13 (G 6) := rfl
  have e22 := fun Q' : zO → zH → Prop => s22 (h := ch h G) (Q := Q') c6 (by omega) (a := 0) (x := E.1 0 + zsv E o) (by omega) (by omega)
  have b01 : Int.bmod (Int.bmod 1 256) 256 = 1 := by decide
  have b00 : Int.bmod (Int.bmod 0 256) 256 = 0 := by decide
  -- the heap before the name
  have e4 : (4 : Int).toNat = 4 := rfl
  have fin : ∀ (fl : Int) (lv : Value), fl = (if zsv E o = 0 then 0 else 1) → (∀ n y, zSt (cn h G n y) lv (zlo o)) → z_Cl 168 [.ref 5, .ref p, zi (zsv E o), zi (E.1 0 + zsv E o), lv] (cn h G 5 (va_up (zpi (G 6) (0 : Int).toNat (E.1 0 + zsv E o)) 4 fl)) (z_Bk 190 65 [.ref 5, .ref a, v, zi (zsv E o), zi (E.1 0 + zsv E o), z_um] [] Q) := by
    intro fl lv hfl hlv
    refine p168 (fun n y => (a3.onch hF).st) hlv (fun n y => zLk.lit (h := cn h G n y) hk) hfc (by omega) (by omega) (fun y1 t1 q1 => ?_)
    have hlen : ((zfn E.2 (zsv E o) (E.1 0 + zsv E o) (zlo o)).take 8).length ≤ 8 := by rw [List.length_take]; omega
    have hl := l190 (h := h) (Q := Q) (G := G) (off := E.1 0 + zsv E o) (sv := zsv E o) hlen (l1 := .ref a) (l2 := v) (l3 := zsv E o) (l4 := E.1 0 + zsv E o) rfl (z_kl_v hrf) (13 - (5 + ((zfn E.2 (zsv E o) (E.1 0 + zsv E o) (zlo o)).take 8).length)) (5 + ((zfn E.2 (zsv E o) (E.1 0 + zsv E o) (zlo o)).take 8).length) y1 (by omega) (by omega) (fun j hj => by
      by_cases h5 : j < 5
      · rw [q1 j h5]
        unfold zhb zpi
        have h6 : j = 0 ∨ j = 1 ∨ j = 2 ∨ j = 3 ∨ j = 4 := by omega
        rcases h6 with rfl | rfl | rfl | rfl | rfl
        · rw [va_up_ne _ _ (by decide), va_up_ne _ _ (by decide), va_up_ne _ _ (by decide), va_up_ne _ _ (by decide)]; exact va_up_self _ _ _
        · rw [va_up_ne _ _ (by decide), va_up_ne _ _ (by decide), va_up_ne _ _ (by decide)]; exact va_up_self _ _ _
        · rw [va_up_ne _ _ (by decide), va_up_ne _ _ (by decide)]; exact va_up_self _ _ _
        · rw [va_up_ne _ _ (by decide)]; exact va_up_self _ _ _
        · rw [va_up_self, hfl]; rfl
      · have := t1 (j - 5) (by omega)
        dsimp only at this
        rw [show 5 + (j - 5) = j by omega] at this
        rw [this]
        unfold zhb
        rw [if_neg (by omega), if_neg (by omega), if_neg (by omega), if_neg (by omega), if_neg (by omega)]) kk
    have g5 : ∀ n : Int, va_up (va_up G 5 (va_up (G 5) 1 n)) 6 y1 5 1 = n := fun n => by rw [va_up_ne _ _ (by decide), va_up_self, va_up_self]
    have ec : ((5 + ((zfn E.2 (zsv E o) (E.1 0 + zsv E o) (zlo o)).take 8).length : Nat) : Int) = 5 + (((zfn E.2 (zsv E o) (E.1 0 + zsv E o) (zlo o)).take 8).length : Int) := by omega
    rw [ec] at hl
    unfold cn at hl ⊢
    have hkv := z_kl_v hrf
    simp (disch := first | omega | assumption | exact zq_r _ | exact zn_0 | exact zo_i _ | exact zo_r _ | exact zq_k _ | exact zq_n | exact zn_1 _ | exact zn_2 _ _ | exact zn_3 _ _ _ | exact zn_4 _ _ _ _ | exact zn_5 _ _ _ _ _ | exact zc_i _ | exact zc_r _ | exact zo_l _ | exact zo_k _ | exact zo_n | exact zc_rk _ | (rw [zx_id (by omega)]; omega) | (rw [zw_id (by omega)]; omega) | (apply z_ok_v; assumption) | (simp only [z_new_1, z_pu_1, mh_1]; omega)) only [z_EvO_some, z_EvG_t, z_Bk_n, z_Bk_s, z_brT, z_brF, z_br_pos, z_br_neg, not_true_eq_false, not_false_eq_true, Bool.true_eq_false, Bool.false_eq_true, Bool.not_eq_false, Bool.not_eq_true, eq_self, z_kl_i, z_kl_l, z_kl_r, z_kl_k, z_kl_n, z_kl_u, z_kl_v, zi_f, zl_f, z_put_r, z_nul_n, z_nul_r, zcmp_lt, zcmp_le, zcmp_ge, zcmp_gt, zcmp_eq, zw_id, zx_id, Nat.reduceAdd, z_tf_i, z_tf_l, z_tf_z, zl_zx, zi_zw, z_gf0, z_gf1, z_gf2, z_gf3, z_gf4, z_gf5, z_gf6, z_gf7, z_pf0, z_pf1, z_pf2, z_pf3, z_pf4, z_pf5, z_pf6, z_pf7, z_ob1, zb_0, zb_1, zb_tf, cat_o, cat_k, ch_1, cgf0_0, cgf0_1, cgf0_2, cgf0_3, cpf0_3, cgf0_4, cgf0_5, cgf0_6, cgf0_7, cpf0_7, cob_0, cat_0, cpu_0, cgf5_0, cgf5_1, cpf5_1, cob_5, cat_5, cpu_5, cat_6, cpu_6, cgf7_0, cgf7_1, cpf7_1, cgf7_2, cpf7_2, cgf7_3, cpf7_3, cgf7_4, cgf7_5, cgf7_6, cpf7_6, cgf7_7, cpf7_7, cob_7, cat_7, cpu_7, cat_8, cpu_8, cat_9, cpu_9, cat_10, cpu_10, cat_11, cpu_11, zg_ai_A, zg_al_A, zg_si_A, zg_sl_A, zg_ab_b, zg_sb_b, z_len_A, z_len_L, r190_0, r190_1, r190_2, r190_5, r190_6, r190_7, r190_8, r190_11, r190_13, r190_14, r190_17, r190_18, r190_20, r190_23, r190_24, r190_27, r190_28, r190_29, r190_32, r190_33, r190_36, r190_37, r190_38, r190_39, r190_40, r190_41, r190_44, r190_45, r190_46, r190_49, r190_50, r190_52, r190_53, r190_56, r190_58, r190_61, r190_62, r190_65, r190_68, r190_69, r190_72, r190_76, r190_78, r190_81, r190_82, r190_85, r190_87, r190_88, r190_89, r190_92, r190_95, g5, hkv]
    exact hl
  have hlv0 : ∀ n y, zSt (cn h G n y) (.retAddr 0) [] := fun n y => (zLk.lit (h := cn h G n y) hk).e0
  have ecn : ∀ fl : Int, ch h (va_up (va_up (va_up G 6 (zpi (G 6) (0 : Int).toNat (E.1 0 + zsv E o))) 6 (va_up (va_up G 6 (zpi (G 6) (0 : Int).toNat (E.1 0 + zsv E o)) 6) 4 fl)) 5 (va_up (va_up (va_up G 6 (zpi (G 6) (0 : Int).toNat (E.1 0 + zsv E o))) 6 (va_up (va_up G 6 (zpi (G 6) (0 : Int).toNat (E.1 0 + zsv E o)) 6) 4 fl) 5) 1 5)) = cn h G 5 (va_up (zpi (G 6) (0 : Int).toNat (E.1 0 + zsv E o)) 4 fl) := by
    intro fl
    unfold cn
    congr 1
    rw [va_up_up, va_up_self]
    funext k
    by_cases h5 : k = 5
    · subst h5
      rw [va_up_self, va_up_ne _ _ (by decide), va_up_ne _ _ (by decide), va_up_self]
    · rw [va_up_ne _ _ h5]
      by_cases h6 : k = 6
      · subst h6; rw [va_up_self, va_up_self]
      · rw [va_up_ne _ _ h6, va_up_ne _ _ h6, va_up_ne _ _ h5]
  have hkv := z_kl_v hrf
  by_cases hz : zsv E o = 0
  · cases o with
    | none =>
      cases hv
      have := fin 0 (.retAddr 0) (by rw [if_pos hz]) hlv0
      simp (disch := first | omega | assumption | exact zq_r _ | exact zn_0 | exact zo_i _ | exact zo_r _ | exact zq_k _ | exact zq_n | exact zn_1 _ | exact zn_2 _ _ | exact zn_3 _ _ _ | exact zn_4 _ _ _ _ | exact zn_5 _ _ _ _ _ | exact zc_i _ | exact zc_r _ | exact zo_l _ | exact zo_k _ | exact zo_n | exact zc_rk _ | (rw [zx_id (by omega)]; omega) | (rw [zw_id (by omega)]; omega) | (apply z_ok_v; assumption) | (simp only [z_new_1, z_pu_1, mh_1]; omega)) only [z_EvO_some, z_EvG_t, z_Bk_n, z_Bk_s, z_brT, z_brF, z_br_pos, z_br_neg, not_true_eq_false, not_false_eq_true, Bool.true_eq_false, Bool.false_eq_true, Bool.not_eq_false, Bool.not_eq_true, eq_self, z_kl_i, z_kl_l, z_kl_r, z_kl_k, z_kl_n, z_kl_u, z_kl_v, zi_f, zl_f, z_put_r, z_nul_n, z_nul_r, zcmp_lt, zcmp_le, zcmp_ge, zcmp_gt, zcmp_eq, zw_id, zx_id, Nat.reduceAdd, z_tf_i, z_tf_l, z_tf_z, zl_zx, zi_zw, z_gf0, z_gf1, z_gf2, z_gf3, z_gf4, z_gf5, z_gf6, z_gf7, z_pf0, z_pf1, z_pf2, z_pf3, z_pf4, z_pf5, z_pf6, z_pf7, z_ob1, zb_0, zb_1, zb_tf, cat_o, cat_k, ch_1, cgf0_0, cgf0_1, cgf0_2, cgf0_3, cpf0_3, cgf0_4, cgf0_5, cgf0_6, cgf0_7, cpf0_7, cob_0, cat_0, cpu_0, cgf5_0, cgf5_1, cpf5_1, cob_5, cat_5, cpu_5, cat_6, cpu_6, cgf7_0, cgf7_1, cpf7_1, cgf7_2, cpf7_2, cgf7_3, cpf7_3, cgf7_4, cgf7_5, cgf7_6, cpf7_6, cgf7_7, cpf7_7, cob_7, cat_7, cpu_7, cat_8, cpu_8, cat_9, cpu_9, cat_10, cpu_10, cat_11, cpu_11, zg_ai_A, zg_al_A, zg_si_A, zg_sl_A, zg_ab_b, zg_sb_b, z_len_A, z_len_L, e190, r190_0, r190_1, r190_2, r190_5, r190_6, r190_7, r190_8, r190_11, r190_13, r190_14, r190_17, r190_18, r190_20, r190_23, r190_24, r190_27, r190_28, r190_29, r190_32, r190_33, r190_36, r190_37, r190_38, r190_39, r190_40, r190_41, r190_44, r190_45, r190_46, r190_49, r190_50, r190_52, r190_53, r190_56, r190_58, r190_61, r190_62, r190_65, r190_68, r190_69, r190_72, r190_76, r190_78, r190_81, r190_82, r190_85, r190_87, r190_88, r190_89, r190_92, r190_95, ob10, t13 (hEq _) hE (hRv _) hr, t80 (hEq _) hE (hRv _) hr, e22, b00, b1, e4, ecn, b1c, cn_ob]
      exact this
    | some R =>
      obtain ⟨ra, rfl, hrk⟩ := hv
      obtain ⟨d, cc, lv, hrb, x1, x2, x3, x4⟩ := id hrk
      have x1' : ∀ G', z_at (ch h G') (.ref ra) = .inr (9, [zi (R.1 0), zi (R.1 1), zi (R.1 2), zi (R.1 3), .ref d, .ref cc, zi (R.1 9), lv]) := fun G' => by
        rw [cat_o (by have := hrb.1; unfold zok3 at this; omega)]; exact x1
      have x1c : ∀ n y, z_at (cn h G n y) (.ref ra) = .inr (9, [zi (R.1 0), zi (R.1 1), zi (R.1 2), zi (R.1 3), .ref d, .ref cc, zi (R.1 9), lv]) := fun n y => x1' _
      have hst : ∀ n y, zSt (cn h G n y) lv R.2 := by
        intro n y
        rcases x4 with ⟨p', rfl, x5⟩ | ⟨rfl, x5⟩
        · exact (x5.onch hF).st
        · rw [x5]; exact (zLk.lit (h := cn h G n y) hk).e2
      have hrl := zSt_rf (hst 0 (fun _ => 0))
      have := fin 0 lv (by rw [if_pos hz]) hst
      simp (disch := first | omega | assumption | exact zq_r _ | exact zn_0 | exact zo_i _ | exact zo_r _ | exact zq_k _ | exact zq_n | exact zn_1 _ | exact zn_2 _ _ | exact zn_3 _ _ _ | exact zn_4 _ _ _ _ | exact zn_5 _ _ _ _ _ | exact zc_i _ | exact zc_r _ | exact zo_l _ | exact zo_k _ | exact zo_n | exact zc_rk _ | (rw [zx_id (by omega)]; omega) | (rw [zw_id (by omega)]; omega) | (apply z_ok_v; assumption) | (simp only [z_new_1, z_pu_1, mh_1]; omega)) only [z_EvO_some, z_EvG_t, z_Bk_n, z_Bk_s, z_brT, z_brF, z_br_pos, z_br_neg, not_true_eq_false, not_false_eq_true, Bool.true_eq_false, Bool.false_eq_true, Bool.not_eq_false, Bool.not_eq_true, eq_self, z_kl_i, z_kl_l, z_kl_r, z_kl_k, z_kl_n, z_kl_u, z_kl_v, zi_f, zl_f, z_put_r, z_nul_n, z_nul_r, zcmp_lt, zcmp_le, zcmp_ge, zcmp_gt, zcmp_eq, zw_id, zx_id, Nat.reduceAdd, z_tf_i, z_tf_l, z_tf_z, zl_zx, zi_zw, z_gf0, z_gf1, z_gf2, z_gf3, z_gf4, z_gf5, z_gf6, z_gf7, z_pf0, z_pf1, z_pf2, z_pf3, z_pf4, z_pf5, z_pf6, z_pf7, z_ob1, zb_0, zb_1, zb_tf, cat_o, cat_k, ch_1, cgf0_0, cgf0_1, cgf0_2, cgf0_3, cpf0_3, cgf0_4, cgf0_5, cgf0_6, cgf0_7, cpf0_7, cob_0, cat_0, cpu_0, cgf5_0, cgf5_1, cpf5_1, cob_5, cat_5, cpu_5, cat_6, cpu_6, cgf7_0, cgf7_1, cpf7_1, cgf7_2, cpf7_2, cgf7_3, cpf7_3, cgf7_4, cgf7_5, cgf7_6, cpf7_6, cgf7_7, cpf7_7, cob_7, cat_7, cpu_7, cat_8, cpu_8, cat_9, cpu_9, cat_10, cpu_10, cat_11, cpu_11, zg_ai_A, zg_al_A, zg_si_A, zg_sl_A, zg_ab_b, zg_sb_b, z_len_A, z_len_L, e190, r190_0, r190_1, r190_2, r190_5, r190_6, r190_7, r190_8, r190_11, r190_13, r190_14, r190_17, r190_18, r190_20, r190_23, r190_24, r190_27, r190_28, r190_29, r190_32, r190_33, r190_36, r190_37, r190_38, r190_39, r190_40, r190_41, r190_44, r190_45, r190_46, r190_49, r190_50, r190_52, r190_53, r190_56, r190_58, r190_61, r190_62, r190_65, r190_68, r190_69, r190_72, r190_76, r190_78, r190_81, r190_82, r190_85, r190_87, r190_88, r190_89, r190_92, r190_95, ob10, t13 (hEq _) hE (hRv _) hr, t80 (hEq _) hE (hRv _) hr, e22, b00, b1, e4, ecn, x1', b1c, x1c, cn_ob]
      exact this
  · cases o with
    | none =>
      cases hv
      have := fin 1 (.retAddr 0) (by rw [if_neg hz]) hlv0
      simp (disch := first | omega | assumption | exact zq_r _ | exact zn_0 | exact zo_i _ | exact zo_r _ | exact zq_k _ | exact zq_n | exact zn_1 _ | exact zn_2 _ _ | exact zn_3 _ _ _ | exact zn_4 _ _ _ _ | exact zn_5 _ _ _ _ _ | exact zc_i _ | exact zc_r _ | exact zo_l _ | exact zo_k _ | exact zo_n | exact zc_rk _ | (rw [zx_id (by omega)]; omega) | (rw [zw_id (by omega)]; omega) | (apply z_ok_v; assumption) | (simp only [z_new_1, z_pu_1, mh_1]; omega)) only [z_EvO_some, z_EvG_t, z_Bk_n, z_Bk_s, z_brT, z_brF, z_br_pos, z_br_neg, not_true_eq_false, not_false_eq_true, Bool.true_eq_false, Bool.false_eq_true, Bool.not_eq_false, Bool.not_eq_true, eq_self, z_kl_i, z_kl_l, z_kl_r, z_kl_k, z_kl_n, z_kl_u, z_kl_v, zi_f, zl_f, z_put_r, z_nul_n, z_nul_r, zcmp_lt, zcmp_le, zcmp_ge, zcmp_gt, zcmp_eq, zw_id, zx_id, Nat.reduceAdd, z_tf_i, z_tf_l, z_tf_z, zl_zx, zi_zw, z_gf0, z_gf1, z_gf2, z_gf3, z_gf4, z_gf5, z_gf6, z_gf7, z_pf0, z_pf1, z_pf2, z_pf3, z_pf4, z_pf5, z_pf6, z_pf7, z_ob1, zb_0, zb_1, zb_tf, cat_o, cat_k, ch_1, cgf0_0, cgf0_1, cgf0_2, cgf0_3, cpf0_3, cgf0_4, cgf0_5, cgf0_6, cgf0_7, cpf0_7, cob_0, cat_0, cpu_0, cgf5_0, cgf5_1, cpf5_1, cob_5, cat_5, cpu_5, cat_6, cpu_6, cgf7_0, cgf7_1, cpf7_1, cgf7_2, cpf7_2, cgf7_3, cpf7_3, cgf7_4, cgf7_5, cgf7_6, cpf7_6, cgf7_7, cpf7_7, cob_7, cat_7, cpu_7, cat_8, cpu_8, cat_9, cpu_9, cat_10, cpu_10, cat_11, cpu_11, zg_ai_A, zg_al_A, zg_si_A, zg_sl_A, zg_ab_b, zg_sb_b, z_len_A, z_len_L, e190, r190_0, r190_1, r190_2, r190_5, r190_6, r190_7, r190_8, r190_11, r190_13, r190_14, r190_17, r190_18, r190_20, r190_23, r190_24, r190_27, r190_28, r190_29, r190_32, r190_33, r190_36, r190_37, r190_38, r190_39, r190_40, r190_41, r190_44, r190_45, r190_46, r190_49, r190_50, r190_52, r190_53, r190_56, r190_58, r190_61, r190_62, r190_65, r190_68, r190_69, r190_72, r190_76, r190_78, r190_81, r190_82, r190_85, r190_87, r190_88, r190_89, r190_92, r190_95, ob10, t13 (hEq _) hE (hRv _) hr, t80 (hEq _) hE (hRv _) hr, e22, b01, b1, e4, ecn, b1c, cn_ob]
      exact this
    | some R =>
      obtain ⟨ra, rfl, hrk⟩ := hv
      obtain ⟨d, cc, lv, hrb, x1, x2, x3, x4⟩ := id hrk
      have x1' : ∀ G', z_at (ch h G') (.ref ra) = .inr (9, [zi (R.1 0), zi (R.1 1), zi (R.1 2), zi (R.1 3), .ref d, .ref cc, zi (R.1 9), lv]) := fun G' => by
        rw [cat_o (by have := hrb.1; unfold zok3 at this; omega)]; exact x1
      have x1c : ∀ n y, z_at (cn h G n y) (.ref ra) = .inr (9, [zi (R.1 0), zi (R.1 1), zi (R.1 2), zi (R.1 3), .ref d, .ref cc, zi (R.1 9), lv]) := fun n y => x1' _
      have hst : ∀ n y, zSt (cn h G n y) lv R.2 := by
        intro n y
        rcases x4 with ⟨p', rfl, x5⟩ | ⟨rfl, x5⟩
        · exact (x5.onch hF).st
        · rw [x5]; exact (zLk.lit (h := cn h G n y) hk).e2
      have hrl := zSt_rf (hst 0 (fun _ => 0))
      have := fin 1 lv (by rw [if_neg hz]) hst
      simp (disch := first | omega | assumption | exact zq_r _ | exact zn_0 | exact zo_i _ | exact zo_r _ | exact zq_k _ | exact zq_n | exact zn_1 _ | exact zn_2 _ _ | exact zn_3 _ _ _ | exact zn_4 _ _ _ _ | exact zn_5 _ _ _ _ _ | exact zc_i _ | exact zc_r _ | exact zo_l _ | exact zo_k _ | exact zo_n | exact zc_rk _ | (rw [zx_id (by omega)]; omega) | (rw [zw_id (by omega)]; omega) | (apply z_ok_v; assumption) | (simp only [z_new_1, z_pu_1, mh_1]; omega)) only [z_EvO_some, z_EvG_t, z_Bk_n, z_Bk_s, z_brT, z_brF, z_br_pos, z_br_neg, not_true_eq_false, not_false_eq_true, Bool.true_eq_false, Bool.false_eq_true, Bool.not_eq_false, Bool.not_eq_true, eq_self, z_kl_i, z_kl_l, z_kl_r, z_kl_k, z_kl_n, z_kl_u, z_kl_v, zi_f, zl_f, z_put_r, z_nul_n, z_nul_r, zcmp_lt, zcmp_le, zcmp_ge, zcmp_gt, zcmp_eq, zw_id, zx_id, Nat.reduceAdd, z_tf_i, z_tf_l, z_tf_z, zl_zx, zi_zw, z_gf0, z_gf1, z_gf2, z_gf3, z_gf4, z_gf5, z_gf6, z_gf7, z_pf0, z_pf1, z_pf2, z_pf3, z_pf4, z_pf5, z_pf6, z_pf7, z_ob1, zb_0, zb_1, zb_tf, cat_o, cat_k, ch_1, cgf0_0, cgf0_1, cgf0_2, cgf0_3, cpf0_3, cgf0_4, cgf0_5, cgf0_6, cgf0_7, cpf0_7, cob_0, cat_0, cpu_0, cgf5_0, cgf5_1, cpf5_1, cob_5, cat_5, cpu_5, cat_6, cpu_6, cgf7_0, cgf7_1, cpf7_1, cgf7_2, cpf7_2, cgf7_3, cpf7_3, cgf7_4, cgf7_5, cgf7_6, cpf7_6, cgf7_7, cpf7_7, cob_7, cat_7, cpu_7, cat_8, cpu_8, cat_9, cpu_9, cat_10, cpu_10, cat_11, cpu_11, zg_ai_A, zg_al_A, zg_si_A, zg_sl_A, zg_ab_b, zg_sb_b, z_len_A, z_len_L, e190, r190_0, r190_1, r190_2, r190_5, r190_6, r190_7, r190_8, r190_11, r190_13, r190_14, r190_17, r190_18, r190_20, r190_23, r190_24, r190_27, r190_28, r190_29, r190_32, r190_33, r190_36, r190_37, r190_38, r190_39, r190_40, r190_41, r190_44, r190_45, r190_46, r190_49, r190_50, r190_52, r190_53, r190_56, r190_58, r190_61, r190_62, r190_65, r190_68, r190_69, r190_72, r190_76, r190_78, r190_81, r190_82, r190_85, r190_87, r190_88, r190_89, r190_92, r190_95, ob10, t13 (hEq _) hE (hRv _) hr, t80 (hEq _) hE (hRv _) hr, e22, b01, b1, e4, ecn, x1', b1c, x1c, cn_ob]
      exact this
end ZTk
