/-! a rule added: the class -/
theorem zsrt_d {ks : List Int} (h : ∀ i j, i ≤ j → j < ks.length → ks.getD i 0 ≤ ks.getD j 0) : ks.reverse.Pairwise (fun a b => b ≤ a) := by
  rw [List.pairwise_reverse]
  rw [List.pairwise_iff_getElem]
  intro i j hi hj hij
  have := h i j (by omega) hj
  rw [List.getD_eq_getElem?_getD, List.getD_eq_getElem?_getD, List.getElem?_eq_getElem hi, List.getElem?_eq_getElem hj] at this
  exact this
theorem zsrt_u {l : List Int} (h : l.Pairwise (fun a b => b ≤ a)) : ∀ i j, i ≤ j → j < l.reverse.length → l.reverse.getD i 0 ≤ l.reverse.getD j 0 := by
  intro i j hij hj
  have h2 : l.reverse.Pairwise (fun a b => a ≤ b) := List.pairwise_reverse.mpr h
  rw [List.pairwise_iff_getElem] at h2
  rw [List.getD_eq_getElem?_getD, List.getD_eq_getElem?_getD, List.getElem?_eq_getElem hj, List.getElem?_eq_getElem (show i < l.reverse.length by omega)]
  rcases Nat.lt_or_ge i j with hlt | hge
  · exact h2 i j (by omega) hj hlt
  · have : i = j := by omega
    subst this
    exact Int.le_refl _
/-- the firings with a rule's own put in -/
def zKa (ks : List Int) (R : zRu) (p : Int) : List Int := (zmf ks.reverse (zdl (fun j => zky R p (R.1 1 + j)) (R.1 2 - R.1 1 + 1).toNat)).reverse
theorem zKa_len {ks : List Int} {R : zRu} {p : Int} : (zKa ks R p).length = ks.length + (R.1 2 - R.1 1 + 1).toNat := by
  unfold zKa
  rw [List.length_reverse, zmf_len, List.length_reverse, zdl_len]
theorem zKa_ok {ks : List Int} {rs : List zRu} {R : zRu} (hk : zKok ks rs) (hR : zRok R) (h6 : rs.length < 6) : zKok (zKa ks R rs.length) (rs ++ [R]) := by
  have r1 := hR.2.1
  refine ⟨?_, ?_, ?_⟩
  · exact zsrt_u (zmf_srt (zsrt_d hk.1))
  · intro j hj
    have hm : (zKa ks R rs.length).getD j 0 ∈ zKa ks R rs.length := by
      rw [List.getD_eq_getElem?_getD, List.getElem?_eq_getElem hj]
      exact List.getElem_mem hj
    have hl : (rs ++ [R]).length = rs.length + 1 := by simp
    rw [hl]
    rcases zmf_mem (List.mem_reverse.mp hm) with hm | hm
    · obtain ⟨i, hi, he⟩ := List.getElem_of_mem (List.mem_reverse.mp hm)
      have := hk.2.1 i hi
      rw [List.getD_eq_getElem?_getD, List.getElem?_eq_getElem hi] at this
      have this : ks[i] % 8 < rs.length ∧ -8000000 ≤ ks[i] ∧ ks[i] ≤ 17178000000 := this
      rw [he] at this
      omega
    · obtain ⟨i, hi, he⟩ := zdl_mem hm
      have := zky_r hR (p := rs.length) (y := R.1 1 + i) (by omega) (by omega)
      rw [he]
      show zky R rs.length (R.1 1 + i) % 8 < _ ∧ _ ≤ zky R rs.length (R.1 1 + i) ∧ zky R rs.length (R.1 1 + i) ≤ _
      omega
  · intro R' hR'
    rcases List.mem_append.mp hR' with h | h
    · exact hk.2.2 R' h
    · rw [List.mem_singleton.mp h]
      exact hR
section ZAd
variable {s k a S F r0 N m : Nat} {h : zH} {G : Nat → Nat → Int} {Es : List zEr} {Ks : Nat → List Int} {Rs : Nat → List zRu} {Q : zO → zH → Prop} {R : zRu} {p : Int} {K : Nat → Int}
theorem zRk.c (hr : zRk s h a R) : zRc h a R := by
  obtain ⟨d, c, v, -, a1, a2, a3, -⟩ := hr
  exact ⟨d, c, v, a1, a2, a3⟩
theorem t170 (hS : z_at (ch h G) (.ref S) = .inr (5, [.ref r0, zi p, .ref F, zi m])) (hF : z_at h (.ref F) = zLA 408 K) (ho : 12 ≤ S ∧ S ≤ 20 ∧ 12 ≤ F ∧ F ≤ 20 ∧ S ≠ F) (ha : zRk s h a R) (hFr : zFr h) (hR : zRok R) (hp : 0 ≤ p ∧ p < 8) (hN : N = m + (R.1 2 - R.1 1 + 1).toNat) (hN4 : N ≤ 408) (hKr : ∀ j, j < m → -9223372036854775808 ≤ K j ∧ K j ≤ 9223372036854775807)
    (kk : ∀ K', zdl K' N = zmf (zdl K m) (zdl (fun j => zky R p (R.1 1 + j)) (R.1 2 - R.1 1 + 1).toNat) → Q (.inl none) (ch (z_pu (z_pu h S (.inr (5, [.ref r0, zi p, .ref F, zi N]))) F (zLA 408 K')) G)) : z_Cl 170 [.ref S, .ref a] (ch h G) Q := by
  have r1 := hR.2.1
  let H : (Nat → Int) → zH := fun K' => ch (z_pu (z_pu h S (.inr (5, [.ref r0, zi p, .ref F, zi N]))) F (zLA 408 K')) G
  have q1 : ∀ K', z_at (H K') (.ref S) = .inr (5, [.ref r0, zi p, .ref F, zi N]) := fun K' => by
    show z_at (ch _ G) _ = _
    rw [cat_o (by omega), z_at_pu_n ho.2.2.2.2]
    exact z_at_pu_s _ _ _
  have q2 : ∀ K', z_at (H K') (.ref F) = zLA 408 K' := fun K' => by
    show z_at (ch _ G) _ = _
    rw [cat_o (by omega)]
    exact z_at_pu_s _ _ _
  have q3 : ∀ K' K'', z_pu (H K') F (zLA 408 K'') = H K'' := fun K' K'' => by
    show z_pu (ch _ G) _ _ = _
    rw [cpu_o (by omega), z_pu_pu]
  have q4 : ∀ K', zRc (H K') a R := fun K' => by
    refine (ha.ag (h' := H K') (fun x hx _ => ?_) hFr).c
    have hx := hx.1
    show z_at (ch _ G) _ = _
    rw [cat_o (by omega), z_at_pu_n (by omega), z_at_pu_n (by omega)]
  have q5 : z_pu (ch h G) S (.inr (5, [.ref r0, zi p, .ref F, zi N])) = H K := by
    show _ = ch _ G
    rw [cpu_o (by omega)]
    rw [z_pu_id (h := z_pu h S _) (a := F) (by rw [z_at_pu_n (fun e => ho.2.2.2.2 e.symm)]; exact hF)]
  obtain ⟨d, c, v, a1, a2, a3⟩ := (ha.ag (h' := ch h G) (fun x hx _ => cat_o (by have := hx.1; omega)) hFr).c
  obtain ⟨d', c', v', b1, b2, b3⟩ := q4 K
  have lp := l170 (H := H) (Q := Q) (S := S) (F := F) (r0 := r0) (a := a) (R := R) (p := p) (n := N) q1 q2 q3 q4 hR hp N m (R.1 2 - R.1 1 + 1).toNat K hN hN4 (by omega) hKr (fun K' h1 _ => kk K' h1)
  have e1 : R.1 1 + ((R.1 2 - R.1 1 + 1).toNat : Int) - 1 = R.1 2 := by omega
  rw [e1] at lp
  have x154 : ∀ (Q' : zO → zH → Prop), z_Cl 154 [.ref S, .ref a, zi (R.1 2)] (H K) Q' = _ := fun Q' => t154 (q1 K) (q4 K) hR hp (by omega)
  have e2 : (m : Int) + R.1 2 - R.1 1 + 1 = N := by omega
  simp (disch := first | omega | assumption | exact zq_r _ | exact zn_0 | exact zo_i _ | exact zo_r _ | exact zq_k _ | exact zq_n | exact zn_1 _ | exact zn_2 _ _ | exact zn_3 _ _ _ | exact zn_4 _ _ _ _ | exact zn_5 _ _ _ _ _ | exact zc_i _ | exact zc_r _ | exact zo_l _ | exact zo_k _ | exact zo_n | exact zc_rk _ | (rw [zx_id (by omega)]; omega) | (rw [zw_id (by omega)]; omega) | (apply z_ok_v; assumption) | (simp only [z_new_1, z_pu_1, mh_1]; omega)) only [z_EvO_some, z_EvG_t, z_Bk_n, z_Bk_s, z_brT, z_brF, z_br_pos, z_br_neg, not_true_eq_false, not_false_eq_true, Bool.true_eq_false, Bool.false_eq_true, Bool.not_eq_false, Bool.not_eq_true, eq_self, z_kl_i, z_kl_l, z_kl_r, z_kl_k, z_kl_n, z_kl_u, z_kl_v, zi_f, zl_f, z_put_r, z_nul_n, z_nul_r, zcmp_lt, zcmp_le, zcmp_ge, zcmp_gt, zcmp_eq, zw_id, zx_id, Nat.reduceAdd, z_tf_i, z_tf_l, z_tf_z, zl_zx, zi_zw, z_gf0, z_gf1, z_gf2, z_gf3, z_gf4, z_gf5, z_gf6, z_gf7, z_pf0, z_pf1, z_pf2, z_pf3, z_pf4, z_pf5, z_pf6, z_pf7, z_ob1, zb_0, zb_1, zb_tf, e170, r170_0, r170_1, r170_4, r170_5, r170_6, r170_7, r170_8, r170_11, r170_12, r170_13, r170_14, r170_17, r170_18, r170_21, r170_22, r170_23, r170_26, r170_27, r170_28, r170_29, r170_32, r170_33, r170_34, r170_35, r170_38, r170_40, r170_41, r170_44, r170_45, r170_46, r170_50, r170_53, r170_54, r170_55, r170_58, r170_61, r170_62, r170_65, r170_66, r170_69, r170_70, r170_71, r170_73, r170_74, r170_77, r170_78, r170_81, r170_83, r170_84, r170_87, r170_88, r170_89, r170_90, r170_93, r170_96, r170_97, r170_100, r170_102, r170_104, r170_105, r170_108, r170_109, r170_110, r170_111, r170_114, r170_116, r170_119, r170_122, hS, a1, e2, q5, q1, b1, x154]
  exact lp _
theorem t193n (hi : zCI s h G Es Ks Rs) (hk : k < 3) (h6 : (Rs k).length = 6) : z_Cl 193 [.ref (12 + 3 * k), .ref a] (ch h G) Q = Q (.inl (some (zi 0))) (ch h G) := by
  obtain ⟨hF, hLk, h63, ⟨PE, d1, d2, d3, d4, d5⟩, hok, hoc, hG⟩ := id hi
  obtain ⟨P, K, c1, c2, c3, c4, c5, c6, c7⟩ := d5 k hk
  have o1 : z_at (ch h G) (.ref (12 + 3 * k)) = .inr (5, [.ref (13 + 3 * k), zi 6, .ref (14 + 3 * k), zi (Ks k).length]) := by rw [cat_o (by omega), c1, h6]; rfl
  have b0 : z_tf .boolean (zi 0) = true := by decide
  simp (disch := first | omega | assumption | exact zq_r _ | exact zn_0 | exact zo_i _ | exact zo_r _ | exact zq_k _ | exact zq_n | exact zn_1 _ | exact zn_2 _ _ | exact zn_3 _ _ _ | exact zn_4 _ _ _ _ | exact zn_5 _ _ _ _ _ | exact zc_i _ | exact zc_r _ | exact zo_l _ | exact zo_k _ | exact zo_n | exact zc_rk _ | (rw [zx_id (by omega)]; omega) | (rw [zw_id (by omega)]; omega) | (apply z_ok_v; assumption) | (simp only [z_new_1, z_pu_1, mh_1]; omega)) only [z_EvO_some, z_EvG_t, z_Bk_n, z_Bk_s, z_brT, z_brF, z_br_pos, z_br_neg, not_true_eq_false, not_false_eq_true, Bool.true_eq_false, Bool.false_eq_true, Bool.not_eq_false, Bool.not_eq_true, eq_self, z_kl_i, z_kl_l, z_kl_r, z_kl_k, z_kl_n, z_kl_u, z_kl_v, zi_f, zl_f, z_put_r, z_nul_n, z_nul_r, zcmp_lt, zcmp_le, zcmp_ge, zcmp_gt, zcmp_eq, zw_id, zx_id, Nat.reduceAdd, z_tf_i, z_tf_l, z_tf_z, zl_zx, zi_zw, z_gf0, z_gf1, z_gf2, z_gf3, z_gf4, z_gf5, z_gf6, z_gf7, z_pf0, z_pf1, z_pf2, z_pf3, z_pf4, z_pf5, z_pf6, z_pf7, z_ob1, zb_0, zb_1, zb_tf, e193, r193_0, r193_1, r193_4, r193_6, r193_9, r193_10, r193_11, r193_12, r193_13, r193_16, r193_17, r193_20, r193_21, r193_24, r193_25, r193_26, r193_27, r193_28, r193_31, r193_32, r193_33, r193_36, r193_37, o1, b0]
theorem t193 (hi : zCI s h G Es Ks Rs) (hk : k < 3) (h6 : (Rs k).length < 6) (hl : (Ks k).length ≤ 68 * (Rs k).length) (ha : zRk s h a R) (hR : zRok R) (hRc : ∀ c ∈ R.2, 32 ≤ c ∧ c ≤ 126)
    (kk : ∀ h', h'.1 = h.1 → h'.2.1 = h.2.1 → h'.2.2.2 = h.2.2.2 → (∀ x : Nat, ¬ (12 ≤ x ∧ x ≤ 20) → z_at h' (.ref x) = z_at h (.ref x)) → zCI s h' G Es (va_up Ks k (zKa (Ks k) R (Rs k).length)) (va_up Rs k (Rs k ++ [R])) → Q (.inl (some (zi 1))) (ch h' G)) : z_Cl 193 [.ref (12 + 3 * k), .ref a] (ch h G) Q := by
  obtain ⟨hF, hLk, h63, ⟨PE, d1, d2, d3, d4, d5⟩, hok, hoc, hG⟩ := id hi
  obtain ⟨P, K, c1, c2, c3, c4, c5, c6, c7⟩ := d5 k hk
  have r1 := hR.2.1
  have o1 : z_at (ch h G) (.ref (12 + 3 * k)) = .inr (5, [.ref (13 + 3 * k), zi (Rs k).length, .ref (14 + 3 * k), zi (Ks k).length]) := by rw [cat_o (by omega)]; exact c1
  have hob : z_isob (z_at (ch h G) (.ref (12 + 3 * k))) 5 = true := by rw [o1]; exact z_ob1
  obtain ⟨N, hN⟩ : ∃ N : Nat, N = (Ks k).length + (R.1 2 - R.1 1 + 1).toNat := ⟨_, rfl⟩
  have b1 : z_tf .boolean (zi 1) = true := by decide
  have hkk := hok.2 k hk
  have hKr : ∀ j, j < (Ks k).length → -9223372036854775808 ≤ K j ∧ K j ≤ 9223372036854775807 := fun j hj => by
    have := hkk.2.1 j hj
    rw [c6 j hj]
    omega
  have hla : 63 ≤ a := by obtain ⟨d, c, v, ⟨z1, -⟩, -⟩ := id ha; exact z1.1
  simp (disch := first | omega | assumption | exact zq_r _ | exact zn_0 | exact zo_i _ | exact zo_r _ | exact zq_k _ | exact zq_n | exact zn_1 _ | exact zn_2 _ _ | exact zn_3 _ _ _ | exact zn_4 _ _ _ _ | exact zn_5 _ _ _ _ _ | exact zc_i _ | exact zc_r _ | exact zo_l _ | exact zo_k _ | exact zo_n | exact zc_rk _ | (rw [zx_id (by omega)]; omega) | (rw [zw_id (by omega)]; omega) | (apply z_ok_v; assumption) | (simp only [z_new_1, z_pu_1, mh_1]; omega)) only [z_EvO_some, z_EvG_t, z_Bk_n, z_Bk_s, z_brT, z_brF, z_br_pos, z_br_neg, not_true_eq_false, not_false_eq_true, Bool.true_eq_false, Bool.false_eq_true, Bool.not_eq_false, Bool.not_eq_true, eq_self, z_kl_i, z_kl_l, z_kl_r, z_kl_k, z_kl_n, z_kl_u, z_kl_v, zi_f, zl_f, z_put_r, z_nul_n, z_nul_r, zcmp_lt, zcmp_le, zcmp_ge, zcmp_gt, zcmp_eq, zw_id, zx_id, Nat.reduceAdd, z_tf_i, z_tf_l, z_tf_z, zl_zx, zi_zw, z_gf0, z_gf1, z_gf2, z_gf3, z_gf4, z_gf5, z_gf6, z_gf7, z_pf0, z_pf1, z_pf2, z_pf3, z_pf4, z_pf5, z_pf6, z_pf7, z_ob1, zb_0, zb_1, zb_tf, e193, r193_0, r193_1, r193_4, r193_6, r193_9, r193_10, r193_11, r193_12, r193_13, r193_16, r193_17, r193_20, r193_21, r193_24, r193_25, r193_26, r193_27, r193_28, r193_31, r193_32, r193_33, r193_36, r193_37, o1]
  refine t170 (K := K) (N := N) o1 c3 (by omega) ha hF hR (by omega) hN (by omega) hKr (fun K' hK' => ?_)
  let h2 := z_pu (z_pu h (12 + 3 * k) (.inr (5, [.ref (13 + 3 * k), zi (Rs k).length, .ref (14 + 3 * k), zi N]))) (14 + 3 * k) (zLA 408 K')
  let P2 := va_up P (Rs k).length (some a)
  let h3 := z_pu h2 (13 + 3 * k) (zQA 8 6 P2)
  let h4 := z_pu h3 (12 + 3 * k) (.inr (5, [.ref (13 + 3 * k), zi ((Rs k).length + 1), .ref (14 + 3 * k), zi N]))
  have hat : ∀ x : Nat, x ≠ 12 + 3 * k → x ≠ 13 + 3 * k → x ≠ 14 + 3 * k → z_at h4 (.ref x) = z_at h (.ref x) := fun x n1 n2 n3 => by
    rw [z_at_pu_n n1, z_at_pu_n n2, z_at_pu_n n3, z_at_pu_n n1]
  have hag : zAg s h h4 := fun x hx _ => hat x (by have := hx.1; omega) (by have := hx.1; omega) (by have := hx.1; omega)
  have g1 : z_at h4 (.ref (12 + 3 * k)) = .inr (5, [.ref (13 + 3 * k), zi ((Rs k).length + 1), .ref (14 + 3 * k), zi N]) := z_at_pu_s _ _ _
  have g2 : z_at h4 (.ref (13 + 3 * k)) = zQA 8 6 P2 := by rw [z_at_pu_n (by omega)]; exact z_at_pu_s _ _ _
  have g3 : z_at h4 (.ref (14 + 3 * k)) = zLA 408 K' := by rw [z_at_pu_n (by omega), z_at_pu_n (by omega)]; exact z_at_pu_s _ _ _
  have eK : zKa (Ks k) R (Rs k).length = (zdl K' N).reverse := by
    unfold zKa
    rw [hK', zdl_congr (K := K) (K' := fun j => (Ks k).getD j 0) c6, zdl_list]
  have eL : (zKa (Ks k) R (Rs k).length).length = N := by rw [zKa_len, hN]
  have hci : zCI s h4 G Es (va_up Ks k (zKa (Ks k) R (Rs k).length)) (va_up Rs k (Rs k ++ [R])) := by
    refine ⟨fun x hx => ?_, hLk, h63, ⟨PE, ?_, ?_, d3, fun i hi => ?_, fun k' hk' => ?_⟩, ⟨hok.1, fun k' hk' => ?_⟩, ⟨hoc.1, fun k' hk' => ?_⟩, hG⟩
    · have hx : h.1 ≤ x := hx
      rw [hat x (by omega) (by omega) (by omega)]
      exact hF x hx
    · rw [hat 3 (by omega) (by omega) (by omega)]; exact d1
    · rw [hat 4 (by omega) (by omega) (by omega)]; exact d2
    · obtain ⟨e, e1, e2⟩ := d4 i hi
      exact ⟨e, e1, e2.ag hag hF⟩
    · by_cases hkk' : k' = k
      · subst hkk'
        rw [va_up_self, va_up_self]
        refine ⟨P2, K', ?_, g2, g3, ?_, ?_, fun j hj => ?_, fun r hr => ?_⟩
        · rw [g1, eL]
          have : (((Rs k' ++ [R]).length : Nat) : Int) = (Rs k').length + 1 := by rw [List.length_append]; simp
          rw [this]
        · rw [List.length_append]
          have : [R].length = 1 := rfl
          omega
        · rw [eL]; omega
        · rw [eL] at hj
          rw [eK]
          exact (zdl_get hj).symm
        · rw [List.length_append] at hr
          have h1 : [R].length = 1 := rfl
          by_cases hr2 : r < (Rs k').length
          · obtain ⟨e, e1, e2⟩ := c7 r hr2
            refine ⟨e, ?_, ?_⟩
            · show va_up P (Rs k').length (some a) r = some e
              rw [va_up_ne _ _ (by omega)]
              exact e1
            · rw [List.getD_eq_getElem?_getD, List.getElem?_append_left hr2, ← List.getD_eq_getElem?_getD]
              exact e2.ag hag hF
          · have hr3 : r = (Rs k').length := by omega
            subst hr3
            refine ⟨a, va_up_self _ _ _, ?_⟩
            rw [List.getD_eq_getElem?_getD, List.getElem?_append_right (Nat.le_refl _), Nat.sub_self]
            exact ha.ag hag hF
      · rw [va_up_ne _ _ hkk', va_up_ne _ _ hkk']
        exact (d5 k' hk').ag hag hF (hat _ (by omega) (by omega) (by omega)) (hat _ (by omega) (by omega) (by omega)) (hat _ (by omega) (by omega) (by omega))
    · by_cases hkk' : k' = k
      · subst hkk'
        rw [va_up_self, va_up_self]
        exact zKa_ok hkk hR h6
      · rw [va_up_ne _ _ hkk', va_up_ne _ _ hkk']
        exact hok.2 k' hk'
    · by_cases hkk' : k' = k
      · subst hkk'
        rw [va_up_self]
        intro R' hR'
        rcases List.mem_append.mp hR' with hm | hm
        · exact hoc.2 k' hk' R' hm
        · rw [List.mem_singleton.mp hm]
          exact hRc
      · rw [va_up_ne _ _ hkk']
        exact hoc.2 k' hk'
  have fin := kk h4 rfl rfl rfl (fun x hx => hat x (by omega) (by omega) (by omega)) hci
  have y1 : z_at (ch h2 G) (.ref (12 + 3 * k)) = .inr (5, [.ref (13 + 3 * k), zi (Rs k).length, .ref (14 + 3 * k), zi N]) := by
    rw [cat_o (by omega), z_at_pu_n (by omega)]
    exact z_at_pu_s _ _ _
  have y2 : z_at (ch h2 G) (.ref (13 + 3 * k)) = zQA 8 6 P := by
    rw [cat_o (by omega), z_at_pu_n (by omega), z_at_pu_n (by omega)]
    exact c2
  obtain ⟨d, c, v, -, w1, -⟩ := id ha
  have y3 : z_at (ch h2 G) (.ref a) = .inr (9, [zi (R.1 0), zi (R.1 1), zi (R.1 2), zi (R.1 3), .ref d, .ref c, zi (R.1 9), v]) := by
    rw [cat_o (by omega), z_at_pu_n (by omega), z_at_pu_n (by omega)]
    exact w1
  have y4 : ∀ fs : List Value, zg_sq (.inr (9, fs)) (zQA 8 6 P) (.ref a) ((Rs k).length : Int) = some (zQA 8 6 P2) := by
    intro fs
    have e1 : z_aok (.inr (9, fs)) (zQA 8 6 P) (.ref a) = some a := rfl
    unfold zg_sq
    rw [e1]
    have e2 : z_ty (zQA 8 6 P) = 8 := rfl
    show z_sq (zQA 8 6 P) (z_ty (zQA 8 6 P)) _ _ = _
    rw [e2, z_sq_A (by omega) (by omega)]
    have e3 : ((Rs k).length : Int).toNat = (Rs k).length := by omega
    rw [e3]
  have y5 : z_pu (ch h2 G) (13 + 3 * k) (zQA 8 6 P2) = ch h3 G := cpu_o (by omega)
  have y6 : z_at (ch h3 G) (.ref (12 + 3 * k)) = .inr (5, [.ref (13 + 3 * k), zi (Rs k).length, .ref (14 + 3 * k), zi N]) := by
    rw [cat_o (by omega), z_at_pu_n (by omega), z_at_pu_n (by omega)]
    exact z_at_pu_s _ _ _
  have y7 : z_pu (ch h3 G) (12 + 3 * k) (.inr (5, [.ref (13 + 3 * k), zi ((Rs k).length + 1), .ref (14 + 3 * k), zi N])) = ch h4 G := cpu_o (by omega)
  show z_Bk _ _ _ _ _ _ (ch h2 G)
  simp (disch := first | omega | assumption | exact zq_r _ | exact zn_0 | exact zo_i _ | exact zo_r _ | exact zq_k _ | exact zq_n | exact zn_1 _ | exact zn_2 _ _ | exact zn_3 _ _ _ | exact zn_4 _ _ _ _ | exact zn_5 _ _ _ _ _ | exact zc_i _ | exact zc_r _ | exact zo_l _ | exact zo_k _ | exact zo_n | exact zc_rk _ | (rw [zx_id (by omega)]; omega) | (rw [zw_id (by omega)]; omega) | (apply z_ok_v; assumption) | (simp only [z_new_1, z_pu_1, mh_1]; omega)) only [z_EvO_some, z_EvG_t, z_Bk_n, z_Bk_s, z_brT, z_brF, z_br_pos, z_br_neg, not_true_eq_false, not_false_eq_true, Bool.true_eq_false, Bool.false_eq_true, Bool.not_eq_false, Bool.not_eq_true, eq_self, z_kl_i, z_kl_l, z_kl_r, z_kl_k, z_kl_n, z_kl_u, z_kl_v, zi_f, zl_f, z_put_r, z_nul_n, z_nul_r, zcmp_lt, zcmp_le, zcmp_ge, zcmp_gt, zcmp_eq, zw_id, zx_id, Nat.reduceAdd, z_tf_i, z_tf_l, z_tf_z, zl_zx, zi_zw, z_gf0, z_gf1, z_gf2, z_gf3, z_gf4, z_gf5, z_gf6, z_gf7, z_pf0, z_pf1, z_pf2, z_pf3, z_pf4, z_pf5, z_pf6, z_pf7, z_ob1, zb_0, zb_1, zb_tf, r193_0, r193_1, r193_4, r193_6, r193_9, r193_10, r193_11, r193_12, r193_13, r193_16, r193_17, r193_20, r193_21, r193_24, r193_25, r193_26, r193_27, r193_28, r193_31, r193_32, r193_33, r193_36, r193_37, y1, y2, y3, y4, y5, y6, y7, b1]
  exact fin
end ZAd
