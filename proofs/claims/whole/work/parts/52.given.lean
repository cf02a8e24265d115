/-! THE TIE: what is given at the law's entry -/
def z_sub : List Cond → List Cond → Bool
  | [], _ => true
  | _ :: _, [] => false
  | a :: as, b :: bs => if a = b then z_sub as bs else z_sub (a :: as) bs
theorem z_sub_mem : ∀ (bs as : List Cond), z_sub as bs = true → ∀ w ∈ as, w ∈ bs := by
  intro bs
  induction bs with
  | nil =>
    intro as h w hw
    cases as with
    | nil => cases hw
    | cons a as => cases h
  | cons b bs ih =>
    intro as h w hw
    cases as with
    | nil => cases hw
    | cons a as =>
      unfold z_sub at h
      split at h
      · rename_i e
        rcases List.mem_cons.mp hw with rfl | hw
        · rw [e]; exact List.mem_cons_self
        · exact List.mem_cons_of_mem _ (ih as h w hw)
      · exact List.mem_cons_of_mem _ (ih (a :: as) h w hw)
abbrev zX : Type := String × Nat × String × List Nat
/-- what is said of a literal -/
def zw_v (x : zX) : Term := .field (.string x.1 x.2.1) "java/lang/String" "value" "[B"
def zw_str (x : zX) : List Cond := .exactly (.string x.1 x.2.1) "java/lang/String" :: .eq (.field (.string x.1 x.2.1) "java/lang/String" "coder" "B") (.int 0) :: .arrayOf (zw_v x) .byte :: .eq (.length (zw_v x)) (.int (Int32.ofNat x.2.2.2.length)) :: (List.range x.2.2.2.length).map (fun j => .eq (.elem (zw_v x) (.int (Int32.ofNat j))) (.int (Int32.ofNat (x.2.2.2.getD j 0))))
def zw_6 : List Cond := [.eq (.static "java/lang/String" "COMPACT_STRINGS" "Z") (.int 1), .isRef (.static "jdk/internal/util/Preconditions" "SIOOBE_FORMATTER" "Ljava/util/function/BiFunction;"), .isRef (.static "java/lang/Throwable" "UNASSIGNED_STACK" "[Ljava/lang/StackTraceElement;"), .isRef (.static "java/lang/Throwable" "SUPPRESSED_SENTINEL" "Ljava/util/List;"), .not (.castable "java/lang/IllegalStateException" "java/lang/IllegalArgumentException"), .not (.castable "java/lang/IllegalArgumentException" "java/lang/IllegalStateException")]
def zw_all : List Cond := zw_6 ++ zt_strs.flatMap zw_str
set_option maxRecDepth 100000 in
theorem zw_ok : z_sub zw_all (flatC narrow_1) = true := by decide +kernel
def zw_pos : List Nat := [411, 506, 568, 861, 874, 889, 903, 904, 910, 920, 1002, 1004, 1005, 1103, 1105, 1108, 1110, 1112, 1125, 1169]
def zw_ref : List zX → List Nat → Bool
  | [], _ => true
  | _ :: _, [] => false
  | x :: xs, k :: ks => decide (lw_tbl[k]? = some (.stringRef x.1 x.2.1 x.2.2.1)) && zw_ref xs ks
theorem zw_ref_mem : ∀ (xs : List zX) (ks : List Nat), zw_ref xs ks = true → ∀ x ∈ xs, Cond.stringRef x.1 x.2.1 x.2.2.1 ∈ lw_tbl := by
  intro xs
  induction xs with
  | nil => intro ks _ x hx; cases hx
  | cons a r ih =>
    intro ks h x hx
    cases ks with
    | nil => cases h
    | cons k ks =>
      simp only [zw_ref, Bool.and_eq_true, decide_eq_true_eq] at h
      rcases List.mem_cons.mp hx with rfl | hx
      · exact List.mem_of_getElem? h.1
      · exact ih ks h.2 x hx
theorem zw_ref_ok : zw_ref zt_strs zw_pos = true := by decide +kernel
def zi_L : List (Nat × Nat) := [(94, 8), (102, 4), (638, 4), (139, 2), (153, 8), (187, 4), (628, 4), (932, 3), (975, 2), (991, 8), (1118, 7), (1307, 61), (1079, 6), (663, 6), (1196, 6)]
theorem zi_ok : (List.range 15).all (fun c => match zt_cl[c]?, zi_L[c]? with
  | some (C, _, _), some (k, n) => decide (lw_tbl[k]? = some (.instantiable C n))
  | _, _ => false) = true := by decide +kernel
theorem zw_asc : zt_strs.all (fun x => decide (x.2.2.2.length < 2 ^ 31) && x.2.2.2.all (fun c => decide (c < 128))) = true := by decide +kernel
theorem zw_fits : ∀ c, c < 128 → fits .byte (.int (Int32.ofNat c)) = true := by decide +kernel
section ZS
variable {args : Array Value} {s : State}
theorem zg_arr {ty : FieldType} (h : (Cond.arrayClass ty).before args s = true) : ∃ cA, ArrOfT s cA ty ∧ s.vm.findClass ("[" ++ ty.toString) = some cA := by
  obtain ⟨c, k, comp, h1, h2, h3⟩ := Cond.arrayClass_spec h
  exact ⟨c, fun n z => ⟨(fun k e => by cases e), k, h2, comp, h3⟩, h1⟩
theorem zg_arro {C : String} (h : (Cond.arrayOver (.object C)).before args s = true) : ∃ cA, ArrOfT s cA (.object C) ∧ va_RA s cA (.object C) := by
  obtain ⟨comp, c, k, h1, h2, h3, h4, h5⟩ := Cond.arrayOver_spec h
  exact ⟨c, fun n z => ⟨(fun k e => by cases e), k, h3, comp, h4⟩, k, comp, h3, h4, h1, h5⟩
theorem zg_K (hts : ∀ w ∈ z_wl, w.before args s = true) : ∃ (D : va_G) (tA : Nat → Nat), va_K D zt_cl (z_tys tA) s := by
  have h1 : ∀ c : Nat, ∃ q : ClassId × (Nat → Nat), ∀ r : vw_C, zt_cl[c]? = some r → u_Kn s r.1 r.2.1 r.2.2 q.1 q.2 := by
    intro c
    cases hc : zt_cl[c]? with
    | none => exact ⟨(0, fun _ => 0), fun r h => by cases h⟩
    | some r =>
      obtain ⟨C, T, N⟩ := r
      have hlt : c < 15 := (List.getElem?_eq_some_iff.mp hc).1
      have h2 := List.all_eq_true.mp zi_ok c (List.mem_range.mpr hlt)
      rw [hc] at h2
      split at h2
      · rename_i C' T' N' k n e1 e2
        cases e1
        obtain ⟨ts, -, hin, -, -⟩ := zt_cl_spec hc
        obtain ⟨cC, iS, hk⟩ := u_known hts hin (hts _ (z_wl_at (of_decide_eq_true h2) rfl))
        exact ⟨(cC, iS), fun r h => by cases h; exact hk⟩
      · cases h2
  obtain ⟨c1, a1, b1⟩ := zg_arr (hts _ (z_wl_at (k := 853) (w := .arrayClass .int) (by decide +kernel) rfl))
  obtain ⟨c2, a2, b2⟩ := zg_arr (hts _ (z_wl_at (k := 133) (w := .arrayClass .byte) (by decide +kernel) rfl))
  obtain ⟨c3, a3, b3⟩ := zg_arr (hts _ (z_wl_at (k := 1496) (w := .arrayClass .char) (by decide +kernel) rfl))
  obtain ⟨c4, a4, b4⟩ := zg_arr (hts _ (z_wl_at (k := 1497) (w := .arrayClass .boolean) (by decide +kernel) rfl))
  obtain ⟨c5, a5, b5⟩ := zg_arr (hts _ (z_wl_at (k := 210) (w := .arrayClass .long) (by decide +kernel) rfl))
  obtain ⟨c6, a6, b6⟩ := zg_arro (hts _ (z_wl_at (k := 135) (w := .arrayOver (.object "ZoneDesk$RuleSet")) (by decide +kernel) rfl))
  obtain ⟨c7, a7, b7⟩ := zg_arro (hts _ (z_wl_at (k := 137) (w := .arrayOver (.object "ZoneDesk$Era")) (by decide +kernel) rfl))
  obtain ⟨c8, a8, b8⟩ := zg_arro (hts _ (z_wl_at (k := 193) (w := .arrayOver (.object "ZoneDesk$Rule")) (by decide +kernel) rfl))
  refine ⟨(fun c => (h1 c).choose.1, fun c => (h1 c).choose.2), fun t => [0, c1, c2, c3, c4, c5, c6, c7, c8].getD t 0, fun c q hq => (h1 c).choose_spec q hq, fun k q hk => ?_⟩
  have hlt : k < 8 := (List.getElem?_eq_some_iff.mp hk).1
  match k, hlt, hk with
  | 0, _, hk => cases hk; exact ⟨a1, b1⟩
  | 1, _, hk => cases hk; exact ⟨a2, b2⟩
  | 2, _, hk => cases hk; exact ⟨a3, b3⟩
  | 3, _, hk => cases hk; exact ⟨a4, b4⟩
  | 4, _, hk => cases hk; exact ⟨a5, b5⟩
  | 5, _, hk => cases hk; exact ⟨a6, b6⟩
  | 6, _, hk => cases hk; exact ⟨a7, b7⟩
  | 7, _, hk => cases hk; exact ⟨a8, b8⟩
/-- a literal -/
theorem zg_lit (hn : ∀ w ∈ flatC narrow_1, w.before args s = true) (hA : ∀ a : Nat, a < s.heap.size → ¬ z_A s.heap.size a) {x : zX} (hx : x ∈ zt_strs) : ∃ q : Nat × Nat, (Term.string x.1 x.2.1).eval args s none [] s = some (.ref q.1) ∧ va_O "java/lang/String" q.1 (z_A s.heap.size) s s.heap ∧ va_OF "java/lang/String" "coder" "B" (.int 0) q.1 (z_A s.heap.size) s s.heap ∧ va_OF "java/lang/String" "value" "[B" (.ref q.2) q.1 (z_A s.heap.size) s s.heap ∧ va_T .byte q.2 x.2.2.2.length (fun j => .int (Int32.ofNat (x.2.2.2.getD j 0))) (z_A s.heap.size) s s.heap := by
  have hw : ∀ w ∈ zw_str x, w.before args s = true := fun w h9 => hn w (z_sub_mem _ _ zw_ok w (List.mem_append.mpr (Or.inr (List.mem_flatMap.mpr ⟨x, hx, h9⟩))))
  have hlen : x.2.2.2.length < 2 ^ 31 := by
    have := List.all_eq_true.mp zw_asc x hx
    simp only [Bool.and_eq_true, decide_eq_true_eq] at this
    exact this.1
  have hg : ∀ j, (x.2.2.2.map Int32.ofNat).getD j 0 = Int32.ofNat (x.2.2.2.getD j 0) := by
    intro j
    simp only [List.getD_eq_getElem?_getD, List.getElem?_map]
    cases x.2.2.2[j]? <;> rfl
  obtain ⟨adK, adV, hS, hE⟩ := vk_Sof (args := args) (s := s) (N := 1) (tm := fun _ => .string x.1 x.2.1) (len := [x.2.2.2.length]) (byt := [x.2.2.2.map Int32.ofNat]) (A := z_A s.heap.size)
    (fun i hi => by obtain rfl : i = 0 := by omega
                    exact hlen)
    (fun i _ => hw _ (List.mem_cons_self)) (fun i _ => hw _ (List.mem_cons_of_mem _ List.mem_cons_self)) (fun i _ => hw _ (List.mem_cons_of_mem _ (List.mem_cons_of_mem _ List.mem_cons_self)))
    (fun i hi => by obtain rfl : i = 0 := by omega
                    exact hw _ (List.mem_cons_of_mem _ (List.mem_cons_of_mem _ (List.mem_cons_of_mem _ List.mem_cons_self))))
    (fun i hi j hj => by
      obtain rfl : i = 0 := by omega
      have hj' : j < x.2.2.2.length := hj
      show (Cond.eq (.elem (zw_v x) (.int (Int32.ofNat j))) (.int ((x.2.2.2.map Int32.ofNat).getD j 0))).before args s = true
      rw [hg]
      exact hw _ (List.mem_cons_of_mem _ (List.mem_cons_of_mem _ (List.mem_cons_of_mem _ (List.mem_cons_of_mem _ (List.mem_map.mpr ⟨j, List.mem_range.mpr hj', rfl⟩))))))
    (fun i j hi hj hne => by omega) hA
  obtain ⟨k1, k2, k3, k4⟩ := hS.1 0 (by omega)
  refine ⟨(adK 0, adV 0), hE 0 (by omega), k1, k2, k3, ?_⟩
  have e : (fun j => Value.int (Int32.ofNat (x.2.2.2.getD j 0))) = (fun j => Value.int (((([x.2.2.2.map Int32.ofNat] : List (List Int32)).getD 0 []).getD j 0))) := by
    funext j
    show _ = Value.int ((x.2.2.2.map Int32.ofNat).getD j 0)
    rw [hg]
  rw [e]
  exact k4
/-- the given cells -/
def z_K0 (L : Nat) (xs : Nat → Int32) (k : Nat) : zE := if k = 98 then .inl (1, L, .inl xs) else match zt_strs[k / 2]? with
  | some x => if k % 2 = 0 then .inr (2, [.retAddr (k + 1), .int 0]) else .inl (2, x.2.2.2.length, .inl (fun j => Int32.ofNat (x.2.2.2.getD j 0)))
  | none => .inr (9999, [])
def z_lt0 (b : Nat) (v : Value) (ad : Nat → Nat × Nat) (k : Nat) : Value := if k = 98 then .ref b else if k = 150 then v else if k < 60 then (if k % 2 = 0 then .ref (ad (k / 2)).1 else .ref (ad (k / 2)).2) else .ref b
theorem zg_len : zt_strs.length < 30 := by decide +kernel
theorem zg_G {b L : Nat} {xs : Nat → Int32} (hts : ∀ w ∈ lw_tbl, w.before args s = true) (hgv : (Jvm.Cond.and given_1 narrow_1).before args s = true) (hX : va_X b L xs s s.heap) (hbl : b < s.heap.size) : ∃ (D : va_G) (lt : Nat → Value) (tA : Nat → Nat), z_G D s.heap.size lt tA (z_K0 L xs) s ∧ lt 98 = .ref b ∧ ∀ w ∈ z_wl, w.before args s = true := by
  have hw : ∀ w ∈ z_wl, w.before args s = true := by
    intro w hw
    obtain ⟨w0, h0, rfl⟩ := List.mem_map.mp hw
    split
    · exact hts _ (List.mem_of_getElem? (i := 61) (by decide +kernel))
    · exact hts _ h0
  have hn : ∀ w ∈ flatC narrow_1, w.before args s = true := by
    rw [Cond.before_and, Bool.and_eq_true] at hgv
    exact flat_of_before _ hgv.2
  have hA : ∀ a : Nat, a < s.heap.size → ¬ z_A s.heap.size a := fun a ha h9 => by unfold z_A at h9; omega
  have h6 : ∀ w ∈ zw_6, w.before args s = true := fun w h9 => hn w (z_sub_mem _ _ zw_ok w (List.mem_append.mpr (Or.inl h9)))
  obtain ⟨D, tA, hK⟩ := zg_K hw
  obtain ⟨v150, hv150, hr150⟩ := Cond.isRef_spec (h6 (.isRef (.static "jdk/internal/util/Preconditions" "SIOOBE_FORMATTER" "Ljava/util/function/BiFunction;")) (by decide))
  have hlit : ∀ j : Nat, ∃ q : Nat × Nat, (∀ x : zX, zt_strs[j]? = some x → (Term.string x.1 x.2.1).eval args s none [] s = some (.ref q.1) ∧ va_O "java/lang/String" q.1 (z_A s.heap.size) s s.heap ∧ va_OF "java/lang/String" "coder" "B" (.int 0) q.1 (z_A s.heap.size) s s.heap ∧ va_OF "java/lang/String" "value" "[B" (.ref q.2) q.1 (z_A s.heap.size) s s.heap ∧ va_T .byte q.2 x.2.2.2.length (fun j => .int (Int32.ofNat (x.2.2.2.getD j 0))) (z_A s.heap.size) s s.heap) ∧ q.1 < s.heap.size ∧ q.2 < s.heap.size := by
    intro j
    cases hj : zt_strs[j]? with
    | none => exact ⟨(b, b), (fun x h => by cases h), hbl, hbl⟩
    | some x =>
      obtain ⟨q, k1, k2, k3, k4, k5⟩ := zg_lit hn hA (List.mem_of_getElem? hj)
      refine ⟨q, fun x h => by cases h; exact ⟨k1, k2, k3, k4, k5⟩, ?_, ?_⟩
      · obtain ⟨cell, c1, -⟩ := k2
        exact (Array.getElem?_eq_some_iff.mp c1).1
      · obtain ⟨cell, c1, -⟩ := k5
        exact (Array.getElem?_eq_some_iff.mp c1).1
  have had : ∃ ad : Nat → Nat × Nat, ∀ j, (∀ x : zX, zt_strs[j]? = some x → (Term.string x.1 x.2.1).eval args s none [] s = some (.ref (ad j).1) ∧ va_O "java/lang/String" (ad j).1 (z_A s.heap.size) s s.heap ∧ va_OF "java/lang/String" "coder" "B" (.int 0) (ad j).1 (z_A s.heap.size) s s.heap ∧ va_OF "java/lang/String" "value" "[B" (.ref (ad j).2) (ad j).1 (z_A s.heap.size) s s.heap ∧ va_T .byte (ad j).2 x.2.2.2.length (fun j => .int (Int32.ofNat (x.2.2.2.getD j 0))) (z_A s.heap.size) s s.heap) ∧ (ad j).1 < s.heap.size ∧ (ad j).2 < s.heap.size := ⟨fun j => (hlit j).choose, fun j => (hlit j).choose_spec⟩
  obtain ⟨ad, had⟩ := had
  have hk30 : ∀ {j : Nat} {x : zX}, zt_strs[j]? = some x → j < 30 := fun {j x} h => Nat.lt_trans (List.getElem?_eq_some_iff.mp h).1 zg_len
  have lt98 : z_lt0 b v150 ad 98 = .ref b := rfl
  have lt150 : z_lt0 b v150 ad 150 = v150 := rfl
  have ltE : ∀ {j : Nat}, j < 30 → z_lt0 b v150 ad (2 * j) = .ref (ad j).1 := by
    intro j hj
    unfold z_lt0
    rw [if_neg (by omega), if_neg (by omega), if_pos (by omega), if_pos (by omega), show 2 * j / 2 = j by omega]
  have ltO : ∀ {j : Nat}, j < 30 → z_lt0 b v150 ad (2 * j + 1) = .ref (ad j).2 := by
    intro j hj
    unfold z_lt0
    rw [if_neg (by omega), if_neg (by omega), if_pos (by omega), if_neg (by omega), show (2 * j + 1) / 2 = j by omega]
  refine ⟨D, z_lt0 b v150 ad, tA, ⟨?_, ?_, hK, Nat.le_refl _, ?_, ⟨?_, ?_⟩, ?_, ?_, ?_, ?_, ?_⟩, lt98, hw⟩
  · intro k
    unfold z_lt0
    repeat' split
    · exact Or.inr ⟨_, rfl⟩
    · cases v150 with
      | null => exact Or.inl rfl
      | ref a => exact Or.inr ⟨a, rfl⟩
      | _ => cases hr150
    · exact Or.inr ⟨_, rfl⟩
    · exact Or.inr ⟨_, rfl⟩
    · exact Or.inr ⟨_, rfl⟩
  · intro k hk
    unfold z_lt0
    rw [if_neg (show ¬ k = 150 by omega)]
    repeat' split
    · exact ⟨b, rfl, hbl⟩
    · exact ⟨_, rfl, (had _).2.1⟩
    · exact ⟨_, rfl, (had _).2.2⟩
    · exact ⟨b, rfl, hbl⟩
  · intro k
    unfold z_gv
    by_cases hk : k = 98
    · subst hk
      obtain ⟨scr, h1, h2, h3, h4, h5⟩ := hX
      exact ⟨b, lt98, .int, Or.inl ⟨rfl, rfl⟩, ⟨scr, h1, h2, h3, by omega, (by rw [h4]), h5, hA b hbl⟩, fun h9 => absurd h9 (by decide)⟩
    · have e1 : z_K0 L xs k = (match zt_strs[k / 2]? with
          | some x => if k % 2 = 0 then .inr (2, [.retAddr (k + 1), .int 0]) else .inl (2, x.2.2.2.length, .inl (fun j => Int32.ofNat (x.2.2.2.getD j 0)))
          | none => .inr (9999, [])) := by unfold z_K0; rw [if_neg hk]
      rw [e1]
      cases hx : zt_strs[k / 2]? with
      | none => exact Or.inl rfl
      | some x =>
        have hj := hk30 hx
        obtain ⟨⟨k1, k2, k3, k4, k5⟩, -⟩ := And.imp_left (fun h => h x hx) (had (k / 2))
        by_cases hm : k % 2 = 0
        · dsimp only
          rw [if_pos hm]
          refine Or.inr ⟨rfl, (ad (k / 2)).1, ?_, ?_, k2⟩
          · have := ltE hj
            rwa [show 2 * (k / 2) = k by omega] at this
          · intro j v hj9 hv
            match j, hj9 with
            | 0, hj9 =>
              cases hj9
              have := ltO hj
              rw [show 2 * (k / 2) + 1 = k + 1 by omega] at this
              show va_OF "java/lang/String" "value" "[B" (z_lt0 b v150 ad (k + 1)) _ _ s s.heap
              rw [this]
              exact k4
            | 1, hj9 =>
              cases hj9
              exact k3
            | j + 2, hj9 => simp at hj9
        · dsimp only
          rw [if_neg hm]
          refine ⟨(ad (k / 2)).2, ?_, .byte, Or.inr ⟨rfl, rfl⟩, k5, fun _ j hj9 => ?_⟩
          · have := ltO hj
            rwa [show 2 * (k / 2) + 1 = k by omega] at this
          · apply zw_fits
            have h9 := List.all_eq_true.mp zw_asc x (List.mem_of_getElem? hx)
            simp only [Bool.and_eq_true, List.all_eq_true, decide_eq_true_eq] at h9
            rw [List.getD_eq_getElem?_getD, List.getElem?_eq_getElem hj9]
            exact h9.2 _ (List.getElem_mem hj9)
  · exact va_Zof (hts _ (List.mem_of_getElem? (i := 111) (by decide +kernel))) (hts _ (List.mem_of_getElem? (i := 65) (by decide +kernel))) (va_eqi (h6 _ (by decide))) hA
  · rw [lt150]
    exact va_Zof (hts _ (List.mem_of_getElem? (i := 317) (by decide +kernel))) (hts _ (List.mem_of_getElem? (i := 76) (by decide +kernel))) hv150 hA
  · intro j x hx
    refine ⟨(ad j).1, ltE (hk30 hx), vk_R.of (A := args) (hts _ (zw_ref_mem _ _ zw_ref_ok x (List.mem_of_getElem? hx))) ?_⟩
    exact ((had j).1 x hx).1
  · exact z_st.of (hts _ (List.mem_of_getElem? (i := 689) (by decide +kernel))) (h6 _ (by decide)) hA
  · exact z_st.of (hts _ (List.mem_of_getElem? (i := 691) (by decide +kernel))) (h6 _ (by decide)) hA
  · have h9 := Cond.holds_not_iff.mp (h6 (.not (.castable "java/lang/IllegalStateException" "java/lang/IllegalArgumentException")) (by decide))
    have e1 : s.vm.findClass "java/lang/IllegalStateException" = some (D.1 12) := (hK.1 12 _ rfl).2.1
    have e2 : s.vm.findClass "java/lang/IllegalArgumentException" = some (D.1 13) := (hK.1 13 _ rfl).2.1
    simp only [Cond.value, e1, e2] at h9
    exact Option.some.inj h9
  · have h9 := Cond.holds_not_iff.mp (h6 (.not (.castable "java/lang/IllegalArgumentException" "java/lang/IllegalStateException")) (by decide))
    have e1 : s.vm.findClass "java/lang/IllegalStateException" = some (D.1 12) := (hK.1 12 _ rfl).2.1
    have e2 : s.vm.findClass "java/lang/IllegalArgumentException" = some (D.1 13) := (hK.1 13 _ rfl).2.1
    simp only [Cond.value, e1, e2] at h9
    exact Option.some.inj h9
end ZS
