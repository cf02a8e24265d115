/-! THE TIE: the heap -/
/-- the types of the arrays, by their numbers -/
def z_tys (tA : Nat → Nat) : List (ClassId × FieldType) := [(tA 1, .int), (tA 2, .byte), (tA 3, .char), (tA 4, .boolean), (tA 5, .long), (tA 6, .object "ZoneDesk$RuleSet"), (tA 7, .object "ZoneDesk$Era"), (tA 8, .object "ZoneDesk$Rule")]
/-- a byte array holds bytes -/
def z_bf (e : zE) : Prop := match e with
  | .inl (t, _, .inl f) => t = 2 → ∀ j, fits .byte (.int (f j)) = true
  | _ => True
def z_Rel (D : va_G) (bs : Nat) (lt : Nat → Value) (tA : Nat → Nat) (K : Nat → zE) (h : zH) (H : Heap) : Prop :=
  H.size = bs + h.1 ∧ (∀ a, a < h.1 → va_at D zt_cl (bs + a, z_tr bs lt tA (h.2.2.1 a)) H) ∧ (∀ a, h.1 ≤ a → h.2.2.1 a = z_jk) ∧ h.2.2.2 = K ∧ ∀ a, z_bf (h.2.2.1 a)
theorem z_Rel.in {D : va_G} {bs : Nat} {lt : Nat → Value} {tA : Nat → Nat} {K : Nat → zE} {h : zH} {H : Heap} (r : z_Rel D bs lt tA K h H) {a : Nat} {e : zE} (he : h.2.2.1 a = e) (hn : e ≠ z_jk) : a < h.1 ∧ va_at D zt_cl (bs + a, z_tr bs lt tA e) H := by
  by_cases ha : a < h.1
  · exact ⟨ha, by rw [← he]; exact r.2.1 a ha⟩
  · exact absurd (he.symm.trans (r.2.2.1 a (by omega))) hn
theorem z_Rel.put {D : va_G} {bs : Nat} {lt : Nat → Value} {tA : Nat → Nat} {K : Nat → zE} {h : zH} {H H1 : Heap} (r : z_Rel D bs lt tA K h H) {a : Nat} (ha : a < h.1) (e : zE) (hs : H1.size = H.size) (ho : ∀ q : Nat, q ≠ bs + a → H1[q]? = H[q]?) (he : va_at D zt_cl (bs + a, z_tr bs lt tA e) H1) (hbf : z_bf e) : z_Rel D bs lt tA K (h.1, h.2.1, va_up h.2.2.1 a e, h.2.2.2) H1 := by
  refine ⟨hs.trans r.1, fun b hb => ?_, fun b hb => ?_, r.2.2.2.1, fun b => ?_⟩
  · by_cases hab : b = a
    · subst hab
      show va_at D zt_cl (bs + b, z_tr bs lt tA (va_up h.2.2.1 b e b)) H1
      rw [va_up_self]
      exact he
    · show va_at D zt_cl (bs + b, z_tr bs lt tA (va_up h.2.2.1 a e b)) H1
      rw [va_up_ne _ _ hab]
      exact (r.2.1 b hb).kept (ho _ (fun z => hab (Nat.add_left_cancel z)))
  · show va_up h.2.2.1 a e b = z_jk
    have hb' : h.1 ≤ b := hb
    rw [va_up_ne _ _ (by omega)]
    exact r.2.2.1 b hb'
  · show z_bf (va_up h.2.2.1 a e b)
    by_cases hab : b = a
    · subst hab; rw [va_up_self]; exact hbf
    · rw [va_up_ne _ _ hab]; exact r.2.2.2.2 b
theorem z_Rel.new {D : va_G} {bs : Nat} {lt : Nat → Value} {tA : Nat → Nat} {K : Nat → zE} {h : zH} {H H1 : Heap} (r : z_Rel D bs lt tA K h H) (n : Nat) (e : zE) (hs : H1.size = H.size + 1) (ho : ∀ q : Nat, q < H.size → H1[q]? = H[q]?) (he : va_at D zt_cl (bs + h.1, z_tr bs lt tA e) H1) (hbf : z_bf e) : z_Rel D bs lt tA K (z_new h n e) H1 := by
  refine ⟨by rw [hs, r.1]; rfl, fun b hb => ?_, fun b hb => ?_, r.2.2.2.1, fun b => ?_⟩
  · have hb' : b < h.1 + 1 := hb
    by_cases hab : b = h.1
    · subst hab
      show va_at D zt_cl (bs + h.1, z_tr bs lt tA (va_up h.2.2.1 h.1 e h.1)) H1
      rw [va_up_self]
      exact he
    · show va_at D zt_cl (bs + b, z_tr bs lt tA (va_up h.2.2.1 h.1 e b)) H1
      rw [va_up_ne _ _ hab]
      exact (r.2.1 b (by omega)).kept (ho _ (by rw [r.1]; show bs + b < bs + h.1; omega))
  · show va_up h.2.2.1 h.1 e b = z_jk
    have hb' : h.1 + 1 ≤ b := hb
    rw [va_up_ne _ _ (by omega)]
    exact r.2.2.1 b (by omega)
  · show z_bf (va_up h.2.2.1 h.1 e b)
    by_cases hab : b = h.1
    · subst hab; rw [va_up_self]; exact hbf
    · rw [va_up_ne _ _ hab]; exact r.2.2.2.2 b
/-- what may be written: the cells that the law has made -/
def z_A (bs : Nat) : Nat → Prop := fun q => bs ≤ q
theorem z_S_put {bs : Nat} {H0 H H1 : Heap} {locs : List Loc} {a k : Nat} (hS : va_S (z_A bs) H0 H locs) (z : H1.size = H.size) (oq : ∀ q : Nat, q ≠ bs + a → H1[q]? = H[q]?) : va_S (z_A bs) H0 H1 (locs ++ [⟨bs + a, k⟩]) := hS.put z oq (Nat.le_add_right bs a)
theorem z_S_new {bs : Nat} {H0 H H1 : Heap} {locs : List Loc} (hS : va_S (z_A bs) H0 H locs) (z : H1.size = H.size + 1) (oq : ∀ q : Nat, q < H.size → H1[q]? = H[q]?) : va_S (z_A bs) H0 H1 locs :=
  ⟨Nat.le_trans hS.1 (by rw [z]; exact Nat.le_succ _), fun x h1 h2 => (oq x (Nat.lt_of_lt_of_le h1 hS.1)).trans (hS.2.1 x h1 h2), hS.2.2⟩
theorem z_inb_iff {i : Int32} {n : Nat} : z_inb i n = true ↔ vp_in i n := by
  unfold z_inb vp_in
  simp
section ZH
variable {p : Program} {l : Launch} {e : Env} {R : Room} {s : State} {m : MethodId} {args : Array Value} {below : List Frame} {meth : Method} {c : Code} {H H0 : Heap} {locs : List Loc} {cells slots : Nat} {Q : State → Prop}
variable {bs n : Nat} {lt : Nat → Value} {tA : Nat → Nat} {K : Nat → zE} {D : va_G} {lr : Array Slot} {i pc : Nat} {st : List Value} {h : zH}
/-- an int and its like out of an array -/
theorem zh_ald {op : Instr} {ty : FieldType} {t k0 : Nat} (hK : va_K D zt_cl (z_tys tA) s) (hR : z_Rel D bs lt tA K h H) (hty : (z_tys tA)[k0]? = some (tA t, ty)) {a : Nat} {j : Int32} {v : Value}
    (row : ∀ (f : Nat → Int32) (N : Nat), va_P D zt_cl [(bs + a, .inl (tA t, N, .inl f))] H → vp_in j N → v = .int (f j.toNatClampNeg) → W p l e R s m args below meth c H locs cells slots Q (F0 m pc lr (.int j :: .ref (bs + a) :: st)))
    (he : z_ai (h.2.2.1 a) t j = some v) : W p l e R s m args below meth c H locs cells slots Q (F0 m pc lr (.int j :: .ref (bs + a) :: st)) := by
  unfold z_ai at he
  split at he
  · rename_i t' N f hc
    split at he
    · rename_i ht
      subst ht
      split at he
      · rename_i hin
        cases he
        have hat := (hR.in hc (by unfold z_jk; exact fun q => by cases q)).2
        refine row f N (fun k q hk => ?_) (z_inb_iff.mp hin) rfl
        cases k with
        | zero => cases hk; exact hat
        | succ k => cases hk
      · cases he
    · cases he
  · cases he
end ZH
