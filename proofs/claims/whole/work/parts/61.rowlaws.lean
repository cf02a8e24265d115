/-! THE PURE WALK: a law for each kind of instruction -/
def z_EvO {α : Type} (o : Option α) (f : α → Prop) : Prop := match o with
  | some x => f x
  | none => False
theorem z_EvO_some {α : Type} (x : α) (f : α → Prop) : z_EvO (some x) f = f x := rfl
/-- a condition that must hold -/
def z_EvG (b : Bool) (P : Prop) : Prop := b = true ∧ P
theorem z_EvG_t (P : Prop) : z_EvG true P = P := propext ⟨fun q => q.2, fun q => ⟨rfl, q⟩⟩
theorem z_EvG_of {b : Bool} {P R : Prop} (h1 : b = true → R = P) (h2 : b = false → R = False) : R = z_EvG b P := by
  cases b
  · rw [h2 rfl]; exact propext ⟨fun q => q.elim, fun q => by cases q.1⟩
  · rw [h1 rfl, z_EvG_t]
/-- a branch -/
def z_br (c : Prop) (i t f : Nat) (ls st : List Value) (h : zH) (Q : zO → zH → Prop) : Prop := (c → z_Ev i t ls st h Q) ∧ (¬ c → z_Ev i f ls st h Q)
theorem z_br_pos {c : Prop} {i t f : Nat} {ls st : List Value} {h : zH} {Q : zO → zH → Prop} (hc : c) : z_br c i t f ls st h Q = z_Ev i t ls st h Q := propext ⟨fun q => q.1 hc, fun q => ⟨fun _ => q, fun n => absurd hc n⟩⟩
theorem z_br_neg {c : Prop} {i t f : Nat} {ls st : List Value} {h : zH} {Q : zO → zH → Prop} (hc : ¬ c) : z_br c i t f ls st h Q = z_Ev i f ls st h Q := propext ⟨fun q => q.2 hc, fun q => ⟨fun p => absurd p hc, fun _ => q⟩⟩
theorem z_br_of {c : Prop} {i t f : Nat} {ls st : List Value} {h : zH} {Q : zO → zH → Prop} (h1 : c → z_Ev i t ls st h Q) (h2 : ¬ c → z_Ev i f ls st h Q) : z_br c i t f ls st h Q := ⟨h1, h2⟩
theorem z_Bk_n {i pc : Nat} {ls r : List Value} {Q : zO → zH → Prop} {h : zH} : z_Bk i pc ls r Q (.inl none) h = z_Ev i (pc + 3) ls r h Q := rfl
theorem z_Bk_s {i pc : Nat} {ls r : List Value} {Q : zO → zH → Prop} {v : Value} {h : zH} : z_Bk i pc ls r Q (.inl (some v)) h = z_Ev i (pc + 3) ls (v :: r) h Q := rfl
/-- the heap written -/
def z_pu (h : zH) (a : Nat) (e : zE) : zH := (h.1, h.2.1, va_up h.2.2.1 a e, h.2.2.2)
theorem z_put_r (h : zH) (a : Nat) (e : zE) : z_put h (.ref a) e = some (z_pu h a e) := rfl
theorem z_at_pu (h : zH) (a : Nat) (e : zE) (b : Nat) : z_at (z_pu h a e) (.ref b) = if b = a then e else z_at h (.ref b) := rfl
theorem z_at_pu_s (h : zH) (a : Nat) (e : zE) : z_at (z_pu h a e) (.ref a) = e := by rw [z_at_pu, if_pos rfl]
theorem z_at_pu_n {h : zH} {a b : Nat} {e : zE} (hb : b ≠ a) : z_at (z_pu h a e) (.ref b) = z_at h (.ref b) := by rw [z_at_pu, if_neg hb]
theorem z_at_pu_k (h : zH) (a : Nat) (e : zE) (k : Nat) : z_at (z_pu h a e) (.retAddr k) = z_at h (.retAddr k) := rfl
theorem z_at_new_s (h : zH) (n : Nat) (e : zE) : z_at (z_new h n e) (.ref h.1) = e := by
  show va_up h.2.2.1 h.1 e h.1 = e
  exact va_up_self _ _ _
theorem z_at_new_n {h : zH} {n : Nat} {e : zE} {b : Nat} (hb : b ≠ h.1) : z_at (z_new h n e) (.ref b) = z_at h (.ref b) := va_up_ne _ _ hb
theorem z_at_new_k (h : zH) (n : Nat) (e : zE) (k : Nat) : z_at (z_new h n e) (.retAddr k) = z_at h (.retAddr k) := rfl
theorem z_pu_1 (h : zH) (a : Nat) (e : zE) : (z_pu h a e).1 = h.1 := rfl
theorem z_pu_2 (h : zH) (a : Nat) (e : zE) : (z_pu h a e).2.1 = h.2.1 := rfl
theorem z_new_1 (h : zH) (n : Nat) (e : zE) : (z_new h n e).1 = h.1 + 1 := rfl
theorem z_new_2 (h : zH) (n : Nat) (e : zE) : (z_new h n e).2.1 = h.2.1 + n := rfl
/-- cells with integers -/
def zA (t n : Nat) (g : Nat → Int) : zE := .inl (t, n, .inl (fun j => Int32.ofInt (g j)))
def zLA (n : Nat) (g : Nat → Int) : zE := .inl (5, n, .inr (.inl (fun j => Int64.ofInt (g j))))
def zQA (t n : Nat) (g : Nat → Option Nat) : zE := .inl (t, n, .inr (.inr (.inr (.inr g))))
theorem z_kl_i (a : Int) : z_kl (zi a) = zi a := rfl
theorem z_kl_l (a : Int) : z_kl (zl a) = z_um := rfl
theorem z_kl_r (a : Nat) : z_kl (.ref a) = .ref a := rfl
theorem z_kl_k (a : Nat) : z_kl (.retAddr a) = .retAddr a := rfl
theorem z_kl_n : z_kl .null = .null := rfl
theorem z_kl_u : z_kl z_um = z_um := rfl
theorem z_kl_v {v : Value} (hv : z_isref v = true) : z_kl v = v := by
  cases v <;> simp [z_isref] at hv <;> rfl
theorem z_ok_v {v : Value} (hv : z_isref v = true) : z_ok v = true := by
  cases v <;> simp [z_isref] at hv <;> rfl
theorem z_nul_n : z_nul .null = some true := rfl
theorem z_nul_r (a : Nat) : z_nul (.ref a) = some false := rfl
section ZU
variable {i pc pc' t : Nat} {ls ls' st : List Value} {h : zH} {Q : zO → zH → Prop} {a b x y : Int} {v w : Value}
theorem z_row {ins : Instr} {len : Nat} (hd : decode (zt_code i) pc = .ok (ins, len)) (hl : z_il ins = 0 ∨ z_il ins = len) : z_Ev i pc ls st h Q = z_EvR (z_do i pc ins ls st h) i pc ls h Q := by
  rw [z_Ev_eq]
  unfold z_stp
  rw [hd]
  dsimp only
  rw [if_pos hl]
theorem zr_iconst {n : Int} (hd : decode (zt_code i) pc = .ok (.iconst n, 1)) (hp : pc + 1 = pc') : z_Ev i pc ls st h Q = z_Ev i pc' ls (zi n :: st) h Q := by
  subst hp; exact z_row hd (Or.inr rfl)
theorem zr_bipush {n : Int} (hd : decode (zt_code i) pc = .ok (.bipush n, 2)) (hp : pc + 2 = pc') (hv : (Int8.ofInt n).toInt32 = Int32.ofInt n) : z_Ev i pc ls st h Q = z_Ev i pc' ls (zi n :: st) h Q := by
  subst hp
  rw [z_row hd (Or.inr rfl)]
  show z_Ev i (pc + 2) ls (.int (Int8.ofInt n).toInt32 :: st) h Q = _
  rw [hv]
  rfl
theorem zr_sipush {n : Int} (hd : decode (zt_code i) pc = .ok (.sipush n, 3)) (hp : pc + 3 = pc') (hv : (Int16.ofInt n).toInt32 = Int32.ofInt n) : z_Ev i pc ls st h Q = z_Ev i pc' ls (zi n :: st) h Q := by
  subst hp
  rw [z_row hd (Or.inr rfl)]
  show z_Ev i (pc + 3) ls (.int (Int16.ofInt n).toInt32 :: st) h Q = _
  rw [hv]
  rfl
theorem zr_lconst {n : Fin 2} {z : Int} (hd : decode (zt_code i) pc = .ok (.lconst n, 1)) (hp : pc + 1 = pc') (hv : Int64.ofNat (n : Nat) = Int64.ofInt z) : z_Ev i pc ls st h Q = z_Ev i pc' ls (zl z :: st) h Q := by
  subst hp
  rw [z_row hd (Or.inr rfl)]
  show z_Ev i (pc + 1) ls (.long (Int64.ofNat (n : Nat)) :: st) h Q = _
  rw [hv]
  rfl
theorem zr_null (hd : decode (zt_code i) pc = .ok (.aconst_null, 1)) (hp : pc + 1 = pc') : z_Ev i pc ls st h Q = z_Ev i pc' ls (.null :: st) h Q := by
  subst hp; exact z_row hd (Or.inr rfl)
theorem zr_ldc {o k : Nat} (hd : decode (zt_code i) pc = .ok (.ldc k, 2)) (ho : zt_own i = o) (hc : zt_ldc o k = some v) (hp : pc + 2 = pc') : z_Ev i pc ls st h Q = z_Ev i pc' ls (v :: st) h Q := by
  subst hp
  rw [z_row hd (Or.inr rfl)]
  simp only [z_do, ho, hc, z_ob, z_nx, z_EvR]
theorem zr_ldci {o k : Nat} {n : Int} {m : Int32} (hd : decode (zt_code i) pc = .ok (.ldc k, 2)) (ho : zt_own i = o) (hc : zt_ldc o k = some (.int m)) (hm : m = Int32.ofInt n) (hp : pc + 2 = pc') : z_Ev i pc ls st h Q = z_Ev i pc' ls (zi n :: st) h Q := by
  rw [zr_ldc hd ho hc hp, hm]
  rfl
theorem zr_ldc2 {o k : Nat} {n : Int} {m : Int64} (hd : decode (zt_code i) pc = .ok (.ldc2_w k, 3)) (ho : zt_own i = o) (hc : zt_lng o k = some m) (hm : m = Int64.ofInt n) (hp : pc + 3 = pc') : z_Ev i pc ls st h Q = z_Ev i pc' ls (zl n :: st) h Q := by
  subst hp
  rw [z_row hd (Or.inr rfl)]
  simp only [z_do, ho, hc, z_ob, z_nx, z_EvR, hm]
  rfl
theorem zr_getstatic {o k : Nat} (hd : decode (zt_code i) pc = .ok (.getstatic k, 3)) (ho : zt_own i = o) (hc : zt_stc o k = some v) (hp : pc + 3 = pc') : z_Ev i pc ls st h Q = z_Ev i pc' ls (v :: st) h Q := by
  subst hp
  rw [z_row hd (Or.inr rfl)]
  simp only [z_do, ho, hc, z_ob, z_nx, z_EvR]
theorem zr_iload {k : Nat} (hd : decode (zt_code i) pc = .ok (.iload k, 2)) (hk : ls[k]? = some (zi a)) (hp : pc + 2 = pc') : z_Ev i pc ls st h Q = z_Ev i pc' ls (zi a :: st) h Q := by
  subst hp
  rw [z_row hd (Or.inr rfl)]
  simp only [z_do, z_ldi, hk, zi, z_ob, z_nx, z_EvR]
theorem zr_iload_n {k : Fin 4} (hd : decode (zt_code i) pc = .ok (.iload_n k, 1)) (hk : ls[(k : Nat)]? = some (zi a)) (hp : pc + 1 = pc') : z_Ev i pc ls st h Q = z_Ev i pc' ls (zi a :: st) h Q := by
  subst hp
  rw [z_row hd (Or.inr rfl)]
  simp only [z_do, z_ldi, hk, zi, z_ob, z_nx, z_EvR]
theorem zr_lload {k : Nat} (hd : decode (zt_code i) pc = .ok (.lload k, 2)) (hk : ls[k]? = some (zl a)) (hp : pc + 2 = pc') : z_Ev i pc ls st h Q = z_Ev i pc' ls (zl a :: st) h Q := by
  subst hp
  rw [z_row hd (Or.inr rfl)]
  simp only [z_do, z_ldl, hk, zl, z_ob, z_nx, z_EvR]
theorem zr_lload_n {k : Fin 4} (hd : decode (zt_code i) pc = .ok (.lload_n k, 1)) (hk : ls[(k : Nat)]? = some (zl a)) (hp : pc + 1 = pc') : z_Ev i pc ls st h Q = z_Ev i pc' ls (zl a :: st) h Q := by
  subst hp
  rw [z_row hd (Or.inr rfl)]
  simp only [z_do, z_ldl, hk, zl, z_ob, z_nx, z_EvR]
theorem zr_aload {k : Nat} (hd : decode (zt_code i) pc = .ok (.aload k, 2)) (hk : ls[k]? = some v) (hv : z_isref v = true) (hp : pc + 2 = pc') : z_Ev i pc ls st h Q = z_Ev i pc' ls (v :: st) h Q := by
  subst hp
  rw [z_row hd (Or.inr rfl)]
  simp only [z_do, z_lda, hk, hv, z_ob, z_nx, z_EvR, if_true]
theorem zr_aload_n {k : Fin 4} (hd : decode (zt_code i) pc = .ok (.aload_n k, 1)) (hk : ls[(k : Nat)]? = some v) (hv : z_isref v = true) (hp : pc + 1 = pc') : z_Ev i pc ls st h Q = z_Ev i pc' ls (v :: st) h Q := by
  subst hp
  rw [z_row hd (Or.inr rfl)]
  simp only [z_do, z_lda, hk, hv, z_ob, z_nx, z_EvR, if_true]
theorem zr_istore {k : Nat} (hd : decode (zt_code i) pc = .ok (.istore k, 2)) (hk : Nat.blt k ls.length = true) (hs : z_s1 ls k (zi a) = ls') (hp : pc + 2 = pc') : z_Ev i pc ls (zi a :: st) h Q = z_Ev i pc' ls' st h Q := by
  subst hp; subst hs
  rw [z_row hd (Or.inr rfl)]
  have hk' : k < ls.length := Nat.le_of_ble_eq_true hk
  simp only [z_do, zi, z_i, hk', z_nx, z_EvR, if_true]
theorem zr_istore_n {k : Fin 4} (hd : decode (zt_code i) pc = .ok (.istore_n k, 1)) (hk : Nat.blt k ls.length = true) (hs : z_s1 ls k (zi a) = ls') (hp : pc + 1 = pc') : z_Ev i pc ls (zi a :: st) h Q = z_Ev i pc' ls' st h Q := by
  subst hp; subst hs
  rw [z_row hd (Or.inr rfl)]
  have hk' : (k : Nat) < ls.length := Nat.le_of_ble_eq_true hk
  simp only [z_do, zi, z_i, hk', z_nx, z_EvR, if_true]
theorem zr_lstore {k : Nat} (hd : decode (zt_code i) pc = .ok (.lstore k, 2)) (hk : Nat.blt (k + 1) ls.length = true) (hs : z_s2 ls k (zl a) = ls') (hp : pc + 2 = pc') : z_Ev i pc ls (zl a :: st) h Q = z_Ev i pc' ls' st h Q := by
  subst hp; subst hs
  rw [z_row hd (Or.inr rfl)]
  have hk' : k + 1 < ls.length := Nat.le_of_ble_eq_true hk
  simp only [z_do, zl, z_l, hk', z_nx, z_EvR, if_true]
theorem zr_lstore_n {k : Fin 4} (hd : decode (zt_code i) pc = .ok (.lstore_n k, 1)) (hk : Nat.blt (k + 1) ls.length = true) (hs : z_s2 ls k (zl a) = ls') (hp : pc + 1 = pc') : z_Ev i pc ls (zl a :: st) h Q = z_Ev i pc' ls' st h Q := by
  subst hp; subst hs
  rw [z_row hd (Or.inr rfl)]
  have hk' : (k : Nat) + 1 < ls.length := Nat.le_of_ble_eq_true hk
  simp only [z_do, zl, z_l, hk', z_nx, z_EvR, if_true]
theorem zr_astore {k : Nat} (hd : decode (zt_code i) pc = .ok (.astore k, 2)) (hv : z_isref v = true) (hk : Nat.blt k ls.length = true) (hs : z_s1 ls k v = ls') (hp : pc + 2 = pc') : z_Ev i pc ls (v :: st) h Q = z_Ev i pc' ls' st h Q := by
  subst hp; subst hs
  rw [z_row hd (Or.inr rfl)]
  have hk' : k < ls.length := Nat.le_of_ble_eq_true hk
  simp [z_do, z_v, hv, hk', z_nx, z_EvR]
theorem zr_astore_n {k : Fin 4} (hd : decode (zt_code i) pc = .ok (.astore_n k, 1)) (hv : z_isref v = true) (hk : Nat.blt k ls.length = true) (hs : z_s1 ls k v = ls') (hp : pc + 1 = pc') : z_Ev i pc ls (v :: st) h Q = z_Ev i pc' ls' st h Q := by
  subst hp; subst hs
  rw [z_row hd (Or.inr rfl)]
  have hk' : (k : Nat) < ls.length := Nat.le_of_ble_eq_true hk
  simp [z_do, z_v, hv, hk', z_nx, z_EvR]
theorem zr_iinc {k : Nat} {n : Int} (hd : decode (zt_code i) pc = .ok (.iinc k n, 3)) (hk : ls[k]? = some (zi a)) (hs : z_s1 ls k (zi (a + n)) = ls') (hp : pc + 3 = pc') : z_Ev i pc ls st h Q = z_Ev i pc' ls' st h Q := by
  subst hp; subst hs
  rw [z_row hd (Or.inr rfl)]
  simp only [z_do, z_ldi, hk, zi, z_ob, z_i, z_nx, z_EvR, Int32.ofInt_add]
theorem zr_iadd (hd : decode (zt_code i) pc = .ok (.iadd, 1)) (hp : pc + 1 = pc') : z_Ev i pc ls (zi b :: zi a :: st) h Q = z_Ev i pc' ls (zi (a + b) :: st) h Q := by
  subst hp
  rw [z_row hd (Or.inr rfl)]
  simp only [z_do, zi, z_ii, z_nx, z_EvR, Int32.ofInt_add]
theorem zr_isub (hd : decode (zt_code i) pc = .ok (.isub, 1)) (hp : pc + 1 = pc') : z_Ev i pc ls (zi b :: zi a :: st) h Q = z_Ev i pc' ls (zi (a - b) :: st) h Q := by
  subst hp
  rw [z_row hd (Or.inr rfl)]
  simp only [z_do, zi, z_ii, z_nx, z_EvR, Int32.ofInt_sub]
theorem zr_imul (hd : decode (zt_code i) pc = .ok (.imul, 1)) (hp : pc + 1 = pc') : z_Ev i pc ls (zi b :: zi a :: st) h Q = z_Ev i pc' ls (zi (a * b) :: st) h Q := by
  subst hp
  rw [z_row hd (Or.inr rfl)]
  simp only [z_do, zi, z_ii, z_nx, z_EvR, Int32.ofInt_mul]
theorem zr_ineg (hd : decode (zt_code i) pc = .ok (.ineg, 1)) (hp : pc + 1 = pc') : z_Ev i pc ls (zi a :: st) h Q = z_Ev i pc' ls (zi (-a) :: st) h Q := by
  subst hp
  rw [z_row hd (Or.inr rfl)]
  simp only [z_do, zi, z_i, z_nx, z_EvR, Int32.ofInt_neg]
theorem zr_idiv (hd : decode (zt_code i) pc = .ok (.idiv, 1)) (hp : pc + 1 = pc') (hb : zw b ≠ 0) : z_Ev i pc ls (zi b :: zi a :: st) h Q = z_Ev i pc' ls (zi ((zw a).tdiv (zw b)) :: st) h Q := by
  subst hp
  rw [z_row hd (Or.inr rfl)]
  have hb' : ¬ Int32.ofInt b = 0 := fun h9 => hb (by
    have h8 : Int32.ofInt b = Int32.ofInt 0 := h9
    rw [z32_eq] at h8
    exact h8)
  simp only [z_do, zi, z_ii, hb', if_false, z_nx, z_EvR, z32_div]
theorem zr_irem (hd : decode (zt_code i) pc = .ok (.irem, 1)) (hp : pc + 1 = pc') (hb : zw b ≠ 0) : z_Ev i pc ls (zi b :: zi a :: st) h Q = z_Ev i pc' ls (zi ((zw a).tmod (zw b)) :: st) h Q := by
  subst hp
  rw [z_row hd (Or.inr rfl)]
  have hb' : ¬ Int32.ofInt b = 0 := fun h9 => hb (by
    have h8 : Int32.ofInt b = Int32.ofInt 0 := h9
    rw [z32_eq] at h8
    exact h8)
  simp only [z_do, zi, z_ii, hb', if_false, z_nx, z_EvR, z32_rem]
theorem zr_iand (hd : decode (zt_code i) pc = .ok (.iand, 1)) (hp : pc + 1 = pc') : z_Ev i pc ls (zi b :: zi a :: st) h Q = z_Ev i pc' ls (zi (Int32.ofInt a &&& Int32.ofInt b).toInt :: st) h Q := by
  subst hp
  rw [z_row hd (Or.inr rfl), zi_toInt]
  rfl
theorem zr_ior (hd : decode (zt_code i) pc = .ok (.ior, 1)) (hp : pc + 1 = pc') : z_Ev i pc ls (zi b :: zi a :: st) h Q = z_Ev i pc' ls (zi (Int32.ofInt a ||| Int32.ofInt b).toInt :: st) h Q := by
  subst hp
  rw [z_row hd (Or.inr rfl), zi_toInt]
  rfl
theorem zr_ixor (hd : decode (zt_code i) pc = .ok (.ixor, 1)) (hp : pc + 1 = pc') : z_Ev i pc ls (zi b :: zi a :: st) h Q = z_Ev i pc' ls (zi (Int32.ofInt a ^^^ Int32.ofInt b).toInt :: st) h Q := by
  subst hp
  rw [z_row hd (Or.inr rfl), zi_toInt]
  rfl
theorem zr_ishl (hd : decode (zt_code i) pc = .ok (.ishl, 1)) (hp : pc + 1 = pc') : z_Ev i pc ls (zi b :: zi a :: st) h Q = z_Ev i pc' ls (zi (Int32.ofInt a <<< (Int32.ofInt b &&& 31)).toInt :: st) h Q := by
  subst hp
  rw [z_row hd (Or.inr rfl), zi_toInt]
  rfl
theorem zr_ishr (hd : decode (zt_code i) pc = .ok (.ishr, 1)) (hp : pc + 1 = pc') : z_Ev i pc ls (zi b :: zi a :: st) h Q = z_Ev i pc' ls (zi (Int32.ofInt a >>> (Int32.ofInt b &&& 31)).toInt :: st) h Q := by
  subst hp
  rw [z_row hd (Or.inr rfl), zi_toInt]
  rfl
theorem zr_iushr (hd : decode (zt_code i) pc = .ok (.iushr, 1)) (hp : pc + 1 = pc') : z_Ev i pc ls (zi b :: zi a :: st) h Q = z_Ev i pc' ls (zi ((Int32.ofInt a).toUInt32 >>> ((Int32.ofInt b).toUInt32 &&& Int32.toUInt32 31)).toInt32.toInt :: st) h Q := by
  subst hp
  rw [z_row hd (Or.inr rfl), zi_toInt]
  rfl
theorem zr_ladd (hd : decode (zt_code i) pc = .ok (.ladd, 1)) (hp : pc + 1 = pc') : z_Ev i pc ls (zl b :: zl a :: st) h Q = z_Ev i pc' ls (zl (a + b) :: st) h Q := by
  subst hp
  rw [z_row hd (Or.inr rfl)]
  simp only [z_do, zl, z_ll, z_nx, z_EvR, Int64.ofInt_add]
theorem zr_lsub (hd : decode (zt_code i) pc = .ok (.lsub, 1)) (hp : pc + 1 = pc') : z_Ev i pc ls (zl b :: zl a :: st) h Q = z_Ev i pc' ls (zl (a - b) :: st) h Q := by
  subst hp
  rw [z_row hd (Or.inr rfl)]
  simp only [z_do, zl, z_ll, z_nx, z_EvR, Int64.ofInt_sub]
theorem zr_lmul (hd : decode (zt_code i) pc = .ok (.lmul, 1)) (hp : pc + 1 = pc') : z_Ev i pc ls (zl b :: zl a :: st) h Q = z_Ev i pc' ls (zl (a * b) :: st) h Q := by
  subst hp
  rw [z_row hd (Or.inr rfl)]
  simp only [z_do, zl, z_ll, z_nx, z_EvR, Int64.ofInt_mul]
theorem zr_lneg (hd : decode (zt_code i) pc = .ok (.lneg, 1)) (hp : pc + 1 = pc') : z_Ev i pc ls (zl a :: st) h Q = z_Ev i pc' ls (zl (-a) :: st) h Q := by
  subst hp
  rw [z_row hd (Or.inr rfl)]
  simp only [z_do, zl, z_l, z_nx, z_EvR, Int64.ofInt_neg]
theorem zr_ldiv (hd : decode (zt_code i) pc = .ok (.ldiv, 1)) (hp : pc + 1 = pc') (hb : zx b ≠ 0) : z_Ev i pc ls (zl b :: zl a :: st) h Q = z_Ev i pc' ls (zl ((zx a).tdiv (zx b)) :: st) h Q := by
  subst hp
  rw [z_row hd (Or.inr rfl)]
  have hb' : ¬ Int64.ofInt b = 0 := fun h9 => hb (by
    have h8 : Int64.ofInt b = Int64.ofInt 0 := h9
    rw [z64_eq] at h8
    exact h8)
  simp only [z_do, zl, z_ll, hb', if_false, z_nx, z_EvR, z64_div]
theorem zr_lrem (hd : decode (zt_code i) pc = .ok (.lrem, 1)) (hp : pc + 1 = pc') (hb : zx b ≠ 0) : z_Ev i pc ls (zl b :: zl a :: st) h Q = z_Ev i pc' ls (zl ((zx a).tmod (zx b)) :: st) h Q := by
  subst hp
  rw [z_row hd (Or.inr rfl)]
  have hb' : ¬ Int64.ofInt b = 0 := fun h9 => hb (by
    have h8 : Int64.ofInt b = Int64.ofInt 0 := h9
    rw [z64_eq] at h8
    exact h8)
  simp only [z_do, zl, z_ll, hb', if_false, z_nx, z_EvR, z64_rem]
theorem zr_land (hd : decode (zt_code i) pc = .ok (.land, 1)) (hp : pc + 1 = pc') : z_Ev i pc ls (zl b :: zl a :: st) h Q = z_Ev i pc' ls (zl (Int64.ofInt a &&& Int64.ofInt b).toInt :: st) h Q := by
  subst hp
  rw [z_row hd (Or.inr rfl), zl_toInt]
  rfl
theorem zr_lor (hd : decode (zt_code i) pc = .ok (.lor, 1)) (hp : pc + 1 = pc') : z_Ev i pc ls (zl b :: zl a :: st) h Q = z_Ev i pc' ls (zl (Int64.ofInt a ||| Int64.ofInt b).toInt :: st) h Q := by
  subst hp
  rw [z_row hd (Or.inr rfl), zl_toInt]
  rfl
theorem zr_lxor (hd : decode (zt_code i) pc = .ok (.lxor, 1)) (hp : pc + 1 = pc') : z_Ev i pc ls (zl b :: zl a :: st) h Q = z_Ev i pc' ls (zl (Int64.ofInt a ^^^ Int64.ofInt b).toInt :: st) h Q := by
  subst hp
  rw [z_row hd (Or.inr rfl), zl_toInt]
  rfl
theorem zr_lshl (hd : decode (zt_code i) pc = .ok (.lshl, 1)) (hp : pc + 1 = pc') : z_Ev i pc ls (zi b :: zl a :: st) h Q = z_Ev i pc' ls (zl (Int64.ofInt a <<< ((Int32.ofInt b).toInt64 &&& 63)).toInt :: st) h Q := by
  subst hp
  rw [z_row hd (Or.inr rfl), zl_toInt]
  rfl
theorem zr_lshr (hd : decode (zt_code i) pc = .ok (.lshr, 1)) (hp : pc + 1 = pc') : z_Ev i pc ls (zi b :: zl a :: st) h Q = z_Ev i pc' ls (zl (Int64.ofInt a >>> ((Int32.ofInt b).toInt64 &&& 63)).toInt :: st) h Q := by
  subst hp
  rw [z_row hd (Or.inr rfl), zl_toInt]
  rfl
theorem zr_lcmp (hd : decode (zt_code i) pc = .ok (.lcmp, 1)) (hp : pc + 1 = pc') : z_Ev i pc ls (zl b :: zl a :: st) h Q = z_Ev i pc' ls (zi (zcmp (zx a) (zx b)) :: st) h Q := by
  subst hp
  rw [z_row hd (Or.inr rfl)]
  simp only [z_do, zl, zi, z_ll, z_nx, z_EvR, z_cmp]
theorem zr_i2l (hd : decode (zt_code i) pc = .ok (.i2l, 1)) (hp : pc + 1 = pc') : z_Ev i pc ls (zi a :: st) h Q = z_Ev i pc' ls (zl (zw a) :: st) h Q := by
  subst hp
  rw [z_row hd (Or.inr rfl)]
  simp only [z_do, zl, zi, z_i, z_nx, z_EvR, z_i2l]
theorem zr_l2i (hd : decode (zt_code i) pc = .ok (.l2i, 1)) (hp : pc + 1 = pc') : z_Ev i pc ls (zl a :: st) h Q = z_Ev i pc' ls (zi a :: st) h Q := by
  subst hp
  rw [z_row hd (Or.inr rfl)]
  simp only [z_do, zl, zi, z_l, z_nx, z_EvR, z_l2i]
theorem zr_i2b (hd : decode (zt_code i) pc = .ok (.i2b, 1)) (hp : pc + 1 = pc') : z_Ev i pc ls (zi a :: st) h Q = z_Ev i pc' ls (zi (a.bmod 256) :: st) h Q := by
  subst hp
  rw [z_row hd (Or.inr rfl)]
  simp only [z_do, zi, z_i, z_nx, z_EvR, z_i2b]
theorem zr_i2c (hd : decode (zt_code i) pc = .ok (.i2c, 1)) (hp : pc + 1 = pc') : z_Ev i pc ls (zi a :: st) h Q = z_Ev i pc' ls (zi (a % 65536) :: st) h Q := by
  subst hp
  rw [z_row hd (Or.inr rfl)]
  simp only [z_do, zi, z_i, z_nx, z_EvR, z_i2c]
theorem zr_dup (hd : decode (zt_code i) pc = .ok (.dup, 1)) (hv : z_ok v = true) (hc : v.category = 1) (hp : pc + 1 = pc') : z_Ev i pc ls (v :: st) h Q = z_Ev i pc' ls (v :: v :: st) h Q := by
  subst hp
  rw [z_row hd (Or.inr rfl)]
  simp [z_do, z_v, hv, hc, z_nx, z_EvR]
theorem zr_pop (hd : decode (zt_code i) pc = .ok (.pop, 1)) (hv : z_ok v = true) (hc : v.category = 1) (hp : pc + 1 = pc') : z_Ev i pc ls (v :: st) h Q = z_Ev i pc' ls st h Q := by
  subst hp
  rw [z_row hd (Or.inr rfl)]
  simp [z_do, z_v, hv, hc, z_nx, z_EvR]
theorem zr_dup2 (hd : decode (zt_code i) pc = .ok (.dup2, 1)) (hv : z_ok v = true) (hw : z_ok w = true) (hc : v.category = 1) (hc2 : w.category = 1) (hp : pc + 1 = pc') : z_Ev i pc ls (v :: w :: st) h Q = z_Ev i pc' ls (v :: w :: v :: w :: st) h Q := by
  subst hp
  rw [z_row hd (Or.inr rfl)]
  simp [z_do, z_v, hv, hc, hw, hc2, z_nx, z_EvR]
theorem zr_dup_x1 (hd : decode (zt_code i) pc = .ok (.dup_x1, 1)) (hv : z_ok v = true) (hw : z_ok w = true) (hc : v.category = 1) (hc2 : w.category = 1) (hp : pc + 1 = pc') : z_Ev i pc ls (v :: w :: st) h Q = z_Ev i pc' ls (v :: w :: v :: st) h Q := by
  subst hp
  rw [z_row hd (Or.inr rfl)]
  simp [z_do, z_v, hv, hc, hw, hc2, z_nx, z_EvR]
/-- the conditions -/
def zcc (c : ClassFile.Cond) (x y : Int) : Prop := match c with
  | .eq => x = y
  | .ne => ¬ x = y
  | .lt => x < y
  | .ge => y ≤ x
  | .gt => y < x
  | .le => x ≤ y
theorem zcc_iff (c : ClassFile.Cond) (a b : Int) : (z_cc c (Int32.ofInt a) (Int32.ofInt b) = true) = zcc c (zw a) (zw b) := by
  cases c <;> simp [z_cc, zcc, z32_lt, z32_le, z32_eq]
theorem z_EvR_if {b : Bool} {c : Prop} {t f : Nat} (hc : (b = true) = c) : z_EvR (if b then z_nx t ls st h else z_nx f ls st h) i pc ls' h Q = z_br c i t f ls st h Q := by
  subst hc
  cases b
  · rw [z_br_neg (by decide)]; rfl
  · rw [z_br_pos rfl]; rfl
theorem zr_ifc {c : ClassFile.Cond} {off : Int} (hd : decode (zt_code i) pc = .ok (.ifCond c off, 3)) (h0 : decide (0 ≤ (pc : Int) + off) = true) (ht : ((pc : Int) + off).toNat = t) (hp : pc + 3 = pc') : z_Ev i pc ls (zi a :: st) h Q = z_br (zcc c (zw a) 0) i t pc' ls st h Q := by
  subst hp; subst ht
  rw [z_row hd (Or.inr rfl)]
  simp only [z_do, zi, z_i, z_jmp, of_decide_eq_true h0, if_true]
  exact z_EvR_if (zcc_iff c a 0)
theorem zr_ificmp {c : ClassFile.Cond} {off : Int} (hd : decode (zt_code i) pc = .ok (.if_icmp c off, 3)) (h0 : decide (0 ≤ (pc : Int) + off) = true) (ht : ((pc : Int) + off).toNat = t) (hp : pc + 3 = pc') : z_Ev i pc ls (zi b :: zi a :: st) h Q = z_br (zcc c (zw a) (zw b)) i t pc' ls st h Q := by
  subst hp; subst ht
  rw [z_row hd (Or.inr rfl)]
  simp only [z_do, zi, z_ii, z_jmp, of_decide_eq_true h0, if_true]
  exact z_EvR_if (zcc_iff c a b)
theorem zr_goto {off : Int} (hd : decode (zt_code i) pc = .ok (.goto off, 3)) (h0 : decide (0 ≤ (pc : Int) + off) = true) (ht : ((pc : Int) + off).toNat = t) : z_Ev i pc ls st h Q = z_Ev i t ls st h Q := by
  subst ht
  rw [z_row hd (Or.inr rfl)]
  simp only [z_do, z_jmp, of_decide_eq_true h0, if_true, z_nx, z_EvR]
theorem zr_ifnull {off : Int} (hd : decode (zt_code i) pc = .ok (.ifnull off, 3)) (h0 : decide (0 ≤ (pc : Int) + off) = true) (ht : ((pc : Int) + off).toNat = t) (hp : pc + 3 = pc') : z_Ev i pc ls (v :: st) h Q = z_EvO (z_nul v) (fun q => z_br (q = true) i t pc' ls st h Q) := by
  subst hp; subst ht
  rw [z_row hd (Or.inr rfl)]
  simp only [z_do, z_v, z_jmp, of_decide_eq_true h0, if_true]
  cases z_nul v with
  | none => rfl
  | some q => exact z_EvR_if rfl
theorem zr_ifnonnull {off : Int} (hd : decode (zt_code i) pc = .ok (.ifnonnull off, 3)) (h0 : decide (0 ≤ (pc : Int) + off) = true) (ht : ((pc : Int) + off).toNat = t) (hp : pc + 3 = pc') : z_Ev i pc ls (v :: st) h Q = z_EvO (z_nul v) (fun q => z_br (q = false) i t pc' ls st h Q) := by
  subst hp; subst ht
  rw [z_row hd (Or.inr rfl)]
  simp only [z_do, z_v, z_jmp, of_decide_eq_true h0, if_true]
  cases z_nul v with
  | none => rfl
  | some q =>
    show z_EvR (if q = true then z_nx (pc + 3) ls st h else z_nx ((pc : Int) + off).toNat ls st h) i pc ls h Q = z_br (q = false) i _ _ ls st h Q
    cases q
    · rw [z_br_pos rfl]; rfl
    · rw [z_br_neg (by decide)]; rfl
theorem zr_ifacmp {c : ClassFile.ACond} {off : Int} (hd : decode (zt_code i) pc = .ok (.if_acmp c off, 3)) (h0 : decide (0 ≤ (pc : Int) + off) = true) (ht : ((pc : Int) + off).toNat = t) (hp : pc + 3 = pc') : z_Ev i pc ls (w :: v :: st) h Q = z_EvO (z_ac c v w) (fun q => z_br (q = true) i t pc' ls st h Q) := by
  subst hp; subst ht
  rw [z_row hd (Or.inr rfl)]
  simp only [z_do, z_v, z_jmp, of_decide_eq_true h0, if_true]
  cases z_ac c v w with
  | none => rfl
  | some q => exact z_EvR_if rfl
theorem zr_getfield {o k c f : Nat} {ty : FieldType} (hd : decode (zt_code i) pc = .ok (.getfield k, 3)) (ho : zt_own i = o) (hf : zt_fld o k = some (c, f, ty)) (hp : pc + 3 = pc') : z_Ev i pc ls (v :: st) h Q = z_EvO (z_gf (z_at h v) c f) (fun q => z_Ev i pc' ls (q :: st) h Q) := by
  subst hp
  rw [z_row hd (Or.inr rfl)]
  simp only [z_do, z_v, ho, hf, z_ob]
  cases z_gf (z_at h v) c f <;> rfl
theorem zr_putfield {o k c f : Nat} {ty : FieldType} (hd : decode (zt_code i) pc = .ok (.putfield k, 3)) (ho : zt_own i = o) (hf : zt_fld o k = some (c, f, ty)) (hn : z_fin i c f = true) (hp : pc + 3 = pc') : z_Ev i pc ls (w :: v :: st) h Q = z_EvG (z_tf ty w) (z_EvO (z_pf (z_at h v) c f w) (fun e => z_EvO (z_put h v e) (fun h' => z_Ev i pc' ls st h' Q))) := by
  subst hp
  rw [z_row hd (Or.inr rfl)]
  refine z_EvG_of (fun ht => ?_) (fun ht => ?_)
  · simp only [z_do, z_v, ho, hf, z_ob, ht, hn, Bool.and_true, if_true]
    cases z_pf (z_at h v) c f w with
    | none => rfl
    | some e => cases hq : z_put h v e <;> simp only [hq, z_EvO, z_EvR, z_nx]
  · simp only [z_do, z_v, ho, hf, z_ob, ht, Bool.false_and]
    rfl
theorem zr_new {o k n c : Nat} {fs : List Value} (hd : decode (zt_code i) pc = .ok (.new k, 3)) (ho : zt_own i = o) (hf : zt_new o k = some (n, c, fs)) (hn : fs.isEmpty = false) (hp : pc + 3 = pc') : z_Ev i pc ls st h Q = z_Ev i pc' ls (.ref h.1 :: st) (z_new h n (.inr (c, fs))) Q := by
  subst hp
  rw [z_row hd (Or.inr rfl)]
  simp only [z_do, z_ob, ho, hf, hn, z_nx, z_EvR]
  rfl
theorem zr_throw {o k c : Nat} (hd : decode (zt_code i) pc = .ok (.new k, 3)) (ho : zt_own i = o) (hf : zt_new o k = some (6, c, [])) (hn : z_thr i pc k c [] = true) : z_Ev i pc ls [] h Q = Q (.inr h.1) (z_new h 6 (.inr (c, []))) := by
  rw [z_row hd (Or.inr rfl)]
  simp only [z_do, z_ob, ho, hf, hn, z_EvR]
  rfl
theorem z_na_i {t n : Nat} {ty : ArrayType} (hn : n ≤ 60000000) (hty : (newarray.typeOf ty = .int ∧ t = 1) ∨ (newarray.typeOf ty = .byte ∧ t = 2) ∨ (newarray.typeOf ty = .char ∧ t = 3) ∨ (newarray.typeOf ty = .boolean ∧ t = 4)) : z_na ty n = some (zA t n (fun _ => 0)) := by
  unfold z_na
  rw [if_neg (by omega)]
  rcases hty with ⟨h1, rfl⟩ | ⟨h1, rfl⟩ | ⟨h1, rfl⟩ | ⟨h1, rfl⟩ <;> rw [h1] <;> rfl
theorem z_na_l {n : Nat} {ty : ArrayType} (hn : n ≤ 60000000) (hty : newarray.typeOf ty = .long) : z_na ty n = some (zLA n (fun _ => 0)) := by
  unfold z_na
  rw [if_neg (by omega), hty]
  rfl
theorem z_tnc {a : Int} (h0 : 0 ≤ a ∧ a ≤ 2147483647) : (Int32.ofInt a).toNatClampNeg = a.toNat := by
  show (Int32.ofInt a).toInt.toNat = _
  rw [zw_ofInt, zw_id (by omega)]
theorem z_notneg {a : Int} (h0 : 0 ≤ a ∧ a ≤ 2147483647) : ¬ Int32.ofInt a < 0 := by
  show ¬ Int32.ofInt a < Int32.ofInt 0
  rw [z32_lt, zw_id (by omega), zw_id (by omega)]
  omega
theorem zr_newarray {t : Nat} {ty : ArrayType} (hd : decode (zt_code i) pc = .ok (.newarray ty, 2)) (hty : (newarray.typeOf ty = .int ∧ t = 1) ∨ (newarray.typeOf ty = .byte ∧ t = 2) ∨ (newarray.typeOf ty = .char ∧ t = 3) ∨ (newarray.typeOf ty = .boolean ∧ t = 4)) (hp : pc + 2 = pc') (ha : 0 ≤ a ∧ a ≤ 60000000) : z_Ev i pc ls (zi a :: st) h Q = z_Ev i pc' ls (.ref h.1 :: st) (z_new h a.toNat (zA t a.toNat (fun _ => 0))) Q := by
  subst hp
  rw [z_row hd (Or.inr rfl)]
  simp only [z_do, zi, z_i, z_notneg (show 0 ≤ a ∧ a ≤ 2147483647 by omega), if_false, z_tnc (show 0 ≤ a ∧ a ≤ 2147483647 by omega), z_na_i (show a.toNat ≤ 60000000 by omega) hty, z_ob, z_nx, z_EvR]
theorem zr_newarrayl {ty : ArrayType} (hd : decode (zt_code i) pc = .ok (.newarray ty, 2)) (hty : newarray.typeOf ty = .long) (hp : pc + 2 = pc') (ha : 0 ≤ a ∧ a ≤ 60000000) : z_Ev i pc ls (zi a :: st) h Q = z_Ev i pc' ls (.ref h.1 :: st) (z_new h a.toNat (zLA a.toNat (fun _ => 0))) Q := by
  subst hp
  rw [z_row hd (Or.inr rfl)]
  simp only [z_do, zi, z_i, z_notneg (show 0 ≤ a ∧ a ≤ 2147483647 by omega), if_false, z_tnc (show 0 ≤ a ∧ a ≤ 2147483647 by omega), z_na_l (show a.toNat ≤ 60000000 by omega) hty, z_ob, z_nx, z_EvR]
theorem zr_anewarray {o k t : Nat} (hd : decode (zt_code i) pc = .ok (.anewarray k, 3)) (ho : zt_own i = o) (hf : zt_anw o k = some t) (hp : pc + 3 = pc') (ha : 0 ≤ a ∧ a ≤ 100000) : z_Ev i pc ls (zi a :: st) h Q = z_Ev i pc' ls (.ref h.1 :: st) (z_new h a.toNat (zQA t a.toNat (fun _ => none))) Q := by
  subst hp
  rw [z_row hd (Or.inr rfl)]
  have h1 : ¬ (Int32.ofInt a < 0 ∨ 100000 < a.toNat) := by
    intro h9
    rcases h9 with h9 | h9
    · exact z_notneg (by omega) h9
    · omega
  simp only [z_do, zi, z_i, z_tnc (show 0 ≤ a ∧ a ≤ 2147483647 by omega), ho, hf, z_ob, z_nx, z_EvR]
  rw [if_neg h1]
  rfl
/-- arrays -/
theorem z_inb_t {n : Nat} (hj : 0 ≤ x ∧ x < n) (hn : n ≤ 2147483647) : z_inb (Int32.ofInt x) n = true := by
  unfold z_inb
  rw [z_tnc (by omega)]
  have h1 := z_notneg (a := x) (by omega)
  simp [h1]
  omega
theorem z_ai_A {t n : Nat} {g : Nat → Int} (hj : 0 ≤ x ∧ x < n) (hn : n ≤ 2147483647) : z_ai (zA t n g) t (Int32.ofInt x) = some (zi (g x.toNat)) := by
  simp only [z_ai, zA, if_true, z_inb_t hj hn, z_tnc (show 0 ≤ x ∧ x ≤ 2147483647 by omega)]
  rfl
theorem z_al_A {n : Nat} {g : Nat → Int} (hj : 0 ≤ x ∧ x < n) (hn : n ≤ 2147483647) : z_al (zLA n g) 5 (Int32.ofInt x) = some (zl (g x.toNat)) := by
  simp only [z_al, zLA, if_true, z_inb_t hj hn, z_tnc (show 0 ≤ x ∧ x ≤ 2147483647 by omega)]
  rfl
theorem z_aq_A {t n : Nat} {g : Nat → Option Nat} (ht : 6 ≤ t ∧ t ≤ 8) (hj : 0 ≤ x ∧ x < n) (hn : n ≤ 2147483647) : z_aq (zQA t n g) (Int32.ofInt x) = some (va_rf (g x.toNat)) := by
  simp only [z_aq, zQA, if_pos ht, if_true, z_inb_t hj hn, z_tnc (show 0 ≤ x ∧ x ≤ 2147483647 by omega)]
theorem z_upd (g : Nat → Int) (k : Nat) (y : Int) : upd (fun j => Int32.ofInt (g j)) k (Int32.ofInt y) = fun j => Int32.ofInt (va_up g k y j) := by
  funext j
  unfold upd va_up
  split <;> rfl
theorem z_updL (g : Nat → Int) (k : Nat) (y : Int) : vp_updL (fun j => Int64.ofInt (g j)) k (Int64.ofInt y) = fun j => Int64.ofInt (va_up g k y j) := by
  funext j
  unfold vp_updL va_up
  split <;> rfl
theorem z_si_A {t n : Nat} {g : Nat → Int} (hj : 0 ≤ x ∧ x < n) (hn : n ≤ 2147483647) : z_si (zA t n g) t (Int32.ofInt x) (Int32.ofInt y) = some (zA t n (va_up g x.toNat y)) := by
  simp only [z_si, zA, if_true, z_inb_t hj hn, z_tnc (show 0 ≤ x ∧ x ≤ 2147483647 by omega), z_upd]
theorem z_sl_A {n : Nat} {g : Nat → Int} (hj : 0 ≤ x ∧ x < n) (hn : n ≤ 2147483647) : z_sl (zLA n g) 5 (Int32.ofInt x) (Int64.ofInt y) = some (zLA n (va_up g x.toNat y)) := by
  simp only [z_sl, zLA, if_true, z_inb_t hj hn, z_tnc (show 0 ≤ x ∧ x ≤ 2147483647 by omega), z_updL]
theorem z_sq_A {t n : Nat} {g : Nat → Option Nat} {q : Option Nat} (hj : 0 ≤ x ∧ x < n) (hn : n ≤ 2147483647) : z_sq (zQA t n g) t (Int32.ofInt x) q = some (zQA t n (va_up g x.toNat q)) := by
  simp only [z_sq, zQA, if_true, z_inb_t hj hn, z_tnc (show 0 ≤ x ∧ x ≤ 2147483647 by omega)]
theorem z_len_A {t n : Nat} {g : Nat → Int} (ht : 1 ≤ t ∧ t ≤ 8) : z_len (zA t n g) = some (Int32.ofInt n) := by
  simp only [z_len, zA, if_pos ht]
  rfl
theorem z_len_L {n : Nat} {g : Nat → Int} : z_len (zLA n g) = some (Int32.ofInt n) := rfl
theorem z_len_Q {t n : Nat} {g : Nat → Option Nat} (ht : 1 ≤ t ∧ t ≤ 8) : z_len (zQA t n g) = some (Int32.ofInt n) := by
  simp only [z_len, zQA, if_pos ht]
  rfl
/-- a place of an array of ints of type t, read -/
def zg_ai (e : zE) (t : Nat) (x : Int) : Option Value := z_ai e t (Int32.ofInt x)
def zg_al (e : zE) (x : Int) : Option Value := z_al e 5 (Int32.ofInt x)
def zg_aq (e : zE) (x : Int) : Option Value := z_aq e (Int32.ofInt x)
def zg_si (e : zE) (t : Nat) (x y : Int) : Option zE := z_si e t (Int32.ofInt x) (Int32.ofInt y)
def zg_sl (e : zE) (x y : Int) : Option zE := z_sl e 5 (Int32.ofInt x) (Int64.ofInt y)
theorem zg_ai_A {t n : Nat} {g : Nat → Int} (hj : 0 ≤ x ∧ x < n) (hn : n ≤ 2147483647) : zg_ai (zA t n g) t x = some (zi (g x.toNat)) := z_ai_A hj hn
theorem zg_al_A {n : Nat} {g : Nat → Int} (hj : 0 ≤ x ∧ x < n) (hn : n ≤ 2147483647) : zg_al (zLA n g) x = some (zl (g x.toNat)) := z_al_A hj hn
theorem zg_si_A {t n : Nat} {g : Nat → Int} (hj : 0 ≤ x ∧ x < n) (hn : n ≤ 2147483647) : zg_si (zA t n g) t x y = some (zA t n (va_up g x.toNat y)) := z_si_A hj hn
theorem zg_sl_A {n : Nat} {g : Nat → Int} (hj : 0 ≤ x ∧ x < n) (hn : n ≤ 2147483647) : zg_sl (zLA n g) x y = some (zLA n (va_up g x.toNat y)) := z_sl_A hj hn
theorem zr_alen (hd : decode (zt_code i) pc = .ok (.arraylength, 1)) (hp : pc + 1 = pc') : z_Ev i pc ls (v :: st) h Q = z_EvO (z_len (z_at h v)) (fun q => z_Ev i pc' ls (.int q :: st) h Q) := by
  subst hp
  rw [z_row hd (Or.inr rfl)]
  simp only [z_do, z_v]
  cases z_len (z_at h v) <;> rfl
theorem zr_iaload (hd : decode (zt_code i) pc = .ok (.iaload, 1)) (hp : pc + 1 = pc') : z_Ev i pc ls (zi x :: v :: st) h Q = z_EvO (zg_ai (z_at h v) 1 x) (fun q => z_Ev i pc' ls (q :: st) h Q) := by
  subst hp
  rw [z_row hd (Or.inr rfl)]
  simp only [z_do, zi, z_vi, zg_ai]
  cases z_ai (z_at h v) 1 (Int32.ofInt x) <;> rfl
theorem zr_caload (hd : decode (zt_code i) pc = .ok (.caload, 1)) (hp : pc + 1 = pc') : z_Ev i pc ls (zi x :: v :: st) h Q = z_EvO (zg_ai (z_at h v) 3 x) (fun q => z_Ev i pc' ls (q :: st) h Q) := by
  subst hp
  rw [z_row hd (Or.inr rfl)]
  simp only [z_do, zi, z_vi, zg_ai]
  cases z_ai (z_at h v) 3 (Int32.ofInt x) <;> rfl
/-- of bytes, or booleans -/
def zg_ab (e : zE) (x : Int) : Option Value := if z_ty e = 4 then zg_ai e 4 x else zg_ai e 2 x
theorem zg_ab_b {n : Nat} {g : Nat → Int} (hj : 0 ≤ x ∧ x < n) (hn : n ≤ 2147483647) : zg_ab (zA 2 n g) x = some (zi (g x.toNat)) := by
  show z_ai (zA 2 n g) 2 (Int32.ofInt x) = _
  exact z_ai_A hj hn
theorem zg_ab_z {n : Nat} {g : Nat → Int} (hj : 0 ≤ x ∧ x < n) (hn : n ≤ 2147483647) : zg_ab (zA 4 n g) x = some (zi (g x.toNat)) := by
  show z_ai (zA 4 n g) 4 (Int32.ofInt x) = _
  exact z_ai_A hj hn
theorem zr_baload (hd : decode (zt_code i) pc = .ok (.baload, 1)) (hp : pc + 1 = pc') : z_Ev i pc ls (zi x :: v :: st) h Q = z_EvO (zg_ab (z_at h v) x) (fun q => z_Ev i pc' ls (q :: st) h Q) := by
  subst hp
  rw [z_row hd (Or.inr rfl)]
  simp only [z_do, zi, z_vi, zg_ab, zg_ai]
  cases (if z_ty (z_at h v) = 4 then z_ai (z_at h v) 4 (Int32.ofInt x) else z_ai (z_at h v) 2 (Int32.ofInt x)) <;> rfl
theorem zr_laload (hd : decode (zt_code i) pc = .ok (.laload, 1)) (hp : pc + 1 = pc') : z_Ev i pc ls (zi x :: v :: st) h Q = z_EvO (zg_al (z_at h v) x) (fun q => z_Ev i pc' ls (q :: st) h Q) := by
  subst hp
  rw [z_row hd (Or.inr rfl)]
  simp only [z_do, zi, z_vi, zg_al]
  cases z_al (z_at h v) 5 (Int32.ofInt x) <;> rfl
theorem zr_aaload (hd : decode (zt_code i) pc = .ok (.aaload, 1)) (hp : pc + 1 = pc') : z_Ev i pc ls (zi x :: v :: st) h Q = z_EvO (zg_aq (z_at h v) x) (fun q => z_Ev i pc' ls (q :: st) h Q) := by
  subst hp
  rw [z_row hd (Or.inr rfl)]
  simp only [z_do, zi, z_vi, zg_aq]
  cases z_aq (z_at h v) (Int32.ofInt x) <;> rfl
theorem z_sto {e : Option zE} : z_EvR (z_ob e (fun e => z_ob (z_put h v e) (fun h => z_nx pc' ls st h))) i pc ls' h Q = z_EvO e (fun e => z_EvO (z_put h v e) (fun h' => z_Ev i pc' ls st h' Q)) := by
  cases e with
  | none => rfl
  | some e => cases hq : z_put h v e <;> simp only [hq, z_ob, z_EvO, z_EvR, z_nx]
theorem zr_iastore (hd : decode (zt_code i) pc = .ok (.iastore, 1)) (hp : pc + 1 = pc') : z_Ev i pc ls (zi y :: zi x :: v :: st) h Q = z_EvO (zg_si (z_at h v) 1 x y) (fun e => z_EvO (z_put h v e) (fun h' => z_Ev i pc' ls st h' Q)) := by
  subst hp
  rw [z_row hd (Or.inr rfl)]
  simp only [z_do, zi, z_i, z_vi, zg_si]
  exact z_sto
theorem z_nar_c (y : Int) : vp_nar .char (Int32.ofInt y) = Int32.ofInt (y % 65536) := z_i2c y
theorem z_nar_b (y : Int) : vp_nar .byte (Int32.ofInt y) = Int32.ofInt (y.bmod 256) := z_i2b y
theorem zr_castore (hd : decode (zt_code i) pc = .ok (.castore, 1)) (hp : pc + 1 = pc') : z_Ev i pc ls (zi y :: zi x :: v :: st) h Q = z_EvO (zg_si (z_at h v) 3 x (y % 65536)) (fun e => z_EvO (z_put h v e) (fun h' => z_Ev i pc' ls st h' Q)) := by
  subst hp
  rw [z_row hd (Or.inr rfl)]
  simp only [z_do, zi, z_i, z_vi, zg_si, z_nar_c]
  exact z_sto
def zg_sb (e : zE) (x y : Int) : Option zE := if z_ty e = 4 then z_si e 4 (Int32.ofInt x) (vp_nar .boolean (Int32.ofInt y)) else z_si e 2 (Int32.ofInt x) (vp_nar .byte (Int32.ofInt y))
theorem zg_sb_b {n : Nat} {g : Nat → Int} (hj : 0 ≤ x ∧ x < n) (hn : n ≤ 2147483647) : zg_sb (zA 2 n g) x y = some (zA 2 n (va_up g x.toNat (y.bmod 256))) := by
  show z_si (zA 2 n g) 2 (Int32.ofInt x) (vp_nar .byte (Int32.ofInt y)) = _
  rw [z_nar_b]
  exact z_si_A hj hn
theorem z_nar_z (y : Int) (hy : y = 0 ∨ y = 1) : vp_nar .boolean (Int32.ofInt y) = Int32.ofInt y := by
  rcases hy with rfl | rfl <;> rfl
theorem zg_sb_z {n : Nat} {g : Nat → Int} (hj : 0 ≤ x ∧ x < n) (hn : n ≤ 2147483647) (hy : y = 0 ∨ y = 1) : zg_sb (zA 4 n g) x y = some (zA 4 n (va_up g x.toNat y)) := by
  show z_si (zA 4 n g) 4 (Int32.ofInt x) (vp_nar .boolean (Int32.ofInt y)) = _
  rw [z_nar_z y hy]
  exact z_si_A hj hn
theorem zr_bastore (hd : decode (zt_code i) pc = .ok (.bastore, 1)) (hp : pc + 1 = pc') : z_Ev i pc ls (zi y :: zi x :: v :: st) h Q = z_EvO (zg_sb (z_at h v) x y) (fun e => z_EvO (z_put h v e) (fun h' => z_Ev i pc' ls st h' Q)) := by
  subst hp
  rw [z_row hd (Or.inr rfl)]
  simp only [z_do, zi, z_i, z_vi, zg_sb]
  exact z_sto
theorem zr_lastore (hd : decode (zt_code i) pc = .ok (.lastore, 1)) (hp : pc + 1 = pc') : z_Ev i pc ls (zl y :: zi x :: v :: st) h Q = z_EvO (zg_sl (z_at h v) x y) (fun e => z_EvO (z_put h v e) (fun h' => z_Ev i pc' ls st h' Q)) := by
  subst hp
  rw [z_row hd (Or.inr rfl)]
  simp only [z_do, zi, zl, z_l, z_vi, zg_sl]
  exact z_sto
def zg_sq (ex ea : zE) (w : Value) (x : Int) : Option zE := match z_aok ex ea w with
  | some y => z_sq ea (z_ty ea) (Int32.ofInt x) (some y)
  | none => none
theorem zr_aastore (hd : decode (zt_code i) pc = .ok (.aastore, 1)) (hp : pc + 1 = pc') : z_Ev i pc ls (w :: zi x :: v :: st) h Q = z_EvO (zg_sq (z_at h w) (z_at h v) w x) (fun e => z_EvO (z_put h v e) (fun h' => z_Ev i pc' ls st h' Q)) := by
  subst hp
  rw [z_row hd (Or.inr rfl)]
  simp only [z_do, zi, z_v, z_vi, zg_sq]
  cases hq : z_aok (z_at h w) (z_at h v) w with
  | none => rfl
  | some y => exact z_sto
/-- casts -/
theorem zr_checkcast {o k : Nat} (hd : decode (zt_code i) pc = .ok (.checkcast k, 3)) (ho : zt_own i = o) (hp : pc + 3 = pc') (hv : v ≠ .null) : z_Ev i pc ls (v :: st) h Q = z_EvG (zt_cst o k (z_at h v) (z_dyn v)) (z_Ev i pc' ls (v :: st) h Q) := by
  subst hp
  rw [z_row hd (Or.inr rfl)]
  refine z_EvG_of (fun hc => ?_) (fun hc => ?_)
  · simp only [z_do, z_v, if_neg hv, ho, hc, if_true, z_nx, z_EvR]
  · simp only [z_do, z_v, if_neg hv, ho, hc]
    rfl
theorem zr_instanceof {o k : Nat} (hd : decode (zt_code i) pc = .ok (.instanceof k, 3)) (ho : zt_own i = o) (hp : pc + 3 = pc') : z_Ev i pc ls (v :: st) h Q = z_EvG (zt_cst o k (z_at h v) false) (z_Ev i pc' ls (zi 1 :: st) h Q) := by
  subst hp
  rw [z_row hd (Or.inr rfl)]
  refine z_EvG_of (fun hc => ?_) (fun hc => ?_)
  · simp only [z_do, z_v, ho, hc, if_true, z_nx, z_EvR]
    rfl
  · simp only [z_do, z_v, ho, hc]
    rfl
/-- returns -/
theorem zr_ireturn {ty : FieldType} (hd : decode (zt_code i) pc = .ok (.ireturn, 1)) (hr : zt_ret i = some ty) : z_Ev i pc ls [zi a] h Q = z_EvG (z_tf ty (zi a)) (Q (.inl (some (zi a))) h) := by
  rw [z_row hd (Or.inr rfl)]
  refine z_EvG_of (fun ht => ?_) (fun ht => ?_)
  · simp only [zi] at ht ⊢
    simp only [z_do, z_i, hr, z_rt, ht, List.isEmpty_nil, Bool.and_true, if_true, z_end, z_EvR]
  · simp only [zi] at ht ⊢
    simp only [z_do, z_i, hr, z_rt, ht, List.isEmpty_nil, Bool.and_false]
    rfl
theorem zr_lreturn (hd : decode (zt_code i) pc = .ok (.lreturn, 1)) (hr : zt_ret i = some .long) : z_Ev i pc ls [zl a] h Q = Q (.inl (some (zl a))) h := by
  rw [z_row hd (Or.inr rfl)]
  simp only [z_do, zl, z_l, hr, z_rt, z_tf, fits, List.isEmpty_nil, Bool.and_true, if_true, z_end, z_EvR]
theorem zr_areturn {ty : FieldType} (hd : decode (zt_code i) pc = .ok (.areturn, 1)) (hr : zt_ret i = some ty) (hf : fits ty .null = true) (hv : z_isref v = true) : z_Ev i pc ls [v] h Q = Q (.inl (some v)) h := by
  rw [z_row hd (Or.inr rfl)]
  have ht : z_tf ty v = true := by
    cases v <;> simp [z_isref] at hv <;> simp [z_tf, z_isref, hf]
  simp only [z_do, z_v, hr, z_rt, ht, hv, List.isEmpty_nil, Bool.and_true, if_true, z_end, z_EvR]
theorem zr_return (hd : decode (zt_code i) pc = .ok (.return_, 1)) (hr : zt_ret i = none) : z_Ev i pc ls [] h Q = Q (.inl none) h := by
  rw [z_row hd (Or.inr rfl)]
  simp only [z_do, hr, List.isEmpty_nil, Option.isNone_none, Bool.and_true, if_true, z_end, z_EvR]
theorem z_tf_i (a : Int) : z_tf .int (zi a) = true := by simp [z_tf, zi, narrow, fits]
theorem z_tf_l (a : Int) : z_tf .long (zl a) = true := rfl
theorem z_tf_z {a : Int} (ha : a = 0 ∨ a = 1) : z_tf .boolean (zi a) = true := by rcases ha with rfl | rfl <;> decide
theorem z_tf_b {a : Int} (ha : -128 ≤ a ∧ a ≤ 127) : z_tf .byte (zi a) = true := by
  have h1 : (Int32.ofInt a).toInt8.toInt32 = Int32.ofInt a := by
    rw [z_i2b, Int.bmod_eq_of_le (by omega) (by omega)]
  simp only [z_tf, zi, narrow_byte, h1, decide_true, Bool.true_and]
  simp only [fits]
  have h2 : (-128 : Int32) ≤ Int32.ofInt a := by
    show Int32.ofInt (-128) ≤ Int32.ofInt a
    rw [z32_le, zw_id (by omega), zw_id (by omega)]
    omega
  have h3 : Int32.ofInt a ≤ (127 : Int32) := by
    show Int32.ofInt a ≤ Int32.ofInt 127
    rw [z32_le, zw_id (by omega), zw_id (by omega)]
    omega
  simp [h2, h3]
theorem z_tf_v {ty : FieldType} (hf : fits ty .null = true) (hv : z_isref v = true) : z_tf ty v = true := by
  cases v <;> simp [z_isref] at hv <;> simp [z_tf, z_isref, hf]
/-- calls -/
theorem z_fit0 : (z_args []).length ≤ 0 := Nat.le_refl _
theorem z_fiti {r : List Value} {n : Nat} (h : (z_args r).length ≤ n) : (z_args (zi a :: r)).length ≤ n + 1 := Nat.succ_le_succ h
theorem z_fitl {r : List Value} {n : Nat} (h : (z_args r).length ≤ n) : (z_args (zl a :: r)).length ≤ n + 2 := Nat.succ_le_succ (Nat.succ_le_succ h)
theorem z_args_v {r : List Value} (hv : z_isref v = true) : z_args (v :: r) = v :: z_args r := by
  cases v <;> simp [z_isref] at hv <;> rfl
theorem z_fitv {r : List Value} {n : Nat} (hv : z_isref v = true) (h : (z_args r).length ≤ n) : (z_args (v :: r)).length ≤ n + 1 := by
  rw [z_args_v hv]
  exact Nat.succ_le_succ h
theorem z_topd {as r : List Value} {n : Nat} (hn : as.length = n) : z_top n (as.reverse ++ r) = as ∧ (as.reverse ++ r).drop n = r ∧ n ≤ (as.reverse ++ r).length := by
  subst hn
  unfold z_top
  refine ⟨?_, ?_, ?_⟩
  · rw [List.take_left' (by simp), List.reverse_reverse]
  · rw [List.drop_left' (by simp)]
  · simp
theorem zr_call0 {o k j c n : Nat} {as r : List Value} (hd : decode (zt_code i) pc = .ok (.invokestatic k, 3)) (ho : zt_own i = o) (hm : zt_mth o k = some (0, j, c)) (hna : zt_na j = as.length) (hml : Nat.ble n (zt_ml j) = true) (hrk : Nat.blt (zt_rk j) (zt_rk i) = true) (hst : st = as.reverse ++ r) (hf : (z_args as).length ≤ n) (h10 : Nat.ble r.length 10 = true) : z_Ev i pc ls st h Q = z_Cl j as h (z_Bk i pc ls r Q) := by
  subst hst
  rw [z_row hd (Or.inr rfl)]
  obtain ⟨e1, e2, e3⟩ := z_topd (r := r) hna.symm
  simp only [z_do, z_call, ho, hm, z_ob, z_ko, if_true, e1, e2]
  rw [if_pos ⟨e3, Nat.le_of_ble_eq_true h10, Nat.le_trans hf (Nat.le_of_ble_eq_true hml)⟩]
  show (zt_rk j < zt_rk i ∧ z_Cl j as h (z_Bk i pc ls r Q)) = _
  have h1 : zt_rk j < zt_rk i := Nat.le_of_ble_eq_true hrk
  exact propext ⟨fun q => q.2, fun q => ⟨h1, q⟩⟩
theorem zr_call1 {o k j c n : Nat} {as r : List Value} (hd : decode (zt_code i) pc = .ok (.invokevirtual k, 3)) (ho : zt_own i = o) (hm : zt_mth o k = some (1, j, c)) (hna : zt_na j = (v :: as).length) (hml : Nat.ble n (zt_ml j) = true) (hrk : Nat.blt (zt_rk j) (zt_rk i) = true) (hst : st = (v :: as).reverse ++ r) (hf : (z_args (v :: as)).length ≤ n) (h10 : Nat.ble r.length 10 = true) : z_Ev i pc ls st h Q = z_EvG (z_isob (z_at h v) c) (z_Cl j (v :: as) h (z_Bk i pc ls r Q)) := by
  subst hst
  rw [z_row hd (Or.inr rfl)]
  obtain ⟨e1, e2, e3⟩ := z_topd (r := r) hna.symm
  refine z_EvG_of (fun hob => ?_) (fun hob => ?_)
  · simp only [z_do, z_call, ho, hm, z_ob, z_ko, if_true, e1, e2, z_v, hob]
    rw [if_pos ⟨e3, Nat.le_of_ble_eq_true h10, Nat.le_trans hf (Nat.le_of_ble_eq_true hml)⟩]
    show (zt_rk j < zt_rk i ∧ z_Cl j (v :: as) h (z_Bk i pc ls r Q)) = _
    have h1 : zt_rk j < zt_rk i := Nat.le_of_ble_eq_true hrk
    exact propext ⟨fun q => q.2, fun q => ⟨h1, q⟩⟩
  · simp only [z_do, z_call, ho, hm, z_ob, z_ko, if_true, e1, e2, z_v, hob]
    rw [if_pos ⟨e3, Nat.le_of_ble_eq_true h10, Nat.le_trans hf (Nat.le_of_ble_eq_true hml)⟩]
    rfl
theorem zr_call2 {o k j c n : Nat} {as r : List Value} (hd : decode (zt_code i) pc = .ok (.invokespecial k, 3)) (ho : zt_own i = o) (hm : zt_mth o k = some (2, j, c)) (hna : zt_na j = (v :: as).length) (hml : Nat.ble n (zt_ml j) = true) (hrk : Nat.blt (zt_rk j) (zt_rk i) = true) (hst : st = (v :: as).reverse ++ r) (hf : (z_args (v :: as)).length ≤ n) (h10 : Nat.ble r.length 10 = true) : z_Ev i pc ls st h Q = z_EvG (z_isob (z_at h v) c) (z_Cl j (v :: as) h (z_Bk i pc ls r Q)) := by
  subst hst
  rw [z_row hd (Or.inr rfl)]
  obtain ⟨e1, e2, e3⟩ := z_topd (r := r) hna.symm
  refine z_EvG_of (fun hob => ?_) (fun hob => ?_)
  · simp only [z_do, z_call, ho, hm, z_ob, z_ko, if_true, e1, e2, z_v, hob]
    rw [if_pos ⟨e3, Nat.le_of_ble_eq_true h10, Nat.le_trans hf (Nat.le_of_ble_eq_true hml)⟩]
    show (zt_rk j < zt_rk i ∧ z_Cl j (v :: as) h (z_Bk i pc ls r Q)) = _
    have h1 : zt_rk j < zt_rk i := Nat.le_of_ble_eq_true hrk
    exact propext ⟨fun q => q.2, fun q => ⟨h1, q⟩⟩
  · simp only [z_do, z_call, ho, hm, z_ob, z_ko, if_true, e1, e2, z_v, hob]
    rw [if_pos ⟨e3, Nat.le_of_ble_eq_true h10, Nat.le_trans hf (Nat.le_of_ble_eq_true hml)⟩]
    rfl
theorem zr_obj {o k c j q : Nat} (hd : decode (zt_code i) pc = .ok (.invokespecial k, 3)) (ho : zt_own i = o) (hm : zt_mth o k = some (3, j, c)) (hp : pc + 3 = pc') (h10 : Nat.ble st.length 10 = true) : z_Ev i pc ls (.ref q :: st) h Q = z_Ev i pc' ls st h Q := by
  subst hp
  rw [z_row hd (Or.inr rfl)]
  simp only [z_do, z_call, ho, hm, z_ob, z_ko, if_true, z_v, Nat.le_of_ble_eq_true h10, z_nx, z_EvR]
theorem zr_copy {o k c j : Nat} {n d s : Int} {vd vs : Value} (hd : decode (zt_code i) pc = .ok (.invokestatic k, 3)) (ho : zt_own i = o) (hm : zt_mth o k = some (4, j, c)) (hp : pc + 3 = pc') (h10 : Nat.ble st.length 10 = true) : z_Ev i pc ls (zi n :: zi d :: vd :: zi s :: vs :: st) h Q = z_EvO (z_cpy (z_atr h vs) (z_at h vd) (Int32.ofInt s) (Int32.ofInt d) (Int32.ofInt n)) (fun e => z_EvO (z_put h vd e) (fun h' => z_Ev i pc' ls st h' Q)) := by
  subst hp
  rw [z_row hd (Or.inr rfl)]
  simp only [z_do, z_call, ho, hm, z_ob, z_ko, if_true, z_v, z_i, zi, Nat.le_of_ble_eq_true h10]
  cases z_cpy (z_atr h vs) (z_at h vd) (Int32.ofInt s) (Int32.ofInt d) (Int32.ofInt n) with
  | none => rfl
  | some e => cases hq : z_put h vd e <;> simp only [hq, z_EvO, z_EvR, z_nx]
theorem zr_clone {o k c j : Nat} (hd : decode (zt_code i) pc = .ok (.invokevirtual k, 3)) (ho : zt_own i = o) (hm : zt_mth o k = some (6, j, c)) (hp : pc + 3 = pc') (h10 : Nat.ble st.length 10 = true) : z_Ev i pc ls (v :: st) h Q = z_EvO (z_cln (z_atr h v)) (fun q => z_Ev i pc' ls (.ref h.1 :: st) (z_new h q.1 q.2) Q) := by
  subst hp
  rw [z_row hd (Or.inr rfl)]
  simp only [z_do, z_call, ho, hm, z_ob, z_ko, if_true, z_v, Nat.le_of_ble_eq_true h10]
  cases z_cln (z_atr h v) <;> rfl
theorem zr_enter {j n : Nat} {as ls0 : List Value} (hml : zt_ml j = n) (he : z_args as ++ List.replicate (n - (z_args as).length) z_um = ls0) : z_Cl j as h Q = z_Ev j 0 ls0 [] h Q := by
  subst hml; subst he
  rfl
end ZU
theorem z_args_0 : z_args [] = [] := rfl
theorem z_args_i {a : Int} {r : List Value} : z_args (zi a :: r) = zi a :: z_args r := rfl
theorem z_args_l {a : Int} {r : List Value} : z_args (zl a :: r) = zl a :: z_um :: z_args r := rfl
theorem zi_f (a : Int) : Value.int (Int32.ofInt a) = zi a := rfl
theorem zl_f (a : Int) : Value.long (Int64.ofInt a) = zl a := rfl
