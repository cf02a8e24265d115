/-! THE PURE EVALUATOR: a simple big-step reading of the bytecode over a heap of plain cells.
zE: a cell: .inl (type of its elements, (length, contents)) an array; .inr (class, fields) an object. zH: (cells made, slots made, the cells, the given cells). A value .ref a is the cell a, .retAddr k the given cell k (a literal, the script). zO: returned | threw. -/
abbrev zE : Type := (Nat × vp_A) ⊕ (Nat × List Value)
abbrev zH : Type := Nat × Nat × (Nat → zE) × (Nat → zE)
abbrev zO : Type := Option Value ⊕ Nat
abbrev zC : Type := Nat × List Value × List Value × zH
abbrev zR : Type := zC ⊕ ((zO × zH) ⊕ (Nat × List Value × List Value))
def z_um : Value := .float 0
def z_jk : zE := .inr (9999, [])
def z_at (h : zH) (v : Value) : zE := match v with
  | .ref a => h.2.2.1 a
  | .retAddr k => h.2.2.2 k
  | _ => z_jk
/-- ... not of the given ones -/
def z_atr (h : zH) (v : Value) : zE := match v with
  | .ref a => h.2.2.1 a
  | _ => z_jk
def z_put (h : zH) (v : Value) (c : zE) : Option zH := match v with
  | .ref a => some (h.1, h.2.1, va_up h.2.2.1 a c, h.2.2.2)
  | _ => none
def z_new (h : zH) (n : Nat) (c : zE) : zH := (h.1 + 1, h.2.1 + n, va_up h.2.2.1 h.1 c, h.2.2.2)
def z_isref (v : Value) : Bool := match v with
  | .ref _ => true
  | .retAddr _ => true
  | .null => true
  | _ => false
def z_ok (v : Value) : Bool := match v with
  | .int _ => true
  | .long _ => true
  | v => z_isref v
def z_kl (v : Value) : Value := match v with
  | .long _ => z_um
  | .double _ => z_um
  | v => v
/-- one word is stored at k -/
def z_s1 (ls : List Value) (k : Nat) (v : Value) : List Value := match k with
  | 0 => ls.set 0 v
  | j + 1 => (ls.modify j z_kl).set (j + 1) v
/-- two words -/
def z_s2 (ls : List Value) (k : Nat) (v : Value) : List Value := (z_s1 ls k v).set (k + 1) z_um
def z_nx (pc : Nat) (ls st : List Value) (h : zH) : Option zR := some (.inl (pc, ls, st, h))
def z_i (st : List Value) (f : Int32 → List Value → Option zR) : Option zR := match st with
  | .int x :: r => f x r
  | _ => none
def z_ii (st : List Value) (f : Int32 → Int32 → List Value → Option zR) : Option zR := match st with
  | .int y :: .int x :: r => f x y r
  | _ => none
def z_l (st : List Value) (f : Int64 → List Value → Option zR) : Option zR := match st with
  | .long x :: r => f x r
  | _ => none
def z_ll (st : List Value) (f : Int64 → Int64 → List Value → Option zR) : Option zR := match st with
  | .long y :: .long x :: r => f x y r
  | _ => none
def z_li (st : List Value) (f : Int64 → Int32 → List Value → Option zR) : Option zR := match st with
  | .int y :: .long x :: r => f x y r
  | _ => none
def z_v (st : List Value) (f : Value → List Value → Option zR) : Option zR := match st with
  | v :: r => f v r
  | _ => none
def z_vi (st : List Value) (f : Value → Int32 → List Value → Option zR) : Option zR := match st with
  | .int i :: v :: r => f v i r
  | _ => none
def z_ob {α : Type} (o : Option α) (f : α → Option zR) : Option zR := match o with
  | some x => f x
  | none => none
def z_jmp (pc : Nat) (off : Int) (f : Nat → Option zR) : Option zR := if 0 ≤ (pc : Int) + off then f ((pc : Int) + off).toNat else none
def z_cc (c : ClassFile.Cond) (x y : Int32) : Bool := match c with
  | .eq => decide (x = y)
  | .ne => decide (¬ x = y)
  | .lt => decide (x < y)
  | .ge => decide (y ≤ x)
  | .gt => decide (y < x)
  | .le => decide (x ≤ y)
/-- is it null? (of a given value that may be null: not told) -/
def z_nul (v : Value) : Option Bool := match v with
  | .null => some true
  | .ref _ => some false
  | .retAddr k => if k < 100 then some false else none
  | _ => none
/-- the same object? -/
def z_ac (c : ClassFile.ACond) (v w : Value) : Option Bool := match v, w with
  | .ref a, .ref b => some (if c = .eq then decide (a = b) else decide (a ≠ b))
  | .ref _, .retAddr k => if k < 100 then some (if c = .eq then false else true) else none
  | .ref _, .null => some (if c = .eq then false else true)
  | _, _ => none
/-- loads -/
def z_ldi (ls : List Value) (k : Nat) : Option Value := match ls[k]? with
  | some (.int x) => some (.int x)
  | _ => none
def z_ldl (ls : List Value) (k : Nat) : Option Value := match ls[k]? with
  | some (.long x) => some (.long x)
  | _ => none
def z_lda (ls : List Value) (k : Nat) : Option Value := match ls[k]? with
  | some v => if z_isref v then some v else none
  | _ => none
/-- the field k of an object of class c -/
def z_gf (e : zE) (c k : Nat) : Option Value := match e with
  | .inr (c', fs) => if c' = c then (match fs[k]? with
    | some v => if z_ok v then some v else none
    | none => none) else none
  | _ => none
def z_pf (e : zE) (c k : Nat) (v : Value) : Option zE := match e with
  | .inr (c', fs) => if c' = c then (if k < fs.length then some (.inr (c, fs.set k v)) else none) else none
  | _ => none
/-- elements: of ints and their like, of longs, of references -/
def z_inb (i : Int32) (n : Nat) : Bool := !(decide (i < 0) || decide (n ≤ i.toNatClampNeg))
def z_ai (e : zE) (t : Nat) (i : Int32) : Option Value := match e with
  | .inl (t', n, .inl f) => if t' = t then (if z_inb i n then some (.int (f i.toNatClampNeg)) else none) else none
  | _ => none
def z_al (e : zE) (t : Nat) (i : Int32) : Option Value := match e with
  | .inl (t', n, .inr (.inl f)) => if t' = t then (if z_inb i n then some (.long (f i.toNatClampNeg)) else none) else none
  | _ => none
def z_aq (e : zE) (i : Int32) : Option Value := match e with
  | .inl (t, n, .inr (.inr (.inr (.inr f)))) => if 6 ≤ t ∧ t ≤ 8 then (if z_inb i n then some (va_rf (f i.toNatClampNeg)) else none) else none
  | _ => none
def z_si (e : zE) (t : Nat) (i : Int32) (x : Int32) : Option zE := match e with
  | .inl (t', n, .inl f) => if t' = t then (if z_inb i n then some (.inl (t, n, .inl (upd f i.toNatClampNeg x))) else none) else none
  | _ => none
def z_sl (e : zE) (t : Nat) (i : Int32) (x : Int64) : Option zE := match e with
  | .inl (t', n, .inr (.inl f)) => if t' = t then (if z_inb i n then some (.inl (t, n, .inr (.inl (vp_updL f i.toNatClampNeg x)))) else none) else none
  | _ => none
def z_sq (e : zE) (t : Nat) (i : Int32) (x : Option Nat) : Option zE := match e with
  | .inl (t', n, .inr (.inr (.inr (.inr f)))) => if t' = t then (if z_inb i n then some (.inl (t, n, .inr (.inr (.inr (.inr (va_up f i.toNatClampNeg x)))))) else none) else none
  | _ => none
def z_len (e : zE) : Option Int32 := match e with
  | .inl (t, n, _) => if 1 ≤ t ∧ t ≤ 8 then some (Int32.ofNat n) else none
  | _ => none
def z_ty (e : zE) : Nat := match e with
  | .inl (t, _) => t
  | .inr (c, _) => c
/-- a variable of that type takes the value as it is -/
def z_tf (ty : FieldType) (v : Value) : Bool := match v with
  | .int x => decide (narrow ty (.int x) = .int x) && fits ty (.int x)
  | .long x => fits ty (.long x)
  | v => z_isref v && fits ty .null
/-- a final field is put by its class's own constructors alone -/
def z_fin (i c k : Nat) : Bool := match zt_cl[c]? with
  | some (_, T, _) => !(T k).2.2.2 || (decide ((zt_name i).name = "<init>") && decide ((T k).1 = zt_cn (zt_own i)))
  | none => false
def z_rt (ty : Option FieldType) (v : Value) : Bool := match ty with
  | some t => z_tf t v
  | none => false
def z_end (v : Option Value) (h : zH) : Option zR := some (.inr (.inl (.inl v, h)))
def z_isob (e : zE) (c : Nat) : Bool := match e with
  | .inr (c', fs) => decide (c' = c) && !fs.isEmpty
  | _ => false
/-- a new array of numbers -/
def z_na (t : ArrayType) (n : Nat) : Option zE := if 60000000 < n then none else match newarray.typeOf t with
  | .int => some (.inl (1, n, .inl (fun _ => 0)))
  | .byte => some (.inl (2, n, .inl (fun _ => 0)))
  | .char => some (.inl (3, n, .inl (fun _ => 0)))
  | .boolean => some (.inl (4, n, .inl (fun _ => 0)))
  | .long => some (.inl (5, n, .inr (.inl (fun _ => 0))))
  | _ => none
/-- a reference that an array of references takes -/
def z_aok (x a : zE) (v : Value) : Option Nat := match v, x with
  | .ref y, .inr (c, _) => if zt_cmp (z_ty a) = some c then some y else none
  | _, _ => none
/-- the copy of n elements -/
def z_cpy (s d : zE) (sp dp n : Int32) : Option zE := match s, d with
  | .inl (t, n0, .inl f), .inl (t', n1, .inl g) => if t = 2 ∧ t' = 2 ∧ ¬ sp < 0 ∧ ¬ dp < 0 ∧ ¬ n < 0 ∧ sp.toNatClampNeg + n.toNatClampNeg ≤ n0 ∧ dp.toNatClampNeg + n.toNatClampNeg ≤ n1 then some (.inl (2, n1, .inl (va_cpy f g sp.toNatClampNeg dp.toNatClampNeg n.toNatClampNeg))) else none
  | _, _ => none
/-- the copy of a byte array -/
def z_cln (e : zE) : Option (Nat × zE) := match e with
  | .inl (2, n, .inl f) => some (n, .inl (2, n, .inl f))
  | _ => none
/-- what a cast lets through: a String, or a byte array -/
def z_dyn (v : Value) : Bool := match v with
  | .ref _ => true
  | _ => false
def zt_cst (o k : Nat) (e : zE) (dy : Bool) : Bool := match zt_lk zt_cstL o k, e with
  | some (true, _), .inr (c, fs) => decide (c = 2) && !fs.isEmpty
  | some (false, _), .inl (t, _) => decide (t = 2) && dy
  | _, _ => false
/-- the topmost n values, the lowest first, and the rest -/
def z_top (n : Nat) (st : List Value) : List Value := (st.take n).reverse
/-- the arguments as locals -/
def z_args : List Value → List Value
  | [] => []
  | .long x :: r => .long x :: z_um :: z_args r
  | .double _ :: r => z_um :: z_um :: z_args r
  | v :: r => v :: z_args r
/-- the instruction of a kind of call: 0 invokestatic, 1 invokevirtual, 2 invokespecial -/
def z_ko (k : Nat) : Nat := match k with
  | 0 => 0
  | 1 => 1
  | 4 => 0
  | 6 => 1
  | _ => 2
/-- a call: (kind, method, class of the receiver). kinds: 0 a static method, 1 a method of the receiver's class, 2 a constructor or private method; 3 Object(), 4 arraycopy, 5 a constructor of an exception with the throw behind it -/
def z_call (i pc k o : Nat) (ls st : List Value) (h : zH) : Option zR := z_ob (zt_mth (zt_own i) k) (fun q => if z_ko q.1 = o then (match q.1 with
  | 0 => if zt_na q.2.1 ≤ st.length ∧ (st.drop (zt_na q.2.1)).length ≤ 10 ∧ (z_args (z_top (zt_na q.2.1) st)).length ≤ zt_ml q.2.1 then some (.inr (.inr (q.2.1, z_top (zt_na q.2.1) st, st.drop (zt_na q.2.1)))) else none
  | 1 => if zt_na q.2.1 ≤ st.length ∧ (st.drop (zt_na q.2.1)).length ≤ 10 ∧ (z_args (z_top (zt_na q.2.1) st)).length ≤ zt_ml q.2.1 then z_v (z_top (zt_na q.2.1) st) (fun v _ => if z_isob (z_at h v) q.2.2 then some (.inr (.inr (q.2.1, z_top (zt_na q.2.1) st, st.drop (zt_na q.2.1)))) else none) else none
  | 2 => if zt_na q.2.1 ≤ st.length ∧ (st.drop (zt_na q.2.1)).length ≤ 10 ∧ (z_args (z_top (zt_na q.2.1) st)).length ≤ zt_ml q.2.1 then z_v (z_top (zt_na q.2.1) st) (fun v _ => if z_isob (z_at h v) q.2.2 then some (.inr (.inr (q.2.1, z_top (zt_na q.2.1) st, st.drop (zt_na q.2.1)))) else none) else none
  | 3 => z_v st (fun v r => match v with
    | .ref _ => if r.length ≤ 10 then z_nx (pc + 3) ls r h else none
    | _ => none)
  | 4 => z_i st (fun n r => z_i r (fun dp r => z_v r (fun d r => z_i r (fun sp r => z_v r (fun s r => z_ob (z_cpy (z_atr h s) (z_at h d) sp dp n) (fun e => z_ob (z_put h d e) (fun h => if r.length ≤ 10 then z_nx (pc + 3) ls r h else none)))))))
  | 6 => z_v st (fun v r => z_ob (z_cln (z_atr h v)) (fun q => if r.length ≤ 10 then z_nx (pc + 3) ls (.ref h.1 :: r) (z_new h q.1 q.2) else none))
  | _ => none) else none)
/-- an exception is made (pool entry k of the class, its constructor's entry, its class) ... -/
def zt_ths : List ((Nat × Nat) × (Nat × Nat)) := [((2, 81), (83, 12)), ((2, 87), (89, 13)), ((2, 130), (132, 14))]
/-- ... and thrown at once -/
def z_thr (i pc k cn : Nat) (st : List Value) : Bool := match zt_lk zt_ths (zt_own i) k with
  | some q => decide (q.2 = cn) && (zt_eh i).isEmpty && decide (st.length ≤ 10) && decide (decode (zt_code i) (pc + 3) = .ok (.dup, 1)) && decide (decode (zt_code i) (pc + 4) = .ok (.invokespecial q.1, 3)) && decide (decode (zt_code i) (pc + 7) = .ok (.athrow, 1))
  | none => false
/-- what one instruction does: the next point, an end, or a call -/
def z_do (i pc : Nat) (ins : Instr) (ls st : List Value) (h : zH) : Option zR := match ins with
  | .aconst_null => z_nx (pc + 1) ls (.null :: st) h
  | .iconst n => z_nx (pc + 1) ls (.int (Int32.ofInt n) :: st) h
  | .bipush n => z_nx (pc + 2) ls (.int (Int8.ofInt n).toInt32 :: st) h
  | .sipush n => z_nx (pc + 3) ls (.int (Int16.ofInt n).toInt32 :: st) h
  | .lconst n => z_nx (pc + 1) ls (.long (Int64.ofNat (n : Nat)) :: st) h
  | .ldc k => z_ob (zt_ldc (zt_own i) k) (fun v => z_nx (pc + 2) ls (v :: st) h)
  | .ldc2_w k => z_ob (zt_lng (zt_own i) k) (fun v => z_nx (pc + 3) ls (.long v :: st) h)
  | .iload k => z_ob (z_ldi ls k) (fun v => z_nx (pc + 2) ls (v :: st) h)
  | .iload_n k => z_ob (z_ldi ls k) (fun v => z_nx (pc + 1) ls (v :: st) h)
  | .lload k => z_ob (z_ldl ls k) (fun v => z_nx (pc + 2) ls (v :: st) h)
  | .lload_n k => z_ob (z_ldl ls k) (fun v => z_nx (pc + 1) ls (v :: st) h)
  | .aload k => z_ob (z_lda ls k) (fun v => z_nx (pc + 2) ls (v :: st) h)
  | .aload_n k => z_ob (z_lda ls k) (fun v => z_nx (pc + 1) ls (v :: st) h)
  | .istore k => z_i st (fun x r => if k < ls.length then z_nx (pc + 2) (z_s1 ls k (.int x)) r h else none)
  | .istore_n k => z_i st (fun x r => if (k : Nat) < ls.length then z_nx (pc + 1) (z_s1 ls k (.int x)) r h else none)
  | .lstore k => z_l st (fun x r => if k + 1 < ls.length then z_nx (pc + 2) (z_s2 ls k (.long x)) r h else none)
  | .lstore_n k => z_l st (fun x r => if (k : Nat) + 1 < ls.length then z_nx (pc + 1) (z_s2 ls k (.long x)) r h else none)
  | .astore k => z_v st (fun v r => if z_isref v && decide (k < ls.length) then z_nx (pc + 2) (z_s1 ls k v) r h else none)
  | .astore_n k => z_v st (fun v r => if z_isref v && decide ((k : Nat) < ls.length) then z_nx (pc + 1) (z_s1 ls k v) r h else none)
  | .iinc k n => z_ob (z_ldi ls k) (fun v => z_i [v] (fun x _ => z_nx (pc + 3) (z_s1 ls k (.int (x + Int32.ofInt n))) st h))
  | .iadd => z_ii st (fun x y r => z_nx (pc + 1) ls (.int (x + y) :: r) h)
  | .isub => z_ii st (fun x y r => z_nx (pc + 1) ls (.int (x - y) :: r) h)
  | .imul => z_ii st (fun x y r => z_nx (pc + 1) ls (.int (x * y) :: r) h)
  | .iand => z_ii st (fun x y r => z_nx (pc + 1) ls (.int (x &&& y) :: r) h)
  | .ior => z_ii st (fun x y r => z_nx (pc + 1) ls (.int (x ||| y) :: r) h)
  | .ixor => z_ii st (fun x y r => z_nx (pc + 1) ls (.int (x ^^^ y) :: r) h)
  | .idiv => z_ii st (fun x y r => if y = 0 then none else z_nx (pc + 1) ls (.int (x / y) :: r) h)
  | .irem => z_ii st (fun x y r => if y = 0 then none else z_nx (pc + 1) ls (.int (x - x / y * y) :: r) h)
  | .ineg => z_i st (fun x r => z_nx (pc + 1) ls (.int (-x) :: r) h)
  | .ishl => z_ii st (fun x y r => z_nx (pc + 1) ls (.int (x <<< (y &&& 31)) :: r) h)
  | .ishr => z_ii st (fun x y r => z_nx (pc + 1) ls (.int (x >>> (y &&& 31)) :: r) h)
  | .iushr => z_ii st (fun x y r => z_nx (pc + 1) ls (.int (x.toUInt32 >>> (y.toUInt32 &&& Int32.toUInt32 31)).toInt32 :: r) h)
  | .ladd => z_ll st (fun x y r => z_nx (pc + 1) ls (.long (x + y) :: r) h)
  | .lsub => z_ll st (fun x y r => z_nx (pc + 1) ls (.long (x - y) :: r) h)
  | .lmul => z_ll st (fun x y r => z_nx (pc + 1) ls (.long (x * y) :: r) h)
  | .land => z_ll st (fun x y r => z_nx (pc + 1) ls (.long (x &&& y) :: r) h)
  | .lor => z_ll st (fun x y r => z_nx (pc + 1) ls (.long (x ||| y) :: r) h)
  | .lxor => z_ll st (fun x y r => z_nx (pc + 1) ls (.long (x ^^^ y) :: r) h)
  | .ldiv => z_ll st (fun x y r => if y = 0 then none else z_nx (pc + 1) ls (.long (x / y) :: r) h)
  | .lrem => z_ll st (fun x y r => if y = 0 then none else z_nx (pc + 1) ls (.long (x - x / y * y) :: r) h)
  | .lneg => z_l st (fun x r => z_nx (pc + 1) ls (.long (-x) :: r) h)
  | .lshl => z_li st (fun x y r => z_nx (pc + 1) ls (.long (x <<< (y.toInt64 &&& 63)) :: r) h)
  | .lshr => z_li st (fun x y r => z_nx (pc + 1) ls (.long (x >>> (y.toInt64 &&& 63)) :: r) h)
  | .lcmp => z_ll st (fun x y r => z_nx (pc + 1) ls (.int (lg_cmp x y) :: r) h)
  | .i2l => z_i st (fun x r => z_nx (pc + 1) ls (.long x.toInt64 :: r) h)
  | .l2i => z_l st (fun x r => z_nx (pc + 1) ls (.int x.toInt32 :: r) h)
  | .i2b => z_i st (fun x r => z_nx (pc + 1) ls (.int x.toInt8.toInt32 :: r) h)
  | .i2c => z_i st (fun x r => z_nx (pc + 1) ls (.int (x.toUInt32 % 65536).toInt32 :: r) h)
  | .dup => z_v st (fun v r => if z_ok v && decide (v.category = 1) then z_nx (pc + 1) ls (v :: v :: r) h else none)
  | .pop => z_v st (fun v r => if z_ok v && decide (v.category = 1) then z_nx (pc + 1) ls r h else none)
  | .dup2 => z_v st (fun v r => z_v r (fun w r => if z_ok v && z_ok w && decide (v.category = 1) && decide (w.category = 1) then z_nx (pc + 1) ls (v :: w :: v :: w :: r) h else none))
  | .dup_x1 => z_v st (fun v r => z_v r (fun w r => if z_ok v && z_ok w && decide (v.category = 1) && decide (w.category = 1) then z_nx (pc + 1) ls (v :: w :: v :: r) h else none))
  | .ifCond c off => z_i st (fun x r => z_jmp pc off (fun t => if z_cc c x 0 then z_nx t ls r h else z_nx (pc + 3) ls r h))
  | .if_icmp c off => z_ii st (fun x y r => z_jmp pc off (fun t => if z_cc c x y then z_nx t ls r h else z_nx (pc + 3) ls r h))
  | .if_acmp c off => z_v st (fun w r => z_v r (fun v r => z_jmp pc off (fun t => z_ob (z_ac c v w) (fun b => if b then z_nx t ls r h else z_nx (pc + 3) ls r h))))
  | .ifnull off => z_v st (fun v r => z_jmp pc off (fun t => z_ob (z_nul v) (fun b => if b then z_nx t ls r h else z_nx (pc + 3) ls r h)))
  | .ifnonnull off => z_v st (fun v r => z_jmp pc off (fun t => z_ob (z_nul v) (fun b => if b then z_nx (pc + 3) ls r h else z_nx t ls r h)))
  | .goto off => z_jmp pc off (fun t => z_nx t ls st h)
  | .tableswitch dflt lo hi offs => z_i st (fun x r => if x.toInt < lo ∨ hi < x.toInt then z_jmp pc dflt (fun t => z_nx t ls r h) else z_ob offs[(x.toInt - lo).toNat]? (fun off => z_jmp pc off (fun t => z_nx t ls r h)))
  | .getfield k => z_v st (fun v r => z_ob (zt_fld (zt_own i) k) (fun q => z_ob (z_gf (z_at h v) q.1 q.2.1) (fun x => z_nx (pc + 3) ls (x :: r) h)))
  | .putfield k => z_v st (fun x r => z_v r (fun v r => z_ob (zt_fld (zt_own i) k) (fun q => if z_tf q.2.2 x && z_fin i q.1 q.2.1 then z_ob (z_pf (z_at h v) q.1 q.2.1 x) (fun e => z_ob (z_put h v e) (fun h => z_nx (pc + 3) ls r h)) else none)))
  | .getstatic k => z_ob (zt_stc (zt_own i) k) (fun v => z_nx (pc + 3) ls (v :: st) h)
  | .new k => z_ob (zt_new (zt_own i) k) (fun q => if q.2.2.isEmpty then (if decide (q.1 = 6) && z_thr i pc k q.2.1 st then some (.inr (.inl (.inr h.1, z_new h 6 (.inr (q.2.1, []))))) else none) else z_nx (pc + 3) ls (.ref h.1 :: st) (z_new h q.1 (.inr q.2)))
  | .newarray t => z_i st (fun x r => if x < 0 then none else z_ob (z_na t x.toNatClampNeg) (fun e => z_nx (pc + 2) ls (.ref h.1 :: r) (z_new h x.toNatClampNeg e)))
  | .anewarray k => z_i st (fun x r => if x < 0 ∨ 100000 < x.toNatClampNeg then none else z_ob (zt_anw (zt_own i) k) (fun t => z_nx (pc + 3) ls (.ref h.1 :: r) (z_new h x.toNatClampNeg (.inl (t, x.toNatClampNeg, .inr (.inr (.inr (.inr (fun _ => none)))))))))
  | .arraylength => z_v st (fun v r => z_ob (z_len (z_at h v)) (fun n => z_nx (pc + 1) ls (.int n :: r) h))
  | .iaload => z_vi st (fun v j r => z_ob (z_ai (z_at h v) 1 j) (fun x => z_nx (pc + 1) ls (x :: r) h))
  | .baload => z_vi st (fun v j r => z_ob (if z_ty (z_at h v) = 4 then z_ai (z_at h v) 4 j else z_ai (z_at h v) 2 j) (fun x => z_nx (pc + 1) ls (x :: r) h))
  | .caload => z_vi st (fun v j r => z_ob (z_ai (z_at h v) 3 j) (fun x => z_nx (pc + 1) ls (x :: r) h))
  | .laload => z_vi st (fun v j r => z_ob (z_al (z_at h v) 5 j) (fun x => z_nx (pc + 1) ls (x :: r) h))
  | .aaload => z_vi st (fun v j r => z_ob (z_aq (z_at h v) j) (fun x => z_nx (pc + 1) ls (x :: r) h))
  | .iastore => z_i st (fun x r => z_vi r (fun v j r => z_ob (z_si (z_at h v) 1 j x) (fun e => z_ob (z_put h v e) (fun h => z_nx (pc + 1) ls r h))))
  | .bastore => z_i st (fun x r => z_vi r (fun v j r => z_ob (if z_ty (z_at h v) = 4 then z_si (z_at h v) 4 j (vp_nar .boolean x) else z_si (z_at h v) 2 j (vp_nar .byte x)) (fun e => z_ob (z_put h v e) (fun h => z_nx (pc + 1) ls r h))))
  | .castore => z_i st (fun x r => z_vi r (fun v j r => z_ob (z_si (z_at h v) 3 j (vp_nar .char x)) (fun e => z_ob (z_put h v e) (fun h => z_nx (pc + 1) ls r h))))
  | .lastore => z_l st (fun x r => z_vi r (fun v j r => z_ob (z_sl (z_at h v) 5 j x) (fun e => z_ob (z_put h v e) (fun h => z_nx (pc + 1) ls r h))))
  | .aastore => z_v st (fun x r => z_vi r (fun v j r => z_ob (z_aok (z_at h x) (z_at h v) x) (fun y => z_ob (z_sq (z_at h v) (z_ty (z_at h v)) j (some y)) (fun e => z_ob (z_put h v e) (fun h => z_nx (pc + 1) ls r h)))))
  | .checkcast k => z_v st (fun v r => if v = .null then z_nx (pc + 3) ls st h else if zt_cst (zt_own i) k (z_at h v) (z_dyn v) then z_nx (pc + 3) ls st h else none)
  | .instanceof k => z_v st (fun v r => if zt_cst (zt_own i) k (z_at h v) false then z_nx (pc + 3) ls (.int 1 :: r) h else none)
  | .ireturn => z_i st (fun x r => if r.isEmpty && z_rt (zt_ret i) (.int x) then z_end (some (.int x)) h else none)
  | .lreturn => z_l st (fun x r => if r.isEmpty && z_rt (zt_ret i) (.long x) then z_end (some (.long x)) h else none)
  | .areturn => z_v st (fun v r => if r.isEmpty && z_isref v && z_rt (zt_ret i) v then z_end (some v) h else none)
  | .return_ => if st.isEmpty && (zt_ret i).isNone then z_end none h else none
  | .invokestatic k => z_call i pc k 0 ls st h
  | .invokevirtual k => z_call i pc k 1 ls st h
  | .invokespecial k => z_call i pc k 2 ls st h
  | _ => none
/-- the instruction at pc, with the length that the rows of the kit know -/
def z_il (ins : Instr) : Nat := match ins with
  | .bipush _ => 2
  | .sipush _ => 3
  | .ldc _ => 2
  | .ldc2_w _ => 3
  | .iload _ => 2
  | .lload _ => 2
  | .aload _ => 2
  | .istore _ => 2
  | .lstore _ => 2
  | .astore _ => 2
  | .iinc _ _ => 3
  | .ifCond _ _ => 3
  | .if_icmp _ _ => 3
  | .if_acmp _ _ => 3
  | .ifnull _ => 3
  | .ifnonnull _ => 3
  | .goto _ => 3
  | .getfield _ => 3
  | .putfield _ => 3
  | .getstatic _ => 3
  | .new _ => 3
  | .newarray _ => 2
  | .anewarray _ => 3
  | .checkcast _ => 3
  | .instanceof _ => 3
  | .invokestatic _ => 3
  | .invokevirtual _ => 3
  | .invokespecial _ => 3
  | .tableswitch _ _ _ _ => 0
  | _ => 1
def z_stp (i pc : Nat) (ls st : List Value) (h : zH) : Option zR := match decode (zt_code i) pc with
  | .ok (ins, len) => if z_il ins = 0 ∨ z_il ins = len then z_do i pc ins ls st h else none
  | _ => none
/-- the locals at a method's entry -/
def z_ent (j : Nat) (as : List Value) : List Value := z_args as ++ List.replicate (zt_ml j - (z_args as).length) z_um
def z_ex : Nat → Nat → Nat → List Value → List Value → zH → Option (zH × zO)
  | 0, _, _, _, _, _ => none
  | n + 1, i, pc, ls, st, h => match z_stp i pc ls st h with
    | none => none
    | some (.inl q) => z_ex n i q.1 q.2.1 q.2.2.1 q.2.2.2
    | some (.inr (.inl q)) => some (q.2, q.1)
    | some (.inr (.inr q)) => if zt_rk q.1 < zt_rk i then (match z_ex n q.1 0 (z_ent q.1 q.2.1) [] h with
      | some (h1, .inl none) => z_ex n i (pc + 3) ls q.2.2 h1
      | some (h1, .inl (some v)) => z_ex n i (pc + 3) ls (v :: q.2.2) h1
      | some (h1, .inr a) => (match zt_hnd i pc (z_ty (h1.2.2.1 a)) with
        | some pc' => z_ex n i pc' ls [.ref a] h1
        | none => none)
      | none => none) else none
theorem z_mono : ∀ (n i pc : Nat) (ls st : List Value) (h : zH) (r : zH × zO), z_ex n i pc ls st h = some r → z_ex (n + 1) i pc ls st h = some r := by
  intro n
  induction n with
  | zero => intro i pc ls st h r e; cases e
  | succ n ih =>
    intro i pc ls st h r e
    unfold z_ex at e ⊢
    split at e
    · cases e
    · exact ih _ _ _ _ _ _ e
    · exact e
    · split at e
      · rename_i hrk
        rw [if_pos hrk]
        split at e
        · rename_i h1 e1
          rw [ih _ _ _ _ _ _ e1]
          exact ih _ _ _ _ _ _ e
        · rename_i h1 v e1
          rw [ih _ _ _ _ _ _ e1]
          exact ih _ _ _ _ _ _ e
        · rename_i h1 a e1
          rw [ih _ _ _ _ _ _ e1]
          dsimp only
          split at e
          · rename_i pc' e2
            exact ih _ _ _ _ _ _ e
          · cases e
        · cases e
      · cases e
theorem z_mono2 {n m i pc : Nat} {ls st : List Value} {h : zH} {r : zH × zO} (hnm : n ≤ m) (e : z_ex n i pc ls st h = some r) : z_ex m i pc ls st h = some r := by
  induction hnm with
  | refl => exact e
  | step _ ih => exact z_mono _ _ _ _ _ _ _ ih
theorem z_det {n m i pc : Nat} {ls st : List Value} {h : zH} {r q : zH × zO} (e : z_ex n i pc ls st h = some r) (f : z_ex m i pc ls st h = some q) : r = q := by
  have e1 := z_mono2 (Nat.le_max_left n m) e
  have f1 := z_mono2 (Nat.le_max_right n m) f
  exact Option.some.inj (e1.symm.trans f1)
/-- from this point the method ends, with Q -/
def z_Ev (i pc : Nat) (ls st : List Value) (h : zH) (Q : zO → zH → Prop) : Prop := ∃ (n : Nat) (r : zH × zO), z_ex n i pc ls st h = some r ∧ Q r.2 r.1
/-- the call ends, with Q -/
def z_Cl (j : Nat) (as : List Value) (h : zH) (Q : zO → zH → Prop) : Prop := z_Ev j 0 (z_ent j as) [] h Q
def z_Bk (i pc : Nat) (ls r : List Value) (Q : zO → zH → Prop) (o : zO) (h : zH) : Prop := match o with
  | .inl none => z_Ev i (pc + 3) ls r h Q
  | .inl (some v) => z_Ev i (pc + 3) ls (v :: r) h Q
  | .inr a => (match zt_hnd i pc (z_ty (h.2.2.1 a)) with
    | some pc' => z_Ev i pc' ls [.ref a] h Q
    | none => False)
def z_EvR (r : Option zR) (i pc : Nat) (ls : List Value) (h : zH) (Q : zO → zH → Prop) : Prop := match r with
  | none => False
  | some (.inl q) => z_Ev i q.1 q.2.1 q.2.2.1 q.2.2.2 Q
  | some (.inr (.inl q)) => Q q.1 q.2
  | some (.inr (.inr q)) => zt_rk q.1 < zt_rk i ∧ z_Cl q.1 q.2.1 h (z_Bk i pc ls q.2.2 Q)
theorem z_Ev_eq (i pc : Nat) (ls st : List Value) (h : zH) (Q : zO → zH → Prop) : z_Ev i pc ls st h Q = z_EvR (z_stp i pc ls st h) i pc ls h Q := by
  apply propext
  constructor
  · rintro ⟨n, r, e, hq⟩
    cases n with
    | zero => cases e
    | succ n =>
      unfold z_ex at e
      unfold z_EvR
      split at e
      · cases e
      · exact ⟨n, r, e, hq⟩
      · cases e; exact hq
      · rename_i q _
        split at e
        · rename_i hrk
          refine ⟨hrk, ?_⟩
          split at e
          · rename_i h1 e1
            exact ⟨n, _, e1, ⟨n, r, e, hq⟩⟩
          · rename_i h1 v e1
            exact ⟨n, _, e1, ⟨n, r, e, hq⟩⟩
          · rename_i h1 a e1
            refine ⟨n, _, e1, ?_⟩
            unfold z_Bk
            dsimp only
            split at e
            · exact ⟨n, r, e, hq⟩
            · cases e
          · cases e
        · cases e
  · intro hh
    unfold z_EvR at hh
    split at hh
    · exact hh.elim
    · rename_i q e0
      obtain ⟨n, r, e, hq⟩ := hh
      exact ⟨n + 1, r, by unfold z_ex; rw [e0]; exact e, hq⟩
    · rename_i q e0
      exact ⟨1, (q.2, q.1), by unfold z_ex; rw [e0], hh⟩
    · rename_i q e0
      obtain ⟨hrk, n, r, e, hb⟩ := hh
      obtain ⟨h1, o⟩ := r
      unfold z_Bk at hb
      dsimp only at hb
      split at hb
      · obtain ⟨k, r, e2, hq⟩ := hb
        refine ⟨max n k + 1, r, ?_, hq⟩
        unfold z_ex
        rw [e0]
        dsimp only
        rw [if_pos hrk, z_mono2 (Nat.le_max_left n k) e]
        exact z_mono2 (Nat.le_max_right n k) e2
      · obtain ⟨k, r, e2, hq⟩ := hb
        refine ⟨max n k + 1, r, ?_, hq⟩
        unfold z_ex
        rw [e0]
        dsimp only
        rw [if_pos hrk, z_mono2 (Nat.le_max_left n k) e]
        exact z_mono2 (Nat.le_max_right n k) e2
      · split at hb
        · rename_i e3
          obtain ⟨k, r, e2, hq⟩ := hb
          refine ⟨max n k + 1, r, ?_, hq⟩
          unfold z_ex
          rw [e0]
          dsimp only
          rw [if_pos hrk, z_mono2 (Nat.le_max_left n k) e]
          dsimp only
          rw [e3]
          exact z_mono2 (Nat.le_max_right n k) e2
        · exact hb.elim
/-- a call whose end is known is its end -/
theorem z_Cl_eq {j : Nat} {as : List Value} {h h' : zH} {o : zO} (hc : z_Cl j as h (fun o1 h1 => o1 = o ∧ h1 = h')) (Q : zO → zH → Prop) : z_Cl j as h Q = Q o h' := by
  obtain ⟨n, r, e, e1, e2⟩ := hc
  apply propext
  constructor
  · rintro ⟨k, q, f, hq⟩
    have := z_det e f
    subst this
    rw [← e1, ← e2]
    exact hq
  · intro hq
    exact ⟨n, r, e, by rw [e1, e2]; exact hq⟩
theorem z_Ev_mono {i pc : Nat} {ls st : List Value} {h : zH} {P Q : zO → zH → Prop} (hpq : ∀ o h', P o h' → Q o h') (hp : z_Ev i pc ls st h P) : z_Ev i pc ls st h Q := by
  obtain ⟨n, r, e, hr⟩ := hp
  exact ⟨n, r, e, hpq _ _ hr⟩
