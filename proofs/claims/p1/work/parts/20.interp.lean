/-! A small interpreter over named cells. A name: 0 the table PARTS, 1 the script, k + 2 the world's k-th cell; the k-th cell lies at address base + k. -/
-- a cell: an array (0 int, 1 boolean, 2 long) with its contents, or an object (number of its class, fields)
abbrev xi_E : Type := (Nat × (List Int32 ⊕ List Int64)) ⊕ (Nat × List Value)
abbrev xi_W : Type := List xi_E
abbrev xi_L : Type := List (Option Value)
-- place, locals, pile, world
abbrev xi_S : Type := Nat × xi_L × List Value × xi_W
-- the run's own numbers: classes' numbers and slots, array classes, base, address of PARTS, of the script, their contents, the launch
abbrev xi_Y : Type := va_G × (Nat → ClassId) × Nat × Nat × Nat × List Int32 × List Int32 × Launch
def xi_ad (Y : xi_Y) (k : Nat) : Nat := match k with
  | 0 => Y.2.2.2.1
  | 1 => Y.2.2.2.2.1
  | k + 2 => Y.2.2.1 + k
def xi_v (Y : xi_Y) (v : Value) : Value := match v with
  | .ref k => .ref (xi_ad Y k)
  | .int x => .int x
  | .long x => .long x
  | .float x => .float x
  | .double x => .double x
  | .null => .null
  | .retAddr x => .retAddr x
def xi_c (Y : xi_Y) (x : xi_E) : va_E := match x with
  | .inl (t, .inl f) => .inl (Y.2.1 t, f.length, .inl (fun i => f.getD i 0))
  | .inl (t, .inr f) => .inl (Y.2.1 t, f.length, .inr (.inl (fun i => f.getD i 0)))
  | .inr (ci, fs) => .inr (ci, fs.map (xi_v Y))
-- slots of a cell, of a world
def xi_sc (x : xi_E) : Nat := match x with
  | .inl (_, .inl f) => f.length
  | .inl (_, .inr f) => f.length
  | .inr (_, fs) => fs.length
def xi_sl (w : xi_W) : Nat := (w.map xi_sc).sum
-- locals
def xi_ld (L : xi_L) (k : Nat) : Option Value := match L[k]? with
  | some (some v) => some v
  | _ => none
def xi_ldi (k len pc : Nat) (L : xi_L) (st : List Value) (w : xi_W) : Option xi_S := match xi_ld L k with
  | some (.int x) => some (pc + len, L, .int x :: st, w)
  | _ => none
def xi_lda (k len pc : Nat) (L : xi_L) (st : List Value) (w : xi_W) : Option xi_S := match xi_ld L k with
  | some (.ref x) => some (pc + len, L, .ref x :: st, w)
  | _ => none
def xi_sti (k len pc : Nat) (L : xi_L) (st : List Value) (w : xi_W) : Option xi_S := match st with
  | .int x :: r => if k < L.length then some (pc + len, L.set k (some (.int x)), r, w) else none
  | _ => none
def xi_sta (k len pc : Nat) (L : xi_L) (st : List Value) (w : xi_W) : Option xi_S := match st with
  | .ref x :: r => if k < L.length then some (pc + len, L.set k (some (.ref x)), r, w) else none
  | _ => none
def xi_inc (k : Nat) (n : Int) (pc : Nat) (L : xi_L) (st : List Value) (w : xi_W) : Option xi_S := match xi_ld L k with
  | some (.int x) => some (pc + 3, L.set k (some (.int (x + Int32.ofInt n))), st, w)
  | _ => none
-- arithmetic
def xi_bin (op : Int32 → Int32 → Int32) (pc : Nat) (L : xi_L) (st : List Value) (w : xi_W) : Option xi_S := match st with
  | .int y :: .int x :: r => some (pc + 1, L, .int (op x y) :: r, w)
  | _ => none
def xi_rem (pc : Nat) (L : xi_L) (st : List Value) (w : xi_W) : Option xi_S := match st with
  | .int y :: .int x :: r => if y = 0 then none else some (pc + 1, L, .int (x - x / y * y) :: r, w)
  | _ => none
def xi_i2l (pc : Nat) (L : xi_L) (st : List Value) (w : xi_W) : Option xi_S := match st with
  | .int x :: r => some (pc + 1, L, .long x.toInt64 :: r, w)
  | _ => none
def xi_lcmp (pc : Nat) (L : xi_L) (st : List Value) (w : xi_W) : Option xi_S := match st with
  | .long y :: .long x :: r => some (pc + 1, L, .int (lg_cmp x y) :: r, w)
  | _ => none
def xi_dup (pc : Nat) (L : xi_L) (st : List Value) (w : xi_W) : Option xi_S := match st with
  | v :: r => if v.category = 1 then some (pc + 1, L, v :: v :: r, w) else none
  | _ => none
def xi_dup2 (pc : Nat) (L : xi_L) (st : List Value) (w : xi_W) : Option xi_S := match st with
  | v :: u :: r => if v.category = 1 ∧ u.category = 1 then some (pc + 1, L, v :: u :: v :: u :: r, w) else none
  | _ => none
def xi_pop (pc : Nat) (L : xi_L) (st : List Value) (w : xi_W) : Option xi_S := match st with
  | v :: r => if v.category = 1 then some (pc + 1, L, r, w) else none
  | _ => none
-- jumps
def xi_go1 (off : Int) (pc : Nat) (L : xi_L) (st : List Value) (w : xi_W) : Option xi_S :=
  if 0 ≤ (pc : Int) + off then some (((pc : Int) + off).toNat, L, st, w) else none
def xi_if1 (t : Int32 → Bool) (off : Int) (pc : Nat) (L : xi_L) (st : List Value) (w : xi_W) : Option xi_S := match st with
  | .int x :: r => if 0 ≤ (pc : Int) + off then some (if t x = true then ((pc : Int) + off).toNat else pc + 3, L, r, w) else none
  | _ => none
def xi_if2 (t : Int32 → Int32 → Bool) (off : Int) (pc : Nat) (L : xi_L) (st : List Value) (w : xi_W) : Option xi_S := match st with
  | .int y :: .int x :: r => if 0 ≤ (pc : Int) + off then some (if t x y = true then ((pc : Int) + off).toNat else pc + 3, L, r, w) else none
  | _ => none
def xi_tab (d lo hi : Int) (offs : Array Int) (pc : Nat) (L : xi_L) (st : List Value) (w : xi_W) : Option xi_S := match st with
  | .int x :: r => if x.toInt < lo ∨ hi < x.toInt then xi_go1 d pc L r w else match offs[(x.toInt - lo).toNat]? with
    | some o => xi_go1 o pc L r w
    | none => none
  | _ => none
def xi_lok (d : Int) (ps : Array (Int × Int)) (pc : Nat) (L : xi_L) (st : List Value) (w : xi_W) : Option xi_S := match st with
  | .int x :: r => if (ps.toList.zip (ps.toList.drop 1)).all (fun (a, next) => a.1 < next.1) = true then xi_go1 (Op.lookupswitch.offset ps.toList d x.toInt) pc L r w else none
  | _ => none
-- the world
def xi_cell (w : xi_W) (a : Nat) : Option xi_E := match a with
  | k + 2 => w[k]?
  | _ => none
def xi_put (w : xi_W) (a : Nat) (x : xi_E) : xi_W := w.set (a - 2) x
-- an int array by its name
def xi_ia (Z S : List Int32) (w : xi_W) (a : Nat) : Option (List Int32) := match a with
  | 0 => some Z
  | 1 => some S
  | k + 2 => match w[k]? with
    | some (.inl (0, .inl f)) => some f
    | _ => none
def xi_iald (Z S : List Int32) (pc : Nat) (L : xi_L) (st : List Value) (w : xi_W) : Option xi_S := match st with
  | .int j :: .ref a :: r => match xi_ia Z S w a with
    | some f => if j < 0 ∨ f.length ≤ j.toNatClampNeg then none else some (pc + 1, L, .int (f.getD j.toNatClampNeg 0) :: r, w)
    | none => none
  | _ => none
def xi_zald (pc : Nat) (L : xi_L) (st : List Value) (w : xi_W) : Option xi_S := match st with
  | .int j :: .ref a :: r => match xi_cell w a with
    | some (.inl (1, .inl f)) => if j < 0 ∨ f.length ≤ j.toNatClampNeg then none else some (pc + 1, L, .int (f.getD j.toNatClampNeg 0) :: r, w)
    | _ => none
  | _ => none
def xi_lald (pc : Nat) (L : xi_L) (st : List Value) (w : xi_W) : Option xi_S := match st with
  | .int j :: .ref a :: r => match xi_cell w a with
    | some (.inl (2, .inr f)) => if j < 0 ∨ f.length ≤ j.toNatClampNeg then none else some (pc + 1, L, .long (f.getD j.toNatClampNeg 0) :: r, w)
    | _ => none
  | _ => none
def xi_iast (pc : Nat) (L : xi_L) (st : List Value) (w : xi_W) : Option xi_S := match st with
  | .int x :: .int j :: .ref a :: r => match xi_cell w a with
    | some (.inl (0, .inl f)) => if j < 0 ∨ f.length ≤ j.toNatClampNeg then none else some (pc + 1, L, r, xi_put w a (.inl (0, .inl (f.set j.toNatClampNeg x))))
    | _ => none
  | _ => none
def xi_zast (pc : Nat) (L : xi_L) (st : List Value) (w : xi_W) : Option xi_S := match st with
  | .int x :: .int j :: .ref a :: r => match xi_cell w a with
    | some (.inl (1, .inl f)) => if j < 0 ∨ f.length ≤ j.toNatClampNeg then none else some (pc + 1, L, r, xi_put w a (.inl (1, .inl (f.set j.toNatClampNeg (vp_nar .boolean x)))))
    | _ => none
  | _ => none
def xi_last (pc : Nat) (L : xi_L) (st : List Value) (w : xi_W) : Option xi_S := match st with
  | .long x :: .int j :: .ref a :: r => match xi_cell w a with
    | some (.inl (2, .inr f)) => if j < 0 ∨ f.length ≤ j.toNatClampNeg then none else some (pc + 1, L, r, xi_put w a (.inl (2, .inr (f.set j.toNatClampNeg x))))
    | _ => none
  | _ => none
def xi_alen (Z S : List Int32) (pc : Nat) (L : xi_L) (st : List Value) (w : xi_W) : Option xi_S := match st with
  | .ref a :: r => match xi_ia Z S w a with
    | some f => some (pc + 1, L, .int (Int32.ofNat f.length) :: r, w)
    | none => none
  | _ => none
def xi_get (q : Option (Nat × Nat)) (pc : Nat) (L : xi_L) (st : List Value) (w : xi_W) : Option xi_S := match q with
  | some (ci, k) => match st with
    | .ref a :: r => match xi_cell w a with
      | some (.inr (cj, fs)) => if cj = ci then match fs[k]? with
        | some v => some (pc + 3, L, v :: r, w)
        | none => none
        else none
      | _ => none
    | _ => none
  | none => none
-- may a field of this type take this value, as it is
def xi_fok (ty : FieldType) (v : Value) : Bool := match ty, v with
  | .int, .int _ => true
  | .boolean, .int x => decide (x = 0) || decide (x = 1)
  | .long, .long _ => true
  | .array _, .ref _ => true
  | .object _, .ref _ => true
  | _, _ => false
-- okf: the field isn't final, or this is its own class's constructor
def xi_set (q : Option (Nat × Nat)) (ty : FieldType) (okf : Bool) (pc : Nat) (L : xi_L) (st : List Value) (w : xi_W) : Option xi_S := match q with
  | some (ci, k) => match st with
    | v :: .ref a :: r => match xi_cell w a with
      | some (.inr (cj, fs)) => if cj = ci ∧ k < fs.length ∧ okf = true ∧ xi_fok ty v = true then some (pc + 3, L, r, xi_put w a (.inr (cj, fs.set k v))) else none
      | _ => none
    | _ => none
  | none => none
def xi_new (q : Option Nat) (dfl : Nat → List Value) (pc : Nat) (L : xi_L) (st : List Value) (w : xi_W) : Option xi_S := match q with
  | some ci => some (pc + 3, L, .ref (w.length + 2) :: st, w ++ [.inr (ci, dfl ci)])
  | none => none
def xi_newa (t : ArrayType) (pc : Nat) (L : xi_L) (st : List Value) (w : xi_W) : Option xi_S := match st with
  | .int n :: r => if n < 0 ∨ 100000 < n.toNatClampNeg then none else match t with
    | .int => some (pc + 2, L, .ref (w.length + 2) :: r, w ++ [.inl (0, .inl (List.replicate n.toNatClampNeg 0))])
    | .boolean => some (pc + 2, L, .ref (w.length + 2) :: r, w ++ [.inl (1, .inl (List.replicate n.toNatClampNeg 0))])
    | .long => some (pc + 2, L, .ref (w.length + 2) :: r, w ++ [.inl (2, .inr (List.replicate n.toNatClampNeg 0))])
    | _ => none
  | _ => none
def xi_oin (b : Bool) (pc : Nat) (L : xi_L) (st : List Value) (w : xi_W) : Option xi_S := match st with
  | .ref _ :: r => if b = true ∧ (r.map fun v => v.category).sum ≤ 8 then some (pc + 3, L, r, w) else none
  | _ => none
-- what a method's links mean: (0, class, field), (1, ..) PARTS, (2, class, ..) new, (3, method, nest's word or 0), (4, ..) Object's constructor
def xi_lk (M : xi_M) (n : Nat) : Option (Nat × Nat × Nat) := match xi_ll[M.2.2.2.2.2.2.2]? with
  | some r => (r.2.find? (fun q => q.1 == n)).map (fun q => q.2)
  | none => none
def xi_fd (M : xi_M) (n : Nat) : Option (Nat × Nat) := match xi_lk M n with
  | some (0, ci, k) => match xi_cl[ci]? with
    | some r => if k < r.2.2 then some (ci, k) else none
    | none => none
  | _ => none
def xi_fin (ci k : Nat) : Bool := match xi_cl[ci]? with
  | some r => (r.2.1 k).2.2.2
  | none => true
def xi_okf (M : xi_M) (q : Option (Nat × Nat)) : Bool := match q with
  | some (ci, k) => !xi_fin ci k || (M.2.2.2.2.1 == 2 && M.2.2.2.2.2.2.1 == ci)
  | none => false
def xi_fty (q : Option (Nat × Nat)) : FieldType := match q with
  | some (ci, k) => xi_tt ci k
  | none => .int
def xi_nw (M : xi_M) (n : Nat) : Option Nat := match xi_lk M n with
  | some (2, ci, _) => match xi_cl[ci]? with
    | some _ => some ci
    | none => none
  | _ => none
def xi_dfl (ci : Nat) : List Value := match xi_cl[ci]? with
  | some r => (List.range r.2.2).map (fun k => defaultValue (xi_tt ci k))
  | none => []
def xi_ob (M : xi_M) (n : Nat) : Bool := match xi_lk M n with
  | some (4, _, _) => true
  | _ => false
def xi_isZ (M : xi_M) (n : Nat) : Bool := match xi_lk M n with
  | some (1, _, _) => true
  | _ => false
def xi_gst (b : Bool) (pc : Nat) (L : xi_L) (st : List Value) (w : xi_W) : Option xi_S := if b = true then some (pc + 3, L, .ref 0 :: st, w) else none
-- how long an instruction is; a switch may be of any length
def xi_sw (i : Instr) : Bool := match i with
  | .tableswitch _ _ _ _ => true
  | .lookupswitch _ _ => true
  | _ => false
def xi_len (i : Instr) : Nat := match i with
  | .bipush _ => 2
  | .sipush _ => 3
  | .iload _ => 2
  | .aload _ => 2
  | .istore _ => 2
  | .astore _ => 2
  | .iinc _ _ => 3
  | .goto _ => 3
  | .ifCond _ _ => 3
  | .if_icmp _ _ => 3
  | .getfield _ => 3
  | .putfield _ => 3
  | .getstatic _ => 3
  | .new _ => 3
  | .newarray _ => 2
  | .invokevirtual _ => 3
  | .invokespecial _ => 3
  | .invokestatic _ => 3
  | _ => 1
-- one step that neither calls nor returns
def xi_stp (Z S : List Int32) (M : xi_M) (i : Instr) (A : xi_S) : Option xi_S :=
  match i with
  | .iconst n => some (A.1 + 1, A.2.1, .int (Int32.ofInt n) :: A.2.2.1, A.2.2.2)
  | .bipush n => some (A.1 + 2, A.2.1, .int (Int8.ofInt n).toInt32 :: A.2.2.1, A.2.2.2)
  | .sipush n => some (A.1 + 3, A.2.1, .int (Int16.ofInt n).toInt32 :: A.2.2.1, A.2.2.2)
  | .iload k => xi_ldi k 2 A.1 A.2.1 A.2.2.1 A.2.2.2
  | .iload_n k => xi_ldi k.val 1 A.1 A.2.1 A.2.2.1 A.2.2.2
  | .aload k => xi_lda k 2 A.1 A.2.1 A.2.2.1 A.2.2.2
  | .aload_n k => xi_lda k.val 1 A.1 A.2.1 A.2.2.1 A.2.2.2
  | .istore k => xi_sti k 2 A.1 A.2.1 A.2.2.1 A.2.2.2
  | .istore_n k => xi_sti k.val 1 A.1 A.2.1 A.2.2.1 A.2.2.2
  | .astore k => xi_sta k 2 A.1 A.2.1 A.2.2.1 A.2.2.2
  | .astore_n k => xi_sta k.val 1 A.1 A.2.1 A.2.2.1 A.2.2.2
  | .iinc k n => xi_inc k n A.1 A.2.1 A.2.2.1 A.2.2.2
  | .iadd => xi_bin (fun x y => x + y) A.1 A.2.1 A.2.2.1 A.2.2.2
  | .isub => xi_bin (fun x y => x - y) A.1 A.2.1 A.2.2.1 A.2.2.2
  | .imul => xi_bin (fun x y => x * y) A.1 A.2.1 A.2.2.1 A.2.2.2
  | .iand => xi_bin (fun x y => x &&& y) A.1 A.2.1 A.2.2.1 A.2.2.2
  | .ior => xi_bin (fun x y => x ||| y) A.1 A.2.1 A.2.2.1 A.2.2.2
  | .ixor => xi_bin (fun x y => x ^^^ y) A.1 A.2.1 A.2.2.1 A.2.2.2
  | .ishl => xi_bin (fun x y => x <<< (y &&& 31)) A.1 A.2.1 A.2.2.1 A.2.2.2
  | .ishr => xi_bin (fun x y => x >>> (y &&& 31)) A.1 A.2.1 A.2.2.1 A.2.2.2
  | .iushr => xi_bin (fun x y => (x.toUInt32 >>> (y.toUInt32 &&& Int32.toUInt32 31)).toInt32) A.1 A.2.1 A.2.2.1 A.2.2.2
  | .irem => xi_rem A.1 A.2.1 A.2.2.1 A.2.2.2
  | .i2l => xi_i2l A.1 A.2.1 A.2.2.1 A.2.2.2
  | .lcmp => xi_lcmp A.1 A.2.1 A.2.2.1 A.2.2.2
  | .dup => xi_dup A.1 A.2.1 A.2.2.1 A.2.2.2
  | .dup2 => xi_dup2 A.1 A.2.1 A.2.2.1 A.2.2.2
  | .pop => xi_pop A.1 A.2.1 A.2.2.1 A.2.2.2
  | .goto o => xi_go1 o A.1 A.2.1 A.2.2.1 A.2.2.2
  | .ifCond .eq o => xi_if1 (fun x => decide (x = 0)) o A.1 A.2.1 A.2.2.1 A.2.2.2
  | .ifCond .ne o => xi_if1 (fun x => decide (¬ x = 0)) o A.1 A.2.1 A.2.2.1 A.2.2.2
  | .ifCond .lt o => xi_if1 (fun x => decide (x < 0)) o A.1 A.2.1 A.2.2.1 A.2.2.2
  | .ifCond .ge o => xi_if1 (fun x => decide (0 ≤ x)) o A.1 A.2.1 A.2.2.1 A.2.2.2
  | .ifCond .gt o => xi_if1 (fun x => decide (0 < x)) o A.1 A.2.1 A.2.2.1 A.2.2.2
  | .ifCond .le o => xi_if1 (fun x => decide (x ≤ 0)) o A.1 A.2.1 A.2.2.1 A.2.2.2
  | .if_icmp .eq o => xi_if2 (fun x y => decide (x = y)) o A.1 A.2.1 A.2.2.1 A.2.2.2
  | .if_icmp .ne o => xi_if2 (fun x y => decide (¬ x = y)) o A.1 A.2.1 A.2.2.1 A.2.2.2
  | .if_icmp .lt o => xi_if2 (fun x y => decide (x < y)) o A.1 A.2.1 A.2.2.1 A.2.2.2
  | .if_icmp .ge o => xi_if2 (fun x y => decide (y ≤ x)) o A.1 A.2.1 A.2.2.1 A.2.2.2
  | .if_icmp .gt o => xi_if2 (fun x y => decide (y < x)) o A.1 A.2.1 A.2.2.1 A.2.2.2
  | .if_icmp .le o => xi_if2 (fun x y => decide (x ≤ y)) o A.1 A.2.1 A.2.2.1 A.2.2.2
  | .tableswitch d lo hi offs => xi_tab d lo hi offs A.1 A.2.1 A.2.2.1 A.2.2.2
  | .lookupswitch d ps => xi_lok d ps A.1 A.2.1 A.2.2.1 A.2.2.2
  | .getfield n => xi_get (xi_fd M n) A.1 A.2.1 A.2.2.1 A.2.2.2
  | .putfield n => xi_set (xi_fd M n) (xi_fty (xi_fd M n)) (xi_okf M (xi_fd M n)) A.1 A.2.1 A.2.2.1 A.2.2.2
  | .getstatic n => xi_gst (xi_isZ M n) A.1 A.2.1 A.2.2.1 A.2.2.2
  | .iaload => xi_iald Z S A.1 A.2.1 A.2.2.1 A.2.2.2
  | .baload => xi_zald A.1 A.2.1 A.2.2.1 A.2.2.2
  | .laload => xi_lald A.1 A.2.1 A.2.2.1 A.2.2.2
  | .iastore => xi_iast A.1 A.2.1 A.2.2.1 A.2.2.2
  | .bastore => xi_zast A.1 A.2.1 A.2.2.1 A.2.2.2
  | .lastore => xi_last A.1 A.2.1 A.2.2.1 A.2.2.2
  | .arraylength => xi_alen Z S A.1 A.2.1 A.2.2.1 A.2.2.2
  | .new n => xi_new (xi_nw M n) xi_dfl A.1 A.2.1 A.2.2.1 A.2.2.2
  | .newarray t => xi_newa t A.1 A.2.1 A.2.2.1 A.2.2.2
  | .invokespecial n => xi_oin (xi_ob M n && A.2.1.length == M.2.2.1) A.1 A.2.1 A.2.2.1 A.2.2.2
  | _ => none
-- a call: the callee's number, its arguments, what stays below them
def xi_np (M : xi_M) : Nat := if M.2.2.2.2.1 = 1 then M.2.2.2.2.2.1 else M.2.2.2.2.2.1 + 1
def xi_rcv0 (M : xi_M) (as : List Value) (w : xi_W) : Bool := match as with
  | .ref a :: _ => match xi_cell w a with
    | some (.inr (cj, _)) => cj == M.2.2.2.2.2.2.1
    | _ => false
  | _ => false
def xi_rcv2 (as : List Value) : Bool := match as with
  | .ref _ :: _ => true
  | _ => false
def xi_rcv (M : xi_M) (as : List Value) (w : xi_W) : Bool := match M.2.2.2.2.1 with
  | 0 => xi_rcv0 M as w
  | 1 => true
  | 2 => xi_rcv2 as
  | _ => false
def xi_kd (i : Instr) : Option (Nat × Nat) := match i with
  | .invokevirtual n => some (n, 0)
  | .invokestatic n => some (n, 1)
  | .invokespecial n => some (n, 2)
  | _ => none
def xi_inv (M : xi_M) (i : Instr) (A : xi_S) : Option (Nat × xi_M × List Value × List Value) := match xi_kd i with
  | some (n, kd) => match xi_lk M n with
    | some (3, j, _) => match xi_ml[j]? with
      | some Mj => if Mj.2.2.2.2.1 = kd ∧ A.2.1.length = M.2.2.1 ∧ xi_np Mj ≤ A.2.2.1.length ∧ xi_np Mj ≤ Mj.2.2.1 ∧ ((A.2.2.1.drop (xi_np Mj)).map fun v => v.category).sum ≤ 8 ∧ ((A.2.2.1.take (xi_np Mj)).all fun v => v.category == 1) = true ∧ xi_rcv Mj (A.2.2.1.take (xi_np Mj)).reverse A.2.2.2 = true
        then some (j, Mj, (A.2.2.1.take (xi_np Mj)).reverse, A.2.2.1.drop (xi_np Mj)) else none
      | none => none
    | _ => none
  | none => none
def xi_ent (M : xi_M) (as : List Value) : xi_L := as.map some ++ List.replicate (M.2.2.1 - as.length) none
-- what a method answers that stands at its return
def xi_ret (M : xi_M) (i : Instr) (A : xi_S) : Option (Option Value) := match i with
  | .ireturn => match A.2.2.1 with
    | [.int v] => match M.2.2.2.1 with
      | some .int => some (some (.int v))
      | some .boolean => if xi_fok .boolean (.int v) = true then some (some (.int v)) else none
      | _ => none
    | _ => none
  | .return_ => match A.2.2.1 with
    | [] => match M.2.2.2.1 with
      | none => some none
      | _ => none
    | _ => none
  | _ => none
-- the code: by place; a length as it must be
def xi_at (it : Nat → Nat → Option (Instr × Nat)) (n pc : Nat) : Option Instr := match it n pc with
  | some (i, len) => if xi_sw i = true ∨ xi_len i = len then some i else none
  | none => none
-- where a callee has come to its return: its answer, its world
def xi_end (it : Nat → Nat → Option (Instr × Nat)) (j : Nat) (Mj : xi_M) (T : xi_S) : Option (Option Value × xi_W) := match T with
  | (pc, L, st, w) => match xi_at it j pc with
    | none => none
    | some i => match xi_ret Mj i (pc, L, st, w) with
      | none => none
      | some o => some (o, w)
-- on and on, as far as it goes: fuel, depth of calls, the method
def xi_go (it : Nat → Nat → Option (Instr × Nat)) (Z S : List Int32) : Nat → Nat → Nat → xi_S → xi_S
  | 0, _, _, A => A
  | f + 1, d, n, A => match xi_ml[n]? with
    | none => A
    | some M => match xi_at it n A.1 with
      | none => A
      | some i => match xi_stp Z S M i A with
        | some B => xi_go it Z S f d n B
        | none => match d with
          | 0 => A
          | d' + 1 => match xi_inv M i A with
            | none => A
            | some (j, Mj, as, r) => match xi_end it j Mj (xi_go it Z S f d' j (0, xi_ent Mj as, [], A.2.2.2)) with
              | none => A
              | some (o, w') => xi_go it Z S f (d' + 1) n (A.1 + 3, A.2.1, o.toList ++ r, w')
