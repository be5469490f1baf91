/-! One step with unknowns: as the interpreter's, where the box decides it. -/
def sy_mv (v : Value) : Bool := match v with
  | .int _ => true
  | .retAddr _ => true
  | _ => false
def sy_cell (w : sy_W) (a : Nat) : Option sy_E := match a with
  | k + 2 => w[k]?
  | _ => none
def sy_ldi (k len pc : Nat) (L : xi_L) (st : List Value) (w : sy_W) : Option sy_S := match xi_ld L k with
  | some v => if sy_mv v = true then some (pc + len, L, v :: st, w) else none
  | _ => none
def sy_lda (k len pc : Nat) (L : xi_L) (st : List Value) (w : sy_W) : Option sy_S := match xi_ld L k with
  | some (.ref x) => some (pc + len, L, .ref x :: st, w)
  | _ => none
def sy_sti (k len pc : Nat) (L : xi_L) (st : List Value) (w : sy_W) : Option sy_S := match st with
  | v :: r => if sy_mv v = true ∧ k < L.length then some (pc + len, L.set k (some v), r, w) else none
  | _ => none
def sy_sta (k len pc : Nat) (L : xi_L) (st : List Value) (w : sy_W) : Option sy_S := match st with
  | .ref x :: r => if k < L.length then some (pc + len, L.set k (some (.ref x)), r, w) else none
  | _ => none
def sy_inc (bx : sy_B) (k : Nat) (n : Int) (pc : Nat) (L : xi_L) (st : List Value) (w : sy_W) : Option sy_S := match xi_ld L k with
  | some v => match sy_int bx v with
    | some x => some (pc + 3, L.set k (some (.int (x + Int32.ofInt n))), st, w)
    | none => none
  | _ => none
def sy_bin (bx : sy_B) (op : Int32 → Int32 → Int32) (pc : Nat) (L : xi_L) (st : List Value) (w : sy_W) : Option sy_S := match st with
  | v :: u :: r => match sy_int bx v, sy_int bx u with
    | some y, some x => some (pc + 1, L, .int (op x y) :: r, w)
    | _, _ => none
  | _ => none
def sy_i2l (bx : sy_B) (pc : Nat) (L : xi_L) (st : List Value) (w : sy_W) : Option sy_S := match st with
  | v :: r => match sy_int bx v with
    | some x => some (pc + 1, L, .long x.toInt64 :: r, w)
    | none => none
  | _ => none
def sy_lcmp (pc : Nat) (L : xi_L) (st : List Value) (w : sy_W) : Option sy_S := match st with
  | .long y :: .long x :: r => some (pc + 1, L, .int (lg_cmp x y) :: r, w)
  | _ => none
def sy_dup (pc : Nat) (L : xi_L) (st : List Value) (w : sy_W) : Option sy_S := match st with
  | v :: r => if v.category = 1 then some (pc + 1, L, v :: v :: r, w) else none
  | _ => none
def sy_dup2 (pc : Nat) (L : xi_L) (st : List Value) (w : sy_W) : Option sy_S := match st with
  | v :: u :: r => if v.category = 1 ∧ u.category = 1 then some (pc + 1, L, v :: u :: v :: u :: r, w) else none
  | _ => none
def sy_pop (pc : Nat) (L : xi_L) (st : List Value) (w : sy_W) : Option sy_S := match st with
  | v :: r => if v.category = 1 then some (pc + 1, L, r, w) else none
  | _ => none
def sy_go1 (off : Int) (pc : Nat) (L : xi_L) (st : List Value) (w : sy_W) : Option sy_S :=
  if 0 ≤ (pc : Int) + off then some (((pc : Int) + off).toNat, L, st, w) else none
def sy_if1 (bx : sy_B) (t : (Int × Int) → (Int × Int) → Option Bool) (off : Int) (pc : Nat) (L : xi_L) (st : List Value) (w : sy_W) : Option sy_S := match st with
  | v :: r => match sy_rng bx v with
    | some q => match t q (0, 0) with
      | some b => if 0 ≤ (pc : Int) + off then some (if b = true then ((pc : Int) + off).toNat else pc + 3, L, r, w) else none
      | none => none
    | none => none
  | _ => none
def sy_if2 (bx : sy_B) (t : (Int × Int) → (Int × Int) → Option Bool) (off : Int) (pc : Nat) (L : xi_L) (st : List Value) (w : sy_W) : Option sy_S := match st with
  | v :: u :: r => match sy_rng bx v, sy_rng bx u with
    | some qy, some qx => match t qx qy with
      | some b => if 0 ≤ (pc : Int) + off then some (if b = true then ((pc : Int) + off).toNat else pc + 3, L, r, w) else none
      | none => none
    | _, _ => none
  | _ => none
def sy_tab (bx : sy_B) (d lo hi : Int) (offs : Array Int) (pc : Nat) (L : xi_L) (st : List Value) (w : sy_W) : Option sy_S := match st with
  | v :: r => match sy_rng bx v with
    | some q => if q.2 < lo ∨ hi < q.1 then sy_go1 d pc L r w else match sy_int bx v with
      | some x => if x.toInt < lo ∨ hi < x.toInt then none else match offs[(x.toInt - lo).toNat]? with
        | some o => sy_go1 o pc L r w
        | none => none
      | none => none
    | none => none
  | _ => none
def sy_lok (bx : sy_B) (d : Int) (ps : Array (Int × Int)) (pc : Nat) (L : xi_L) (st : List Value) (w : sy_W) : Option sy_S := match st with
  | v :: r => match sy_int bx v with
    | some x => if (ps.toList.zip (ps.toList.drop 1)).all (fun (a, next) => a.1 < next.1) = true then sy_go1 (Op.lookupswitch.offset ps.toList d x.toInt) pc L r w else none
    | none => none
  | _ => none
-- reading an int array that the world holds, or PARTS
def sy_iald (bx : sy_B) (Z : List Int32) (S : List Value) (pc : Nat) (L : xi_L) (st : List Value) (w : sy_W) : Option sy_S := match st with
  | v :: .ref a :: r => match sy_int bx v with
    | some j => match a with
      | 0 => if j < 0 ∨ Z.length ≤ j.toNatClampNeg then none else some (pc + 1, L, .int (Z.getD j.toNatClampNeg 0) :: r, w)
      | 1 => if j < 0 ∨ S.length ≤ j.toNatClampNeg then none else match S[j.toNatClampNeg]? with
        | some u => if sy_mv u = true then some (pc + 1, L, u :: r, w) else none
        | none => none
      | k + 2 => match w[k]? with
        | some (.inl (t, vs)) => if t = 0 then if j < 0 ∨ vs.length ≤ j.toNatClampNeg then none else match vs[j.toNatClampNeg]? with
          | some u => if sy_mv u = true then some (pc + 1, L, u :: r, w) else none
          | none => none
          else none
        | _ => none
    | none => none
  | _ => none
def sy_zald (bx : sy_B) (pc : Nat) (L : xi_L) (st : List Value) (w : sy_W) : Option sy_S := match st with
  | v :: .ref a :: r => match sy_int bx v with
    | some j => match sy_cell w a with
      | some (.inl (t, vs)) => if t = 1 then if j < 0 ∨ vs.length ≤ j.toNatClampNeg then none else match vs[j.toNatClampNeg]? with
        | some u => if sy_mv u = true then some (pc + 1, L, u :: r, w) else none
        | none => none
        else none
      | _ => none
    | none => none
  | _ => none
def sy_lald (bx : sy_B) (pc : Nat) (L : xi_L) (st : List Value) (w : sy_W) : Option sy_S := match st with
  | v :: .ref a :: r => match sy_int bx v with
    | some j => match sy_cell w a with
      | some (.inl (t, vs)) => if t = 2 then if j < 0 ∨ vs.length ≤ j.toNatClampNeg then none else match vs[j.toNatClampNeg]? with
        | some (.long x) => some (pc + 1, L, .long x :: r, w)
        | _ => none
        else none
      | _ => none
    | none => none
  | _ => none
def sy_iast (bx : sy_B) (pc : Nat) (L : xi_L) (st : List Value) (w : sy_W) : Option sy_S := match st with
  | u :: v :: .ref a :: r => match sy_int bx v with
    | some j => match sy_cell w a with
      | some (.inl (t, vs)) => if t = 0 ∧ sy_mv u = true then if j < 0 ∨ vs.length ≤ j.toNatClampNeg then none else some (pc + 1, L, r, w.set (a - 2) (.inl (0, vs.set j.toNatClampNeg u))) else none
      | _ => none
    | none => none
  | _ => none
def sy_zast (bx : sy_B) (pc : Nat) (L : xi_L) (st : List Value) (w : sy_W) : Option sy_S := match st with
  | u :: v :: .ref a :: r => match sy_int bx v, sy_int bx u with
    | some j, some x => match sy_cell w a with
      | some (.inl (t, vs)) => if t = 1 then if j < 0 ∨ vs.length ≤ j.toNatClampNeg then none else some (pc + 1, L, r, w.set (a - 2) (.inl (1, vs.set j.toNatClampNeg (.int (vp_nar .boolean x))))) else none
      | _ => none
    | _, _ => none
  | _ => none
def sy_last (bx : sy_B) (pc : Nat) (L : xi_L) (st : List Value) (w : sy_W) : Option sy_S := match st with
  | .long x :: v :: .ref a :: r => match sy_int bx v with
    | some j => match sy_cell w a with
      | some (.inl (t, vs)) => if t = 2 then if j < 0 ∨ vs.length ≤ j.toNatClampNeg then none else some (pc + 1, L, r, w.set (a - 2) (.inl (2, vs.set j.toNatClampNeg (.long x)))) else none
      | _ => none
    | none => none
  | _ => none
def sy_alen (Z : List Int32) (S : List Value) (pc : Nat) (L : xi_L) (st : List Value) (w : sy_W) : Option sy_S := match st with
  | .ref a :: r => match a with
    | 0 => some (pc + 1, L, .int (Int32.ofNat Z.length) :: r, w)
    | 1 => some (pc + 1, L, .int (Int32.ofNat S.length) :: r, w)
    | k + 2 => match w[k]? with
      | some (.inl (t, vs)) => if t = 0 then some (pc + 1, L, .int (Int32.ofNat vs.length) :: r, w) else none
      | _ => none
  | _ => none
def sy_get (q : Option (Nat × Nat)) (pc : Nat) (L : xi_L) (st : List Value) (w : sy_W) : Option sy_S := match q with
  | some (ci, k) => match st with
    | .ref a :: r => match sy_cell w a with
      | some (.inr (cj, fs)) => if cj = ci then match fs[k]? with
        | some v => some (pc + 3, L, v :: r, w)
        | none => none
        else none
      | _ => none
    | _ => none
  | none => none
-- a field of type int takes an unknown as it is
def sy_fok (ty : FieldType) (v : Value) : Bool := match ty, v with
  | .int, .retAddr _ => true
  | ty, v => xi_fok ty v
def sy_set (q : Option (Nat × Nat)) (ty : FieldType) (okf : Bool) (pc : Nat) (L : xi_L) (st : List Value) (w : sy_W) : Option sy_S := match q with
  | some (ci, k) => match st with
    | v :: .ref a :: r => match sy_cell w a with
      | some (.inr (cj, fs)) => if cj = ci ∧ k < fs.length ∧ okf = true ∧ sy_fok ty v = true then some (pc + 3, L, r, w.set (a - 2) (.inr (cj, fs.set k v))) else none
      | _ => none
    | _ => none
  | none => none
def sy_new (q : Option Nat) (dfl : Nat → List Value) (pc : Nat) (L : xi_L) (st : List Value) (w : sy_W) : Option sy_S := match q with
  | some ci => some (pc + 3, L, .ref (w.length + 2) :: st, w ++ [.inr (ci, dfl ci)])
  | none => none
def sy_newa (bx : sy_B) (t : ArrayType) (pc : Nat) (L : xi_L) (st : List Value) (w : sy_W) : Option sy_S := match st with
  | v :: r => match sy_int bx v with
    | some n => if n < 0 ∨ 100000 < n.toNatClampNeg then none else match t with
      | .int => some (pc + 2, L, .ref (w.length + 2) :: r, w ++ [.inl (0, List.replicate n.toNatClampNeg (.int 0))])
      | .boolean => some (pc + 2, L, .ref (w.length + 2) :: r, w ++ [.inl (1, List.replicate n.toNatClampNeg (.int 0))])
      | .long => some (pc + 2, L, .ref (w.length + 2) :: r, w ++ [.inl (2, List.replicate n.toNatClampNeg (.long 0))])
      | _ => none
    | none => none
  | _ => none
def sy_oin (b : Bool) (pc : Nat) (L : xi_L) (st : List Value) (w : sy_W) : Option sy_S := match st with
  | .ref _ :: r => if b = true ∧ (r.map fun v => v.category).sum ≤ 8 then some (pc + 3, L, r, w) else none
  | _ => none
def sy_gst (b : Bool) (pc : Nat) (L : xi_L) (st : List Value) (w : sy_W) : Option sy_S := if b = true then some (pc + 3, L, .ref 0 :: st, w) else none
def sy_sel (i : Instr) : sy_B → List Int32 → List Value → xi_M → sy_S → Option sy_S := match i with
  | .iconst n => fun bx Z S M A => some (A.1 + 1, A.2.1, .int (Int32.ofInt n) :: A.2.2.1, A.2.2.2)
  | .bipush n => fun bx Z S M A => some (A.1 + 2, A.2.1, .int (Int8.ofInt n).toInt32 :: A.2.2.1, A.2.2.2)
  | .sipush n => fun bx Z S M A => some (A.1 + 3, A.2.1, .int (Int16.ofInt n).toInt32 :: A.2.2.1, A.2.2.2)
  | .iload k => fun bx Z S M A => sy_ldi k 2 A.1 A.2.1 A.2.2.1 A.2.2.2
  | .iload_n k => fun bx Z S M A => sy_ldi k.val 1 A.1 A.2.1 A.2.2.1 A.2.2.2
  | .aload k => fun bx Z S M A => sy_lda k 2 A.1 A.2.1 A.2.2.1 A.2.2.2
  | .aload_n k => fun bx Z S M A => sy_lda k.val 1 A.1 A.2.1 A.2.2.1 A.2.2.2
  | .istore k => fun bx Z S M A => sy_sti k 2 A.1 A.2.1 A.2.2.1 A.2.2.2
  | .istore_n k => fun bx Z S M A => sy_sti k.val 1 A.1 A.2.1 A.2.2.1 A.2.2.2
  | .astore k => fun bx Z S M A => sy_sta k 2 A.1 A.2.1 A.2.2.1 A.2.2.2
  | .astore_n k => fun bx Z S M A => sy_sta k.val 1 A.1 A.2.1 A.2.2.1 A.2.2.2
  | .iinc k n => fun bx Z S M A => sy_inc bx k n A.1 A.2.1 A.2.2.1 A.2.2.2
  | .iadd => fun bx Z S M A => sy_bin bx (fun x y => x + y) A.1 A.2.1 A.2.2.1 A.2.2.2
  | .isub => fun bx Z S M A => sy_bin bx (fun x y => x - y) A.1 A.2.1 A.2.2.1 A.2.2.2
  | .imul => fun bx Z S M A => sy_bin bx (fun x y => x * y) A.1 A.2.1 A.2.2.1 A.2.2.2
  | .iand => fun bx Z S M A => sy_bin bx (fun x y => x &&& y) A.1 A.2.1 A.2.2.1 A.2.2.2
  | .ior => fun bx Z S M A => sy_bin bx (fun x y => x ||| y) A.1 A.2.1 A.2.2.1 A.2.2.2
  | .ixor => fun bx Z S M A => sy_bin bx (fun x y => x ^^^ y) A.1 A.2.1 A.2.2.1 A.2.2.2
  | .ishl => fun bx Z S M A => sy_bin bx (fun x y => x <<< (y &&& 31)) A.1 A.2.1 A.2.2.1 A.2.2.2
  | .ishr => fun bx Z S M A => sy_bin bx (fun x y => x >>> (y &&& 31)) A.1 A.2.1 A.2.2.1 A.2.2.2
  | .i2l => fun bx Z S M A => sy_i2l bx A.1 A.2.1 A.2.2.1 A.2.2.2
  | .lcmp => fun bx Z S M A => sy_lcmp A.1 A.2.1 A.2.2.1 A.2.2.2
  | .dup => fun bx Z S M A => sy_dup A.1 A.2.1 A.2.2.1 A.2.2.2
  | .dup2 => fun bx Z S M A => sy_dup2 A.1 A.2.1 A.2.2.1 A.2.2.2
  | .pop => fun bx Z S M A => sy_pop A.1 A.2.1 A.2.2.1 A.2.2.2
  | .goto o => fun bx Z S M A => sy_go1 o A.1 A.2.1 A.2.2.1 A.2.2.2
  | .ifCond .eq o => fun bx Z S M A => sy_if1 bx sy_eq o A.1 A.2.1 A.2.2.1 A.2.2.2
  | .ifCond .ne o => fun bx Z S M A => sy_if1 bx (fun a b => sy_not (sy_eq a b)) o A.1 A.2.1 A.2.2.1 A.2.2.2
  | .ifCond .lt o => fun bx Z S M A => sy_if1 bx sy_lt o A.1 A.2.1 A.2.2.1 A.2.2.2
  | .ifCond .ge o => fun bx Z S M A => sy_if1 bx (fun a b => sy_le b a) o A.1 A.2.1 A.2.2.1 A.2.2.2
  | .ifCond .gt o => fun bx Z S M A => sy_if1 bx (fun a b => sy_lt b a) o A.1 A.2.1 A.2.2.1 A.2.2.2
  | .ifCond .le o => fun bx Z S M A => sy_if1 bx sy_le o A.1 A.2.1 A.2.2.1 A.2.2.2
  | .if_icmp .eq o => fun bx Z S M A => sy_if2 bx sy_eq o A.1 A.2.1 A.2.2.1 A.2.2.2
  | .if_icmp .ne o => fun bx Z S M A => sy_if2 bx (fun a b => sy_not (sy_eq a b)) o A.1 A.2.1 A.2.2.1 A.2.2.2
  | .if_icmp .lt o => fun bx Z S M A => sy_if2 bx sy_lt o A.1 A.2.1 A.2.2.1 A.2.2.2
  | .if_icmp .ge o => fun bx Z S M A => sy_if2 bx (fun a b => sy_le b a) o A.1 A.2.1 A.2.2.1 A.2.2.2
  | .if_icmp .gt o => fun bx Z S M A => sy_if2 bx (fun a b => sy_lt b a) o A.1 A.2.1 A.2.2.1 A.2.2.2
  | .if_icmp .le o => fun bx Z S M A => sy_if2 bx sy_le o A.1 A.2.1 A.2.2.1 A.2.2.2
  | .tableswitch d lo hi offs => fun bx Z S M A => sy_tab bx d lo hi offs A.1 A.2.1 A.2.2.1 A.2.2.2
  | .lookupswitch d ps => fun bx Z S M A => sy_lok bx d ps A.1 A.2.1 A.2.2.1 A.2.2.2
  | .getfield n => fun bx Z S M A => sy_get (xi_fd M n) A.1 A.2.1 A.2.2.1 A.2.2.2
  | .putfield n => fun bx Z S M A => sy_set (xi_fd M n) (xi_fty (xi_fd M n)) (xi_okf M (xi_fd M n)) A.1 A.2.1 A.2.2.1 A.2.2.2
  | .getstatic n => fun bx Z S M A => sy_gst (xi_isZ M n) A.1 A.2.1 A.2.2.1 A.2.2.2
  | .iaload => fun bx Z S M A => sy_iald bx Z S A.1 A.2.1 A.2.2.1 A.2.2.2
  | .baload => fun bx Z S M A => sy_zald bx A.1 A.2.1 A.2.2.1 A.2.2.2
  | .laload => fun bx Z S M A => sy_lald bx A.1 A.2.1 A.2.2.1 A.2.2.2
  | .iastore => fun bx Z S M A => sy_iast bx A.1 A.2.1 A.2.2.1 A.2.2.2
  | .bastore => fun bx Z S M A => sy_zast bx A.1 A.2.1 A.2.2.1 A.2.2.2
  | .lastore => fun bx Z S M A => sy_last bx A.1 A.2.1 A.2.2.1 A.2.2.2
  | .arraylength => fun bx Z S M A => sy_alen Z S A.1 A.2.1 A.2.2.1 A.2.2.2
  | .new n => fun bx Z S M A => sy_new (xi_nw M n) xi_dfl A.1 A.2.1 A.2.2.1 A.2.2.2
  | .newarray t => fun bx Z S M A => sy_newa bx t A.1 A.2.1 A.2.2.1 A.2.2.2
  | .invokespecial n => fun bx Z S M A => sy_oin (xi_ob M n && A.2.1.length == M.2.2.1) A.1 A.2.1 A.2.2.1 A.2.2.2
  | _ => fun bx Z S M A => none
def sy_stp (bx : sy_B) (Z : List Int32) (S : List Value) (M : xi_M) (i : Instr) (A : sy_S) : Option sy_S := sy_sel i bx Z S M A
