/-! the machine of the two systems: one instruction, over the state -/
/-- rows of ints outside the world (the script, statics): length and what they hold -/
abbrev mj_X : Type := Nat → Option (Nat × (Nat → Int32))
abbrev mj_Cf : Type := Nat × List Value × List Value × mj_St
abbrev mj_Rs : Type := Option Value × mj_St
abbrev mj_Call : Type := Nat → List Value → mj_St → Option mj_Rs
abbrev mj_O : Type := Option (mj_Cf ⊕ mj_Rs)
def mj_nx (pc : Nat) (l st : List Value) (σ : mj_St) : mj_O := some (.inl (pc, l, st, σ))
def mj_jmp (pc : Nat) (off : Int) (l st : List Value) (σ : mj_St) : mj_O := if 0 ≤ (pc : Int) + off then mj_nx ((pc : Int) + off).toNat l st σ else none
def mj_br (b : Bool) (pc : Nat) (off : Int) (n : Nat) (l st : List Value) (σ : mj_St) : mj_O := if 0 ≤ (pc : Int) + off then (if b = true then mj_nx ((pc : Int) + off).toNat l st σ else mj_nx (pc + n) l st σ) else none
def mj_cmp (o : ClassFile.Cond) (x y : Int32) : Bool := match o with
  | .eq => decide (x = y)
  | .ne => !decide (x = y)
  | .lt => decide (x < y)
  | .ge => decide (y ≤ x)
  | .gt => decide (y < x)
  | .le => decide (x ≤ y)
def mj_ldI (k n pc : Nat) (l st : List Value) (σ : mj_St) : mj_O := match l[k]? with
  | some (Value.int x) => mj_nx (pc + n) l (.int x :: st) σ
  | _ => none
def mj_ldL (k n pc : Nat) (l st : List Value) (σ : mj_St) : mj_O := match l[k]? with
  | some (Value.long x) => mj_nx (pc + n) l (.long x :: st) σ
  | _ => none
def mj_ldA (k n pc : Nat) (l st : List Value) (σ : mj_St) : mj_O := match l[k]? with
  | some (Value.ref x) => mj_nx (pc + n) l (.ref x :: st) σ
  | _ => none
def mj_stI (k n pc : Nat) (l st : List Value) (σ : mj_St) : mj_O := match st with
  | .int x :: r => if k < l.length then mj_nx (pc + n) (mj_lset l k (.int x)) r σ else none
  | _ => none
def mj_stL (k n pc : Nat) (l st : List Value) (σ : mj_St) : mj_O := match st with
  | .long x :: r => if k + 1 < l.length then mj_nx (pc + n) (mj_lset2 l k (.long x)) r σ else none
  | _ => none
def mj_stA (k n pc : Nat) (l st : List Value) (σ : mj_St) : mj_O := match st with
  | .ref x :: r => if k < l.length then mj_nx (pc + n) (mj_lset l k (.ref x)) r σ else none
  | _ => none
def mj_inc (k : Nat) (d : Int) (n pc : Nat) (l st : List Value) (σ : mj_St) : mj_O := match l[k]? with
  | some (Value.int x) => mj_nx (pc + n) (mj_lset l k (.int (x + Int32.ofInt d))) st σ
  | _ => none
def mj_b2 (f : Int32 → Int32 → Int32) (pc : Nat) (l st : List Value) (σ : mj_St) : mj_O := match st with
  | .int y :: .int x :: r => mj_nx (pc + 1) l (.int (f x y) :: r) σ
  | _ => none
def mj_bl (f : Int64 → Int64 → Int64) (pc : Nat) (l st : List Value) (σ : mj_St) : mj_O := match st with
  | .long y :: .long x :: r => mj_nx (pc + 1) l (.long (f x y) :: r) σ
  | _ => none
def mj_dv (f : Int32 → Int32 → Int32) (pc : Nat) (l st : List Value) (σ : mj_St) : mj_O := match st with
  | .int y :: .int x :: r => if y = 0 then none else mj_nx (pc + 1) l (.int (f x y) :: r) σ
  | _ => none
def mj_u1 (f : Int32 → Int32) (pc : Nat) (l st : List Value) (σ : mj_St) : mj_O := match st with
  | .int x :: r => mj_nx (pc + 1) l (.int (f x) :: r) σ
  | _ => none
/-- an int row's length and what it holds -/
def mj_rowI (X : mj_X) (σ : mj_St) (a : Nat) : Option (Nat × (Nat → Int32)) := if 1000 ≤ a then X (a - 1000) else match mj_shp a with
  | (1, n, _) => some (n, σ.1 a)
  | _ => none
def mj_ald (X : mj_X) (pc : Nat) (l st : List Value) (σ : mj_St) : mj_O := match st with
  | .int i :: .ref a :: r => match mj_rowI X σ a with
    | some (n, f) => if i < 0 ∨ n ≤ i.toNatClampNeg then none else mj_nx (pc + 1) l (.int (f i.toNatClampNeg) :: r) σ
    | none => none
  | _ => none
def mj_bld (pc : Nat) (l st : List Value) (σ : mj_St) : mj_O := match st with
  | .int i :: .ref a :: r => match mj_shp a with
    | (2, n, _) => if i < 0 ∨ n ≤ i.toNatClampNeg then none else mj_nx (pc + 1) l (.int (σ.1 a i.toNatClampNeg) :: r) σ
    | _ => none
  | _ => none
/-- a long row's length -/
def mj_lenL (σ : mj_St) (a : Nat) : Option Nat := if a = 999 then some σ.2.2.2.1 else match mj_shp a with
  | (3, n, _) => some n
  | _ => none
def mj_lld (pc : Nat) (l st : List Value) (σ : mj_St) : mj_O := match st with
  | .int i :: .ref a :: r => match mj_lenL σ a with
    | some n => if i < 0 ∨ n ≤ i.toNatClampNeg then none else mj_nx (pc + 1) l (.long (σ.2.1 a i.toNatClampNeg) :: r) σ
    | none => none
  | _ => none
def mj_qld (pc : Nat) (l st : List Value) (σ : mj_St) : mj_O := match st with
  | .int i :: .ref a :: r => match mj_shp a with
    | (4, n, fl) => if i < 0 ∨ n ≤ i.toNatClampNeg then none else match fl[i.toNatClampNeg]? with
      | some k => if k < 999 then mj_nx (pc + 1) l (.ref k :: r) σ else none
      | none => none
    | _ => none
  | _ => none
def mj_ast (pc : Nat) (l st : List Value) (σ : mj_St) : mj_O := match st with
  | .int x :: .int i :: .ref a :: r => match mj_shp a with
    | (1, n, _) => if i < 0 ∨ n ≤ i.toNatClampNeg then none else mj_nx (pc + 1) l r (mj_setI σ a i.toNatClampNeg x)
    | _ => none
  | _ => none
def mj_bst (pc : Nat) (l st : List Value) (σ : mj_St) : mj_O := match st with
  | .int x :: .int i :: .ref a :: r => match mj_shp a with
    | (2, n, _) => if i < 0 ∨ n ≤ i.toNatClampNeg then none else if x = 0 ∨ x = 1 then mj_nx (pc + 1) l r (mj_setI σ a i.toNatClampNeg x) else none
    | _ => none
  | _ => none
def mj_lst (pc : Nat) (l st : List Value) (σ : mj_St) : mj_O := match st with
  | .long x :: .int i :: .ref a :: r => match mj_lenL σ a with
    | some n => if i < 0 ∨ n ≤ i.toNatClampNeg then none else mj_nx (pc + 1) l r (mj_setL σ a i.toNatClampNeg x)
    | none => none
  | _ => none
def mj_len (X : mj_X) (pc : Nat) (l st : List Value) (σ : mj_St) : mj_O := match st with
  | .ref a :: r => if a = 999 then mj_nx (pc + 1) l (.int (Int32.ofNat σ.2.2.2.1) :: r) σ else if 1000 ≤ a then match X (a - 1000) with
      | some (n, _) => mj_nx (pc + 1) l (.int (Int32.ofNat n) :: r) σ
      | none => none
    else match mj_shp a with
      | (0, _, _) => none
      | (9, _, _) => none
      | (_, n, _) => mj_nx (pc + 1) l (.int (Int32.ofNat n) :: r) σ
  | _ => none
def mj_noMk (v : Value) : Bool := match v with
  | .ref k => k != 999
  | _ => true
def mj_getv (σ : mj_St) (c ci k : Nat) : Option Value := match mj_shp c with
  | (0, ci', fl) => if ci' = ci then match fl[k]? with
      | some 0 => some (.int (σ.1 c k))
      | some 3 => some (.int (σ.1 c k))
      | some 1 => if mj_noMk (va_rf (σ.2.2.1 c k)) = true then some (va_rf (σ.2.2.1 c k)) else none
      | some 2 => some (.ref 999)
      | some (j + 4) => if j < 999 then some (.ref j) else none
      | none => none
    else none
  | _ => none
def mj_get (oc idx pc : Nat) (l st : List Value) (σ : mj_St) : mj_O := match st with
  | .ref c :: r => match mj_fld oc idx with
    | some (ci, k) => match mj_getv σ c ci k with
      | some v => mj_nx (pc + 3) l (v :: r) σ
      | none => none
    | none => none
  | _ => none
def mj_putv (σ : mj_St) (c ci k : Nat) (v : Value) : Option mj_St := match mj_shp c with
  | (0, ci', fl) => if ci' = ci then match fl[k]? with
      | some 0 => match v with
        | .int x => some (mj_setI σ c k x)
        | _ => none
      | some 3 => match v with
        | .int x => if x = 0 ∨ x = 1 then some (mj_setI σ c k x) else none
        | _ => none
      | some 1 => match v with
        | .ref j => if j = 999 then none else some (mj_setR σ c k (some j))
        | .null => some (mj_setR σ c k none)
        | _ => none
      | _ => none
    else none
  | _ => none
def mj_put (oc idx pc : Nat) (l st : List Value) (σ : mj_St) : mj_O := match st with
  | v :: .ref c :: r => match mj_fld oc idx with
    | some (ci, k) => match mj_putv σ c ci k v with
      | some σ' => mj_nx (pc + 3) l r σ'
      | none => none
    | none => none
  | _ => none
/-- the int constants of the pools -/
def mj_conL : List (Nat × Nat × Int32 × Nat) := [(9, 265, 1431655765, 683), (9, 266, 858993459, 684), (9, 267, 252645135, 685), (9, 264, 65536, 689), (6, 81, 78125, 1068), (6, 82, 390625, 1069), (6, 275, -1640531535, 1447)]
def mj_con (oc idx : Nat) : Option Int32 := (mj_conL.find? (fun e => e.1 == oc && e.2.1 == idx)).map (fun e => e.2.2.1)
/-- the texts of the reader: the entry, the text, its letters -/
def mj_strL : List (Nat × String × List Int32) := [(96, "do ", [100, 111, 32]), (102, "whole ", [119, 104, 111, 108, 101, 32]), (104, "once ", [111, 110, 99, 101, 32]), (106, "again ", [97, 103, 97, 105, 110, 32]), (108, "never ", [110, 101, 118, 101, 114, 32]), (110, "free", [102, 114, 101, 101]), (120, " from ", [32, 102, 114, 111, 109, 32]), (122, " to ", [32, 116, 111, 32]), (127, " ", [32]), (140, "with ", [119, 105, 116, 104, 32]), (153, "after ", [97, 102, 116, 101, 114, 32]), (145, "if ", [105, 102, 32]), (147, "=", [61]), (149, "owe ", [111, 119, 101, 32]), (151, "for ", [102, 111, 114, 32])]
def mj_lds (oc idx : Nat) : Option Nat := if oc = 2 then mj_strL.findIdx? (fun e => e.1 == idx) else none
def mj_newMk (σ : mj_St) (n : Nat) : mj_St := (σ.1, fun c i => if c = 999 then 0 else σ.2.1 c i, σ.2.2.1, n, σ.2.2.2.2 + (n + 1))
/-- the marks are made anew: two instructions at once -/
def mj_mkn (oc : Nat) (cc : ByteArray) (pc : Nat) (l st : List Value) (σ : mj_St) : mj_O := match st with
  | .int n :: .ref c :: r => match decode cc (pc + 2) with
    | .ok (.putfield idx, 3) => if mj_fld oc idx = some (3, 19) ∧ c = 46 ∧ ¬ n < 0 ∧ n.toNatClampNeg ≤ 20000 ∧ l.all mj_noMk = true ∧ r.all mj_noMk = true then mj_nx (pc + 5) l r (mj_newMk σ n.toNatClampNeg) else none
    | _ => none
  | _ => none
def mj_inv (oc idx : Nat) : Option (Nat × Nat × Nat) := match mj_cal oc idx with
  | some mid => if 1000 ≤ mid then some (mid, 0, 0) else match mj_mL[mid]? with
    | some e => some (mid, e.2.2.2.2.1, e.2.2.2.2.2.1)
    | none => none
  | none => none
/-- the receiver is an object of the class s - 1; no receiver where s is 0 -/
def mj_rcv (s : Nat) (as : List Value) : Bool := if s = 0 then true else match as with
  | .ref c :: _ => match mj_shp c with
    | (0, ci, _) => ci + 1 == s
    | _ => false
  | _ => false
def mj_cpyI (σ : mj_St) (a b sp dp n : Nat) : mj_St := (fun c => if c = b then va_cpy (σ.1 a) (σ.1 b) sp dp n else σ.1 c, σ.2)
def mj_cpyL (σ : mj_St) (a b sp dp n : Nat) : mj_St := (σ.1, fun c => if c = b then va_cpy (σ.2.1 a) (σ.2.1 b) sp dp n else σ.2.1 c, σ.2.2)
def mj_nat (mid pc : Nat) (l st : List Value) (σ : mj_St) : mj_O :=
  if mid = 1001 then match st with
    | .int y :: .int x :: r => if r.length ≤ 4 then mj_nx (pc + 3) l (.int (if y < x then y else x) :: r) σ else none
    | _ => none
  else if mid = 1002 then match st with
    | .int y :: .int x :: r => if r.length ≤ 4 then mj_nx (pc + 3) l (.int (if x < y then y else x) :: r) σ else none
    | _ => none
  else if mid = 1000 then match st with
    | .int n :: .int dp :: .ref b :: .int sp :: .ref a :: r => if r.length ≤ 4 ∧ ¬ sp < 0 ∧ ¬ dp < 0 ∧ ¬ n < 0 then match mj_shp a, mj_shp b with
        | (1, n0, _), (1, n1, _) => if sp.toNatClampNeg + n.toNatClampNeg ≤ n0 ∧ dp.toNatClampNeg + n.toNatClampNeg ≤ n1 then mj_nx (pc + 3) l r (mj_cpyI σ a b sp.toNatClampNeg dp.toNatClampNeg n.toNatClampNeg) else none
        | (3, n0, _), (3, n1, _) => if sp.toNatClampNeg + n.toNatClampNeg ≤ n0 ∧ dp.toNatClampNeg + n.toNatClampNeg ≤ n1 then mj_nx (pc + 3) l r (mj_cpyL σ a b sp.toNatClampNeg dp.toNatClampNeg n.toNatClampNeg) else none
        | _, _ => none
      else none
    | _ => none
  else none
/-- a text's length and letters -/
def mj_txt (mid pc : Nat) (l st : List Value) (σ : mj_St) : mj_O :=
  if mid = 1003 then match st with
    | .ref a :: r => if 1100 ≤ a ∧ r.length ≤ 4 then match mj_strL[a - 1100]? with
        | some e => mj_nx (pc + 3) l (.int (Int32.ofNat e.2.2.length) :: r) σ
        | none => none
      else none
    | _ => none
  else if mid = 1004 then match st with
    | .int i :: .ref a :: r => if 1100 ≤ a ∧ r.length ≤ 4 ∧ ¬ i < 0 then match mj_strL[a - 1100]? with
        | some e => match e.2.2[i.toNatClampNeg]? with
          | some w => mj_nx (pc + 3) l (.int w :: r) σ
          | none => none
        | none => none
      else none
    | _ => none
  else none
/-- what may lie beneath a call: four values; six of one word each in one place -/
def mj_one (v : Value) : Bool := decide (v.category = 1)
def mj_dep (mid : Nat) (st : List Value) : Bool := if mid = 77 then decide (st.length ≤ 6) && st.all mj_one else decide (st.length ≤ 4)
def mj_ivk (call : mj_Call) (virt : Bool) (oc idx pc : Nat) (l st : List Value) (σ : mj_St) : mj_O := match mj_inv oc idx with
  | some (mid, na, s) => if 1000 ≤ mid then (if virt = false then mj_nat mid pc l st σ else mj_txt mid pc l st σ) else
    if virt = (s != 0) ∧ na ≤ st.length ∧ mj_dep mid (st.drop na) = true ∧ mj_rcv s (st.take na).reverse = true then
      match call mid (st.take na).reverse σ with
      | some (v, σ') => if (l.all mj_noMk && st.all mj_noMk) = true ∨ σ'.2.2.2.2 = σ.2.2.2.2 then mj_nx (pc + 3) l (v.toList ++ st.drop na) σ' else none
      | none => none
    else none
  | none => none
/-- the two statics -/
def mj_sta (oc idx : Nat) : Option Nat := if oc = 3 then (if idx = 173 then some 1001 else if idx = 245 then some 1002 else none) else none
def mj_tsw (dflt lo hi : Int) (offs : Array Int) (pc : Nat) (l st : List Value) (σ : mj_St) : mj_O := match st with
  | .int x :: r => if x.toInt < lo ∨ hi < x.toInt then mj_jmp pc dflt l r σ else match offs[(x.toInt - lo).toNat]? with
    | some off => mj_jmp pc off l r σ
    | none => none
  | _ => none
def mj_lsw (dflt : Int) (ps : Array (Int × Int)) (pc : Nat) (l st : List Value) (σ : mj_St) : mj_O := match st with
  | .int x :: r => if (ps.toList.zip (ps.toList.drop 1)).all (fun (a, next) => a.1 < next.1) = true then mj_jmp pc (Op.lookupswitch.offset ps.toList dflt x.toInt) l r σ else none
  | _ => none
/-- one instruction -/
def mj_ex (X : mj_X) (call : mj_Call) (oc : Nat) (ret : Option FieldType) (pc : Nat) (i : Instr) (n : Nat) (l st : List Value) (σ : mj_St) : mj_O := match i, n with
  | .iload k, 2 => mj_ldI k 2 pc l st σ
  | .iload_n k, 1 => mj_ldI k 1 pc l st σ
  | .lload k, 2 => mj_ldL k 2 pc l st σ
  | .lload_n k, 1 => mj_ldL k 1 pc l st σ
  | .aload k, 2 => mj_ldA k 2 pc l st σ
  | .aload_n k, 1 => mj_ldA k 1 pc l st σ
  | .istore k, 2 => mj_stI k 2 pc l st σ
  | .istore_n k, 1 => mj_stI k 1 pc l st σ
  | .lstore k, 2 => mj_stL k 2 pc l st σ
  | .lstore_n k, 1 => mj_stL k 1 pc l st σ
  | .astore k, 2 => mj_stA k 2 pc l st σ
  | .astore_n k, 1 => mj_stA k 1 pc l st σ
  | .iinc k d, 3 => mj_inc k d 3 pc l st σ
  | .iconst v, 1 => mj_nx (pc + 1) l (.int (Int32.ofInt v) :: st) σ
  | .bipush v, 2 => mj_nx (pc + 2) l (.int (Int8.ofInt v).toInt32 :: st) σ
  | .sipush v, 3 => mj_nx (pc + 3) l (.int (Int16.ofInt v).toInt32 :: st) σ
  | .lconst v, 1 => mj_nx (pc + 1) l (.long (Int64.ofNat (v : Nat)) :: st) σ
  | .iadd, 1 => mj_b2 (fun x y => x + y) pc l st σ
  | .isub, 1 => mj_b2 (fun x y => x - y) pc l st σ
  | .imul, 1 => mj_b2 (fun x y => x * y) pc l st σ
  | .iand, 1 => mj_b2 (fun x y => x &&& y) pc l st σ
  | .ior, 1 => mj_b2 (fun x y => x ||| y) pc l st σ
  | .ixor, 1 => mj_b2 (fun x y => x ^^^ y) pc l st σ
  | .ishl, 1 => mj_b2 (fun x y => x <<< (y &&& 31)) pc l st σ
  | .ishr, 1 => mj_b2 (fun x y => x >>> (y &&& 31)) pc l st σ
  | .iushr, 1 => mj_b2 (fun x y => (x.toUInt32 >>> (y.toUInt32 &&& Int32.toUInt32 31)).toInt32) pc l st σ
  | .idiv, 1 => mj_dv (fun x y => x / y) pc l st σ
  | .irem, 1 => mj_dv (fun x y => x - x / y * y) pc l st σ
  | .ineg, 1 => mj_u1 (fun x => -x) pc l st σ
  | .i2b, 1 => mj_u1 (fun x => x.toInt8.toInt32) pc l st σ
  | .i2s, 1 => mj_u1 (fun x => x.toInt16.toInt32) pc l st σ
  | .ladd, 1 => mj_bl (fun x y => x + y) pc l st σ
  | .land, 1 => mj_bl (fun x y => x &&& y) pc l st σ
  | .lor, 1 => mj_bl (fun x y => x ||| y) pc l st σ
  | .lshl, 1 => (match st with
    | .int y :: .long x :: r => mj_nx (pc + 1) l (.long (x <<< (y.toInt64 &&& 63)) :: r) σ
    | _ => none)
  | .lcmp, 1 => (match st with
    | .long y :: .long x :: r => mj_nx (pc + 1) l (.int (lg_cmp x y) :: r) σ
    | _ => none)
  | .i2l, 1 => (match st with
    | .int x :: r => mj_nx (pc + 1) l (.long x.toInt64 :: r) σ
    | _ => none)
  | .l2i, 1 => (match st with
    | .long x :: r => mj_nx (pc + 1) l (.int x.toInt32 :: r) σ
    | _ => none)
  | .dup, 1 => (match st with
    | v :: r => if v.category = 1 then mj_nx (pc + 1) l (v :: v :: r) σ else none
    | _ => none)
  | .dup2, 1 => (match st with
    | v :: w :: r => if v.category = 1 ∧ w.category = 1 then mj_nx (pc + 1) l (v :: w :: v :: w :: r) σ else none
    | _ => none)
  | .pop, 1 => (match st with
    | v :: r => if v.category = 1 then mj_nx (pc + 1) l r σ else none
    | _ => none)
  | .goto off, 3 => mj_jmp pc off l st σ
  | .ifCond o off, 3 => (match st with
    | .int x :: r => mj_br (mj_cmp o x 0) pc off 3 l r σ
    | _ => none)
  | .if_icmp o off, 3 => (match st with
    | .int y :: .int x :: r => mj_br (mj_cmp o x y) pc off 3 l r σ
    | _ => none)
  | .ifnull off, 3 => (match st with
    | .ref _ :: r => mj_nx (pc + 3) l r σ
    | .null :: r => mj_jmp pc off l r σ
    | _ => none)
  | .tableswitch dflt lo hi offs, _ => mj_tsw dflt lo hi offs pc l st σ
  | .lookupswitch dflt ps, _ => mj_lsw dflt ps pc l st σ
  | .iaload, 1 => mj_ald X pc l st σ
  | .baload, 1 => mj_bld pc l st σ
  | .laload, 1 => mj_lld pc l st σ
  | .aaload, 1 => mj_qld pc l st σ
  | .iastore, 1 => mj_ast pc l st σ
  | .bastore, 1 => mj_bst pc l st σ
  | .lastore, 1 => mj_lst pc l st σ
  | .arraylength, 1 => mj_len X pc l st σ
  | .getfield idx, 3 => mj_get oc idx pc l st σ
  | .putfield idx, 3 => mj_put oc idx pc l st σ
  | .getstatic idx, 3 => (match mj_sta oc idx with
    | some k => mj_nx (pc + 3) l (.ref k :: st) σ
    | none => none)
  | .invokevirtual idx, 3 => mj_ivk call true oc idx pc l st σ
  | .invokestatic idx, 3 => mj_ivk call false oc idx pc l st σ
  | .ldc idx, 2 => (match mj_con oc idx with
    | some v => mj_nx (pc + 2) l (.int v :: st) σ
    | none => match mj_lds oc idx with
      | some j => mj_nx (pc + 2) l (.ref (1100 + j) :: st) σ
      | none => none)
  | .ldc_w idx, 3 => (match mj_con oc idx with
    | some v => mj_nx (pc + 3) l (.int v :: st) σ
    | none => none)
  | .ldc2_w idx, 3 => if oc = 7 ∧ idx = 18 then mj_nx (pc + 3) l (.long 4294967295 :: st) σ else none
  | .ireturn, 1 => (match st with
    | [.int x] => if ret = some .int ∨ (ret = some .boolean ∧ (x = 0 ∨ x = 1)) then some (.inr (some (.int x), σ)) else none
    | _ => none)
  | .lreturn, 1 => (match st with
    | [.long x] => if ret = some .long then some (.inr (some (.long x), σ)) else none
    | _ => none)
  | .return_, 1 => (match st with
    | [] => if ret = none then some (.inr (none, σ)) else none
    | _ => none)
  | _, _ => none
def mj_step (X : mj_X) (call : mj_Call) (oc : Nat) (ret : Option FieldType) (cc : ByteArray) (c : mj_Cf) : mj_O := match decode cc c.1 with
  | .ok (.newarray .long, 2) => mj_mkn oc cc c.1 c.2.1 c.2.2.1 c.2.2.2
  | .ok (i, n) => mj_ex X call oc ret c.1 i n c.2.1 c.2.2.1 c.2.2.2
  | _ => none
