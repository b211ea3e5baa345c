/-! ===== A PURE MACHINE: the same instructions over lists; a reference is a cell's place in the world; all cells lie behind b, in the order in which they were made ===== -/
abbrev pm_A : Type := List Int32 ⊕ List Int64 ⊕ List (Option Nat)
/-- a cell: an array (its type's number, contents) or an object (its class's number, fields) -/
abbrev pm_E : Type := (Nat × pm_A) ⊕ (Nat × List Value)
abbrev pm_W : Type := List pm_E
/-- cells outside the world, never written, by number: (0, ints) an array of ints, (1, bytes) an array of bytes, (2, _, i) a text whose bytes are cell i; a reference to one is .retAddr number -/
abbrev pm_X : Type := Nat → Option (Nat × List Int32 × Nat)
/-- a program: instruction at (method, pc); getfield's (class, field); putfield's (class, field, type, final); new's (class, fields at first); a call's (method, parameters); ldc; ldc2_w; anewarray's array type; a method's (locals, class, answer's type); getstatic's value; ldc's text; getfield's of a text (0 coder, 1 value); a call that the machine does itself (0 System.arraycopy, 1 max, 2 min, 3 abs of Math) -/
abbrev pm_G : Type := (Nat → Nat → Option Instr) × (Nat → Nat → Option (Nat × Nat)) × (Nat → Nat → Option (Nat × Nat × FieldType)) × (Nat → Nat → Option (Nat × List Value)) × (Nat → Nat → Option (Nat × Nat)) × (Nat → Nat → Option Int32) × (Nat → Nat → Option Int64) × (Nat → Nat → Option Nat) × (Nat → Nat × Nat × Option FieldType) × (Nat → Nat → Option Value) × (Nat → Nat → Option Nat) × (Nat → Nat → Option Nat) × (Nat → Nat → Option Nat)
abbrev pm_dec (G : pm_G) : Nat → Nat → Option Instr := G.1
abbrev pm_get (G : pm_G) : Nat → Nat → Option (Nat × Nat) := G.2.1
abbrev pm_put (G : pm_G) : Nat → Nat → Option (Nat × Nat × FieldType) := G.2.2.1
abbrev pm_new (G : pm_G) : Nat → Nat → Option (Nat × List Value) := G.2.2.2.1
abbrev pm_cal (G : pm_G) : Nat → Nat → Option (Nat × Nat) := G.2.2.2.2.1
abbrev pm_ldc (G : pm_G) : Nat → Nat → Option Int32 := G.2.2.2.2.2.1
abbrev pm_ld2 (G : pm_G) : Nat → Nat → Option Int64 := G.2.2.2.2.2.2.1
abbrev pm_anw (G : pm_G) : Nat → Nat → Option Nat := G.2.2.2.2.2.2.2.1
abbrev pm_max (G : pm_G) (mi : Nat) : Nat := (G.2.2.2.2.2.2.2.2.1 mi).1
abbrev pm_hom (G : pm_G) (mi : Nat) : Nat := (G.2.2.2.2.2.2.2.2.1 mi).2.1
abbrev pm_ret (G : pm_G) (mi : Nat) : Option FieldType := (G.2.2.2.2.2.2.2.2.1 mi).2.2
abbrev pm_sta (G : pm_G) : Nat → Nat → Option Value := G.2.2.2.2.2.2.2.2.2.1
abbrev pm_lds (G : pm_G) : Nat → Nat → Option Nat := G.2.2.2.2.2.2.2.2.2.2.1
abbrev pm_gts (G : pm_G) : Nat → Nat → Option Nat := G.2.2.2.2.2.2.2.2.2.2.2.1
abbrev pm_nat (G : pm_G) : Nat → Nat → Option Nat := G.2.2.2.2.2.2.2.2.2.2.2.2
/-- an unset local -/
def pm_dead : Value := .float 0
def pm_live : Value → Bool
  | .float _ => false
  | _ => true
def pm_st0 (ls : List Value) : Nat → List Value
  | 0 => ls
  | j + 1 => if (ls[j]?).map Value.category = some 2 then ls.set j pm_dead else ls
def pm_st1 (ls : List Value) (k : Nat) (v : Value) : List Value := (pm_st0 ls k).set k v
def pm_st2 (ls : List Value) (k : Nat) (v : Value) : List Value := ((pm_st0 ls k).set k v).set (k + 1) pm_dead
def pm_in (i : Int32) (n : Nat) : Bool := decide (¬ (i < 0 ∨ n ≤ i.toNatClampNeg))
abbrev pm_C : Type := Nat × List Value × List Value × pm_W
def pm_jmp (pc : Nat) (off : Int) (ls st : List Value) (w : pm_W) : Option pm_C := if 0 ≤ (pc : Int) + off then some (((pc : Int) + off).toNat, ls, st, w) else none
def pm_br (c : Prop) [Decidable c] (pc : Nat) (off : Int) (ls st : List Value) (w : pm_W) : Option pm_C := if 0 ≤ (pc : Int) + off then (if c then some (((pc : Int) + off).toNat, ls, st, w) else some (pc + 3, ls, st, w)) else none
def pm_rf : Option Nat → Value
  | none => .null
  | some k => .ref k
def pm_iload (pc : Nat) (k : Nat) (ls st : List Value) (w : pm_W) : Option pm_C := match ls[k]? with
  | some (.int x) => some (pc, ls, .int x :: st, w)
  | _ => none
def pm_lload (pc : Nat) (k : Nat) (ls st : List Value) (w : pm_W) : Option pm_C := match ls[k]? with
  | some (.long x) => some (pc, ls, .long x :: st, w)
  | _ => none
def pm_aload (pc : Nat) (k : Nat) (ls st : List Value) (w : pm_W) : Option pm_C := match ls[k]? with
  | some (.ref x) => some (pc, ls, .ref x :: st, w)
  | some .null => some (pc, ls, .null :: st, w)
  | some (.retAddr x) => some (pc, ls, .retAddr x :: st, w)
  | _ => none
def pm_istore (pc : Nat) (k : Nat) (ls st : List Value) (w : pm_W) : Option pm_C := match st with
  | .int x :: st => if k < ls.length then some (pc, pm_st1 ls k (.int x), st, w) else none
  | _ => none
def pm_lstore (pc : Nat) (k : Nat) (ls st : List Value) (w : pm_W) : Option pm_C := match st with
  | .long x :: st => if k + 1 < ls.length then some (pc, pm_st2 ls k (.long x), st, w) else none
  | _ => none
def pm_astore (pc : Nat) (k : Nat) (ls st : List Value) (w : pm_W) : Option pm_C := match st with
  | .ref x :: st => if k < ls.length then some (pc, pm_st1 ls k (.ref x), st, w) else none
  | .null :: st => if k < ls.length then some (pc, pm_st1 ls k .null, st, w) else none
  | .retAddr x :: st => if k < ls.length then some (pc, pm_st1 ls k (.retAddr x), st, w) else none
  | _ => none
def pm_ii (pc : Nat) (f : Int32 → Int32 → Option Int32) (ls st : List Value) (w : pm_W) : Option pm_C := match st with
  | .int y :: .int x :: st => match f x y with
    | some z => some (pc + 1, ls, .int z :: st, w)
    | none => none
  | _ => none
def pm_ll (pc : Nat) (f : Int64 → Int64 → Option Int64) (ls st : List Value) (w : pm_W) : Option pm_C := match st with
  | .long y :: .long x :: st => match f x y with
    | some z => some (pc + 1, ls, .long z :: st, w)
    | none => none
  | _ => none
def pm_if1 (c : Jvm.ClassFile.Cond) (pc : Nat) (off : Int) (ls st : List Value) (w : pm_W) : Option pm_C := match st with
  | .int x :: st => match c with
    | .eq => pm_br (x = 0) pc off ls st w
    | .ne => pm_br (¬ x = 0) pc off ls st w
    | .lt => pm_br (x < 0) pc off ls st w
    | .ge => pm_br (0 ≤ x) pc off ls st w
    | .gt => pm_br (0 < x) pc off ls st w
    | .le => pm_br (x ≤ 0) pc off ls st w
  | _ => none
def pm_if2 (c : Jvm.ClassFile.Cond) (pc : Nat) (off : Int) (ls st : List Value) (w : pm_W) : Option pm_C := match st with
  | .int y :: .int x :: st => match c with
    | .eq => pm_br (x = y) pc off ls st w
    | .ne => pm_br (¬ x = y) pc off ls st w
    | .lt => pm_br (x < y) pc off ls st w
    | .ge => pm_br (y ≤ x) pc off ls st w
    | .gt => pm_br (y < x) pc off ls st w
    | .le => pm_br (x ≤ y) pc off ls st w
  | _ => none
/-- an int out of an array of ints (type number t) -/
def pm_iald (X : pm_X) (t : Nat) (pc : Nat) (ls st : List Value) (w : pm_W) : Option pm_C := match st with
  | .int i :: .retAddr j :: st => match X j with
    | some (t', xs, _) => if t' = t ∧ pm_in i xs.length = true then some (pc + 1, ls, .int (xs.getD i.toNatClampNeg 0) :: st, w) else none
    | _ => none
  | .int i :: .ref a :: st => match w[a]? with
    | some (.inl (t', .inl xs)) => if t' = t ∧ pm_in i xs.length = true then some (pc + 1, ls, .int (xs.getD i.toNatClampNeg 0) :: st, w) else none
    | _ => none
  | _ => none
def pm_iast (t : Nat) (f : Int32 → Int32) (pc : Nat) (ls st : List Value) (w : pm_W) : Option pm_C := match st with
  | .int x :: .int i :: .ref a :: st => match w[a]? with
    | some (.inl (t', .inl xs)) => if t' = t ∧ pm_in i xs.length = true then some (pc + 1, ls, st, w.set a (.inl (t, .inl (xs.set i.toNatClampNeg (f x))))) else none
    | _ => none
  | _ => none
def pm_sum (st : List Value) : Nat := (st.map fun v => v.category).sum
def pm_len : pm_A → Nat
  | .inl xs => xs.length
  | .inr (.inl xs) => xs.length
  | .inr (.inr xs) => xs.length
def pm_oc : Option pm_C → Option pm_C → Option pm_C
  | some r, _ => some r
  | none, x => x
def pm_fit (ty : FieldType) (v : Value) : Bool := decide (narrow ty v = v) && fits ty v
def pm_cpy (xs ys : List Int32) (sp dp n : Nat) : List Int32 := ys.take dp ++ (xs.drop sp).take n ++ ys.drop (dp + n)
def pm_copy (pc : Nat) (ls st : List Value) (w : pm_W) : Option pm_C := match st with
  | .int n :: .int dp :: .ref a1 :: .int sp :: .ref a0 :: st => match w[a0]?, w[a1]? with
    | some (.inl (t, .inl xs)), some (.inl (t', .inl ys)) => if t' = t ∧ t < 2 ∧ ¬ sp < 0 ∧ ¬ dp < 0 ∧ ¬ n < 0 ∧ sp.toNatClampNeg + n.toNatClampNeg ≤ xs.length ∧ dp.toNatClampNeg + n.toNatClampNeg ≤ ys.length ∧ (t = 0 ∨ ((xs.drop sp.toNatClampNeg).take n.toNatClampNeg).all (fun x => fits .byte (.int x)) = true) ∧ pm_sum st ≤ 8 then some (pc + 3, ls, st, w.set a1 (.inl (t, .inl (pm_cpy xs ys sp.toNatClampNeg dp.toNatClampNeg n.toNatClampNeg)))) else none
    | _, _ => none
  | _ => none
/-- one instruction that neither calls, nor makes, nor ends -/
def pm_one (G : pm_G) (X : pm_X) (tyl : List FieldType) (cl : List vw_C) (mi : Nat) (i : Instr) (pc : Nat) (ls st : List Value) (w : pm_W) : Option pm_C := match i with
  | .iconst n => some (pc + 1, ls, .int (Int32.ofInt n) :: st, w)
  | .bipush n => some (pc + 2, ls, .int (Int8.ofInt n).toInt32 :: st, w)
  | .sipush n => some (pc + 3, ls, .int (Int16.ofInt n).toInt32 :: st, w)
  | .lconst n => some (pc + 1, ls, .long (Int64.ofNat (n : Nat)) :: st, w)
  | .aconst_null => some (pc + 1, ls, .null :: st, w)
  | .ldc k => match pm_ldc G mi k with
    | some v => some (pc + 2, ls, .int v :: st, w)
    | none => match pm_lds G mi k with
      | some j => some (pc + 2, ls, .retAddr j :: st, w)
      | none => none
  | .ldc_w k => match pm_ldc G mi k with
    | some v => some (pc + 3, ls, .int v :: st, w)
    | none => none
  | .getstatic k => match pm_sta G mi k with
    | some v => some (pc + 3, ls, v :: st, w)
    | none => none
  | .invokestatic k => match pm_nat G mi k with
    | some 0 => pm_copy pc ls st w
    | some 1 => match st with
      | .int y :: .int x :: st => if pm_sum st ≤ 8 then some (pc + 3, ls, .int (if x < y then y else x) :: st, w) else none
      | _ => none
    | some 2 => match st with
      | .int y :: .int x :: st => if pm_sum st ≤ 8 then some (pc + 3, ls, .int (if y < x then y else x) :: st, w) else none
      | _ => none
    | some 3 => match st with
      | .int x :: st => if pm_sum st ≤ 8 then some (pc + 3, ls, .int (if 0 ≤ x then x else 0 - x) :: st, w) else none
      | _ => none
    | _ => none
  | .ldc2_w k => match pm_ld2 G mi k with
    | some v => some (pc + 3, ls, .long v :: st, w)
    | none => none
  | .iload k => pm_iload (pc + 2) k ls st w
  | .iload_n k => pm_iload (pc + 1) k.val ls st w
  | .lload k => pm_lload (pc + 2) k ls st w
  | .lload_n k => pm_lload (pc + 1) k.val ls st w
  | .aload k => pm_aload (pc + 2) k ls st w
  | .aload_n k => pm_aload (pc + 1) k.val ls st w
  | .istore k => pm_istore (pc + 2) k ls st w
  | .istore_n k => pm_istore (pc + 1) k.val ls st w
  | .lstore k => pm_lstore (pc + 2) k ls st w
  | .lstore_n k => pm_lstore (pc + 1) k.val ls st w
  | .astore k => pm_astore (pc + 2) k ls st w
  | .astore_n k => pm_astore (pc + 1) k.val ls st w
  | .iinc k n => match ls[k]? with
    | some (.int x) => some (pc + 3, pm_st1 ls k (.int (x + Int32.ofInt n)), st, w)
    | _ => none
  | .iadd => pm_ii pc (fun x y => some (x + y)) ls st w
  | .isub => pm_ii pc (fun x y => some (x - y)) ls st w
  | .imul => pm_ii pc (fun x y => some (x * y)) ls st w
  | .iand => pm_ii pc (fun x y => some (x &&& y)) ls st w
  | .ior => pm_ii pc (fun x y => some (x ||| y)) ls st w
  | .ixor => pm_ii pc (fun x y => some (x ^^^ y)) ls st w
  | .idiv => pm_ii pc (fun x y => if y = 0 then none else some (x / y)) ls st w
  | .irem => pm_ii pc (fun x y => if y = 0 then none else some (x - x / y * y)) ls st w
  | .ishl => pm_ii pc (fun x y => some (x <<< (y &&& 31))) ls st w
  | .ishr => pm_ii pc (fun x y => some (x >>> (y &&& 31))) ls st w
  | .iushr => pm_ii pc (fun x y => some (x.toUInt32 >>> (y.toUInt32 &&& Int32.toUInt32 31)).toInt32) ls st w
  | .ineg => match st with
    | .int x :: st => some (pc + 1, ls, .int (-x) :: st, w)
    | _ => none
  | .i2l => match st with
    | .int x :: st => some (pc + 1, ls, .long x.toInt64 :: st, w)
    | _ => none
  | .i2b => match st with
    | .int x :: st => some (pc + 1, ls, .int x.toInt8.toInt32 :: st, w)
    | _ => none
  | .i2c => match st with
    | .int x :: st => some (pc + 1, ls, .int (x.toUInt32 % 65536).toInt32 :: st, w)
    | _ => none
  | .lmul => pm_ll pc (fun x y => some (x * y)) ls st w
  | .lcmp => match st with
    | .long y :: .long x :: st => some (pc + 1, ls, .int (lg_cmp x y) :: st, w)
    | _ => none
  | .dup => match st with
    | a :: st => if a.category = 1 then some (pc + 1, ls, a :: a :: st, w) else none
    | _ => none
  | .dup2 => match st with
    | a :: c :: st => if a.category = 1 ∧ c.category = 1 then some (pc + 1, ls, a :: c :: a :: c :: st, w) else none
    | _ => none
  | .dup_x1 => match st with
    | a :: c :: st => if a.category = 1 ∧ c.category = 1 then some (pc + 1, ls, a :: c :: a :: st, w) else none
    | _ => none
  | .dup_x2 => match st with
    | a :: c :: d :: st => if a.category = 1 ∧ c.category = 1 ∧ d.category = 1 then some (pc + 1, ls, a :: c :: d :: a :: st, w) else none
    | _ => none
  | .pop => match st with
    | a :: st => if a.category = 1 then some (pc + 1, ls, st, w) else none
    | _ => none
  | .pop2 => match st with
    | a :: st => if a.category = 2 then some (pc + 1, ls, st, w) else none
    | _ => none
  | .goto off => pm_jmp pc off ls st w
  | .ifCond c off => pm_if1 c pc off ls st w
  | .if_icmp c off => pm_if2 c pc off ls st w
  | .ifnull off => match st with
    | .null :: st => pm_jmp pc off ls st w
    | .ref _ :: st => some (pc + 3, ls, st, w)
    | _ => none
  | .ifnonnull off => match st with
    | .null :: st => some (pc + 3, ls, st, w)
    | .ref _ :: st => pm_jmp pc off ls st w
    | _ => none
  | .tableswitch d lo hi offs => match st with
    | .int x :: st => if x.toInt < lo ∨ hi < x.toInt then pm_jmp pc d ls st w else match offs[(x.toInt - lo).toNat]? with
      | some off => pm_jmp pc off ls st w
      | none => none
    | _ => none
  | .iaload => pm_iald X 0 pc ls st w
  | .baload => pm_oc (pm_iald X 1 pc ls st w) (pm_iald (fun _ => none) 2 pc ls st w)
  | .iastore => pm_iast 0 id pc ls st w
  | .bastore => pm_oc (pm_iast 1 (vp_nar .byte) pc ls st w) (pm_iast 2 (vp_nar .boolean) pc ls st w)
  | .arraylength => match st with
    | .retAddr j :: st => match X j with
      | some (t, xs, _) => if t < 2 then some (pc + 1, ls, .int (Int32.ofNat xs.length) :: st, w) else none
      | _ => none
    | .ref a :: st => match w[a]? with
      | some (.inl (t, xs)) => if t < tyl.length then some (pc + 1, ls, .int (Int32.ofNat (pm_len xs)) :: st, w) else none
      | _ => none
    | _ => none
  | .aaload => match st with
    | .int i :: .ref a :: st => match w[a]? with
      | some (.inl (t, .inr (.inr xs))) => match tyl[t]? with
        | some (.object _) => if pm_in i xs.length = true then some (pc + 1, ls, pm_rf (xs.getD i.toNatClampNeg none) :: st, w) else none
        | _ => none
      | _ => none
    | _ => none
  | .aastore => match st with
    | .ref v :: .int i :: .ref a :: st => match w[a]? with
      | some (.inl (t, .inr (.inr xs))) => match w[v]? with
        | some (.inr (ci, _)) => match cl[ci]? with
          | some r => if tyl[t]? = some (.object r.1) ∧ pm_in i xs.length = true then some (pc + 1, ls, st, w.set a (.inl (t, .inr (.inr (xs.set i.toNatClampNeg (some v)))))) else none
          | none => none
        | _ => none
      | _ => none
    | _ => none
  | .getfield k => match st with
    | .retAddr j :: st => match X j with
      | some (2, _, i) => match pm_gts G mi k with
        | some 0 => some (pc + 3, ls, .int 0 :: st, w)
        | some 1 => some (pc + 3, ls, .retAddr i :: st, w)
        | _ => none
      | _ => none
    | .ref a :: st => match pm_get G mi k with
      | some (ci, j) => match w[a]? with
        | some (.inr (ci', fs)) => if ci' = ci then match fs[j]? with
            | some v => some (pc + 3, ls, v :: st, w)
            | none => none
          else none
        | _ => none
      | none => none
    | _ => none
  | .putfield k => match st with
    | v :: .ref a :: st => match pm_put G mi k with
      | some (ci, j, ty) => match w[a]? with
        | some (.inr (ci', fs)) => if ci' = ci ∧ j < fs.length ∧ pm_fit ty v = true then some (pc + 3, ls, st, w.set a (.inr (ci, fs.set j v))) else none
        | _ => none
      | none => none
    | _ => none
  | _ => none
abbrev pm_R : Type := Option Value × pm_W × Nat × Nat
def pm_add (c n : Nat) : Option pm_R → Option pm_R
  | some (r, w, c', n') => some (r, w, c + c', n + n')
  | none => none
/-- a method's locals at its entry -/
def pm_arg : List Value → List Value
  | [] => []
  | v :: vs => if v.category = 2 then v :: pm_dead :: pm_arg vs else v :: pm_arg vs
def pm_ent (n : Nat) (vs : List Value) : List Value := pm_arg vs ++ List.replicate (n - (pm_arg vs).length) pm_dead
def pm_push : Option Value → List Value → List Value
  | some v, st => v :: st
  | none, st => st
/-- the receiver is an object of the method's class -/
def pm_rcv (G : pm_G) (X : pm_X) (w : pm_W) (mi : Nat) : Value → Bool
  | .retAddr j => match X j with
    | some (2, _, _) => pm_hom G mi == 1000
    | _ => false
  | .ref a => match w[a]? with
    | some (.inr (ci, _)) => ci == pm_hom G mi
    | _ => false
  | _ => false
/-- the end of a method: its answer -/
def pm_end (G : pm_G) (mi : Nat) (i : Instr) (st : List Value) : Option (Option Value) := match i with
  | .ireturn => match st, pm_ret G mi with
    | [.int x], some ty => if narrow ty (.int x) = .int x then some (some (.int x)) else none
    | _, _ => none
  | .lreturn => match st, pm_ret G mi with
    | [.long x], some .long => some (some (.long x))
    | _, _ => none
  | .areturn => match st, pm_ret G mi with
    | [.ref a], some (.object _) => some (some (.ref a))
    | [.null], some (.object _) => some (some .null)
    | [.retAddr a], some (.object _) => some (some (.retAddr a))
    | _, _ => none
  | .return_ => match st, pm_ret G mi with
    | [], none => some none
    | _, _ => none
  | _ => none
/-- a cell is made: the instruction's length, the stack below, the cell, its slots -/
def pm_mk (G : pm_G) (mi : Nat) (i : Instr) (st : List Value) : Option (Nat × List Value × pm_E × Nat) := match i with
  | .new k => match pm_new G mi k with
    | some (ci, fs) => some (3, st, .inr (ci, fs), fs.length)
    | none => none
  | .newarray ty => match st with
    | .int n :: st => if ¬ n < 0 ∧ n.toNatClampNeg ≤ 65536 then match newarray.typeOf ty with
        | .int => some (2, st, .inl (0, .inl (List.replicate n.toNatClampNeg 0)), n.toNatClampNeg)
        | .byte => some (2, st, .inl (1, .inl (List.replicate n.toNatClampNeg 0)), n.toNatClampNeg)
        | .boolean => some (2, st, .inl (2, .inl (List.replicate n.toNatClampNeg 0)), n.toNatClampNeg)
        | _ => none
      else none
    | _ => none
  | .anewarray k => match st with
    | .int n :: st => if ¬ n < 0 ∧ n.toNatClampNeg ≤ 65536 then match pm_anw G mi k with
        | some t => some (3, st, .inl (t, .inr (.inr (List.replicate n.toNatClampNeg none))), n.toNatClampNeg)
        | none => none
      else none
    | _ => none
  | _ => none
/-- Object's constructor -/
def pm_obi (G : pm_G) (mi : Nat) (i : Instr) (st : List Value) : Option (List Value) := match i with
  | .invokespecial k => match pm_cal G mi k with
    | some (0, _) => match st with
      | .ref _ :: st => if pm_sum st ≤ 8 then some st else none
      | _ => none
    | _ => none
  | _ => none
/-- a call: the method, the depth left, its arguments, the stack below -/
def pm_cll (G : pm_G) (X : pm_X) (mi : Nat) (i : Instr) (d : Nat) (st : List Value) (w : pm_W) : Option (Nat × Nat × List Value × List Value) := match i with
  | .invokespecial k => match pm_cal G mi k with
    | some (mj, n) => match d, st.drop n with
      | d + 1, .ref a :: st' => if mj ≠ 0 ∧ (st.take n).length = n ∧ pm_sum st' ≤ 8 ∧ (pm_arg (.ref a :: (st.take n).reverse)).length ≤ pm_max G mj then some (mj, d, .ref a :: (st.take n).reverse, st') else none
      | _, _ => none
    | none => none
  | .invokevirtual k => match pm_cal G mi k with
    | some (mj, n) => match d, st.drop n with
      | d + 1, v :: st' => if pm_rcv G X w mj v = true ∧ (st.take n).length = n ∧ pm_sum st' ≤ 8 ∧ (pm_arg (v :: (st.take n).reverse)).length ≤ pm_max G mj then some (mj, d, v :: (st.take n).reverse, st') else none
      | _, _ => none
    | none => none
  | .invokestatic k => match pm_cal G mi k with
    | some (mj, n) => match d with
      | d + 1 => if (st.take n).length = n ∧ pm_sum (st.drop n) ≤ 8 ∧ (pm_arg (st.take n).reverse).length ≤ pm_max G mj then some (mj, d, (st.take n).reverse, st.drop n) else none
      | 0 => none
    | none => none
  | _ => none
/-- a run: fuel, depth; method, pc, locals, stack, world; answer, world, cells made, slots made -/
def pm (G : pm_G) (X : pm_X) (tyl : List FieldType) (cl : List vw_C) : Nat → Nat → Nat → Nat → List Value → List Value → pm_W → Option pm_R
  | 0, _, _, _, _, _, _ => none
  | f + 1, d, mi, pc, ls, st, w => match pm_dec G mi pc with
    | none => none
    | some i => match pm_one G X tyl cl mi i pc ls st w with
      | some (pc', ls', st', w') => pm G X tyl cl f d mi pc' ls' st' w'
      | none => match pm_cll G X mi i d st w with
        | some (mj, d', vs, st') => match pm G X tyl cl f d' mj 0 (pm_ent (pm_max G mj) vs) [] w with
          | some (r, w', c, n) => pm_add c n (pm G X tyl cl f d mi (pc + 3) ls (pm_push r st') w')
          | none => none
        | none => match pm_end G mi i st with
          | some r => some (r, w, 0, 0)
          | none => match pm_obi G mi i st with
            | some st' => pm G X tyl cl f d mi (pc + 3) ls st' w
            | none => match pm_mk G mi i st with
              | some (k, st', c, n) => pm_add 1 n (pm G X tyl cl f d mi (pc + k) ls (.ref w.length :: st') (w ++ [c]))
              | none => none
