/-! ===== THE ABSTRACT MACHINE: the methods' bytecode over numbers; a state is a table of cells by numbers, no addresses ===== -/
abbrev AV : Type := Int ⊕ (Nat ⊕ (Int ⊕ (UInt32 ⊕ (UInt64 ⊕ Bool))))
abbrev a_i (z : Int) : AV := .inl z
abbrev a_r (r : Nat) : AV := .inr (.inl r)
abbrev a_l (z : Int) : AV := .inr (.inr (.inl z))
abbrev a_f (z : UInt32) : AV := .inr (.inr (.inr (.inl z)))
abbrev a_d (z : UInt64) : AV := .inr (.inr (.inr (.inr (.inl z))))
/-- true: some reference or null; false: nothing is known -/
abbrev a_x (b : Bool) : AV := .inr (.inr (.inr (.inr (.inr b))))
/-- kinds and lengths; numbers; references; (next free, cells made, slots made) -/
abbrev AS : Type := (Nat → Nat × Nat) × (Nat → Nat → Int) × (Nat → Nat → Nat) × (Nat × Nat × Nat)
abbrev SR : Type := (Nat × List AV × List AV × AS) ⊕ ((Option AV × AS) ⊕ ((Nat × AS) ⊕ (Nat × List AV × Nat × List AV × List AV × AS)))
abbrev AO : Type := Option AV ⊕ Nat
def wr (z : Int) : Int := (z + 2147483648) % 4294967296 - 2147483648
def wl (z : Int) : Int := (z + 9223372036854775808) % 18446744073709551616 - 9223372036854775808
def zand (a b : Int) : Int := (Int32.ofInt a &&& Int32.ofInt b).toInt
def zor (a b : Int) : Int := (Int32.ofInt a ||| Int32.ofInt b).toInt
def zshl (a b : Int) : Int := (Int32.ofInt a <<< (Int32.ofInt b &&& 31)).toInt
def zshr (a b : Int) : Int := (Int32.ofInt a >>> (Int32.ofInt b &&& 31)).toInt
def zushr (a b : Int) : Int := ((Int32.ofInt a).toUInt32 >>> ((Int32.ofInt b).toUInt32 &&& Int32.toUInt32 31)).toInt32.toInt
def zchr (a : Int) : Int := ((Int32.ofInt a).toUInt32 % 65536).toInt32.toInt
def upm {α : Type} (f : Nat → Nat → α) (r i : Nat) (v : α) : Nat → Nat → α := fun q j => if q = r ∧ j = i then v else f q j
def upr {α : Type} (f : Nat → Nat → α) (r : Nat) (g : Nat → α) : Nat → Nat → α := fun q j => if q = r then g j else f q j
def upk (f : Nat → Nat × Nat) (r : Nat) (v : Nat × Nat) : Nat → Nat × Nat := fun q => if q = r then v else f q
def a_cpy (f g : Nat → Int) (sp dp n : Nat) : Nat → Int := fun k => if dp ≤ k ∧ k < dp + n then f (sp + (k - dp)) else g k
def a_cat (a : AV) : Nat := match a with
  | .inr (.inr (.inl _)) => 2
  | .inr (.inr (.inr (.inr (.inl _)))) => 2
  | _ => 1
/-- values that may stand on the operand stack or in locals -/
def a_kn (a : AV) : Bool := match a with
  | .inr (.inr (.inr (.inr (.inr false)))) => false
  | _ => true
def a_sum (st : List AV) : Nat := (st.map a_cat).sum
def a_next (pc : Nat) (ls st : List AV) (σ : AS) : Option SR := some (.inl (pc, ls, st, σ))
def pI (st : List AV) (k : Int → List AV → Option SR) : Option SR := match st with
  | .inl z :: st => k z st
  | _ => none
def pII (st : List AV) (k : Int → Int → List AV → Option SR) : Option SR := match st with
  | .inl y :: .inl x :: st => k x y st
  | _ => none
def pR (st : List AV) (k : Nat → List AV → Option SR) : Option SR := match st with
  | .inr (.inl r) :: st => k r st
  | _ => none
def pA (st : List AV) (k : AV → List AV → Option SR) : Option SR := match st with
  | .inr (.inl r) :: st => k (a_r r) st
  | .inr (.inr (.inr (.inr (.inr true)))) :: st => k (a_x true) st
  | _ => none
def pIR (st : List AV) (k : Nat → Int → List AV → Option SR) : Option SR := match st with
  | .inl i :: .inr (.inl r) :: st => k r i st
  | _ => none
def pVIR (st : List AV) (k : Nat → Int → AV → List AV → Option SR) : Option SR := match st with
  | v :: .inl i :: .inr (.inl r) :: st => k r i v st
  | _ => none
def pL (st : List AV) (k : Int → List AV → Option SR) : Option SR := match st with
  | .inr (.inr (.inl z)) :: st => k z st
  | _ => none
def pLL (st : List AV) (k : Int → Int → List AV → Option SR) : Option SR := match st with
  | .inr (.inr (.inl y)) :: .inr (.inr (.inl x)) :: st => k x y st
  | _ => none
def pF (st : List AV) (k : UInt32 → List AV → Option SR) : Option SR := match st with
  | .inr (.inr (.inr (.inl z))) :: st => k z st
  | _ => none
def pFF (st : List AV) (k : UInt32 → UInt32 → List AV → Option SR) : Option SR := match st with
  | .inr (.inr (.inr (.inl y))) :: .inr (.inr (.inr (.inl x))) :: st => k x y st
  | _ => none
def pD (st : List AV) (k : UInt64 → List AV → Option SR) : Option SR := match st with
  | .inr (.inr (.inr (.inr (.inl z)))) :: st => k z st
  | _ => none
def pDD (st : List AV) (k : UInt64 → UInt64 → List AV → Option SR) : Option SR := match st with
  | .inr (.inr (.inr (.inr (.inl y)))) :: .inr (.inr (.inr (.inr (.inl x)))) :: st => k x y st
  | _ => none
def pV (st : List AV) (k : AV → List AV → Option SR) : Option SR := match st with
  | a :: st => k a st
  | _ => none
/-- reading a local: of category 1 int / ref; long; float; double -/
def gI (ls : List AV) (i : Nat) (k : Int → Option SR) : Option SR := match ls[i]? with
  | some (.inl z) => k z
  | _ => none
def gA (ls : List AV) (i : Nat) (k : AV → Option SR) : Option SR := match ls[i]? with
  | some (.inr (.inl r)) => k (a_r r)
  | some (.inr (.inr (.inr (.inr (.inr true))))) => k (a_x true)
  | _ => none
def gL (ls : List AV) (i : Nat) (k : Int → Option SR) : Option SR := match ls[i]? with
  | some (.inr (.inr (.inl z))) => k z
  | _ => none
def gF (ls : List AV) (i : Nat) (k : UInt32 → Option SR) : Option SR := match ls[i]? with
  | some (.inr (.inr (.inr (.inl z)))) => k z
  | _ => none
def gD (ls : List AV) (i : Nat) (k : UInt64 → Option SR) : Option SR := match ls[i]? with
  | some (.inr (.inr (.inr (.inr (.inl z))))) => k z
  | _ => none
/-- storing into a local: the value ahead of it must not be a long (it would be spoilt) -/
def a_free (ls : List AV) : Nat → Bool
  | 0 => true
  | i + 1 => match ls[i]? with
    | some a => a_cat a == 1
    | none => false
def s1 (ls : List AV) (i : Nat) (a : AV) (k : List AV → Option SR) : Option SR := if a_free ls i = true ∧ i < ls.length then k (ls.set i a) else none
def s2 (ls : List AV) (i : Nat) (a : AV) (k : List AV → Option SR) : Option SR := if a_free ls i = true ∧ i + 1 < ls.length then k ((ls.set i a).set (i + 1) (a_x false)) else none
def a_in (σ : AS) (r : Nat) (i : Int) : Bool := decide (0 ≤ i) && decide (i < ((σ.1 r).2 : Int))
def a_cond (c : ClassFile.Cond) (x y : Int) : Bool := match c with
  | .eq => decide (x = y)
  | .ne => decide (x ≠ y)
  | .lt => decide (x < y)
  | .ge => decide (x ≥ y)
  | .gt => decide (x > y)
  | .le => decide (x ≤ y)
def a_jmp (pc : Nat) (off : Int) : Nat := ((pc : Int) + off).toNat
def a_br (b : Bool) (pc : Nat) (off : Int) (len : Nat) (ls st : List AV) (σ : AS) : Option SR := a_next (if b = true then a_jmp pc off else pc + len) ls st σ
/-- an int of a type: 1 int, 2 boolean, 7 char, 8 byte -/
def a_fit (t : Nat) (z : Int) : Bool := match t with
  | 1 => true
  | 2 => decide (z = 0) || decide (z = 1)
  | 7 => decide (0 ≤ z) && decide (z < 65536)
  | 8 => decide (-128 ≤ z) && decide (z < 128)
  | _ => false
def a_lay : List AV → List AV
  | [] => []
  | a :: as => if a_cat a = 2 then a :: a_x false :: a_lay as else a :: a_lay as
def a_entry (m : Nat) (args : List AV) : List AV := a_lay args ++ List.replicate (m_maxL m - (a_lay args).length) (a_x false)
def a_set (σ : AS) (r i : Nat) (z : Int) : AS := (σ.1, upm σ.2.1 r i z, σ.2.2.1, σ.2.2.2)
def a_setr (σ : AS) (r i : Nat) (z : Nat) : AS := (σ.1, σ.2.1, upm σ.2.2.1 r i z, σ.2.2.2)
def a_thr (σ : AS) : AS := (σ.1, σ.2.1, σ.2.2.1, (σ.2.2.2.1, σ.2.2.2.2.1 + 1, σ.2.2.2.2.2 + 6))
/-- a new cell of a kind, of n slots, all 0 or null -/
def a_new (σ : AS) (k len n : Nat) : AS := (upk σ.1 σ.2.2.2.1 (k, len), upr σ.2.1 σ.2.2.2.1 (fun _ => 0), upr σ.2.2.1 σ.2.2.2.1 (fun _ => 0), (σ.2.2.2.1 + 1, σ.2.2.2.2.1 + 1, σ.2.2.2.2.2 + n))
/-- the receiver is an object of its class -/
def a_rcv (k : Nat) (args : List AV) (σ : AS) : Bool := if k = 0 then true else match args with
  | .inr (.inl r) :: _ => decide ((σ.1 r).1 = k)
  | _ => false
/-- a call of the method y (below 1000), or of a member of the JDK that is one step here -/
def a_call (y pc len : Nat) (ls st : List AV) (σ : AS) : Option SR :=
  if y < 1000 then
    if m_nargs y ≤ st.length ∧ a_sum (st.drop (m_nargs y)) ≤ 8 ∧ (st.take (m_nargs y)).all a_kn = true ∧ a_rcv (m_recv y) (st.take (m_nargs y)).reverse σ = true ∧ (a_lay (st.take (m_nargs y)).reverse).length ≤ m_maxL y then
      some (.inr (.inr (.inr (y, (st.take (m_nargs y)).reverse, len, ls, st.drop (m_nargs y), σ))))
    else none
  else if y = 1000 then pR st fun r st => if (σ.1 r).1 ≠ 0 ∧ a_sum st ≤ 8 then a_next (pc + len) ls st σ else none
  else if y = 1001 then match st with
    | .inl n :: .inl dp :: .inr (.inl d) :: .inl sp :: .inr (.inl s) :: st =>
      if (s ≠ d ∧ a_sum st ≤ 8) ∧ (σ.1 s).1 = 20 ∧ (σ.1 d).1 = 20 ∧ 0 ≤ sp ∧ 0 ≤ dp ∧ 0 ≤ n ∧ sp + n ≤ (σ.1 s).2 ∧ dp + n ≤ (σ.1 d).2 then
        a_next (pc + len) ls st (σ.1, upr σ.2.1 d (a_cpy (σ.2.1 s) (σ.2.1 d) sp.toNat dp.toNat n.toNat), σ.2.2.1, σ.2.2.2)
      else none
    | _ => none
  else if y = 1002 then pII st fun x y st => if a_sum st ≤ 8 then a_next (pc + len) ls (a_i (max x y) :: st) σ else none
  else if y = 1003 then pII st fun x y st => if a_sum st ≤ 8 then a_next (pc + len) ls (a_i (min x y) :: st) σ else none
  else none
def a_step (m pc : Nat) (i : Instr) (len : Nat) (ls st : List AV) (σ : AS) : Option SR :=
  match i with
  | .iconst n => a_next (pc + len) ls (a_i n :: st) σ
  | .bipush n => a_next (pc + len) ls (a_i n :: st) σ
  | .sipush n => a_next (pc + len) ls (a_i n :: st) σ
  | .lconst n => a_next (pc + len) ls (a_l n.val :: st) σ
  | .fconst n => if n = 0 then a_next (pc + len) ls (a_f 0 :: st) σ else none
  | .dconst n => if n = 0 then a_next (pc + len) ls (a_d 0 :: st) σ else none
  | .ldc idx => match c_int (m_own m) idx with
    | some z => a_next (pc + len) ls (a_i z :: st) σ
    | none => match c_str (m_own m) idx with
      | some q => a_next (pc + len) ls (a_r q :: st) σ
      | none => none
  | .ldc_w idx => match c_int (m_own m) idx with
    | some z => a_next (pc + len) ls (a_i z :: st) σ
    | none => none
  | .ldc2_w idx => match c_long (m_own m) idx with
    | some z => a_next (pc + len) ls (a_l z :: st) σ
    | none => none
  | .iload_n n => gI ls n.val fun z => a_next (pc + len) ls (a_i z :: st) σ
  | .iload n => gI ls n fun z => a_next (pc + len) ls (a_i z :: st) σ
  | .aload_n n => gA ls n.val fun z => a_next (pc + len) ls (z :: st) σ
  | .aload n => gA ls n fun z => a_next (pc + len) ls (z :: st) σ
  | .lload_n n => gL ls n.val fun z => a_next (pc + len) ls (a_l z :: st) σ
  | .lload n => gL ls n fun z => a_next (pc + len) ls (a_l z :: st) σ
  | .fload n => gF ls n fun z => a_next (pc + len) ls (a_f z :: st) σ
  | .dload n => gD ls n fun z => a_next (pc + len) ls (a_d z :: st) σ
  | .istore_n n => pI st fun z st => s1 ls n.val (a_i z) fun ls => a_next (pc + len) ls st σ
  | .istore n => pI st fun z st => s1 ls n (a_i z) fun ls => a_next (pc + len) ls st σ
  | .astore_n n => pA st fun a st => s1 ls n.val a fun ls => a_next (pc + len) ls st σ
  | .astore n => pA st fun a st => s1 ls n a fun ls => a_next (pc + len) ls st σ
  | .fstore n => pF st fun z st => s1 ls n (a_f z) fun ls => a_next (pc + len) ls st σ
  | .dstore n => pD st fun z st => s2 ls n (a_d z) fun ls => a_next (pc + len) ls st σ
  | .iinc n c => gI ls n fun z => s1 ls n (a_i (wr (z + c))) fun ls => a_next (pc + len) ls st σ
  | .pop => pV st fun a st => if a_kn a = true ∧ a_cat a = 1 then a_next (pc + len) ls st σ else none
  | .dup => pV st fun a st => if a_kn a = true ∧ a_cat a = 1 then a_next (pc + len) ls (a :: a :: st) σ else none
  | .dup2 => pV st fun a st => pV st fun b st => if a_kn a = true ∧ a_cat a = 1 ∧ a_kn b = true ∧ a_cat b = 1 then a_next (pc + len) ls (a :: b :: a :: b :: st) σ else none
  | .iadd => pII st fun x y st => a_next (pc + len) ls (a_i (wr (x + y)) :: st) σ
  | .isub => pII st fun x y st => a_next (pc + len) ls (a_i (wr (x - y)) :: st) σ
  | .imul => pII st fun x y st => a_next (pc + len) ls (a_i (wr (x * y)) :: st) σ
  | .idiv => pII st fun x y st => if y ≠ 0 then a_next (pc + len) ls (a_i (wr (x.tdiv y)) :: st) σ else none
  | .irem => pII st fun x y st => if y ≠ 0 then a_next (pc + len) ls (a_i (x.tmod y) :: st) σ else none
  | .iand => pII st fun x y st => a_next (pc + len) ls (a_i (zand x y) :: st) σ
  | .ior => pII st fun x y st => a_next (pc + len) ls (a_i (zor x y) :: st) σ
  | .ishl => pII st fun x y st => a_next (pc + len) ls (a_i (zshl x y) :: st) σ
  | .ishr => pII st fun x y st => a_next (pc + len) ls (a_i (zshr x y) :: st) σ
  | .iushr => pII st fun x y st => a_next (pc + len) ls (a_i (zushr x y) :: st) σ
  | .ladd => pLL st fun x y st => a_next (pc + len) ls (a_l (wl (x + y)) :: st) σ
  | .lmul => pLL st fun x y st => a_next (pc + len) ls (a_l (wl (x * y)) :: st) σ
  | .i2l => pI st fun x st => a_next (pc + len) ls (a_l x :: st) σ
  | .i2c => pI st fun x st => a_next (pc + len) ls (a_i (zchr x) :: st) σ
  | .i2f => pI st fun x st => a_next (pc + len) ls (a_f (FP.i2f (Int32.ofInt x)) :: st) σ
  | .i2d => pI st fun x st => a_next (pc + len) ls (a_d (FP.i2d (Int32.ofInt x)) :: st) σ
  | .fdiv => pFF st fun x y st => if FP.fdiv x y &&& 0x7fffffff ≤ 0x7f800000 then a_next (pc + len) ls (a_f (FP.fdiv x y) :: st) σ else none
  | .ddiv => pDD st fun x y st => if FP.ddiv x y &&& 0x7fffffffffffffff ≤ 0x7ff0000000000000 then a_next (pc + len) ls (a_d (FP.ddiv x y) :: st) σ else none
  | .f2d => pF st fun x st => if FP.f2d x &&& 0x7fffffffffffffff ≤ 0x7ff0000000000000 then a_next (pc + len) ls (a_d (FP.f2d x) :: st) σ else none
  | .lcmp => pLL st fun x y st => a_next (pc + len) ls (a_i (if x < y then -1 else if x = y then 0 else 1) :: st) σ
  | .fcmp op => pFF st fun x y st => a_next (pc + len) ls (a_i (Op.cmpValue (FP.fcmp x y) op).toInt :: st) σ
  | .dcmp op => pDD st fun x y st => a_next (pc + len) ls (a_i (Op.cmpValue (FP.dcmp x y) op).toInt :: st) σ
  | .ifCond c off => pI st fun x st => a_br (a_cond c x 0) pc off len ls st σ
  | .if_icmp c off => pII st fun x y st => a_br (a_cond c x y) pc off len ls st σ
  | .goto off => a_next (a_jmp pc off) ls st σ
  | .tableswitch dflt lo hi offs => pI st fun x st => if x < lo ∨ hi < x then a_next (a_jmp pc dflt) ls st σ else match offs[(x - lo).toNat]? with
    | some off => a_next (a_jmp pc off) ls st σ
    | none => none
  | .getfield idx => match c_fld (m_own m) idx with
    | some (c, k, t, _) => pR st fun r st => if (σ.1 r).1 = c then a_next (pc + len) ls ((if t = 6 then a_r (σ.2.2.1 r k) else a_i (σ.2.1 r k)) :: st) σ else none
    | none => none
  | .putfield idx => match c_fld (m_own m) idx with
    | some (c, k, t, fin) => if fin = true → m_init m = true then
        if t = 6 then match st with
          | .inr (.inl v) :: .inr (.inl r) :: st => if (σ.1 r).1 = c ∧ c < 20 then a_next (pc + len) ls st (a_setr σ r k v) else none
          | _ => none
        else match st with
          | .inl z :: .inr (.inl r) :: st => if (σ.1 r).1 = c ∧ c < 20 ∧ a_fit t z = true then a_next (pc + len) ls st (a_set σ r k z) else none
          | _ => none
      else none
    | none => none
  | .getstatic idx => match c_sta (m_own m) idx with
    | some a => a_next (pc + len) ls (a :: st) σ
    | none => none
  | .arraylength => pR st fun r st => if 20 ≤ (σ.1 r).1 ∧ (σ.1 r).1 ≠ 25 then a_next (pc + len) ls (a_i ((σ.1 r).2 : Int) :: st) σ else none
  | .iaload => pIR st fun r i st => if ((σ.1 r).1 = 20 ∨ (σ.1 r).1 = 24) ∧ a_in σ r i = true then a_next (pc + len) ls (a_i (σ.2.1 r i.toNat) :: st) σ else none
  | .baload => pIR st fun r i st => if ((σ.1 r).1 = 21 ∨ (σ.1 r).1 = 26) ∧ a_in σ r i = true then a_next (pc + len) ls (a_i (σ.2.1 r i.toNat) :: st) σ else none
  | .laload => pIR st fun r i st => if (σ.1 r).1 = 22 ∧ a_in σ r i = true then a_next (pc + len) ls (a_l (σ.2.1 r i.toNat) :: st) σ else none
  | .daload => pIR st fun r i st => if (σ.1 r).1 = 23 ∧ a_in σ r i = true then a_next (pc + len) ls (a_d (UInt64.ofNat (σ.2.1 r i.toNat).toNat) :: st) σ else none
  | .aaload => pIR st fun r i st => if 30 ≤ (σ.1 r).1 ∧ a_in σ r i = true then a_next (pc + len) ls (a_r (σ.2.2.1 r i.toNat) :: st) σ else none
  | .iastore => pVIR st fun r i v st => pI [v] fun z _ => if (σ.1 r).1 = 20 ∧ a_in σ r i = true then a_next (pc + len) ls st (a_set σ r i.toNat z) else none
  | .bastore => pVIR st fun r i v st => pI [v] fun z _ => if (σ.1 r).1 = 21 ∧ a_in σ r i = true ∧ a_fit 2 z = true then a_next (pc + len) ls st (a_set σ r i.toNat z) else none
  | .lastore => pVIR st fun r i v st => pL [v] fun z _ => if (σ.1 r).1 = 22 ∧ a_in σ r i = true then a_next (pc + len) ls st (a_set σ r i.toNat z) else none
  | .dastore => pVIR st fun r i v st => pD [v] fun z _ => if (σ.1 r).1 = 23 ∧ a_in σ r i = true then a_next (pc + len) ls st (a_set σ r i.toNat (z.toNat : Int)) else none
  | .aastore => pVIR st fun r i v st => pR [v] fun z _ => if 30 ≤ (σ.1 r).1 ∧ (σ.1 z).1 + 29 = (σ.1 r).1 ∧ (σ.1 z).1 ≠ 0 ∧ a_in σ r i = true then a_next (pc + len) ls st (a_setr σ r i.toNat z) else none
  | .new idx => match c_new (m_own m) idx with
    | some (.inl c) => a_next (pc + len) ls (a_r σ.2.2.2.1 :: st) (a_new σ (c + 1) 0 (k_size c))
    | some (.inr e) => if a_sum st ≤ 8 ∧ m_tabl m = false then some (.inr (.inr (.inl (e, a_thr σ)))) else none
    | none => none
  | .newarray t => match t with
    | .int => pI st fun n st => if 0 ≤ n ∧ n ≤ 65536 then a_next (pc + len) ls (a_r σ.2.2.2.1 :: st) (a_new σ 20 n.toNat n.toNat) else none
    | .boolean => pI st fun n st => if 0 ≤ n ∧ n ≤ 65536 then a_next (pc + len) ls (a_r σ.2.2.2.1 :: st) (a_new σ 21 n.toNat n.toNat) else none
    | .long => pI st fun n st => if 0 ≤ n ∧ n ≤ 65536 then a_next (pc + len) ls (a_r σ.2.2.2.1 :: st) (a_new σ 22 n.toNat n.toNat) else none
    | .double => pI st fun n st => if 0 ≤ n ∧ n ≤ 65536 then a_next (pc + len) ls (a_r σ.2.2.2.1 :: st) (a_new σ 23 n.toNat n.toNat) else none
    | _ => none
  | .anewarray idx => match c_new (m_own m) idx with
    | some (.inl c) => pI st fun n st => if 0 ≤ n ∧ n ≤ 65536 then a_next (pc + len) ls (a_r σ.2.2.2.1 :: st) (a_new σ (c + 30) n.toNat n.toNat) else none
    | _ => none
  | .invokevirtual idx => match c_cal (m_own m) idx with
    | some y => a_call y pc len ls st σ
    | none => none
  | .invokespecial idx => match c_cal (m_own m) idx with
    | some y => a_call y pc len ls st σ
    | none => none
  | .invokestatic idx => match c_cal (m_own m) idx with
    | some y => a_call y pc len ls st σ
    | none => none
  | .ireturn => match st with
    | [.inl z] => if a_fit (m_ret m) z = true then some (.inr (.inl (some (a_i z), σ))) else none
    | _ => none
  | .lreturn => match st with
    | [.inr (.inr (.inl z))] => if m_ret m = 3 then some (.inr (.inl (some (a_l z), σ))) else none
    | _ => none
  | .freturn => match st with
    | [.inr (.inr (.inr (.inl z)))] => if m_ret m = 4 then some (.inr (.inl (some (a_f z), σ))) else none
    | _ => none
  | .dreturn => match st with
    | [.inr (.inr (.inr (.inr (.inl z))))] => if m_ret m = 5 then some (.inr (.inl (some (a_d z), σ))) else none
    | _ => none
  | .areturn => match st with
    | [.inr (.inl z)] => if m_ret m = 6 then some (.inr (.inl (some (a_r z), σ))) else none
    | _ => none
  | .return_ => if m_ret m = 0 ∧ st = [] then some (.inr (.inl (none, σ))) else none
  | _ => none

def a_run : Nat → Nat → Nat → List AV → List AV → AS → Option (AO × AS)
  | 0, _, _, _, _, _ => none
  | n + 1, m, pc, ls, st, σ => match a_code m pc with
    | none => none
    | some (i, len) => match a_step m pc i len ls st σ with
      | none => none
      | some (.inl (pc1, ls1, st1, σ1)) => a_run n m pc1 ls1 st1 σ1
      | some (.inr (.inl (v, σ1))) => some (.inl v, σ1)
      | some (.inr (.inr (.inl (e, σ1)))) => some (.inr e, σ1)
      | some (.inr (.inr (.inr (y, args, len, ls1, st1, σ1)))) => match a_run n y 0 (a_entry y args) [] σ1 with
        | none => none
        | some (.inl v, σ2) => a_run n m (pc + len) ls1 (v.toList ++ st1) σ2
        | some (.inr e, σ2) => match m_hand m pc e with
          | none => if m_tabl m = true then none else some (.inr e, σ2)
          | some h => a_run n m h ls1 [a_x true] σ2
theorem a_run_mono : ∀ (n : Nat) {m pc : Nat} {ls st : List AV} {σ : AS} {r : AO × AS}, a_run n m pc ls st σ = some r → a_run (n + 1) m pc ls st σ = some r
  | 0, _, _, _, _, _, _, h => by simp [a_run] at h
  | n + 1, m, pc, ls, st, σ, r, h => by
    rw [a_run] at h ⊢
    split at h
    · cases h
    · rename_i i len hc
      split at h
      · cases h
      · exact a_run_mono n h
      · exact h
      · exact h
      · rename_i y args len1 ls1 st1 σ1 hs
        split at h
        · cases h
        · rename_i v σ2 hq
          have hq1 := a_run_mono n hq
          simp only [hq1]
          exact a_run_mono n h
        · rename_i e σ2 hq
          have hq1 := a_run_mono n hq
          simp only [hq1]
          split at h
          · exact h
          · exact a_run_mono n h
theorem a_run_le {n k : Nat} (hk : n ≤ k) {m pc : Nat} {ls st : List AV} {σ : AS} {r : AO × AS} (h : a_run n m pc ls st σ = some r) : a_run k m pc ls st σ = some r := by
  induction hk with
  | refl => exact h
  | step _ ih => exact a_run_mono _ ih
noncomputable def a_X (m pc : Nat) (ls st : List AV) (σ : AS) : Option (AO × AS) :=
  @dite _ (∃ r, ∃ n, a_run n m pc ls st σ = some r) (Classical.propDecidable _) (fun h => some (Classical.choose h)) (fun _ => none)
theorem a_X_iff {m pc : Nat} {ls st : List AV} {σ : AS} {r : AO × AS} : a_X m pc ls st σ = some r ↔ ∃ n, a_run n m pc ls st σ = some r := by
  unfold a_X
  constructor
  · intro h
    split at h
    · rename_i hq
      cases h
      exact Classical.choose_spec hq
    · cases h
  · rintro ⟨n, h⟩
    have hq : ∃ r, ∃ n, a_run n m pc ls st σ = some r := ⟨r, n, h⟩
    rw [dif_pos hq]
    obtain ⟨k, hk⟩ := Classical.choose_spec hq
    have h1 := a_run_le (Nat.le_max_left n k) h
    have h2 := a_run_le (Nat.le_max_right n k) hk
    rw [h1] at h2
    exact h2.symm
/-- a call -/
noncomputable def a_m (y : Nat) (args : List AV) (σ : AS) : Option (AO × AS) := a_X y 0 (a_entry y args) [] σ
theorem a_ext {a b : Option (AO × AS)} (h : ∀ r, a = some r ↔ b = some r) : a = b := Option.ext h
noncomputable def a_back (m pc len : Nat) (ls st : List AV) (q : AO × AS) : Option (AO × AS) := match q with
  | (.inl v, σ) => a_X m (pc + len) ls (v.toList ++ st) σ
  | (.inr e, σ) => match m_hand m pc e with
    | none => if m_tabl m = true then none else some (.inr e, σ)
    | some h => a_X m h ls [a_x true] σ
noncomputable def a_fin (m pc : Nat) (q : Option SR) : Option (AO × AS) := match q with
  | none => none
  | some (.inl (pc1, ls1, st1, σ1)) => a_X m pc1 ls1 st1 σ1
  | some (.inr (.inl (v, σ1))) => some (.inl v, σ1)
  | some (.inr (.inr (.inl (e, σ1)))) => some (.inr e, σ1)
  | some (.inr (.inr (.inr (y, args, len, ls1, st1, σ1)))) => (a_m y args σ1).bind (a_back m pc len ls1 st1)
theorem a_X_step1 {m pc : Nat} {ls st : List AV} {σ : AS} {i : Instr} {len : Nat} (hc : a_code m pc = some (i, len)) :
    a_X m pc ls st σ = match a_step m pc i len ls st σ with
      | none => none
      | some (.inl (pc1, ls1, st1, σ1)) => a_X m pc1 ls1 st1 σ1
      | some (.inr (.inl (v, σ1))) => some (.inl v, σ1)
      | some (.inr (.inr (.inl (e, σ1)))) => some (.inr e, σ1)
      | some (.inr (.inr (.inr (y, args, len, ls1, st1, σ1)))) => (a_m y args σ1).bind (a_back m pc len ls1 st1) := by
  apply a_ext
  intro r
  rw [a_X_iff]
  have key : ∀ n, a_run (n + 1) m pc ls st σ = match a_step m pc i len ls st σ with
      | none => none
      | some (.inl (pc1, ls1, st1, σ1)) => a_run n m pc1 ls1 st1 σ1
      | some (.inr (.inl (v, σ1))) => some (.inl v, σ1)
      | some (.inr (.inr (.inl (e, σ1)))) => some (.inr e, σ1)
      | some (.inr (.inr (.inr (y, args, len, ls1, st1, σ1)))) => match a_run n y 0 (a_entry y args) [] σ1 with
        | none => none
        | some (.inl v, σ2) => a_run n m (pc + len) ls1 (v.toList ++ st1) σ2
        | some (.inr e, σ2) => match m_hand m pc e with
          | none => if m_tabl m = true then none else some (.inr e, σ2)
          | some h => a_run n m h ls1 [a_x true] σ2 := by
    intro n
    rw [a_run, hc]
  have e1 : (∃ n, a_run n m pc ls st σ = some r) ↔ ∃ n, a_run (n + 1) m pc ls st σ = some r := ⟨fun ⟨n, h⟩ => ⟨n, a_run_mono n h⟩, fun ⟨n, h⟩ => ⟨n + 1, h⟩⟩
  rw [e1]
  simp only [key]
  split
  · simp
  · rw [a_X_iff]
  · simp
  · simp
  · rename_i y args len1 ls1 st1 σ1 hs
    constructor
    · rintro ⟨n, h⟩
      split at h
      · cases h
      · rename_i v σ2 hq
        rw [show a_m y args σ1 = some (.inl v, σ2) from a_X_iff.mpr ⟨n, hq⟩]
        exact a_X_iff.mpr ⟨n, h⟩
      · rename_i e σ2 hq
        rw [show a_m y args σ1 = some (.inr e, σ2) from a_X_iff.mpr ⟨n, hq⟩]
        show (match m_hand m pc e with
          | none => if m_tabl m = true then none else some (.inr e, σ2)
          | some h => a_X m h ls1 [a_x true] σ2) = some r
        split at h
        · exact h
        · rename_i h9 hh
          exact a_X_iff.mpr ⟨n, h⟩
    · intro h
      cases hq : a_m y args σ1 with
      | none => rw [hq] at h; cases h
      | some q =>
        rw [hq] at h
        obtain ⟨n, hn⟩ := a_X_iff.mp hq
        obtain ⟨o, σ2⟩ := q
        cases o with
        | inl v =>
          obtain ⟨k, hk⟩ := a_X_iff.mp (show a_X m (pc + len1) ls1 (v.toList ++ st1) σ2 = some r from h)
          refine ⟨max n k, ?_⟩
          rw [a_run_le (Nat.le_max_left n k) hn]
          exact a_run_le (Nat.le_max_right n k) hk
        | inr e =>
          have h' : (match m_hand m pc e with
            | none => if m_tabl m = true then none else some (.inr e, σ2)
            | some h => a_X m h ls1 [a_x true] σ2) = some r := h
          cases hh : m_hand m pc e with
          | none =>
            rw [hh] at h'
            refine ⟨n, ?_⟩
            rw [hn]
            simp only [hh]
            exact h'
          | some h9 =>
            rw [hh] at h'
            obtain ⟨k, hk⟩ := a_X_iff.mp h'
            refine ⟨max n k, ?_⟩
            rw [a_run_le (Nat.le_max_left n k) hn]
            simp only [hh]
            exact a_run_le (Nat.le_max_right n k) hk
theorem a_X_step {m pc : Nat} {ls st : List AV} {σ : AS} {i : Instr} {len : Nat} (hc : a_code m pc = some (i, len)) : a_X m pc ls st σ = a_fin m pc (a_step m pc i len ls st σ) := a_X_step1 hc
