/-! ===== one equation an instruction of the abstract machine (by wip/whole/gen_instr.py) ===== -/
section XI
variable {m pc : Nat} {ls st : List AV} {k : Nat → Nat × Nat} {u : Nat → Nat → Int} {g : Nat → Nat → Nat} {t : Nat × Nat × Nat}
theorem X_iconst {n : Int} (hc : a_code m pc = some (.iconst n, 1)) : a_X m pc ls (st) (k, u, g, t) = a_X m (pc + 1) ls (a_i n :: st) (k, u, g, t) := by
  rw [a_X_step hc]
  rfl
theorem X_bipush {n : Int} (hc : a_code m pc = some (.bipush n, 2)) : a_X m pc ls (st) (k, u, g, t) = a_X m (pc + 2) ls (a_i n :: st) (k, u, g, t) := by
  rw [a_X_step hc]
  rfl
theorem X_sipush {n : Int} (hc : a_code m pc = some (.sipush n, 3)) : a_X m pc ls (st) (k, u, g, t) = a_X m (pc + 3) ls (a_i n :: st) (k, u, g, t) := by
  rw [a_X_step hc]
  rfl
theorem X_lconst {n : Fin 2} (hc : a_code m pc = some (.lconst n, 1)) : a_X m pc ls (st) (k, u, g, t) = a_X m (pc + 1) ls (a_l n.val :: st) (k, u, g, t) := by
  rw [a_X_step hc]
  rfl
theorem X_fconst0 (hc : a_code m pc = some (.fconst 0, 1)) : a_X m pc ls (st) (k, u, g, t) = a_X m (pc + 1) ls (a_f 0 :: st) (k, u, g, t) := by
  rw [a_X_step hc]
  rfl
theorem X_dconst0 (hc : a_code m pc = some (.dconst 0, 1)) : a_X m pc ls (st) (k, u, g, t) = a_X m (pc + 1) ls (a_d 0 :: st) (k, u, g, t) := by
  rw [a_X_step hc]
  rfl
theorem X_ldc {n : Nat} {z : Int} (hc : a_code m pc = some (.ldc n, 2)) (hz : c_int (m_own m) n = some z) : a_X m pc ls (st) (k, u, g, t) = a_X m (pc + 2) ls (a_i z :: st) (k, u, g, t) := by
  rw [a_X_step hc]
  simp only [a_step, hz, a_next]
  rfl
theorem X_ldcs {n q : Nat} (hc : a_code m pc = some (.ldc n, 2)) (hz : c_int (m_own m) n = none) (hq : c_str (m_own m) n = some q) : a_X m pc ls (st) (k, u, g, t) = a_X m (pc + 2) ls (a_r q :: st) (k, u, g, t) := by
  rw [a_X_step hc]
  simp only [a_step, hz, hq, a_next]
  rfl
theorem X_ldcw {n : Nat} {z : Int} (hc : a_code m pc = some (.ldc_w n, 3)) (hz : c_int (m_own m) n = some z) : a_X m pc ls (st) (k, u, g, t) = a_X m (pc + 3) ls (a_i z :: st) (k, u, g, t) := by
  rw [a_X_step hc]
  simp only [a_step, hz, a_next]
  rfl
theorem X_ldc2 {n : Nat} {z : Int} (hc : a_code m pc = some (.ldc2_w n, 3)) (hz : c_long (m_own m) n = some z) : a_X m pc ls (st) (k, u, g, t) = a_X m (pc + 3) ls (a_l z :: st) (k, u, g, t) := by
  rw [a_X_step hc]
  simp only [a_step, hz, a_next]
  rfl
theorem X_iload_n {n : Fin 4} {z : Int} (hc : a_code m pc = some (.iload_n n, 1)) (hl : ls[n.val]? = some (a_i z)) : a_X m pc ls (st) (k, u, g, t) = a_X m (pc + 1) ls (a_i z :: st) (k, u, g, t) := by
  rw [a_X_step hc]
  simp only [a_step, gI, hl, a_next]
  rfl
theorem X_iload {n : Nat} {z : Int} (hc : a_code m pc = some (.iload n, 2)) (hl : ls[n]? = some (a_i z)) : a_X m pc ls (st) (k, u, g, t) = a_X m (pc + 2) ls (a_i z :: st) (k, u, g, t) := by
  rw [a_X_step hc]
  simp only [a_step, gI, hl, a_next]
  rfl
theorem X_lload_n {n : Fin 4} {z : Int} (hc : a_code m pc = some (.lload_n n, 1)) (hl : ls[n.val]? = some (a_l z)) : a_X m pc ls (st) (k, u, g, t) = a_X m (pc + 1) ls (a_l z :: st) (k, u, g, t) := by
  rw [a_X_step hc]
  simp only [a_step, gL, hl, a_next]
  rfl
theorem X_lload {n : Nat} {z : Int} (hc : a_code m pc = some (.lload n, 2)) (hl : ls[n]? = some (a_l z)) : a_X m pc ls (st) (k, u, g, t) = a_X m (pc + 2) ls (a_l z :: st) (k, u, g, t) := by
  rw [a_X_step hc]
  simp only [a_step, gL, hl, a_next]
  rfl
theorem X_fload {n : Nat} {z : UInt32} (hc : a_code m pc = some (.fload n, 2)) (hl : ls[n]? = some (a_f z)) : a_X m pc ls (st) (k, u, g, t) = a_X m (pc + 2) ls (a_f z :: st) (k, u, g, t) := by
  rw [a_X_step hc]
  simp only [a_step, gF, hl, a_next]
  rfl
theorem X_dload {n : Nat} {z : UInt64} (hc : a_code m pc = some (.dload n, 2)) (hl : ls[n]? = some (a_d z)) : a_X m pc ls (st) (k, u, g, t) = a_X m (pc + 2) ls (a_d z :: st) (k, u, g, t) := by
  rw [a_X_step hc]
  simp only [a_step, gD, hl, a_next]
  rfl
theorem X_aload_n {n : Fin 4} {z : Nat} (hc : a_code m pc = some (.aload_n n, 1)) (hl : ls[n.val]? = some (a_r z)) : a_X m pc ls (st) (k, u, g, t) = a_X m (pc + 1) ls (a_r z :: st) (k, u, g, t) := by
  rw [a_X_step hc]
  simp only [a_step, gA, hl, a_next]
  rfl
theorem X_aload {n : Nat} {z : Nat} (hc : a_code m pc = some (.aload n, 2)) (hl : ls[n]? = some (a_r z)) : a_X m pc ls (st) (k, u, g, t) = a_X m (pc + 2) ls (a_r z :: st) (k, u, g, t) := by
  rw [a_X_step hc]
  simp only [a_step, gA, hl, a_next]
  rfl
theorem X_istore_n {n : Fin 4} {z : Int} {ls1 : List AV} (hc : a_code m pc = some (.istore_n n, 1)) (hf : a_free ls n.val = true) (hn : n.val < ls.length) (hl : ls.set n.val (a_i z) = ls1) : a_X m pc ls (a_i z :: st) (k, u, g, t) = a_X m (pc + 1) ls1 st (k, u, g, t) := by
  rw [a_X_step hc]
  subst hl
  simp only [a_step, pI, s1, hf, hn, and_self, if_true, a_next]
  rfl
theorem X_istore {n : Nat} {z : Int} {ls1 : List AV} (hc : a_code m pc = some (.istore n, 2)) (hf : a_free ls n = true) (hn : n < ls.length) (hl : ls.set n (a_i z) = ls1) : a_X m pc ls (a_i z :: st) (k, u, g, t) = a_X m (pc + 2) ls1 st (k, u, g, t) := by
  rw [a_X_step hc]
  subst hl
  simp only [a_step, pI, s1, hf, hn, and_self, if_true, a_next]
  rfl
theorem X_astore_n {n : Fin 4} {z : Nat} {ls1 : List AV} (hc : a_code m pc = some (.astore_n n, 1)) (hf : a_free ls n.val = true) (hn : n.val < ls.length) (hl : ls.set n.val (a_r z) = ls1) : a_X m pc ls (a_r z :: st) (k, u, g, t) = a_X m (pc + 1) ls1 st (k, u, g, t) := by
  rw [a_X_step hc]
  subst hl
  simp only [a_step, pA, s1, hf, hn, and_self, if_true, a_next]
  rfl
theorem X_astore {n : Nat} {z : Nat} {ls1 : List AV} (hc : a_code m pc = some (.astore n, 2)) (hf : a_free ls n = true) (hn : n < ls.length) (hl : ls.set n (a_r z) = ls1) : a_X m pc ls (a_r z :: st) (k, u, g, t) = a_X m (pc + 2) ls1 st (k, u, g, t) := by
  rw [a_X_step hc]
  subst hl
  simp only [a_step, pA, s1, hf, hn, and_self, if_true, a_next]
  rfl
theorem X_fstore {n : Nat} {z : UInt32} {ls1 : List AV} (hc : a_code m pc = some (.fstore n, 2)) (hf : a_free ls n = true) (hn : n < ls.length) (hl : ls.set n (a_f z) = ls1) : a_X m pc ls (a_f z :: st) (k, u, g, t) = a_X m (pc + 2) ls1 st (k, u, g, t) := by
  rw [a_X_step hc]
  subst hl
  simp only [a_step, pF, s1, hf, hn, and_self, if_true, a_next]
  rfl
theorem X_dstore {n : Nat} {z : UInt64} {ls1 : List AV} (hc : a_code m pc = some (.dstore n, 2)) (hf : a_free ls n = true) (hn : n + 1 < ls.length) (hl : (ls.set n (a_d z)).set (n + 1) (a_x false) = ls1) : a_X m pc ls (a_d z :: st) (k, u, g, t) = a_X m (pc + 2) ls1 st (k, u, g, t) := by
  rw [a_X_step hc]
  subst hl
  simp only [a_step, pD, s2, hf, hn, and_self, if_true, a_next]
  rfl
theorem X_astoreX_n {n : Fin 4} {ls1 : List AV} (hc : a_code m pc = some (.astore_n n, 1)) (hf : a_free ls n.val = true) (hn : n.val < ls.length) (hl : ls.set n.val (a_x true) = ls1) : a_X m pc ls (a_x true :: st) (k, u, g, t) = a_X m (pc + 1) ls1 st (k, u, g, t) := by
  rw [a_X_step hc]
  subst hl
  simp only [a_step, pA, s1, hf, hn, and_self, if_true, a_next]
  rfl
theorem X_astoreX {n : Nat} {ls1 : List AV} (hc : a_code m pc = some (.astore n, 2)) (hf : a_free ls n = true) (hn : n < ls.length) (hl : ls.set n (a_x true) = ls1) : a_X m pc ls (a_x true :: st) (k, u, g, t) = a_X m (pc + 2) ls1 st (k, u, g, t) := by
  rw [a_X_step hc]
  subst hl
  simp only [a_step, pA, s1, hf, hn, and_self, if_true, a_next]
  rfl
theorem X_iinc {n : Nat} {c z : Int} {ls1 : List AV} (hc : a_code m pc = some (.iinc n c, 3)) (hz : ls[n]? = some (a_i z)) (hf : a_free ls n = true) (hn : n < ls.length) (hl : ls.set n (a_i (wr (z + c))) = ls1) : a_X m pc ls (st) (k, u, g, t) = a_X m (pc + 3) ls1 st (k, u, g, t) := by
  rw [a_X_step hc]
  subst hl
  simp only [a_step, gI, hz, s1, hf, hn, and_self, if_true, a_next]
  rfl
theorem X_pop {a : AV} (hc : a_code m pc = some (.pop, 1)) (h1 : a_kn a = true) (h2 : a_cat a = 1) : a_X m pc ls (a :: st) (k, u, g, t) = a_X m (pc + 1) ls (st) (k, u, g, t) := by
  rw [a_X_step hc]
  simp only [a_step, pV, h1, h2, and_self, if_true, a_next]
  rfl
theorem X_dup {a : AV} (hc : a_code m pc = some (.dup, 1)) (h1 : a_kn a = true) (h2 : a_cat a = 1) : a_X m pc ls (a :: st) (k, u, g, t) = a_X m (pc + 1) ls (a :: a :: st) (k, u, g, t) := by
  rw [a_X_step hc]
  simp only [a_step, pV, h1, h2, and_self, if_true, a_next]
  rfl
theorem X_dup2 {a b : AV} (hc : a_code m pc = some (.dup2, 1)) (h1 : a_kn a = true) (h2 : a_cat a = 1) (h3 : a_kn b = true) (h4 : a_cat b = 1) : a_X m pc ls (a :: b :: st) (k, u, g, t) = a_X m (pc + 1) ls (a :: b :: a :: b :: st) (k, u, g, t) := by
  rw [a_X_step hc]
  simp only [a_step, pV, h1, h2, h3, h4, and_self, if_true, a_next]
  rfl
theorem X_iadd {x y : Int} (hc : a_code m pc = some (.iadd, 1)) : a_X m pc ls (a_i y :: a_i x :: st) (k, u, g, t) = a_X m (pc + 1) ls (a_i (wr (x + y)) :: st) (k, u, g, t) := by
  rw [a_X_step hc]
  rfl
theorem X_isub {x y : Int} (hc : a_code m pc = some (.isub, 1)) : a_X m pc ls (a_i y :: a_i x :: st) (k, u, g, t) = a_X m (pc + 1) ls (a_i (wr (x - y)) :: st) (k, u, g, t) := by
  rw [a_X_step hc]
  rfl
theorem X_imul {x y : Int} (hc : a_code m pc = some (.imul, 1)) : a_X m pc ls (a_i y :: a_i x :: st) (k, u, g, t) = a_X m (pc + 1) ls (a_i (wr (x * y)) :: st) (k, u, g, t) := by
  rw [a_X_step hc]
  rfl
theorem X_iand {x y : Int} (hc : a_code m pc = some (.iand, 1)) : a_X m pc ls (a_i y :: a_i x :: st) (k, u, g, t) = a_X m (pc + 1) ls (a_i (zand x y) :: st) (k, u, g, t) := by
  rw [a_X_step hc]
  rfl
theorem X_ior {x y : Int} (hc : a_code m pc = some (.ior, 1)) : a_X m pc ls (a_i y :: a_i x :: st) (k, u, g, t) = a_X m (pc + 1) ls (a_i (zor x y) :: st) (k, u, g, t) := by
  rw [a_X_step hc]
  rfl
theorem X_ishl {x y : Int} (hc : a_code m pc = some (.ishl, 1)) : a_X m pc ls (a_i y :: a_i x :: st) (k, u, g, t) = a_X m (pc + 1) ls (a_i (zshl x y) :: st) (k, u, g, t) := by
  rw [a_X_step hc]
  rfl
theorem X_ishr {x y : Int} (hc : a_code m pc = some (.ishr, 1)) : a_X m pc ls (a_i y :: a_i x :: st) (k, u, g, t) = a_X m (pc + 1) ls (a_i (zshr x y) :: st) (k, u, g, t) := by
  rw [a_X_step hc]
  rfl
theorem X_iushr {x y : Int} (hc : a_code m pc = some (.iushr, 1)) : a_X m pc ls (a_i y :: a_i x :: st) (k, u, g, t) = a_X m (pc + 1) ls (a_i (zushr x y) :: st) (k, u, g, t) := by
  rw [a_X_step hc]
  rfl
theorem X_idiv {x y : Int} (hc : a_code m pc = some (.idiv, 1)) : a_X m pc ls (a_i y :: a_i x :: st) (k, u, g, t) = if y ≠ 0 then a_X m (pc + 1) ls (a_i (wr (x.tdiv y)) :: st) (k, u, g, t) else none := by
  rw [a_X_step hc]
  simp only [a_step, pII, a_next]
  rw [apply_ite (a_fin m pc)]; rfl
theorem X_irem {x y : Int} (hc : a_code m pc = some (.irem, 1)) : a_X m pc ls (a_i y :: a_i x :: st) (k, u, g, t) = if y ≠ 0 then a_X m (pc + 1) ls (a_i (x.tmod y) :: st) (k, u, g, t) else none := by
  rw [a_X_step hc]
  simp only [a_step, pII, a_next]
  rw [apply_ite (a_fin m pc)]; rfl
theorem X_ladd {x y : Int} (hc : a_code m pc = some (.ladd, 1)) : a_X m pc ls (a_l y :: a_l x :: st) (k, u, g, t) = a_X m (pc + 1) ls (a_l (wl (x + y)) :: st) (k, u, g, t) := by
  rw [a_X_step hc]
  rfl
theorem X_lmul {x y : Int} (hc : a_code m pc = some (.lmul, 1)) : a_X m pc ls (a_l y :: a_l x :: st) (k, u, g, t) = a_X m (pc + 1) ls (a_l (wl (x * y)) :: st) (k, u, g, t) := by
  rw [a_X_step hc]
  rfl
theorem X_i2l {x : Int} (hc : a_code m pc = some (.i2l, 1)) : a_X m pc ls (a_i x :: st) (k, u, g, t) = a_X m (pc + 1) ls (a_l x :: st) (k, u, g, t) := by
  rw [a_X_step hc]
  rfl
theorem X_i2c {x : Int} (hc : a_code m pc = some (.i2c, 1)) : a_X m pc ls (a_i x :: st) (k, u, g, t) = a_X m (pc + 1) ls (a_i (zchr x) :: st) (k, u, g, t) := by
  rw [a_X_step hc]
  rfl
theorem X_i2f {x : Int} (hc : a_code m pc = some (.i2f, 1)) : a_X m pc ls (a_i x :: st) (k, u, g, t) = a_X m (pc + 1) ls (a_f (FP.i2f (Int32.ofInt x)) :: st) (k, u, g, t) := by
  rw [a_X_step hc]
  rfl
theorem X_i2d {x : Int} (hc : a_code m pc = some (.i2d, 1)) : a_X m pc ls (a_i x :: st) (k, u, g, t) = a_X m (pc + 1) ls (a_d (FP.i2d (Int32.ofInt x)) :: st) (k, u, g, t) := by
  rw [a_X_step hc]
  rfl
theorem X_fdiv {x y : UInt32} (hc : a_code m pc = some (.fdiv, 1)) : a_X m pc ls (a_f y :: a_f x :: st) (k, u, g, t) = if FP.fdiv x y &&& 0x7fffffff ≤ 0x7f800000 then a_X m (pc + 1) ls (a_f (FP.fdiv x y) :: st) (k, u, g, t) else none := by
  rw [a_X_step hc]
  simp only [a_step, pFF, a_next]
  rw [apply_ite (a_fin m pc)]; rfl
theorem X_ddiv {x y : UInt64} (hc : a_code m pc = some (.ddiv, 1)) : a_X m pc ls (a_d y :: a_d x :: st) (k, u, g, t) = if FP.ddiv x y &&& 0x7fffffffffffffff ≤ 0x7ff0000000000000 then a_X m (pc + 1) ls (a_d (FP.ddiv x y) :: st) (k, u, g, t) else none := by
  rw [a_X_step hc]
  simp only [a_step, pDD, a_next]
  rw [apply_ite (a_fin m pc)]; rfl
theorem X_f2d {x : UInt32} (hc : a_code m pc = some (.f2d, 1)) : a_X m pc ls (a_f x :: st) (k, u, g, t) = if FP.f2d x &&& 0x7fffffffffffffff ≤ 0x7ff0000000000000 then a_X m (pc + 1) ls (a_d (FP.f2d x) :: st) (k, u, g, t) else none := by
  rw [a_X_step hc]
  simp only [a_step, pF, a_next]
  rw [apply_ite (a_fin m pc)]; rfl
theorem X_lcmp {x y : Int} (hc : a_code m pc = some (.lcmp, 1)) : a_X m pc ls (a_l y :: a_l x :: st) (k, u, g, t) = a_X m (pc + 1) ls (a_i (if x < y then -1 else if x = y then 0 else 1) :: st) (k, u, g, t) := by
  rw [a_X_step hc]
  rfl
theorem X_fcmp {x y : UInt32} {op : ClassFile.CmpOp} (hc : a_code m pc = some (.fcmp op, 1)) : a_X m pc ls (a_f y :: a_f x :: st) (k, u, g, t) = a_X m (pc + 1) ls (a_i (Op.cmpValue (FP.fcmp x y) op).toInt :: st) (k, u, g, t) := by
  rw [a_X_step hc]
  rfl
theorem X_dcmp {x y : UInt64} {op : ClassFile.CmpOp} (hc : a_code m pc = some (.dcmp op, 1)) : a_X m pc ls (a_d y :: a_d x :: st) (k, u, g, t) = a_X m (pc + 1) ls (a_i (Op.cmpValue (FP.dcmp x y) op).toInt :: st) (k, u, g, t) := by
  rw [a_X_step hc]
  rfl
theorem X_if_eq {x off : Int} {tg : Nat} (hc : a_code m pc = some (.ifCond .eq off, 3)) (hj : a_jmp pc off = tg) : a_X m pc ls (a_i x :: st) (k, u, g, t) = if x = 0 then a_X m tg ls st (k, u, g, t) else a_X m (pc + 3) ls (st) (k, u, g, t) := by
  rw [a_X_step hc]
  simp only [a_step, pI, a_br, a_cond, a_next, hj, decide_eq_true_eq]
  show a_X m (ite _ _ _) ls st _ = _
  split <;> rfl
theorem X_ic_eq {x y off : Int} {tg : Nat} (hc : a_code m pc = some (.if_icmp .eq off, 3)) (hj : a_jmp pc off = tg) : a_X m pc ls (a_i y :: a_i x :: st) (k, u, g, t) = if x = y then a_X m tg ls st (k, u, g, t) else a_X m (pc + 3) ls (st) (k, u, g, t) := by
  rw [a_X_step hc]
  simp only [a_step, pII, a_br, a_cond, a_next, hj, decide_eq_true_eq]
  show a_X m (ite _ _ _) ls st _ = _
  split <;> rfl
theorem X_if_ne {x off : Int} {tg : Nat} (hc : a_code m pc = some (.ifCond .ne off, 3)) (hj : a_jmp pc off = tg) : a_X m pc ls (a_i x :: st) (k, u, g, t) = if x ≠ 0 then a_X m tg ls st (k, u, g, t) else a_X m (pc + 3) ls (st) (k, u, g, t) := by
  rw [a_X_step hc]
  simp only [a_step, pI, a_br, a_cond, a_next, hj, decide_eq_true_eq]
  show a_X m (ite _ _ _) ls st _ = _
  split <;> rfl
theorem X_ic_ne {x y off : Int} {tg : Nat} (hc : a_code m pc = some (.if_icmp .ne off, 3)) (hj : a_jmp pc off = tg) : a_X m pc ls (a_i y :: a_i x :: st) (k, u, g, t) = if x ≠ y then a_X m tg ls st (k, u, g, t) else a_X m (pc + 3) ls (st) (k, u, g, t) := by
  rw [a_X_step hc]
  simp only [a_step, pII, a_br, a_cond, a_next, hj, decide_eq_true_eq]
  show a_X m (ite _ _ _) ls st _ = _
  split <;> rfl
theorem X_if_lt {x off : Int} {tg : Nat} (hc : a_code m pc = some (.ifCond .lt off, 3)) (hj : a_jmp pc off = tg) : a_X m pc ls (a_i x :: st) (k, u, g, t) = if x < 0 then a_X m tg ls st (k, u, g, t) else a_X m (pc + 3) ls (st) (k, u, g, t) := by
  rw [a_X_step hc]
  simp only [a_step, pI, a_br, a_cond, a_next, hj, decide_eq_true_eq]
  show a_X m (ite _ _ _) ls st _ = _
  split <;> rfl
theorem X_ic_lt {x y off : Int} {tg : Nat} (hc : a_code m pc = some (.if_icmp .lt off, 3)) (hj : a_jmp pc off = tg) : a_X m pc ls (a_i y :: a_i x :: st) (k, u, g, t) = if x < y then a_X m tg ls st (k, u, g, t) else a_X m (pc + 3) ls (st) (k, u, g, t) := by
  rw [a_X_step hc]
  simp only [a_step, pII, a_br, a_cond, a_next, hj, decide_eq_true_eq]
  show a_X m (ite _ _ _) ls st _ = _
  split <;> rfl
theorem X_if_ge {x off : Int} {tg : Nat} (hc : a_code m pc = some (.ifCond .ge off, 3)) (hj : a_jmp pc off = tg) : a_X m pc ls (a_i x :: st) (k, u, g, t) = if x ≥ 0 then a_X m tg ls st (k, u, g, t) else a_X m (pc + 3) ls (st) (k, u, g, t) := by
  rw [a_X_step hc]
  simp only [a_step, pI, a_br, a_cond, a_next, hj, decide_eq_true_eq]
  show a_X m (ite _ _ _) ls st _ = _
  split <;> rfl
theorem X_ic_ge {x y off : Int} {tg : Nat} (hc : a_code m pc = some (.if_icmp .ge off, 3)) (hj : a_jmp pc off = tg) : a_X m pc ls (a_i y :: a_i x :: st) (k, u, g, t) = if x ≥ y then a_X m tg ls st (k, u, g, t) else a_X m (pc + 3) ls (st) (k, u, g, t) := by
  rw [a_X_step hc]
  simp only [a_step, pII, a_br, a_cond, a_next, hj, decide_eq_true_eq]
  show a_X m (ite _ _ _) ls st _ = _
  split <;> rfl
theorem X_if_gt {x off : Int} {tg : Nat} (hc : a_code m pc = some (.ifCond .gt off, 3)) (hj : a_jmp pc off = tg) : a_X m pc ls (a_i x :: st) (k, u, g, t) = if x > 0 then a_X m tg ls st (k, u, g, t) else a_X m (pc + 3) ls (st) (k, u, g, t) := by
  rw [a_X_step hc]
  simp only [a_step, pI, a_br, a_cond, a_next, hj, decide_eq_true_eq]
  show a_X m (ite _ _ _) ls st _ = _
  split <;> rfl
theorem X_ic_gt {x y off : Int} {tg : Nat} (hc : a_code m pc = some (.if_icmp .gt off, 3)) (hj : a_jmp pc off = tg) : a_X m pc ls (a_i y :: a_i x :: st) (k, u, g, t) = if x > y then a_X m tg ls st (k, u, g, t) else a_X m (pc + 3) ls (st) (k, u, g, t) := by
  rw [a_X_step hc]
  simp only [a_step, pII, a_br, a_cond, a_next, hj, decide_eq_true_eq]
  show a_X m (ite _ _ _) ls st _ = _
  split <;> rfl
theorem X_if_le {x off : Int} {tg : Nat} (hc : a_code m pc = some (.ifCond .le off, 3)) (hj : a_jmp pc off = tg) : a_X m pc ls (a_i x :: st) (k, u, g, t) = if x ≤ 0 then a_X m tg ls st (k, u, g, t) else a_X m (pc + 3) ls (st) (k, u, g, t) := by
  rw [a_X_step hc]
  simp only [a_step, pI, a_br, a_cond, a_next, hj, decide_eq_true_eq]
  show a_X m (ite _ _ _) ls st _ = _
  split <;> rfl
theorem X_ic_le {x y off : Int} {tg : Nat} (hc : a_code m pc = some (.if_icmp .le off, 3)) (hj : a_jmp pc off = tg) : a_X m pc ls (a_i y :: a_i x :: st) (k, u, g, t) = if x ≤ y then a_X m tg ls st (k, u, g, t) else a_X m (pc + 3) ls (st) (k, u, g, t) := by
  rw [a_X_step hc]
  simp only [a_step, pII, a_br, a_cond, a_next, hj, decide_eq_true_eq]
  show a_X m (ite _ _ _) ls st _ = _
  split <;> rfl
theorem X_goto {off : Int} {tg : Nat} (hc : a_code m pc = some (.goto off, 3)) (hj : a_jmp pc off = tg) : a_X m pc ls (st) (k, u, g, t) = a_X m tg ls st (k, u, g, t) := by
  rw [a_X_step hc]
  simp only [a_step, a_next, hj]
  rfl
theorem X_table {x d lo hi : Int} {offs : Array Int} {len : Nat} (hc : a_code m pc = some (.tableswitch d lo hi offs, len)) : a_X m pc ls (a_i x :: st) (k, u, g, t) = if x < lo ∨ hi < x then a_X m (a_jmp pc d) ls st (k, u, g, t) else match offs[(x - lo).toNat]? with
    | some off => a_X m (a_jmp pc off) ls st (k, u, g, t)
    | none => none := by
  rw [a_X_step hc]
  simp only [a_step, pI, a_next]
  rw [apply_ite (a_fin m pc)]
  by_cases h : x < lo ∨ hi < x
  · simp only [if_pos h]; rfl
  · simp only [if_neg h]
    cases offs[(x - lo).toNat]? <;> rfl
/-- a table of jumps by its places -/
theorem X_tableL {x d lo hi : Int} {offs : Array Int} {len n : Nat} (hc : a_code m pc = some (.tableswitch d lo hi offs, len)) (hn : hi - lo + 1 = (n : Int)) (hs : offs.size = n) (F : Nat → Option (AO × AS)) (hF : ∀ j, j < n → F j = a_X m (a_jmp pc (offs.getD j 0)) ls st (k, u, g, t)) (hd : F n = a_X m (a_jmp pc d) ls st (k, u, g, t)) : a_X m pc ls (a_i x :: st) (k, u, g, t) = F (if lo ≤ x ∧ x ≤ hi then (x - lo).toNat else n) := by
  rw [X_table hc]
  by_cases h : lo ≤ x ∧ x ≤ hi
  · rw [if_pos h, if_neg (by omega), hF _ (by omega)]
    have h2 : (x - lo).toNat < offs.size := by omega
    simp [h2]
  · rw [if_neg h, if_pos (by omega), hd]
theorem X_getI {r n c q ty : Nat} {fi : Bool} (hc : a_code m pc = some (.getfield n, 3)) (hf : c_fld (m_own m) n = some (c, q, ty, fi)) (ht : ¬ ty = 6) : a_X m pc ls (a_r r :: st) (k, u, g, t) = if (k r).1 = c then a_X m (pc + 3) ls (a_i (u r q) :: st) (k, u, g, t) else none := by
  rw [a_X_step hc]
  simp only [a_step, hf, pR, if_neg ht, a_next]
  rw [apply_ite (a_fin m pc)]; rfl
theorem X_getR {r n c q : Nat} {fi : Bool} (hc : a_code m pc = some (.getfield n, 3)) (hf : c_fld (m_own m) n = some (c, q, 6, fi)) : a_X m pc ls (a_r r :: st) (k, u, g, t) = if (k r).1 = c then a_X m (pc + 3) ls (a_r (g r q) :: st) (k, u, g, t) else none := by
  rw [a_X_step hc]
  simp only [a_step, hf, pR, if_true, a_next]
  rw [apply_ite (a_fin m pc)]; rfl
theorem X_putI {r n c q : Nat} {z : Int} {fi : Bool} (hc : a_code m pc = some (.putfield n, 3)) (hf : c_fld (m_own m) n = some (c, q, 1, fi)) (hi : fi = true → m_init m = true) (hlt : c < 20) : a_X m pc ls (a_i z :: a_r r :: st) (k, u, g, t) = if (k r).1 = c then a_X m (pc + 3) ls (st) (k, upm u r q z, g, t) else none := by
  rw [a_X_step hc]
  simp only [a_step, hf, if_pos hi, if_neg (show ¬ (1 : Nat) = 6 by decide), hlt, a_fit, and_true, a_next]
  rw [apply_ite (a_fin m pc)]; rfl
theorem X_putZ {r n c q : Nat} {z : Int} {fi : Bool} (hc : a_code m pc = some (.putfield n, 3)) (hf : c_fld (m_own m) n = some (c, q, 2, fi)) (hi : fi = true → m_init m = true) (hlt : c < 20) : a_X m pc ls (a_i z :: a_r r :: st) (k, u, g, t) = if (k r).1 = c ∧ (z = 0 ∨ z = 1) then a_X m (pc + 3) ls (st) (k, upm u r q z, g, t) else none := by
  rw [a_X_step hc]
  simp only [a_step, hf, if_pos hi, if_neg (show ¬ (2 : Nat) = 6 by decide), hlt, a_fit, true_and, a_next, Bool.or_eq_true, decide_eq_true_eq]
  rw [apply_ite (a_fin m pc)]; rfl
theorem X_putR {r n c q z : Nat} {fi : Bool} (hc : a_code m pc = some (.putfield n, 3)) (hf : c_fld (m_own m) n = some (c, q, 6, fi)) (hi : fi = true → m_init m = true) (hlt : c < 20) : a_X m pc ls (a_r z :: a_r r :: st) (k, u, g, t) = if (k r).1 = c then a_X m (pc + 3) ls (st) (k, u, upm g r q z, t) else none := by
  rw [a_X_step hc]
  simp only [a_step, hf, if_pos hi, if_true, hlt, and_true, a_next]
  rw [apply_ite (a_fin m pc)]; rfl
theorem X_static {n : Nat} {a : AV} (hc : a_code m pc = some (.getstatic n, 3)) (hz : c_sta (m_own m) n = some a) : a_X m pc ls (st) (k, u, g, t) = a_X m (pc + 3) ls (a :: st) (k, u, g, t) := by
  rw [a_X_step hc]
  simp only [a_step, hz, a_next]
  rfl
theorem X_alen {r : Nat} (hc : a_code m pc = some (.arraylength, 1)) : a_X m pc ls (a_r r :: st) (k, u, g, t) = if 20 ≤ (k r).1 ∧ (k r).1 ≠ 25 then a_X m (pc + 1) ls (a_i ((k r).2 : Int) :: st) (k, u, g, t) else none := by
  rw [a_X_step hc]
  simp only [a_step, pR, a_next]
  rw [apply_ite (a_fin m pc)]; rfl
theorem X_iaload {r : Nat} {i : Int} (hc : a_code m pc = some (.iaload, 1)) : a_X m pc ls (a_i i :: a_r r :: st) (k, u, g, t) = if ((k r).1 = 20 ∨ (k r).1 = 24) ∧ 0 ≤ i ∧ i < ((k r).2 : Int) then a_X m (pc + 1) ls (a_i (u r i.toNat) :: st) (k, u, g, t) else none := by
  rw [a_X_step hc]
  simp only [a_step, pIR, a_in, a_next, Bool.and_eq_true, decide_eq_true_eq]
  rw [apply_ite (a_fin m pc)]; rfl
theorem X_baload {r : Nat} {i : Int} (hc : a_code m pc = some (.baload, 1)) : a_X m pc ls (a_i i :: a_r r :: st) (k, u, g, t) = if ((k r).1 = 21 ∨ (k r).1 = 26) ∧ 0 ≤ i ∧ i < ((k r).2 : Int) then a_X m (pc + 1) ls (a_i (u r i.toNat) :: st) (k, u, g, t) else none := by
  rw [a_X_step hc]
  simp only [a_step, pIR, a_in, a_next, Bool.and_eq_true, decide_eq_true_eq]
  rw [apply_ite (a_fin m pc)]; rfl
theorem X_laload {r : Nat} {i : Int} (hc : a_code m pc = some (.laload, 1)) : a_X m pc ls (a_i i :: a_r r :: st) (k, u, g, t) = if (k r).1 = 22 ∧ 0 ≤ i ∧ i < ((k r).2 : Int) then a_X m (pc + 1) ls (a_l (u r i.toNat) :: st) (k, u, g, t) else none := by
  rw [a_X_step hc]
  simp only [a_step, pIR, a_in, a_next, Bool.and_eq_true, decide_eq_true_eq]
  rw [apply_ite (a_fin m pc)]; rfl
theorem X_daload {r : Nat} {i : Int} (hc : a_code m pc = some (.daload, 1)) : a_X m pc ls (a_i i :: a_r r :: st) (k, u, g, t) = if (k r).1 = 23 ∧ 0 ≤ i ∧ i < ((k r).2 : Int) then a_X m (pc + 1) ls (a_d (UInt64.ofNat (u r i.toNat).toNat) :: st) (k, u, g, t) else none := by
  rw [a_X_step hc]
  simp only [a_step, pIR, a_in, a_next, Bool.and_eq_true, decide_eq_true_eq]
  rw [apply_ite (a_fin m pc)]; rfl
theorem X_aaload {r : Nat} {i : Int} (hc : a_code m pc = some (.aaload, 1)) : a_X m pc ls (a_i i :: a_r r :: st) (k, u, g, t) = if 30 ≤ (k r).1 ∧ 0 ≤ i ∧ i < ((k r).2 : Int) then a_X m (pc + 1) ls (a_r (g r i.toNat) :: st) (k, u, g, t) else none := by
  rw [a_X_step hc]
  simp only [a_step, pIR, a_in, a_next, Bool.and_eq_true, decide_eq_true_eq]
  rw [apply_ite (a_fin m pc)]; rfl
theorem X_iastore {r : Nat} {i : Int} {z : Int} (hc : a_code m pc = some (.iastore, 1)) : a_X m pc ls (a_i z :: a_i i :: a_r r :: st) (k, u, g, t) = if (k r).1 = 20 ∧ 0 ≤ i ∧ i < ((k r).2 : Int) then a_X m (pc + 1) ls (st) (k, upm u r i.toNat z, g, t) else none := by
  rw [a_X_step hc]
  simp only [a_step, pVIR, pI, pL, pD, pR, a_in, a_fit, a_next, Bool.and_eq_true, Bool.or_eq_true, decide_eq_true_eq]
  rw [apply_ite (a_fin m pc)]; rfl
theorem X_bastore {r : Nat} {i : Int} {z : Int} (hc : a_code m pc = some (.bastore, 1)) : a_X m pc ls (a_i z :: a_i i :: a_r r :: st) (k, u, g, t) = if (k r).1 = 21 ∧ (0 ≤ i ∧ i < ((k r).2 : Int)) ∧ (z = 0 ∨ z = 1) then a_X m (pc + 1) ls (st) (k, upm u r i.toNat z, g, t) else none := by
  rw [a_X_step hc]
  simp only [a_step, pVIR, pI, pL, pD, pR, a_in, a_fit, a_next, Bool.and_eq_true, Bool.or_eq_true, decide_eq_true_eq]
  rw [apply_ite (a_fin m pc)]; rfl
theorem X_lastore {r : Nat} {i : Int} {z : Int} (hc : a_code m pc = some (.lastore, 1)) : a_X m pc ls (a_l z :: a_i i :: a_r r :: st) (k, u, g, t) = if (k r).1 = 22 ∧ 0 ≤ i ∧ i < ((k r).2 : Int) then a_X m (pc + 1) ls (st) (k, upm u r i.toNat z, g, t) else none := by
  rw [a_X_step hc]
  simp only [a_step, pVIR, pI, pL, pD, pR, a_in, a_fit, a_next, Bool.and_eq_true, Bool.or_eq_true, decide_eq_true_eq]
  rw [apply_ite (a_fin m pc)]; rfl
theorem X_dastore {r : Nat} {i : Int} {z : UInt64} (hc : a_code m pc = some (.dastore, 1)) : a_X m pc ls (a_d z :: a_i i :: a_r r :: st) (k, u, g, t) = if (k r).1 = 23 ∧ 0 ≤ i ∧ i < ((k r).2 : Int) then a_X m (pc + 1) ls (st) (k, upm u r i.toNat (z.toNat : Int), g, t) else none := by
  rw [a_X_step hc]
  simp only [a_step, pVIR, pI, pL, pD, pR, a_in, a_fit, a_next, Bool.and_eq_true, Bool.or_eq_true, decide_eq_true_eq]
  rw [apply_ite (a_fin m pc)]; rfl
theorem X_aastore {r : Nat} {i : Int} {z : Nat} (hc : a_code m pc = some (.aastore, 1)) : a_X m pc ls (a_r z :: a_i i :: a_r r :: st) (k, u, g, t) = if 30 ≤ (k r).1 ∧ (k z).1 + 29 = (k r).1 ∧ (k z).1 ≠ 0 ∧ 0 ≤ i ∧ i < ((k r).2 : Int) then a_X m (pc + 1) ls (st) (k, u, upm g r i.toNat z, t) else none := by
  rw [a_X_step hc]
  simp only [a_step, pVIR, pI, pL, pD, pR, a_in, a_fit, a_next, Bool.and_eq_true, Bool.or_eq_true, decide_eq_true_eq]
  rw [apply_ite (a_fin m pc)]; rfl
theorem X_new {n c : Nat} (hc : a_code m pc = some (.new n, 3)) (hz : c_new (m_own m) n = some (.inl c)) : a_X m pc ls (st) (k, u, g, t) = a_X m (pc + 3) ls (a_r t.1 :: st) (a_new (k, u, g, t) (c + 1) 0 (k_size c)) := by
  rw [a_X_step hc]
  simp only [a_step, hz, a_next]
  rfl
theorem X_throw {n e : Nat} (hc : a_code m pc = some (.new n, 3)) (hz : c_new (m_own m) n = some (.inr e)) (hs : a_sum st ≤ 8) (ht : m_tabl m = false) : a_X m pc ls (st) (k, u, g, t) = some (.inr e, (k, u, g, (t.1, t.2.1 + 1, t.2.2 + 6))) := by
  rw [a_X_step hc]
  simp only [a_step, hz, if_pos (And.intro hs ht), a_thr]
  rfl
theorem X_newa_int {n : Int} (hc : a_code m pc = some (.newarray .int, 2)) : a_X m pc ls (a_i n :: st) (k, u, g, t) = if 0 ≤ n ∧ n ≤ 65536 then a_X m (pc + 2) ls (a_r t.1 :: st) (a_new (k, u, g, t) 20 n.toNat n.toNat) else none := by
  rw [a_X_step hc]
  simp only [a_step, pI, a_next]
  rw [apply_ite (a_fin m pc)]; rfl
theorem X_newa_boolean {n : Int} (hc : a_code m pc = some (.newarray .boolean, 2)) : a_X m pc ls (a_i n :: st) (k, u, g, t) = if 0 ≤ n ∧ n ≤ 65536 then a_X m (pc + 2) ls (a_r t.1 :: st) (a_new (k, u, g, t) 21 n.toNat n.toNat) else none := by
  rw [a_X_step hc]
  simp only [a_step, pI, a_next]
  rw [apply_ite (a_fin m pc)]; rfl
theorem X_newa_long {n : Int} (hc : a_code m pc = some (.newarray .long, 2)) : a_X m pc ls (a_i n :: st) (k, u, g, t) = if 0 ≤ n ∧ n ≤ 65536 then a_X m (pc + 2) ls (a_r t.1 :: st) (a_new (k, u, g, t) 22 n.toNat n.toNat) else none := by
  rw [a_X_step hc]
  simp only [a_step, pI, a_next]
  rw [apply_ite (a_fin m pc)]; rfl
theorem X_newa_double {n : Int} (hc : a_code m pc = some (.newarray .double, 2)) : a_X m pc ls (a_i n :: st) (k, u, g, t) = if 0 ≤ n ∧ n ≤ 65536 then a_X m (pc + 2) ls (a_r t.1 :: st) (a_new (k, u, g, t) 23 n.toNat n.toNat) else none := by
  rw [a_X_step hc]
  simp only [a_step, pI, a_next]
  rw [apply_ite (a_fin m pc)]; rfl
theorem X_anewa {n : Int} {q c : Nat} (hc : a_code m pc = some (.anewarray q, 3)) (hz : c_new (m_own m) q = some (.inl c)) : a_X m pc ls (a_i n :: st) (k, u, g, t) = if 0 ≤ n ∧ n ≤ 65536 then a_X m (pc + 3) ls (a_r t.1 :: st) (a_new (k, u, g, t) (c + 30) n.toNat n.toNat) else none := by
  rw [a_X_step hc]
  simp only [a_step, hz, pI, a_next]
  rw [apply_ite (a_fin m pc)]; rfl
theorem X_call_vi {q y n : Nat} {as rest : List AV} (hc : a_code m pc = some (.invokevirtual q, 3)) (hz : c_cal (m_own m) q = some y) (hy : y < 1000) (hn : m_nargs y = n) (ha : (st.take n).reverse = as) (hr : st.drop n = rest) (hlen : n ≤ st.length) (hsum : a_sum rest ≤ 8) (hkn : (st.take n).all a_kn = true) (hlay : (a_lay as).length ≤ m_maxL y) : a_X m pc ls (st) (k, u, g, t) = if a_rcv (m_recv y) as (k, u, g, t) = true then (a_m y as (k, u, g, t)).bind (a_back m pc 3 ls rest) else none := by
  rw [a_X_step hc]
  subst ha; subst hr; subst hn
  simp only [a_step, hz, a_call, if_pos hy, hlen, hsum, hkn, hlay, true_and, and_true]
  rw [apply_ite (a_fin m pc)]; rfl
theorem X_call_sp {q y n : Nat} {as rest : List AV} (hc : a_code m pc = some (.invokespecial q, 3)) (hz : c_cal (m_own m) q = some y) (hy : y < 1000) (hn : m_nargs y = n) (ha : (st.take n).reverse = as) (hr : st.drop n = rest) (hlen : n ≤ st.length) (hsum : a_sum rest ≤ 8) (hkn : (st.take n).all a_kn = true) (hlay : (a_lay as).length ≤ m_maxL y) : a_X m pc ls (st) (k, u, g, t) = if a_rcv (m_recv y) as (k, u, g, t) = true then (a_m y as (k, u, g, t)).bind (a_back m pc 3 ls rest) else none := by
  rw [a_X_step hc]
  subst ha; subst hr; subst hn
  simp only [a_step, hz, a_call, if_pos hy, hlen, hsum, hkn, hlay, true_and, and_true]
  rw [apply_ite (a_fin m pc)]; rfl
theorem X_call_st {q y n : Nat} {as rest : List AV} (hc : a_code m pc = some (.invokestatic q, 3)) (hz : c_cal (m_own m) q = some y) (hy : y < 1000) (hn : m_nargs y = n) (ha : (st.take n).reverse = as) (hr : st.drop n = rest) (hlen : n ≤ st.length) (hsum : a_sum rest ≤ 8) (hkn : (st.take n).all a_kn = true) (hlay : (a_lay as).length ≤ m_maxL y) : a_X m pc ls (st) (k, u, g, t) = if a_rcv (m_recv y) as (k, u, g, t) = true then (a_m y as (k, u, g, t)).bind (a_back m pc 3 ls rest) else none := by
  rw [a_X_step hc]
  subst ha; subst hr; subst hn
  simp only [a_step, hz, a_call, if_pos hy, hlen, hsum, hkn, hlay, true_and, and_true]
  rw [apply_ite (a_fin m pc)]; rfl
theorem X_objinit {q r : Nat} (hc : a_code m pc = some (.invokespecial q, 3)) (hz : c_cal (m_own m) q = some 1000) (hsum : a_sum st ≤ 8) : a_X m pc ls (a_r r :: st) (k, u, g, t) = if (k r).1 ≠ 0 then a_X m (pc + 3) ls (st) (k, u, g, t) else none := by
  rw [a_X_step hc]
  simp only [a_step, hz, a_call, if_neg (show ¬ (1000 : Nat) < 1000 by decide), if_true, pR, hsum, and_true, a_next]
  rw [apply_ite (a_fin m pc)]; rfl
theorem X_max {q : Nat} {x y : Int} (hc : a_code m pc = some (.invokestatic q, 3)) (hz : c_cal (m_own m) q = some 1002) (hsum : a_sum st ≤ 8) : a_X m pc ls (a_i y :: a_i x :: st) (k, u, g, t) = a_X m (pc + 3) ls (a_i (max x y) :: st) (k, u, g, t) := by
  rw [a_X_step hc]
  simp only [a_step, hz, a_call, if_neg (show ¬ (1002 : Nat) < 1000 by decide), if_neg (show ¬ (1002 : Nat) = 1000 by decide), if_neg (show ¬ (1002 : Nat) = 1001 by decide), if_true, pII, hsum, a_next]
  rfl
theorem X_min {q : Nat} {x y : Int} (hc : a_code m pc = some (.invokestatic q, 3)) (hz : c_cal (m_own m) q = some 1003) (hsum : a_sum st ≤ 8) : a_X m pc ls (a_i y :: a_i x :: st) (k, u, g, t) = a_X m (pc + 3) ls (a_i (min x y) :: st) (k, u, g, t) := by
  rw [a_X_step hc]
  simp only [a_step, hz, a_call, if_neg (show ¬ (1003 : Nat) < 1000 by decide), if_neg (show ¬ (1003 : Nat) = 1000 by decide), if_neg (show ¬ (1003 : Nat) = 1001 by decide), if_neg (show ¬ (1003 : Nat) = 1002 by decide), if_true, pII, hsum, a_next]
  rfl
theorem X_copy {q s d : Nat} {sp dp n : Int} (hc : a_code m pc = some (.invokestatic q, 3)) (hz : c_cal (m_own m) q = some 1001) (hsum : a_sum st ≤ 8) : a_X m pc ls (a_i n :: a_i dp :: a_r d :: a_i sp :: a_r s :: st) (k, u, g, t) = if s ≠ d ∧ (k s).1 = 20 ∧ (k d).1 = 20 ∧ 0 ≤ sp ∧ 0 ≤ dp ∧ 0 ≤ n ∧ sp + n ≤ (k s).2 ∧ dp + n ≤ (k d).2 then a_X m (pc + 3) ls (st) (k, upr u d (a_cpy (u s) (u d) sp.toNat dp.toNat n.toNat), g, t) else none := by
  rw [a_X_step hc]
  simp only [a_step, hz, a_call, if_neg (show ¬ (1001 : Nat) < 1000 by decide), if_neg (show ¬ (1001 : Nat) = 1000 by decide), if_true, hsum, and_true, a_next]
  rw [apply_ite (a_fin m pc)]; rfl
theorem X_ireturn {z : Int} {f : Nat} (hc : a_code m pc = some (.ireturn, 1)) (hr : m_ret m = f) (hf : a_fit f z = true) : a_X m pc ls [a_i z] (k, u, g, t) = some (.inl (some (a_i z)), (k, u, g, t)) := by
  subst hr
  rw [a_X_step hc]
  simp only [a_step, hf, if_true]
  rfl
theorem X_ireturnF {z : Int} {f : Nat} (hc : a_code m pc = some (.ireturn, 1)) (hr : m_ret m = f) : a_X m pc ls [a_i z] (k, u, g, t) = if a_fit f z = true then some (.inl (some (a_i z)), (k, u, g, t)) else none := by
  subst hr
  rw [a_X_step hc]
  simp only [a_step]
  rw [apply_ite (a_fin m pc)]; rfl
theorem X_lreturn {z : Int} (hc : a_code m pc = some (.lreturn, 1)) (hr : m_ret m = 3) : a_X m pc ls [a_l z] (k, u, g, t) = some (.inl (some (a_l z)), (k, u, g, t)) := by
  rw [a_X_step hc]
  simp only [a_step, hr, if_true]
  rfl
theorem X_freturn {z : UInt32} (hc : a_code m pc = some (.freturn, 1)) (hr : m_ret m = 4) : a_X m pc ls [a_f z] (k, u, g, t) = some (.inl (some (a_f z)), (k, u, g, t)) := by
  rw [a_X_step hc]
  simp only [a_step, hr, if_true]
  rfl
theorem X_dreturn {z : UInt64} (hc : a_code m pc = some (.dreturn, 1)) (hr : m_ret m = 5) : a_X m pc ls [a_d z] (k, u, g, t) = some (.inl (some (a_d z)), (k, u, g, t)) := by
  rw [a_X_step hc]
  simp only [a_step, hr, if_true]
  rfl
theorem X_areturn {z : Nat} (hc : a_code m pc = some (.areturn, 1)) (hr : m_ret m = 6) : a_X m pc ls [a_r z] (k, u, g, t) = some (.inl (some (a_r z)), (k, u, g, t)) := by
  rw [a_X_step hc]
  simp only [a_step, hr, if_true]
  rfl
theorem X_return (hc : a_code m pc = some (.return_, 1)) (hr : m_ret m = 0) : a_X m pc ls [] (k, u, g, t) = some (.inl none, (k, u, g, t)) := by
  rw [a_X_step hc]
  simp only [a_step, hr, and_self, if_true]
  rfl
theorem a_back_s {len : Nat} {v : AV} {σ : AS} : a_back m pc len ls st (.inl (some v), σ) = a_X m (pc + len) ls (v :: st) σ := rfl
theorem a_back_n {len : Nat} {σ : AS} : a_back m pc len ls st (.inl none, σ) = a_X m (pc + len) ls st σ := rfl
theorem a_back_x {len e : Nat} {σ : AS} (h : m_hand m pc e = none) (ht : m_tabl m = false) : a_back m pc len ls st (.inr e, σ) = some (.inr e, σ) := by simp [a_back, h, ht]
theorem a_back_h {len e h9 : Nat} {σ : AS} (h : m_hand m pc e = some h9) : a_back m pc len ls st (.inr e, σ) = a_X m h9 ls [a_x true] σ := by simp only [a_back, h]
theorem a_m_eq {y : Nat} {as ls1 : List AV} {σ : AS} (h : a_entry y as = ls1) : a_m y as σ = a_X y 0 ls1 [] σ := by rw [← h]; rfl
end XI
