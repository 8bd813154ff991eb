/-! ===== questions: shares ===== -/
def b1E (x : Int) : Int := wr (x - zand (zushr x 1) 1431655765)
def b2E (x : Int) : Int := wr (zand x 858993459 + zand (zushr x 2) 858993459)
def b3E (x : Int) : Int := zand (wr (x + zushr x 4)) 252645135
def b4E (x : Int) : Int := wr (x + zushr x 8)
def b5E (x : Int) : Int := wr (x + zushr x 16)
def bcE (x : Int) : Int := zand (b5E (b4E (b3E (b2E (b1E x))))) 63
def bl12 (b : List Bool) : Int := bitW 12 0 0 fun k => b.getD k.toNat false
set_option maxRecDepth 100000 in
set_option maxHeartbeats 4000000 in
theorem bc_bool : ∀ b0 b1 b2 b3 b4 b5 b6 b7 b8 b9 b10 b11 : Bool, bcE (bl12 [b0, b1, b2, b3, b4, b5, b6, b7, b8, b9, b10, b11]) = bi b0 + bi b1 + bi b2 + bi b3 + bi b4 + bi b5 + bi b6 + bi b7 + bi b8 + bi b9 + bi b10 + bi b11 := by decide +kernel
theorem bc_eq (p : Int → Bool) : bcE (bitW 12 0 0 p) = ps 12 0 (fun k => bi (p k)) := by
  have h := bc_bool (p 0) (p 1) (p 2) (p 3) (p 4) (p 5) (p 6) (p 7) (p 8) (p 9) (p 10) (p 11)
  have e : bl12 [p 0, p 1, p 2, p 3, p 4, p 5, p 6, p 7, p 8, p 9, p 10, p 11] = bitW 12 0 0 p := by
    unfold bl12
    refine bitW_congr 12 0 0 (fun i i0 i1 => ?_)
    have hi : i = 0 ∨ i = 1 ∨ i = 2 ∨ i = 3 ∨ i = 4 ∨ i = 5 ∨ i = 6 ∨ i = 7 ∨ i = 8 ∨ i = 9 ∨ i = 10 ∨ i = 11 := by omega
    rcases hi with rfl | rfl | rfl | rfl | rfl | rfl | rfl | rfl | rfl | rfl | rfl | rfl <;> rfl
  rw [e] at h
  rw [h]
  simp only [ps, Int.reduceAdd]
  omega
set_option maxRecDepth 100000 in
set_option maxHeartbeats 4000000 in
theorem shr_ok : ∀ m : Nat, m < 7 → ∀ n : Nat, n < 73 → m ≠ 0 → FP.fdiv (FP.i2f (Int32.ofInt (n : Int))) (FP.i2f (Int32.ofInt (wr (12 * (m : Int))))) &&& 0x7fffffff ≤ 0x7f800000 ∧ FP.f2d (FP.fdiv (FP.i2f (Int32.ofInt (n : Int))) (FP.i2f (Int32.ofInt (wr (12 * (m : Int)))))) &&& 0x7fffffffffffffff ≤ 0x7ff0000000000000 ∧ FP.dcmp (FP.f2d (FP.fdiv (FP.i2f (Int32.ofInt (n : Int))) (FP.i2f (Int32.ofInt (wr (12 * (m : Int))))))) (FP.f2d (FP.fdiv (FP.i2f (Int32.ofInt (n : Int))) (FP.i2f (Int32.ofInt (wr (12 * (m : Int))))))) = some .eq := by decide +kernel
set_option maxRecDepth 100000 in
set_option maxHeartbeats 4000000 in
theorem beh_ok : ∀ m : Nat, m < 7 → ∀ n : Nat, n < 600 → m ≠ 0 → FP.ddiv (FP.i2d (Int32.ofInt (n : Int))) (FP.i2d (Int32.ofInt (m : Int))) &&& 0x7fffffffffffffff ≤ 0x7ff0000000000000 ∧ FP.dcmp (FP.ddiv (FP.i2d (Int32.ofInt (n : Int))) (FP.i2d (Int32.ofInt (m : Int)))) (FP.ddiv (FP.i2d (Int32.ofInt (n : Int))) (FP.i2d (Int32.ofInt (m : Int)))) = some .eq := by decide +kernel
