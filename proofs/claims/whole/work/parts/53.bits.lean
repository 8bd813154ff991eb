/-! ===== single bits ===== -/
theorem sh31 : ∀ n : Nat, n < 32 → ((Int32.ofInt (n : Int) &&& 31).toBitVec.smod (32 : BitVec 32)) = BitVec.ofNat 32 n := by decide +kernel
theorem one_bit (Y : BitVec 32) : (Y &&& 1#32 = 1#32) ↔ Y.getLsbD 0 = true := by
  rw [BitVec.and_one_eq_setWidth_ofBool_getLsbD]
  cases Y.getLsbD 0 <;> decide
theorem tb_iff {x l : Int} (h : 0 ≤ l ∧ l < 32) : tb x l = (Int32.ofInt x).toBitVec.getLsbD l.toNat := by
  obtain ⟨n, rfl⟩ : ∃ n : Nat, l = n := ⟨l.toNat, by omega⟩
  have hn : n < 32 := by omega
  unfold tb zand zshr
  rw [Int32.ofInt_toInt]
  have e1 : ((Int32.ofInt x >>> (Int32.ofInt (n : Int) &&& 31) &&& Int32.ofInt 1).toInt = 1) ↔ ((Int32.ofInt x).toBitVec.sshiftRight n).getLsbD 0 = true := by
    rw [← one_bit]
    rw [show (1 : Int) = (Int32.ofInt 1).toInt from rfl, Int32.toInt_inj, ← Int32.toBitVec_inj]
    rw [Int32.toBitVec_and, Int32.toBitVec_shiftRight, sh31 n hn]
    have e2 : (Int32.ofInt x).toBitVec.sshiftRight' (BitVec.ofNat 32 n) = (Int32.ofInt x).toBitVec.sshiftRight n := by
      unfold BitVec.sshiftRight'; congr 1; rw [BitVec.toNat_ofNat]; omega
    rw [e2]
    exact Iff.rfl
  rw [Int.toNat_natCast]
  rw [BitVec.getLsbD_sshiftRight] at e1
  simp only [show ¬ (32 ≤ 0) from by decide, decide_false, Bool.not_false, Bool.true_and, Nat.add_zero, hn, if_true] at e1
  exact Bool.eq_iff_iff.mpr (by rw [decide_eq_true_iff]; exact e1)
theorem tb_or {x l m : Int} (hl : 0 ≤ l ∧ l < 32) (hm : 0 ≤ m ∧ m < 32) : tb (zor x (zshl 1 l)) m = (decide (m = l) || tb x m) := by
  rw [tb_iff hm, tb_iff hm]
  obtain ⟨n, rfl⟩ : ∃ n : Nat, l = n := ⟨l.toNat, by omega⟩
  obtain ⟨k, rfl⟩ : ∃ n : Nat, m = n := ⟨m.toNat, by omega⟩
  have hn : n < 32 := by omega
  have hk : k < 32 := by omega
  unfold zor zshl
  rw [Int32.ofInt_toInt, Int32.ofInt_toInt, Int32.toBitVec_or, BitVec.getLsbD_or, Int32.toBitVec_shiftLeft, sh31 n hn, Int.toNat_natCast]
  have e1 : ((Int32.ofInt 1).toBitVec <<< BitVec.ofNat 32 n).getLsbD k = decide (k = n) := by
    rw [BitVec.shiftLeft_eq', BitVec.toNat_ofNat, BitVec.getLsbD_shiftLeft]
    rw [show (Int32.ofInt 1).toBitVec = 1#32 from rfl, BitVec.getLsbD_one]
    rw [Nat.mod_eq_of_lt (by omega)]
    by_cases h : k = n
    · subst h; simp [hk]
    · by_cases h2 : k < n
      · simp [h2, h]
      · simp [h, hk, h2]; omega
  rw [e1, Bool.or_comm]
  congr 1
  by_cases h : k = n
  · simp [h]
  · simp [h]; omega
theorem tb_zero {l : Int} (hl : 0 ≤ l ∧ l < 32) : tb 0 l = false := by
  rw [tb_iff hl]; rw [show (Int32.ofInt 0).toBitVec = 0#32 from rfl]; simp
/-- set bits of six: small, and the bits that were meant -/
theorem zor6 : ∀ x : Nat, x < 64 → ∀ l : Nat, l < 6 → 0 ≤ zor (x : Int) (zshl 1 (l : Int)) ∧ zor (x : Int) (zshl 1 (l : Int)) < 64 := by
  decide +kernel
theorem zor_lt {x l : Int} (hx : 0 ≤ x ∧ x < 64) (hl : 0 ≤ l ∧ l < 6) : 0 ≤ zor x (zshl 1 l) ∧ zor x (zshl 1 l) < 64 := by
  have := zor6 x.toNat (by omega) l.toNat (by omega)
  rwa [Int.toNat_of_nonneg hx.1, Int.toNat_of_nonneg hl.1] at this
theorem tb_ext0 : ∀ x : Nat, x < 64 → ∀ y : Nat, y < 64 → (∀ l : Nat, l < 6 → tb (x : Int) (l : Int) = tb (y : Int) (l : Int)) → x = y := by
  decide +kernel
theorem tb_ext {x y : Int} (hx : 0 ≤ x ∧ x < 64) (hy : 0 ≤ y ∧ y < 64) (h : ∀ l, 0 ≤ l → l < 6 → tb x l = tb y l) : x = y := by
  have := tb_ext0 x.toNat (by omega) y.toNat (by omega) (fun l hl => by
    rw [Int.toNat_of_nonneg hx.1, Int.toNat_of_nonneg hy.1]; exact h l (by omega) (by omega))
  omega
/-- a loop that sets bits -/
theorem tb_bitW {p : Int → Bool} : ∀ (d : Nat) (x acc m : Int), 0 ≤ x → x + d ≤ 32 → 0 ≤ m ∧ m < 32 → tb (bitW d x acc p) m = (tb acc m || (decide (x ≤ m) && (decide (m < x + d) && p m))) := by
  intro d
  induction d with
  | zero => intro x acc m h0 h hm; simp [bitW]; intro h1 h2; omega
  | succ d ih =>
    intro x acc m h0 h hm
    rw [bitW, ih (x + 1) _ m (by omega) (by omega) hm]
    cases hp : p x with
    | true =>
      rw [bi_t, tb_or (by omega) hm]
      by_cases hmx : m = x
      · subst hmx; simp [hp]; omega
      · have e1 : decide (x + 1 ≤ m) = decide (x ≤ m) := by rw [decide_eq_decide]; omega
        have e2 : decide (m < x + 1 + (d : Int)) = decide (m < x + ((d + 1 : Nat) : Int)) := by rw [decide_eq_decide]; omega
        simp only [hmx, decide_false, Bool.false_or, e1, e2]
    | false =>
      rw [bi_f]
      have e0 : tb (zor acc (zshl 0 x)) m = tb acc m := by
        rw [tb_iff hm, tb_iff hm, zshl0]
        unfold zor
        rw [Int32.ofInt_toInt, show Int32.ofInt 0 = 0 from rfl, Int32.or_zero]
      rw [e0]
      by_cases hmx : m = x
      · subst hmx; simp [hp]
      · have e1 : decide (x + 1 ≤ m) = decide (x ≤ m) := by rw [decide_eq_decide]; omega
        have e2 : decide (m < x + 1 + (d : Int)) = decide (m < x + ((d + 1 : Nat) : Int)) := by rw [decide_eq_decide]; omega
        simp only [e1, e2]
theorem bitW_lt {p : Int → Bool} : ∀ (d : Nat) (x acc : Int), 0 ≤ x → x + d ≤ 6 → 0 ≤ acc ∧ acc < 64 → 0 ≤ bitW d x acc p ∧ bitW d x acc p < 64 := by
  intro d
  induction d with
  | zero => intro x acc _ _ h; exact h
  | succ d ih =>
    intro x acc h0 h ha
    rw [bitW]
    refine ih (x + 1) _ (by omega) (by omega) ?_
    cases p x with
    | true => exact zor_lt ha (by omega)
    | false => rw [bi_f, zshl0, zor0 (by omega)]; exact ha
theorem mHeard_tb {s : Nat → Int} {l n : Int} : mHeard s l n = (inB n 1 (s 2) && tb (mLi s l (15 + n.tdiv 32)) (n.tmod 32)) := rfl
