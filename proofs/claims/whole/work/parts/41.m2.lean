/-! ===== the reference's loops over lists, listeners and the air ===== -/
def sumW : Nat → Int → Int → (Int → Int) → Int
  | 0, _, acc, _ => acc
  | d + 1, x, acc, f => sumW d (x + 1) (wr (acc + f x)) f
def bitW : Nat → Int → Int → (Int → Bool) → Int
  | 0, _, acc, _ => acc
  | d + 1, x, acc, p => bitW d (x + 1) (zor acc (zshl (bi (p x)) x)) p
def minW : Nat → Int → Int → (Int → Int) → Int
  | 0, _, acc, _ => acc
  | d + 1, x, acc, f => minW d (x + 1) (min acc (f x)) f
def maxW : Nat → Int → Int → (Int → Int) → Int
  | 0, _, acc, _ => acc
  | d + 1, x, acc, f => maxW d (x + 1) (max acc (f x)) f
def allW : Nat → Int → (Int → Bool) → Bool
  | 0, _, _ => true
  | d + 1, x, p => p x && allW d (x + 1) p
def anyW : Nat → Int → (Int → Bool) → Bool
  | 0, _, _ => false
  | d + 1, x, p => p x || anyW d (x + 1) p
/-- the first one from x on, within d, for which p holds: r of it, otherwise z -/
def fstW : Nat → Int → (Int → Bool) → (Int → Int) → Int → Int
  | 0, _, _, _, z => z
  | d + 1, x, p, r, z => if p x = true then r x else fstW d (x + 1) p r z
def itA {α : Type} : Nat → Int → α → (Int → α → α) → α
  | 0, _, acc, _ => acc
  | d + 1, x, acc, f => itA d (x + 1) (f x acc) f
def mAlike (s : Nat → Int) (l o k : Int) : Bool := allW 4 0 fun w => decide (mOf s l k w = mOf s o k w)
def mDiff (s : Nat → Int) (l o : Int) : Int := bitW 12 0 0 fun k => ! mAlike s l o k
def mFirstDue (s : Nat → Int) (i : Int) : Int := minW (s 3 - 1).toNat 1 (mAi s i 5) fun l => mAi s i (5 + l)
def mRank (s : Nat → Int) (i : Int) : Int := (2 * mAi s i 1 + mAi s i 0) * 1000000 + mAi s i 4
def mStill (s : Nat → Int) (i : Int) : Int := bitW (s 3).toNat 0 0 fun l => decide (s 1 < mAi s i (5 + l))
def mOff (s : Nat → Int) (l time : Int) : Bool := anyW (mLi s l 1).toNat 0 fun i => inB time (mLi s l (2 + 2 * i)) (mLi s l (2 + 2 * i + 1))
def mCovers (s : Nat → Int) (l k day minute : Int) : Bool := !decide (mOf s l k 0 = -1) && (decide (mOf s l k 1 = day) && inB minute (mOf s l k 2) (mOf s l k 3 - 1))
def mStands (s : Nat → Int) (l day minute : Int) : Int := fstW 12 0 (fun k => mCovers s l k day minute) (fun k => mOf s l k 0) (-1)
section M2
variable {L : Nat} {u : Nat → Nat → Int} {a : Nat → Nat → Nat} {t : Nat × Nat × Nat}
theorem M_firstDue_loop {i : Int} (hi : 0 ≤ i ∧ i < 30) (hs : 0 ≤ u 1558 3 ∧ u 1558 3 ≤ 6) : ∀ (d : Nat) (x acc : Int), 0 ≤ x → x + d = u 1558 3 → a_X 194 9 [a_r 1557, a_i i, a_i acc, a_i x] [] (K0 L, u, G a, t) = some (.inl (some (a_i (minW d x acc (fun l => mAi (u 1558) i (5 + l))))), (K0 L, u, G a, t)) := by
  intro d
  induction d with
  | zero => intro x acc h0 h; rw [B_X11_firstDue_9]; simp (disch := first | assumption | omega) only [B_X11_firstDue_0, B_X11_firstDue_6, B_X11_firstDue_28, Option.bind_some, back_v, Option.toList_some, Option.toList_none, List.cons_append, List.nil_append, Nat.reduceAdd, Int.reduceToNat, Int.reduceNeg, upm_eq, upm_r, upm_i, if_pos, if_neg, ite_self, true_or, or_true, true_and, and_true, wr_id, i10, i01, lc_lt, lc_gt, lc_ge, lc_le, afit1, afit0, afitI, bifit, not_true_eq_false, not_false_eq_true, if_true, if_false, Bool.false_eq_true, reduceCtorEq, k1557, k1558, g1557_2, minW]
  | succ d ih => intro x acc h0 h; rw [B_X11_firstDue_9]; simp (disch := first | assumption | omega) only [B_X11_firstDue_0, B_X11_firstDue_6, B_X11_firstDue_28, Option.bind_some, back_v, Option.toList_some, Option.toList_none, List.cons_append, List.nil_append, Nat.reduceAdd, Int.reduceToNat, Int.reduceNeg, upm_eq, upm_r, upm_i, if_pos, if_neg, ite_self, true_or, or_true, true_and, and_true, wr_id, i10, i01, lc_lt, lc_gt, lc_ge, lc_le, afit1, afit0, afitI, bifit, not_true_eq_false, not_false_eq_true, if_true, if_false, Bool.false_eq_true, reduceCtorEq, k1557, k1558, g1557_2, M_ofAir, minW]; exact ih _ _ (by omega) (by omega)
theorem M_firstDue {i : Int} (hi : 0 ≤ i ∧ i < 30) (hs : 1 ≤ u 1558 3 ∧ u 1558 3 ≤ 6) : a_m 194 [a_r 1557, a_i i] (K0 L, u, G a, t) = some (.inl (some (a_i (mFirstDue (u 1558) i))), (K0 L, u, G a, t)) := by
  simp (disch := first | assumption | omega) only [E_X11_firstDue, B_X11_firstDue_0, B_X11_firstDue_6, B_X11_firstDue_28, Option.bind_some, back_v, Option.toList_some, Option.toList_none, List.cons_append, List.nil_append, Nat.reduceAdd, Int.reduceToNat, Int.reduceNeg, upm_eq, upm_r, upm_i, if_pos, if_neg, ite_self, true_or, or_true, true_and, and_true, wr_id, i10, i01, lc_lt, lc_gt, lc_ge, lc_le, afit1, afit0, afitI, bifit, not_true_eq_false, not_false_eq_true, if_true, if_false, Bool.false_eq_true, reduceCtorEq, k1557, k1558, g1557_2, M_ofAir]
  exact M_firstDue_loop hi (by omega) _ _ _ (by omega) (by omega)
theorem M_rank {i : Int} (hi : 0 ≤ i ∧ i < 30) (h1 : 0 ≤ mAi (u 1558) i 1 ∧ mAi (u 1558) i 1 ≤ 99) (h2 : 0 ≤ mAi (u 1558) i 0 ∧ mAi (u 1558) i 0 ≤ 1) (h3 : 0 ≤ mAi (u 1558) i 4 ∧ mAi (u 1558) i 4 < 1000000) : a_m 195 [a_r 1557, a_i i] (K0 L, u, G a, t) = some (.inl (some (a_l (mRank (u 1558) i))), (K0 L, u, G a, t)) := by
  simp (disch := first | assumption | omega) only [E_X11_rank, B_X11_rank_0, B_X11_rank_9, B_X11_rank_17, B_X11_rank_29, Option.bind_some, back_v, Option.toList_some, Option.toList_none, List.cons_append, List.nil_append, Nat.reduceAdd, Int.reduceToNat, Int.reduceNeg, upm_eq, upm_r, upm_i, if_pos, if_neg, ite_self, true_or, or_true, true_and, and_true, wr_id, i10, i01, lc_lt, lc_gt, lc_ge, lc_le, afit1, afit0, afitI, bifit, not_true_eq_false, not_false_eq_true, if_true, if_false, Bool.false_eq_true, reduceCtorEq, k1557, k1558, g1557_2, M_ofAir, wl_id, mRank]
theorem M_isAhead {i o : Int} (hi : 0 ≤ i ∧ i < 30) (ho : 0 ≤ o ∧ o < 30) (hs : 1 ≤ u 1558 3 ∧ u 1558 3 ≤ 6) (h1 : 0 ≤ mAi (u 1558) i 1 ∧ mAi (u 1558) i 1 ≤ 99) (h2 : 0 ≤ mAi (u 1558) i 0 ∧ mAi (u 1558) i 0 ≤ 1) (h3 : 0 ≤ mAi (u 1558) i 4 ∧ mAi (u 1558) i 4 < 1000000) (g1 : 0 ≤ mAi (u 1558) o 1 ∧ mAi (u 1558) o 1 ≤ 99) (g2 : 0 ≤ mAi (u 1558) o 0 ∧ mAi (u 1558) o 0 ≤ 1) (g3 : 0 ≤ mAi (u 1558) o 4 ∧ mAi (u 1558) o 4 < 1000000) :
    a_m 196 [a_r 1557, a_i i, a_i o] (K0 L, u, G a, t) = some (.inl (some (a_i (bi (decide (mFirstDue (u 1558) i < mFirstDue (u 1558) o) || (decide (mFirstDue (u 1558) i = mFirstDue (u 1558) o) && decide (mRank (u 1558) i < mRank (u 1558) o)))))), (K0 L, u, G a, t)) := by
  simp (disch := first | assumption | omega) only [E_X11_isAhead, B_X11_isAhead_0, B_X11_isAhead_5, B_X11_isAhead_10, B_X11_isAhead_18, B_X11_isAhead_23, B_X11_isAhead_31, B_X11_isAhead_36, Option.bind_some, back_v, Option.toList_some, Option.toList_none, List.cons_append, List.nil_append, Nat.reduceAdd, Int.reduceToNat, Int.reduceNeg, upm_eq, upm_r, upm_i, if_pos, if_neg, ite_self, true_or, or_true, true_and, and_true, wr_id, i10, i01, lc_lt, lc_gt, lc_ge, lc_le, afit1, afit0, afitI, bifit, not_true_eq_false, not_false_eq_true, if_true, if_false, Bool.false_eq_true, reduceCtorEq, k1557, k1558, g1557_2, M_firstDue, M_rank]
  by_cases e1 : mFirstDue (u 1558) i < mFirstDue (u 1558) o
  · simp [e1, bi]
  · by_cases e2 : mFirstDue (u 1558) i = mFirstDue (u 1558) o
    · by_cases e3 : mRank (u 1558) i < mRank (u 1558) o
      · simp [e2, e3, bi]
      · by_cases e4 : mRank (u 1558) i = mRank (u 1558) o <;> simp [e2, e3, e4, bi]
    · simp [e1, e2, bi]
theorem M_stillTo_loop {i : Int} (hi : 0 ≤ i ∧ i < 30) (hs : 0 ≤ u 1558 3 ∧ u 1558 3 ≤ 6) : ∀ (d : Nat) (x acc : Int), 0 ≤ x → x + d = u 1558 3 → a_X 198 4 [a_r 1557, a_i i, a_i acc, a_i x] [] (K0 L, u, G a, t) = some (.inl (some (a_i (bitW d x acc (fun l => decide (u 1558 1 < mAi (u 1558) i (5 + l)))))), (K0 L, u, G a, t)) := by
  intro d
  induction d with
  | zero => intro x acc h0 h; rw [B_X11_stillTo_4]; simp (disch := first | assumption | omega) only [B_X11_stillTo_0, B_X11_stillTo_23, B_X11_stillTo_40, Option.bind_some, back_v, Option.toList_some, Option.toList_none, List.cons_append, List.nil_append, Nat.reduceAdd, Int.reduceToNat, Int.reduceNeg, upm_eq, upm_r, upm_i, if_pos, if_neg, ite_self, true_or, or_true, true_and, and_true, wr_id, i10, i01, lc_lt, lc_gt, lc_ge, lc_le, afit1, afit0, afitI, bifit, not_true_eq_false, not_false_eq_true, if_true, if_false, Bool.false_eq_true, reduceCtorEq, k1557, k1558, g1557_2, bitW]
  | succ d ih =>
    intro x acc h0 h; rw [B_X11_stillTo_4]
    by_cases hc : u 1558 1 < mAi (u 1558) i (5 + x)
    · simp (disch := first | assumption | omega) only [B_X11_stillTo_0, B_X11_stillTo_23, B_X11_stillTo_40, Option.bind_some, back_v, Option.toList_some, Option.toList_none, List.cons_append, List.nil_append, Nat.reduceAdd, Int.reduceToNat, Int.reduceNeg, upm_eq, upm_r, upm_i, if_pos, if_neg, ite_self, true_or, or_true, true_and, and_true, wr_id, i10, i01, lc_lt, lc_gt, lc_ge, lc_le, afit1, afit0, afitI, bifit, not_true_eq_false, not_false_eq_true, if_true, if_false, Bool.false_eq_true, reduceCtorEq, k1557, k1558, g1557_2, M_ofAir, M_flag0, M_flag1, bitW, hc, decide_true, bi_t]; exact ih _ _ (by omega) (by omega)
    · simp (disch := first | assumption | omega) only [B_X11_stillTo_0, B_X11_stillTo_23, B_X11_stillTo_40, Option.bind_some, back_v, Option.toList_some, Option.toList_none, List.cons_append, List.nil_append, Nat.reduceAdd, Int.reduceToNat, Int.reduceNeg, upm_eq, upm_r, upm_i, if_pos, if_neg, ite_self, true_or, or_true, true_and, and_true, wr_id, i10, i01, lc_lt, lc_gt, lc_ge, lc_le, afit1, afit0, afitI, bifit, not_true_eq_false, not_false_eq_true, if_true, if_false, Bool.false_eq_true, reduceCtorEq, k1557, k1558, g1557_2, M_ofAir, M_flag0, M_flag1, bitW, hc, decide_false, bi_f]; exact ih _ _ (by omega) (by omega)
theorem M_stillTo {i : Int} (hi : 0 ≤ i ∧ i < 30) (hs : 0 ≤ u 1558 3 ∧ u 1558 3 ≤ 6) : a_m 198 [a_r 1557, a_i i] (K0 L, u, G a, t) = some (.inl (some (a_i (mStill (u 1558) i))), (K0 L, u, G a, t)) := by
  simp (disch := first | assumption | omega) only [E_X11_stillTo, B_X11_stillTo_0, B_X11_stillTo_23, B_X11_stillTo_40, Option.bind_some, back_v, Option.toList_some, Option.toList_none, List.cons_append, List.nil_append, Nat.reduceAdd, Int.reduceToNat, Int.reduceNeg, upm_eq, upm_r, upm_i, if_pos, if_neg, ite_self, true_or, or_true, true_and, and_true, wr_id, i10, i01, lc_lt, lc_gt, lc_ge, lc_le, afit1, afit0, afitI, bifit, not_true_eq_false, not_false_eq_true, if_true, if_false, Bool.false_eq_true, reduceCtorEq, k1557, k1558, g1557_2]
  exact M_stillTo_loop hi hs _ _ _ (by omega) (by omega)
theorem M_isOff_loop {l time : Int} (hl : 0 ≤ l ∧ l ≤ 5) (hg : 0 ≤ mLi (u 1558) l 1 ∧ mLi (u 1558) l 1 ≤ 4) : ∀ (d : Nat) (x : Int) (b : Bool), 0 ≤ x → x + d = mLi (u 1558) l 1 → a_X 200 5 [a_r 1557, a_i l, a_i time, a_i (bi b), a_i x] [] (K0 L, u, G a, t) = some (.inl (some (a_i (bi (b || anyW d x (fun i => inB time (mLi (u 1558) l (2 + 2 * i)) (mLi (u 1558) l (2 + 2 * i + 1))))))), (K0 L, u, G a, t)) := by
  intro d
  induction d with
  | zero => intro x b h0 h; rw [B_X11_isOff_5]; simp (disch := first | assumption | omega) only [B_X11_isOff_0, B_X11_isOff_13, B_X11_isOff_33, B_X11_isOff_47, B_X11_isOff_51, Option.bind_some, back_v, Option.toList_some, Option.toList_none, List.cons_append, List.nil_append, Nat.reduceAdd, Int.reduceToNat, Int.reduceNeg, upm_eq, upm_r, upm_i, if_pos, if_neg, ite_self, true_or, or_true, true_and, and_true, wr_id, i10, i01, lc_lt, lc_gt, lc_ge, lc_le, afit1, afit0, afitI, bifit, not_true_eq_false, not_false_eq_true, if_true, if_false, Bool.false_eq_true, reduceCtorEq, k1557, k1558, g1557_2, M_ofListener, anyW, Bool.or_false]
  | succ d ih =>
    intro x b h0 h; rw [B_X11_isOff_5]
    cases b with
    | true =>
      simp (disch := first | assumption | omega) only [B_X11_isOff_0, B_X11_isOff_13, B_X11_isOff_33, B_X11_isOff_47, B_X11_isOff_51, Option.bind_some, back_v, Option.toList_some, Option.toList_none, List.cons_append, List.nil_append, Nat.reduceAdd, Int.reduceToNat, Int.reduceNeg, upm_eq, upm_r, upm_i, if_pos, if_neg, ite_self, true_or, or_true, true_and, and_true, wr_id, i10, i01, lc_lt, lc_gt, lc_ge, lc_le, afit1, afit0, afitI, bifit, not_true_eq_false, not_false_eq_true, if_true, if_false, Bool.false_eq_true, reduceCtorEq, k1557, k1558, g1557_2, M_ofListener, bi_t]
      have := ih (x + 1) true (by omega) (by omega)
      simp only [bi_t, Bool.true_or] at this ⊢
      exact this
    | false =>
      simp (disch := first | assumption | omega) only [B_X11_isOff_0, B_X11_isOff_13, B_X11_isOff_33, B_X11_isOff_47, B_X11_isOff_51, Option.bind_some, back_v, Option.toList_some, Option.toList_none, List.cons_append, List.nil_append, Nat.reduceAdd, Int.reduceToNat, Int.reduceNeg, upm_eq, upm_r, upm_i, if_pos, if_neg, ite_self, true_or, or_true, true_and, and_true, wr_id, i10, i01, lc_lt, lc_gt, lc_ge, lc_le, afit1, afit0, afitI, bifit, not_true_eq_false, not_false_eq_true, if_true, if_false, Bool.false_eq_true, reduceCtorEq, k1557, k1558, g1557_2, M_ofListener, bi_f, M_in]
      cases hc : inB time (mLi (u 1558) l (2 + 2 * x)) (mLi (u 1558) l (2 + 2 * x + 1)) with
      | true => simp (disch := first | assumption | omega) only [B_X11_isOff_0, B_X11_isOff_13, B_X11_isOff_33, B_X11_isOff_47, B_X11_isOff_51, Option.bind_some, back_v, Option.toList_some, Option.toList_none, List.cons_append, List.nil_append, Nat.reduceAdd, Int.reduceToNat, Int.reduceNeg, upm_eq, upm_r, upm_i, if_pos, if_neg, ite_self, true_or, or_true, true_and, and_true, wr_id, i10, i01, lc_lt, lc_gt, lc_ge, lc_le, afit1, afit0, afitI, bifit, not_true_eq_false, not_false_eq_true, if_true, if_false, Bool.false_eq_true, reduceCtorEq, k1557, k1558, g1557_2, hc, bi_t, anyW, Bool.true_or, Bool.or_true]; have := ih (x + 1) true (by omega) (by omega); simpa only [bi_t, Bool.true_or] using this
      | false => simp (disch := first | assumption | omega) only [B_X11_isOff_0, B_X11_isOff_13, B_X11_isOff_33, B_X11_isOff_47, B_X11_isOff_51, Option.bind_some, back_v, Option.toList_some, Option.toList_none, List.cons_append, List.nil_append, Nat.reduceAdd, Int.reduceToNat, Int.reduceNeg, upm_eq, upm_r, upm_i, if_pos, if_neg, ite_self, true_or, or_true, true_and, and_true, wr_id, i10, i01, lc_lt, lc_gt, lc_ge, lc_le, afit1, afit0, afitI, bifit, not_true_eq_false, not_false_eq_true, if_true, if_false, Bool.false_eq_true, reduceCtorEq, k1557, k1558, g1557_2, hc, bi_f, anyW, Bool.false_or]; have := ih (x + 1) false (by omega) (by omega); simpa only [bi_f, Bool.false_or] using this
theorem M_isOff {l time : Int} (hl : 0 ≤ l ∧ l ≤ 5) (hg : 0 ≤ mLi (u 1558) l 1 ∧ mLi (u 1558) l 1 ≤ 4) : a_m 200 [a_r 1557, a_i l, a_i time] (K0 L, u, G a, t) = some (.inl (some (a_i (bi (mOff (u 1558) l time)))), (K0 L, u, G a, t)) := by
  simp (disch := first | assumption | omega) only [E_X11_isOff, B_X11_isOff_0, B_X11_isOff_13, B_X11_isOff_33, B_X11_isOff_47, B_X11_isOff_51, Option.bind_some, back_v, Option.toList_some, Option.toList_none, List.cons_append, List.nil_append, Nat.reduceAdd, Int.reduceToNat, Int.reduceNeg, upm_eq, upm_r, upm_i, if_pos, if_neg, ite_self, true_or, or_true, true_and, and_true, wr_id, i10, i01, lc_lt, lc_gt, lc_ge, lc_le, afit1, afit0, afitI, bifit, not_true_eq_false, not_false_eq_true, if_true, if_false, Bool.false_eq_true, reduceCtorEq, k1557, k1558, g1557_2]
  have := M_isOff_loop (L := L) (u := u) (a := a) (t := t) (time := time) hl hg (mLi (u 1558) l 1).toNat 0 false (by omega) (by omega)
  simpa only [mOff, bi_f, Bool.false_or] using this
theorem M_areAlike_loop {l o k : Int} (hl : -1 ≤ l ∧ l ≤ 5) (ho : -1 ≤ o ∧ o ≤ 5) (hk : 0 ≤ k ∧ k < 12) : ∀ (d : Nat) (x : Int) (b : Bool), 0 ≤ x → x + d = 4 → a_X 209 6 [a_r 1557, a_i l, a_i o, a_i k, a_i (bi b), a_i x] [] (K0 L, u, G a, t) = some (.inl (some (a_i (bi (b && allW d x (fun w => decide (mOf (u 1558) l k w = mOf (u 1558) o k w)))))), (K0 L, u, G a, t)) := by
  intro d
  induction d with
  | zero => intro x b h0 h; rw [B_X11_areAlike_6]; simp (disch := first | assumption | omega) only [B_X11_areAlike_0, B_X11_areAlike_25, B_X11_areAlike_33, Option.bind_some, back_v, Option.toList_some, Option.toList_none, List.cons_append, List.nil_append, Nat.reduceAdd, Int.reduceToNat, Int.reduceNeg, upm_eq, upm_r, upm_i, if_pos, if_neg, ite_self, true_or, or_true, true_and, and_true, wr_id, i10, i01, lc_lt, lc_gt, lc_ge, lc_le, afit1, afit0, afitI, bifit, not_true_eq_false, not_false_eq_true, if_true, if_false, Bool.false_eq_true, reduceCtorEq, k1557, k1558, g1557_2, allW, Bool.and_true]
  | succ d ih =>
    intro x b h0 h; rw [B_X11_areAlike_6]
    cases b with
    | false =>
      simp (disch := first | assumption | omega) only [B_X11_areAlike_0, B_X11_areAlike_25, B_X11_areAlike_33, Option.bind_some, back_v, Option.toList_some, Option.toList_none, List.cons_append, List.nil_append, Nat.reduceAdd, Int.reduceToNat, Int.reduceNeg, upm_eq, upm_r, upm_i, if_pos, if_neg, ite_self, true_or, or_true, true_and, and_true, wr_id, i10, i01, lc_lt, lc_gt, lc_ge, lc_le, afit1, afit0, afitI, bifit, not_true_eq_false, not_false_eq_true, if_true, if_false, Bool.false_eq_true, reduceCtorEq, k1557, k1558, g1557_2, bi_f]
      have := ih (x + 1) false (by omega) (by omega)
      simp only [bi_f, Bool.false_and] at this ⊢
      exact this
    | true =>
      by_cases hc : mOf (u 1558) l k x = mOf (u 1558) o k x
      · simp (disch := first | assumption | omega) only [B_X11_areAlike_0, B_X11_areAlike_25, B_X11_areAlike_33, Option.bind_some, back_v, Option.toList_some, Option.toList_none, List.cons_append, List.nil_append, Nat.reduceAdd, Int.reduceToNat, Int.reduceNeg, upm_eq, upm_r, upm_i, if_pos, if_neg, ite_self, true_or, or_true, true_and, and_true, wr_id, i10, i01, lc_lt, lc_gt, lc_ge, lc_le, afit1, afit0, afitI, bifit, not_true_eq_false, not_false_eq_true, if_true, if_false, Bool.false_eq_true, reduceCtorEq, k1557, k1558, g1557_2, M_of, bi_t, allW, hc, decide_true, Bool.true_and]
        have := ih (x + 1) true (by omega) (by omega)
        simpa only [bi_t, Bool.true_and] using this
      · simp (disch := first | assumption | omega) only [B_X11_areAlike_0, B_X11_areAlike_25, B_X11_areAlike_33, Option.bind_some, back_v, Option.toList_some, Option.toList_none, List.cons_append, List.nil_append, Nat.reduceAdd, Int.reduceToNat, Int.reduceNeg, upm_eq, upm_r, upm_i, if_pos, if_neg, ite_self, true_or, or_true, true_and, and_true, wr_id, i10, i01, lc_lt, lc_gt, lc_ge, lc_le, afit1, afit0, afitI, bifit, not_true_eq_false, not_false_eq_true, if_true, if_false, Bool.false_eq_true, reduceCtorEq, k1557, k1558, g1557_2, M_of, bi_t, allW, hc, decide_false, Bool.false_and, Bool.and_false]
        have := ih (x + 1) false (by omega) (by omega)
        simpa only [bi_f, Bool.false_and] using this
theorem M_areAlike {l o k : Int} (hl : -1 ≤ l ∧ l ≤ 5) (ho : -1 ≤ o ∧ o ≤ 5) (hk : 0 ≤ k ∧ k < 12) : a_m 209 [a_r 1557, a_i l, a_i o, a_i k] (K0 L, u, G a, t) = some (.inl (some (a_i (bi (mAlike (u 1558) l o k)))), (K0 L, u, G a, t)) := by
  simp (disch := first | assumption | omega) only [E_X11_areAlike, B_X11_areAlike_0, B_X11_areAlike_25, B_X11_areAlike_33, Option.bind_some, back_v, Option.toList_some, Option.toList_none, List.cons_append, List.nil_append, Nat.reduceAdd, Int.reduceToNat, Int.reduceNeg, upm_eq, upm_r, upm_i, if_pos, if_neg, ite_self, true_or, or_true, true_and, and_true, wr_id, i10, i01, lc_lt, lc_gt, lc_ge, lc_le, afit1, afit0, afitI, bifit, not_true_eq_false, not_false_eq_true, if_true, if_false, Bool.false_eq_true, reduceCtorEq, k1557, k1558, g1557_2]
  have := M_areAlike_loop (L := L) (u := u) (a := a) (t := t) hl ho hk 4 0 true (by omega) (by omega)
  simpa only [mAlike, bi_t, Bool.true_and] using this
theorem M_differing_loop {l o : Int} (hl : -1 ≤ l ∧ l ≤ 5) (ho : -1 ≤ o ∧ o ≤ 5) : ∀ (d : Nat) (x acc : Int), 0 ≤ x → x + d = 12 → a_X 210 5 [a_r 1557, a_i l, a_i o, a_i acc, a_i x] [] (K0 L, u, G a, t) = some (.inl (some (a_i (bitW d x acc (fun k => ! mAlike (u 1558) l o k)))), (K0 L, u, G a, t)) := by
  intro d
  induction d with
  | zero => intro x acc h0 h; rw [B_X11_differing_5]; simp (disch := first | assumption | omega) only [B_X11_differing_0, B_X11_differing_21, B_X11_differing_32, Option.bind_some, back_v, Option.toList_some, Option.toList_none, List.cons_append, List.nil_append, Nat.reduceAdd, Int.reduceToNat, Int.reduceNeg, upm_eq, upm_r, upm_i, if_pos, if_neg, ite_self, true_or, or_true, true_and, and_true, wr_id, i10, i01, lc_lt, lc_gt, lc_ge, lc_le, afit1, afit0, afitI, bifit, not_true_eq_false, not_false_eq_true, if_true, if_false, Bool.false_eq_true, reduceCtorEq, k1557, k1558, g1557_2, bitW]
  | succ d ih =>
    intro x acc h0 h; rw [B_X11_differing_5]
    cases hc : mAlike (u 1558) l o x with
    | true => simp (disch := first | assumption | omega) only [B_X11_differing_0, B_X11_differing_21, B_X11_differing_32, Option.bind_some, back_v, Option.toList_some, Option.toList_none, List.cons_append, List.nil_append, Nat.reduceAdd, Int.reduceToNat, Int.reduceNeg, upm_eq, upm_r, upm_i, if_pos, if_neg, ite_self, true_or, or_true, true_and, and_true, wr_id, i10, i01, lc_lt, lc_gt, lc_ge, lc_le, afit1, afit0, afitI, bifit, not_true_eq_false, not_false_eq_true, if_true, if_false, Bool.false_eq_true, reduceCtorEq, k1557, k1558, g1557_2, M_areAlike, hc, bi_t, bi_f, M_flag0, M_flag1, bitW, Bool.not_true]; exact ih _ _ (by omega) (by omega)
    | false => simp (disch := first | assumption | omega) only [B_X11_differing_0, B_X11_differing_21, B_X11_differing_32, Option.bind_some, back_v, Option.toList_some, Option.toList_none, List.cons_append, List.nil_append, Nat.reduceAdd, Int.reduceToNat, Int.reduceNeg, upm_eq, upm_r, upm_i, if_pos, if_neg, ite_self, true_or, or_true, true_and, and_true, wr_id, i10, i01, lc_lt, lc_gt, lc_ge, lc_le, afit1, afit0, afitI, bifit, not_true_eq_false, not_false_eq_true, if_true, if_false, Bool.false_eq_true, reduceCtorEq, k1557, k1558, g1557_2, M_areAlike, hc, bi_t, bi_f, M_flag0, M_flag1, bitW, Bool.not_false]; exact ih _ _ (by omega) (by omega)
theorem M_differing {l o : Int} (hl : -1 ≤ l ∧ l ≤ 5) (ho : -1 ≤ o ∧ o ≤ 5) : a_m 210 [a_r 1557, a_i l, a_i o] (K0 L, u, G a, t) = some (.inl (some (a_i (mDiff (u 1558) l o))), (K0 L, u, G a, t)) := by
  simp (disch := first | assumption | omega) only [E_X11_differing, B_X11_differing_0, B_X11_differing_21, B_X11_differing_32, Option.bind_some, back_v, Option.toList_some, Option.toList_none, List.cons_append, List.nil_append, Nat.reduceAdd, Int.reduceToNat, Int.reduceNeg, upm_eq, upm_r, upm_i, if_pos, if_neg, ite_self, true_or, or_true, true_and, and_true, wr_id, i10, i01, lc_lt, lc_gt, lc_ge, lc_le, afit1, afit0, afitI, bifit, not_true_eq_false, not_false_eq_true, if_true, if_false, Bool.false_eq_true, reduceCtorEq, k1557, k1558, g1557_2]
  exact M_differing_loop hl ho _ _ _ (by omega) (by omega)
theorem M_sameOnes_loop (hs : 0 ≤ u 1558 3 ∧ u 1558 3 ≤ 6) : ∀ (d : Nat) (x acc : Int), 0 ≤ x → x + d = u 1558 3 → a_X 211 4 [a_r 1557, a_i acc, a_i x] [] (K0 L, u, G a, t) = some (.inl (some (a_i (sumW d x acc (fun l => bi (decide (mDiff (u 1558) l (-1) = 0)))))), (K0 L, u, G a, t)) := by
  intro d
  induction d with
  | zero => intro x acc h0 h; rw [B_X11_sameOnes_4]; simp (disch := first | assumption | omega) only [B_X11_sameOnes_0, B_X11_sameOnes_21, B_X11_sameOnes_32, Option.bind_some, back_v, Option.toList_some, Option.toList_none, List.cons_append, List.nil_append, Nat.reduceAdd, Int.reduceToNat, Int.reduceNeg, upm_eq, upm_r, upm_i, if_pos, if_neg, ite_self, true_or, or_true, true_and, and_true, wr_id, i10, i01, lc_lt, lc_gt, lc_ge, lc_le, afit1, afit0, afitI, bifit, not_true_eq_false, not_false_eq_true, if_true, if_false, Bool.false_eq_true, reduceCtorEq, k1557, k1558, g1557_2, sumW]
  | succ d ih =>
    intro x acc h0 h; rw [B_X11_sameOnes_4]
    by_cases hc : mDiff (u 1558) x (-1) = 0
    · simp (disch := first | assumption | omega) only [B_X11_sameOnes_0, B_X11_sameOnes_21, B_X11_sameOnes_32, Option.bind_some, back_v, Option.toList_some, Option.toList_none, List.cons_append, List.nil_append, Nat.reduceAdd, Int.reduceToNat, Int.reduceNeg, upm_eq, upm_r, upm_i, if_pos, if_neg, ite_self, true_or, or_true, true_and, and_true, wr_id, i10, i01, lc_lt, lc_gt, lc_ge, lc_le, afit1, afit0, afitI, bifit, not_true_eq_false, not_false_eq_true, if_true, if_false, Bool.false_eq_true, reduceCtorEq, k1557, k1558, g1557_2, M_differing, hc, bi_t, M_flag0, M_flag1, sumW, decide_true]; exact ih _ _ (by omega) (by omega)
    · simp (disch := first | assumption | omega) only [B_X11_sameOnes_0, B_X11_sameOnes_21, B_X11_sameOnes_32, Option.bind_some, back_v, Option.toList_some, Option.toList_none, List.cons_append, List.nil_append, Nat.reduceAdd, Int.reduceToNat, Int.reduceNeg, upm_eq, upm_r, upm_i, if_pos, if_neg, ite_self, true_or, or_true, true_and, and_true, wr_id, i10, i01, lc_lt, lc_gt, lc_ge, lc_le, afit1, afit0, afitI, bifit, not_true_eq_false, not_false_eq_true, if_true, if_false, Bool.false_eq_true, reduceCtorEq, k1557, k1558, g1557_2, M_differing, hc, bi_f, M_flag0, M_flag1, sumW, decide_false]; exact ih _ _ (by omega) (by omega)
def mSame (s : Nat → Int) : Int := sumW (s 3).toNat 0 0 fun l => bi (decide (mDiff s l (-1) = 0))
theorem M_sameOnes (hs : 0 ≤ u 1558 3 ∧ u 1558 3 ≤ 6) : a_m 211 [a_r 1557] (K0 L, u, G a, t) = some (.inl (some (a_i (mSame (u 1558)))), (K0 L, u, G a, t)) := by
  simp (disch := first | assumption | omega) only [E_X11_sameOnes, B_X11_sameOnes_0, B_X11_sameOnes_21, B_X11_sameOnes_32, Option.bind_some, back_v, Option.toList_some, Option.toList_none, List.cons_append, List.nil_append, Nat.reduceAdd, Int.reduceToNat, Int.reduceNeg, upm_eq, upm_r, upm_i, if_pos, if_neg, ite_self, true_or, or_true, true_and, and_true, wr_id, i10, i01, lc_lt, lc_gt, lc_ge, lc_le, afit1, afit0, afitI, bifit, not_true_eq_false, not_false_eq_true, if_true, if_false, Bool.false_eq_true, reduceCtorEq, k1557, k1558, g1557_2]
  exact M_sameOnes_loop hs _ _ _ (by omega) (by omega)
theorem M_stopsNow_loop : ∀ (d : Nat) (x acc : Int), 0 ≤ x → x + d = 12 → a_X 212 4 [a_r 1557, a_i acc, a_i x] [] (K0 L, u, G a, t) = some (.inl (some (a_i (sumW d x acc (fun k => bi (!decide (mOf (u 1558) (-1) k 0 = -1)))))), (K0 L, u, G a, t)) := by
  intro d
  induction d with
  | zero => intro x acc h0 h; rw [B_X11_stopsNow_4]; simp (disch := first | assumption | omega) only [B_X11_stopsNow_0, B_X11_stopsNow_17, B_X11_stopsNow_28, Option.bind_some, back_v, Option.toList_some, Option.toList_none, List.cons_append, List.nil_append, Nat.reduceAdd, Int.reduceToNat, Int.reduceNeg, upm_eq, upm_r, upm_i, if_pos, if_neg, ite_self, true_or, or_true, true_and, and_true, wr_id, i10, i01, lc_lt, lc_gt, lc_ge, lc_le, afit1, afit0, afitI, bifit, not_true_eq_false, not_false_eq_true, if_true, if_false, Bool.false_eq_true, reduceCtorEq, k1557, k1558, g1557_2, sumW]
  | succ d ih =>
    intro x acc h0 h; rw [B_X11_stopsNow_4]
    by_cases hc : mOf (u 1558) (-1) x 0 = -1
    · simp (disch := first | assumption | omega) only [B_X11_stopsNow_0, B_X11_stopsNow_17, B_X11_stopsNow_28, Option.bind_some, back_v, Option.toList_some, Option.toList_none, List.cons_append, List.nil_append, Nat.reduceAdd, Int.reduceToNat, Int.reduceNeg, upm_eq, upm_r, upm_i, if_pos, if_neg, ite_self, true_or, or_true, true_and, and_true, wr_id, i10, i01, lc_lt, lc_gt, lc_ge, lc_le, afit1, afit0, afitI, bifit, not_true_eq_false, not_false_eq_true, if_true, if_false, Bool.false_eq_true, reduceCtorEq, k1557, k1558, g1557_2, M_isFree, hc, bi_t, bi_f, M_flag0, M_flag1, sumW, decide_true, Bool.not_true]; exact ih _ _ (by omega) (by omega)
    · simp (disch := first | assumption | omega) only [B_X11_stopsNow_0, B_X11_stopsNow_17, B_X11_stopsNow_28, Option.bind_some, back_v, Option.toList_some, Option.toList_none, List.cons_append, List.nil_append, Nat.reduceAdd, Int.reduceToNat, Int.reduceNeg, upm_eq, upm_r, upm_i, if_pos, if_neg, ite_self, true_or, or_true, true_and, and_true, wr_id, i10, i01, lc_lt, lc_gt, lc_ge, lc_le, afit1, afit0, afitI, bifit, not_true_eq_false, not_false_eq_true, if_true, if_false, Bool.false_eq_true, reduceCtorEq, k1557, k1558, g1557_2, M_isFree, hc, bi_f, bi_t, M_flag0, M_flag1, sumW, decide_false, Bool.not_false]; exact ih _ _ (by omega) (by omega)
def mStops (s : Nat → Int) : Int := sumW 12 0 0 fun k => bi (!decide (mOf s (-1) k 0 = -1))
theorem M_stopsNow : a_m 212 [a_r 1557] (K0 L, u, G a, t) = some (.inl (some (a_i (mStops (u 1558)))), (K0 L, u, G a, t)) := by
  simp (disch := first | assumption | omega) only [E_X11_stopsNow, B_X11_stopsNow_0, B_X11_stopsNow_17, B_X11_stopsNow_28, Option.bind_some, back_v, Option.toList_some, Option.toList_none, List.cons_append, List.nil_append, Nat.reduceAdd, Int.reduceToNat, Int.reduceNeg, upm_eq, upm_r, upm_i, if_pos, if_neg, ite_self, true_or, or_true, true_and, and_true, wr_id, i10, i01, lc_lt, lc_gt, lc_ge, lc_le, afit1, afit0, afitI, bifit, not_true_eq_false, not_false_eq_true, if_true, if_false, Bool.false_eq_true, reduceCtorEq, k1557, k1558, g1557_2]
  exact M_stopsNow_loop _ _ _ (by omega) (by omega)
theorem M_onAirOf_loop {w : Int} (hs : 0 ≤ u 1558 4 ∧ u 1558 4 ≤ 30) : ∀ (d : Nat) (x acc : Int), 0 ≤ x → x + d = u 1558 4 → a_X 213 4 [a_r 1557, a_i w, a_i acc, a_i x] [] (K0 L, u, G a, t) = some (.inl (some (a_i (sumW d x acc (fun i => bi (decide (mAi (u 1558) i 0 = w)))))), (K0 L, u, G a, t)) := by
  intro d
  induction d with
  | zero => intro x acc h0 h; rw [B_X11_onAirOf_4]; simp (disch := first | assumption | omega) only [B_X11_onAirOf_0, B_X11_onAirOf_21, B_X11_onAirOf_33, Option.bind_some, back_v, Option.toList_some, Option.toList_none, List.cons_append, List.nil_append, Nat.reduceAdd, Int.reduceToNat, Int.reduceNeg, upm_eq, upm_r, upm_i, if_pos, if_neg, ite_self, true_or, or_true, true_and, and_true, wr_id, i10, i01, lc_lt, lc_gt, lc_ge, lc_le, afit1, afit0, afitI, bifit, not_true_eq_false, not_false_eq_true, if_true, if_false, Bool.false_eq_true, reduceCtorEq, k1557, k1558, g1557_2, sumW]
  | succ d ih =>
    intro x acc h0 h; rw [B_X11_onAirOf_4]
    by_cases hc : mAi (u 1558) x 0 = w
    · simp (disch := first | assumption | omega) only [B_X11_onAirOf_0, B_X11_onAirOf_21, B_X11_onAirOf_33, Option.bind_some, back_v, Option.toList_some, Option.toList_none, List.cons_append, List.nil_append, Nat.reduceAdd, Int.reduceToNat, Int.reduceNeg, upm_eq, upm_r, upm_i, if_pos, if_neg, ite_self, true_or, or_true, true_and, and_true, wr_id, i10, i01, lc_lt, lc_gt, lc_ge, lc_le, afit1, afit0, afitI, bifit, not_true_eq_false, not_false_eq_true, if_true, if_false, Bool.false_eq_true, reduceCtorEq, k1557, k1558, g1557_2, M_ofAir, hc, bi_t, bi_f, M_flag0, M_flag1, sumW, decide_true]; exact ih _ _ (by omega) (by omega)
    · simp (disch := first | assumption | omega) only [B_X11_onAirOf_0, B_X11_onAirOf_21, B_X11_onAirOf_33, Option.bind_some, back_v, Option.toList_some, Option.toList_none, List.cons_append, List.nil_append, Nat.reduceAdd, Int.reduceToNat, Int.reduceNeg, upm_eq, upm_r, upm_i, if_pos, if_neg, ite_self, true_or, or_true, true_and, and_true, wr_id, i10, i01, lc_lt, lc_gt, lc_ge, lc_le, afit1, afit0, afitI, bifit, not_true_eq_false, not_false_eq_true, if_true, if_false, Bool.false_eq_true, reduceCtorEq, k1557, k1558, g1557_2, M_ofAir, hc, bi_f, bi_t, M_flag0, M_flag1, sumW, decide_false]; exact ih _ _ (by omega) (by omega)
def mOnAir (s : Nat → Int) (w : Int) : Int := sumW (s 4).toNat 0 0 fun i => bi (decide (mAi s i 0 = w))
theorem M_onAirOf {w : Int} (hs : 0 ≤ u 1558 4 ∧ u 1558 4 ≤ 30) : a_m 213 [a_r 1557, a_i w] (K0 L, u, G a, t) = some (.inl (some (a_i (mOnAir (u 1558) w))), (K0 L, u, G a, t)) := by
  simp (disch := first | assumption | omega) only [E_X11_onAirOf, B_X11_onAirOf_0, B_X11_onAirOf_21, B_X11_onAirOf_33, Option.bind_some, back_v, Option.toList_some, Option.toList_none, List.cons_append, List.nil_append, Nat.reduceAdd, Int.reduceToNat, Int.reduceNeg, upm_eq, upm_r, upm_i, if_pos, if_neg, ite_self, true_or, or_true, true_and, and_true, wr_id, i10, i01, lc_lt, lc_gt, lc_ge, lc_le, afit1, afit0, afitI, bifit, not_true_eq_false, not_false_eq_true, if_true, if_false, Bool.false_eq_true, reduceCtorEq, k1557, k1558, g1557_2]
  exact M_onAirOf_loop hs _ _ _ (by omega) (by omega)
theorem M_sumOf_loop {w : Int} (hw : 0 ≤ w ∧ w < 19) (hs : 0 ≤ u 1558 3 ∧ u 1558 3 ≤ 6) : ∀ (d : Nat) (x acc : Int), 0 ≤ x → x + d = u 1558 3 → a_X 214 4 [a_r 1557, a_i w, a_i acc, a_i x] [] (K0 L, u, G a, t) = some (.inl (some (a_i (sumW d x acc (fun l => mLi (u 1558) l w)))), (K0 L, u, G a, t)) := by
  intro d
  induction d with
  | zero => intro x acc h0 h; rw [B_X11_sumOf_4]; simp (disch := first | assumption | omega) only [B_X11_sumOf_0, B_X11_sumOf_21, Option.bind_some, back_v, Option.toList_some, Option.toList_none, List.cons_append, List.nil_append, Nat.reduceAdd, Int.reduceToNat, Int.reduceNeg, upm_eq, upm_r, upm_i, if_pos, if_neg, ite_self, true_or, or_true, true_and, and_true, wr_id, i10, i01, lc_lt, lc_gt, lc_ge, lc_le, afit1, afit0, afitI, bifit, not_true_eq_false, not_false_eq_true, if_true, if_false, Bool.false_eq_true, reduceCtorEq, k1557, k1558, g1557_2, sumW]
  | succ d ih => intro x acc h0 h; rw [B_X11_sumOf_4]; simp (disch := first | assumption | omega) only [B_X11_sumOf_0, B_X11_sumOf_21, Option.bind_some, back_v, Option.toList_some, Option.toList_none, List.cons_append, List.nil_append, Nat.reduceAdd, Int.reduceToNat, Int.reduceNeg, upm_eq, upm_r, upm_i, if_pos, if_neg, ite_self, true_or, or_true, true_and, and_true, wr_id, i10, i01, lc_lt, lc_gt, lc_ge, lc_le, afit1, afit0, afitI, bifit, not_true_eq_false, not_false_eq_true, if_true, if_false, Bool.false_eq_true, reduceCtorEq, k1557, k1558, g1557_2, M_ofListener, sumW]; exact ih _ _ (by omega) (by omega)
def mSum (s : Nat → Int) (w : Int) : Int := sumW (s 3).toNat 0 0 fun l => mLi s l w
theorem M_sumOf {w : Int} (hw : 0 ≤ w ∧ w < 19) (hs : 0 ≤ u 1558 3 ∧ u 1558 3 ≤ 6) : a_m 214 [a_r 1557, a_i w] (K0 L, u, G a, t) = some (.inl (some (a_i (mSum (u 1558) w))), (K0 L, u, G a, t)) := by
  simp (disch := first | assumption | omega) only [E_X11_sumOf, B_X11_sumOf_0, B_X11_sumOf_21, Option.bind_some, back_v, Option.toList_some, Option.toList_none, List.cons_append, List.nil_append, Nat.reduceAdd, Int.reduceToNat, Int.reduceNeg, upm_eq, upm_r, upm_i, if_pos, if_neg, ite_self, true_or, or_true, true_and, and_true, wr_id, i10, i01, lc_lt, lc_gt, lc_ge, lc_le, afit1, afit0, afitI, bifit, not_true_eq_false, not_false_eq_true, if_true, if_false, Bool.false_eq_true, reduceCtorEq, k1557, k1558, g1557_2]
  exact M_sumOf_loop hw hs _ _ _ (by omega) (by omega)
end M2
