/-! ===== the reference's small methods ===== -/
def bi (b : Bool) : Int := if b = true then 1 else 0
theorem bi_t : bi true = 1 := rfl
theorem bi_f : bi false = 0 := rfl
theorem bi0 {b : Bool} : (bi b = 0) = (b = false) := by cases b <;> simp [bi]
theorem bi1 {b : Bool} : (bi b ≠ 0) = (b = true) := by cases b <;> simp [bi]
theorem bie1 {b : Bool} : (bi b = 1) = (b = true) := by cases b <;> simp [bi]
theorem bine1 {b : Bool} : (bi b ≠ 1) = (b = false) := by cases b <;> simp [bi]
theorem bifit {b : Bool} : a_fit 2 (bi b) = true := by cases b <;> simp [bi, a_fit]
theorem bi_lo {b : Bool} : 0 ≤ bi b := by cases b <;> simp [bi]
theorem bi_hi {b : Bool} : bi b ≤ 1 := by cases b <;> simp [bi]
theorem afit1 : a_fit 2 1 = true := rfl
theorem afit0 : a_fit 2 0 = true := rfl
theorem afitI {z : Int} : a_fit 1 z = true := rfl
def inB (v lo hi : Int) : Bool := decide (lo ≤ v) && decide (v ≤ hi)
theorem inB_iff {v lo hi : Int} : inB v lo hi = true ↔ lo ≤ v ∧ v ≤ hi := by simp [inB]
theorem inB_t {v lo hi : Int} (h : lo ≤ v) (h2 : v ≤ hi) : inB v lo hi = true := inB_iff.mpr ⟨h, h2⟩
theorem inB_f {v lo hi : Int} (h : v < lo ∨ hi < v) : inB v lo hi = false := by
  cases hb : inB v lo hi with
  | false => rfl
  | true => have := inB_iff.mp hb; omega
theorem upm_upm {α : Type} {f : Nat → Nat → α} {r i : Nat} {v w : α} : upm (upm f r i v) r i w = upm f r i w := by
  funext q j; unfold upm; by_cases h : q = r ∧ j = i <;> simp [h]
def mOf (s : Nat → Int) (l k w : Int) : Int := s (16 + 60 * (l + 1) + 5 * k + w).toNat
def mLi (s : Nat → Int) (l w : Int) : Int := s (436 + 19 * l + w).toNat
def mAi (s : Nat → Int) (i w : Int) : Int := s (1150 + 71 * i + w).toNat
def mCo (s : Nat → Int) (n w : Int) : Int := s (550 + 6 * (n - 1) + w).toNat
def mHeard (s : Nat → Int) (l n : Int) : Bool := inB n 1 (s 2) && decide (zand (zshr (mLi s l (15 + n.tdiv 32)) (n.tmod 32)) 1 = 1)
theorem i10 : ((1 : Int) = 0) = False := by simp
theorem i01 : ((0 : Int) = 1) = False := by simp
theorem lc_lt {x y : Int} : ((if x < y then (-1 : Int) else if x = y then 0 else 1) < 0) = (x < y) := by
  by_cases h : x < y
  · simp [h]
  · by_cases h2 : x = y <;> simp [h, h2]
theorem lc_gt {x y : Int} : ((if x < y then (-1 : Int) else if x = y then 0 else 1) > 0) = (y < x) := by
  by_cases h : x < y
  · simp [h]; omega
  · by_cases h2 : x = y
    · simp [h2]
    · simp [h, h2]; omega
theorem lc_ge {x y : Int} : ((if x < y then (-1 : Int) else if x = y then 0 else 1) ≥ 0) = (y ≤ x) := by
  by_cases h : x < y
  · simp [h]
  · by_cases h2 : x = y
    · simp [h2]
    · simp [h, h2]; omega
theorem lc_le {x y : Int} : ((if x < y then (-1 : Int) else if x = y then 0 else 1) ≤ 0) = (x ≤ y) := by
  by_cases h : x < y
  · simp [h]; omega
  · by_cases h2 : x = y
    · simp [h2]
    · simp [h, h2]; omega
section M1
variable {L : Nat} {u : Nat → Nat → Int} {a : Nat → Nat → Nat} {t : Nat × Nat × Nat}
theorem M_in {k : Nat → Nat × Nat} {g : Nat → Nat → Nat} {x y z : Int} : a_m 155 [a_l x, a_l y, a_l z] (k, u, g, t) = some (.inl (some (a_i (bi (inB x y z)))), (k, u, g, t)) := by
  rw [E_X11_in, B_X11_in_0]
  simp only [lc_lt, lc_gt]
  by_cases h1 : x < y
  · rw [inB_f (.inl h1)]; simp [h1, bi]
  · by_cases h2 : z < x
    · rw [inB_f (.inr h2)]; simp [h1, h2, bi]
    · rw [inB_t (by omega) (by omega)]; simp [h1, h2, bi]
theorem M_flag {k : Nat → Nat × Nat} {g : Nat → Nat → Nat} {x : Int} : a_m 156 [a_i x] (k, u, g, t) = some (.inl (some (a_i (bi (decide (x ≠ 0))))), (k, u, g, t)) := by
  rw [E_X11_flag, B_X11_flag_0]
  by_cases h : x = 0 <;> simp [h, bi]
theorem M_flag0 {k : Nat → Nat × Nat} {g : Nat → Nat → Nat} : a_m 156 [a_i 0] (k, u, g, t) = some (.inl (some (a_i 0)), (k, u, g, t)) := M_flag
theorem M_flag1 {k : Nat → Nat × Nat} {g : Nat → Nat → Nat} : a_m 156 [a_i 1] (k, u, g, t) = some (.inl (some (a_i 1)), (k, u, g, t)) := M_flag
theorem M_refuse0 {c : Int} : a_m 157 [a_r 1557, a_i 0, a_i c] (K0 L, upm u 1557 0 0, G a, t) = some (.inl (some (a_i (0))), (K0 L, upm u 1557 0 0, G a, t)) := by
  simp (disch := first | assumption | omega) only [E_X11_refuse, B_X11_refuse_0, Option.bind_some, back_v, Option.toList_some, Option.toList_none, List.cons_append, List.nil_append, Nat.reduceAdd, Int.reduceToNat, Int.reduceNeg, upm_eq, upm_r, upm_i, if_pos, if_neg, ite_self, true_or, or_true, true_and, and_true, wr_id, i10, i01, lc_lt, lc_gt, lc_ge, lc_le, afit1, afit0, afitI, bifit, not_true_eq_false, not_false_eq_true, if_true, if_false, Bool.false_eq_true, reduceCtorEq, k1557, k1558, g1557_2]
theorem M_refuse1 {c : Int} (hc : c ≠ 0) : a_m 157 [a_r 1557, a_i 1, a_i c] (K0 L, upm u 1557 0 0, G a, t) = some (.inl (some (a_i (1))), (K0 L, upm u 1557 0 c, G a, t)) := by
  simp (disch := first | assumption | omega) only [E_X11_refuse, B_X11_refuse_0, Option.bind_some, back_v, Option.toList_some, Option.toList_none, List.cons_append, List.nil_append, Nat.reduceAdd, Int.reduceToNat, Int.reduceNeg, upm_eq, upm_r, upm_i, if_pos, if_neg, ite_self, true_or, or_true, true_and, and_true, wr_id, i10, i01, lc_lt, lc_gt, lc_ge, lc_le, afit1, afit0, afitI, bifit, not_true_eq_false, not_false_eq_true, if_true, if_false, Bool.false_eq_true, reduceCtorEq, k1557, k1558, g1557_2, upm_upm]
theorem M_thrown {c : Int} : a_m 154 [a_r 1557] (K0 L, upm u 1557 0 c, G a, t) = some (.inl (some (a_i (c))), (K0 L, upm u 1557 0 c, G a, t)) := by
  simp (disch := first | assumption | omega) only [E_X11_thrown, B_X11_thrown_0, Option.bind_some, back_v, Option.toList_some, Option.toList_none, List.cons_append, List.nil_append, Nat.reduceAdd, Int.reduceToNat, Int.reduceNeg, upm_eq, upm_r, upm_i, if_pos, if_neg, ite_self, true_or, or_true, true_and, and_true, wr_id, i10, i01, lc_lt, lc_gt, lc_ge, lc_le, afit1, afit0, afitI, bifit, not_true_eq_false, not_false_eq_true, if_true, if_false, Bool.false_eq_true, reduceCtorEq, k1557, k1558, g1557_2, afitI]
theorem M_notLoaded0 (h : u 1557 1 = 0) : a_m 158 [a_r 1557] (K0 L, u, G a, t) = some (.inl (some (a_i (1))), (K0 L, upm u 1557 0 1, G a, t)) := by
  simp (disch := first | assumption | omega) only [E_X11_notLoaded, B_X11_notLoaded_0, B_X11_notLoaded_22, Option.bind_some, back_v, Option.toList_some, Option.toList_none, List.cons_append, List.nil_append, Nat.reduceAdd, Int.reduceToNat, Int.reduceNeg, upm_eq, upm_r, upm_i, if_pos, if_neg, ite_self, true_or, or_true, true_and, and_true, wr_id, i10, i01, lc_lt, lc_gt, lc_ge, lc_le, afit1, afit0, afitI, bifit, not_true_eq_false, not_false_eq_true, if_true, if_false, Bool.false_eq_true, reduceCtorEq, k1557, k1558, g1557_2, M_refuse1, h]
theorem M_notLoaded1 (h : u 1557 1 ≠ 0) : a_m 158 [a_r 1557] (K0 L, u, G a, t) = some (.inl (some (a_i (0))), (K0 L, upm u 1557 0 0, G a, t)) := by
  simp (disch := first | assumption | omega) only [E_X11_notLoaded, B_X11_notLoaded_0, B_X11_notLoaded_22, Option.bind_some, back_v, Option.toList_some, Option.toList_none, List.cons_append, List.nil_append, Nat.reduceAdd, Int.reduceToNat, Int.reduceNeg, upm_eq, upm_r, upm_i, if_pos, if_neg, ite_self, true_or, or_true, true_and, and_true, wr_id, i10, i01, lc_lt, lc_gt, lc_ge, lc_le, afit1, afit0, afitI, bifit, not_true_eq_false, not_false_eq_true, if_true, if_false, Bool.false_eq_true, reduceCtorEq, k1557, k1558, g1557_2, M_refuse0]
theorem M_noListener0 {l : Int} (h : u 1557 1 = 0) : a_m 159 [a_r 1557, a_i l] (K0 L, u, G a, t) = some (.inl (some (a_i (1))), (K0 L, upm u 1557 0 1, G a, t)) := by
  simp (disch := first | assumption | omega) only [E_X11_noListener, B_X11_noListener_0, B_X11_noListener_4, B_X11_noListener_23, B_X11_noListener_35, Option.bind_some, back_v, Option.toList_some, Option.toList_none, List.cons_append, List.nil_append, Nat.reduceAdd, Int.reduceToNat, Int.reduceNeg, upm_eq, upm_r, upm_i, if_pos, if_neg, ite_self, true_or, or_true, true_and, and_true, wr_id, i10, i01, lc_lt, lc_gt, lc_ge, lc_le, afit1, afit0, afitI, bifit, not_true_eq_false, not_false_eq_true, if_true, if_false, Bool.false_eq_true, reduceCtorEq, k1557, k1558, g1557_2, M_notLoaded0]
theorem M_noListener2 {l : Int} (h : u 1557 1 ≠ 0) (hs : 0 ≤ u 1558 3 ∧ u 1558 3 ≤ 6) (h2 : inB l 0 (u 1558 3 - 1) = false) : a_m 159 [a_r 1557, a_i l] (K0 L, u, G a, t) = some (.inl (some (a_i (1))), (K0 L, upm u 1557 0 2, G a, t)) := by
  simp (disch := first | assumption | omega) only [E_X11_noListener, B_X11_noListener_0, B_X11_noListener_4, B_X11_noListener_23, B_X11_noListener_35, Option.bind_some, back_v, Option.toList_some, Option.toList_none, List.cons_append, List.nil_append, Nat.reduceAdd, Int.reduceToNat, Int.reduceNeg, upm_eq, upm_r, upm_i, if_pos, if_neg, ite_self, true_or, or_true, true_and, and_true, wr_id, i10, i01, lc_lt, lc_gt, lc_ge, lc_le, afit1, afit0, afitI, bifit, not_true_eq_false, not_false_eq_true, if_true, if_false, Bool.false_eq_true, reduceCtorEq, k1557, k1558, g1557_2, M_notLoaded1, M_in, M_refuse1, h2, bi_f]
theorem M_noListener {l : Int} (h : u 1557 1 ≠ 0) (hs : 0 ≤ u 1558 3 ∧ u 1558 3 ≤ 6) (h2 : inB l 0 (u 1558 3 - 1) = true) : a_m 159 [a_r 1557, a_i l] (K0 L, u, G a, t) = some (.inl (some (a_i (0))), (K0 L, upm u 1557 0 0, G a, t)) := by
  simp (disch := first | assumption | omega) only [E_X11_noListener, B_X11_noListener_0, B_X11_noListener_4, B_X11_noListener_23, B_X11_noListener_35, Option.bind_some, back_v, Option.toList_some, Option.toList_none, List.cons_append, List.nil_append, Nat.reduceAdd, Int.reduceToNat, Int.reduceNeg, upm_eq, upm_r, upm_i, if_pos, if_neg, ite_self, true_or, or_true, true_and, and_true, wr_id, i10, i01, lc_lt, lc_gt, lc_ge, lc_le, afit1, afit0, afitI, bifit, not_true_eq_false, not_false_eq_true, if_true, if_false, Bool.false_eq_true, reduceCtorEq, k1557, k1558, g1557_2, M_notLoaded1, M_in, M_refuse0, h2, bi_t]
theorem M_noList0 {l : Int} (h : u 1557 1 = 0) : a_m 160 [a_r 1557, a_i l] (K0 L, u, G a, t) = some (.inl (some (a_i (1))), (K0 L, upm u 1557 0 1, G a, t)) := by
  simp (disch := first | assumption | omega) only [E_X11_noList, B_X11_noList_0, B_X11_noList_4, B_X11_noList_25, B_X11_noList_37, Option.bind_some, back_v, Option.toList_some, Option.toList_none, List.cons_append, List.nil_append, Nat.reduceAdd, Int.reduceToNat, Int.reduceNeg, upm_eq, upm_r, upm_i, if_pos, if_neg, ite_self, true_or, or_true, true_and, and_true, wr_id, i10, i01, lc_lt, lc_gt, lc_ge, lc_le, afit1, afit0, afitI, bifit, not_true_eq_false, not_false_eq_true, if_true, if_false, Bool.false_eq_true, reduceCtorEq, k1557, k1558, g1557_2, M_notLoaded0]
theorem M_noList2 {l : Int} (h : u 1557 1 ≠ 0) (hs : 0 ≤ u 1558 3 ∧ u 1558 3 ≤ 6) (h2 : inB l (-1) (u 1558 3 - 1) = false) : a_m 160 [a_r 1557, a_i l] (K0 L, u, G a, t) = some (.inl (some (a_i (1))), (K0 L, upm u 1557 0 2, G a, t)) := by
  simp (disch := first | assumption | omega) only [E_X11_noList, B_X11_noList_0, B_X11_noList_4, B_X11_noList_25, B_X11_noList_37, Option.bind_some, back_v, Option.toList_some, Option.toList_none, List.cons_append, List.nil_append, Nat.reduceAdd, Int.reduceToNat, Int.reduceNeg, upm_eq, upm_r, upm_i, if_pos, if_neg, ite_self, true_or, or_true, true_and, and_true, wr_id, i10, i01, lc_lt, lc_gt, lc_ge, lc_le, afit1, afit0, afitI, bifit, not_true_eq_false, not_false_eq_true, if_true, if_false, Bool.false_eq_true, reduceCtorEq, k1557, k1558, g1557_2, M_notLoaded1, M_in, M_refuse1, h2, bi_f]
theorem M_noList {l : Int} (h : u 1557 1 ≠ 0) (hs : 0 ≤ u 1558 3 ∧ u 1558 3 ≤ 6) (h2 : inB l (-1) (u 1558 3 - 1) = true) : a_m 160 [a_r 1557, a_i l] (K0 L, u, G a, t) = some (.inl (some (a_i (0))), (K0 L, upm u 1557 0 0, G a, t)) := by
  simp (disch := first | assumption | omega) only [E_X11_noList, B_X11_noList_0, B_X11_noList_4, B_X11_noList_25, B_X11_noList_37, Option.bind_some, back_v, Option.toList_some, Option.toList_none, List.cons_append, List.nil_append, Nat.reduceAdd, Int.reduceToNat, Int.reduceNeg, upm_eq, upm_r, upm_i, if_pos, if_neg, ite_self, true_or, or_true, true_and, and_true, wr_id, i10, i01, lc_lt, lc_gt, lc_ge, lc_le, afit1, afit0, afitI, bifit, not_true_eq_false, not_false_eq_true, if_true, if_false, Bool.false_eq_true, reduceCtorEq, k1557, k1558, g1557_2, M_notLoaded1, M_in, M_refuse0, h2, bi_t]
theorem M_isSlot {k : Nat → Nat × Nat} {g : Nat → Nat → Nat} {x : Int} : a_m 161 [a_i x] (k, u, g, t) = some (.inl (some (a_i (bi (inB x 0 11)))), (k, u, g, t)) := by
  simp (disch := first | assumption | omega) only [E_X11_isSlot, B_X11_isSlot_0, B_X11_isSlot_9, Option.bind_some, back_v, Option.toList_some, Option.toList_none, List.cons_append, List.nil_append, Nat.reduceAdd, Int.reduceToNat, Int.reduceNeg, upm_eq, upm_r, upm_i, if_pos, if_neg, ite_self, true_or, or_true, true_and, and_true, wr_id, i10, i01, lc_lt, lc_gt, lc_ge, lc_le, afit1, afit0, afitI, bifit, not_true_eq_false, not_false_eq_true, if_true, if_false, Bool.false_eq_true, reduceCtorEq, k1557, k1558, g1557_2, M_in, bifit]
theorem M_isDay {k : Nat → Nat × Nat} {g : Nat → Nat → Nat} {x : Int} : a_m 162 [a_i x] (k, u, g, t) = some (.inl (some (a_i (bi (inB x 0 6)))), (k, u, g, t)) := by
  simp (disch := first | assumption | omega) only [E_X11_isDay, B_X11_isDay_0, B_X11_isDay_9, Option.bind_some, back_v, Option.toList_some, Option.toList_none, List.cons_append, List.nil_append, Nat.reduceAdd, Int.reduceToNat, Int.reduceNeg, upm_eq, upm_r, upm_i, if_pos, if_neg, ite_self, true_or, or_true, true_and, and_true, wr_id, i10, i01, lc_lt, lc_gt, lc_ge, lc_le, afit1, afit0, afitI, bifit, not_true_eq_false, not_false_eq_true, if_true, if_false, Bool.false_eq_true, reduceCtorEq, k1557, k1558, g1557_2, M_in, bifit]
theorem M_slotOf {k : Nat → Nat × Nat} {g : Nat → Nat → Nat} {x y : Int} (h : -1 ≤ x ∧ x ≤ 5) (h2 : 0 ≤ y ∧ y < 12) : a_m 164 [a_i x, a_i y] (k, u, g, t) = some (.inl (some (a_i (16 + 60 * (x + 1) + 5 * y))), (k, u, g, t)) := by
  simp (disch := first | assumption | omega) only [E_X11_slotOf, B_X11_slotOf_0, Option.bind_some, back_v, Option.toList_some, Option.toList_none, List.cons_append, List.nil_append, Nat.reduceAdd, Int.reduceToNat, Int.reduceNeg, upm_eq, upm_r, upm_i, if_pos, if_neg, ite_self, true_or, or_true, true_and, and_true, wr_id, i10, i01, lc_lt, lc_gt, lc_ge, lc_le, afit1, afit0, afitI, bifit, not_true_eq_false, not_false_eq_true, if_true, if_false, Bool.false_eq_true, reduceCtorEq, k1557, k1558, g1557_2]
theorem M_of {l k w : Int} (h : -1 ≤ l ∧ l ≤ 5) (h2 : 0 ≤ k ∧ k < 12) (h3 : 0 ≤ w ∧ w < 5) : a_m 165 [a_r 1557, a_i l, a_i k, a_i w] (K0 L, u, G a, t) = some (.inl (some (a_i (mOf (u 1558) l k w))), (K0 L, u, G a, t)) := by
  simp (disch := first | assumption | omega) only [E_X11_of, B_X11_of_0, B_X11_of_9, Option.bind_some, back_v, Option.toList_some, Option.toList_none, List.cons_append, List.nil_append, Nat.reduceAdd, Int.reduceToNat, Int.reduceNeg, upm_eq, upm_r, upm_i, if_pos, if_neg, ite_self, true_or, or_true, true_and, and_true, wr_id, i10, i01, lc_lt, lc_gt, lc_ge, lc_le, afit1, afit0, afitI, bifit, not_true_eq_false, not_false_eq_true, if_true, if_false, Bool.false_eq_true, reduceCtorEq, k1557, k1558, g1557_2, M_slotOf, mOf]
theorem M_ofListener {l w : Int} (h : 0 ≤ l ∧ l ≤ 5) (h3 : 0 ≤ w ∧ w < 19) : a_m 166 [a_r 1557, a_i l, a_i w] (K0 L, u, G a, t) = some (.inl (some (a_i (mLi (u 1558) l w))), (K0 L, u, G a, t)) := by
  simp (disch := first | assumption | omega) only [E_X11_ofListener, B_X11_ofListener_0, Option.bind_some, back_v, Option.toList_some, Option.toList_none, List.cons_append, List.nil_append, Nat.reduceAdd, Int.reduceToNat, Int.reduceNeg, upm_eq, upm_r, upm_i, if_pos, if_neg, ite_self, true_or, or_true, true_and, and_true, wr_id, i10, i01, lc_lt, lc_gt, lc_ge, lc_le, afit1, afit0, afitI, bifit, not_true_eq_false, not_false_eq_true, if_true, if_false, Bool.false_eq_true, reduceCtorEq, k1557, k1558, g1557_2, mLi]
theorem M_putsListener {l w v : Int} (h : 0 ≤ l ∧ l ≤ 5) (h3 : 0 ≤ w ∧ w < 19) : a_m 167 [a_r 1557, a_i l, a_i w, a_i v] (K0 L, u, G a, t) = some (.inl none, (K0 L, upm u 1558 (436 + 19 * l + w).toNat v, G a, t)) := by
  simp (disch := first | assumption | omega) only [E_X11_putsListener, B_X11_putsListener_0, Option.bind_some, back_v, Option.toList_some, Option.toList_none, List.cons_append, List.nil_append, Nat.reduceAdd, Int.reduceToNat, Int.reduceNeg, upm_eq, upm_r, upm_i, if_pos, if_neg, ite_self, true_or, or_true, true_and, and_true, wr_id, i10, i01, lc_lt, lc_gt, lc_ge, lc_le, afit1, afit0, afitI, bifit, not_true_eq_false, not_false_eq_true, if_true, if_false, Bool.false_eq_true, reduceCtorEq, k1557, k1558, g1557_2]
theorem M_grows {l w : Int} (h : 0 ≤ l ∧ l ≤ 5) (h3 : 0 ≤ w ∧ w < 19) : a_m 168 [a_r 1557, a_i l, a_i w] (K0 L, u, G a, t) = some (.inl none, (K0 L, upm u 1558 (436 + 19 * l + w).toNat (wr (mLi (u 1558) l w + 1)), G a, t)) := by
  simp (disch := first | assumption | omega) only [E_X11_grows, B_X11_grows_0, Option.bind_some, back_v, Option.toList_some, Option.toList_none, List.cons_append, List.nil_append, Nat.reduceAdd, Int.reduceToNat, Int.reduceNeg, upm_eq, upm_r, upm_i, if_pos, if_neg, ite_self, true_or, or_true, true_and, and_true, wr_id, i10, i01, lc_lt, lc_gt, lc_ge, lc_le, afit1, afit0, afitI, bifit, not_true_eq_false, not_false_eq_true, if_true, if_false, Bool.false_eq_true, reduceCtorEq, k1557, k1558, g1557_2, mLi]
theorem M_ofAir {i w : Int} (h : 0 ≤ i ∧ i < 30) (h3 : 0 ≤ w ∧ w < 71) : a_m 169 [a_r 1557, a_i i, a_i w] (K0 L, u, G a, t) = some (.inl (some (a_i (mAi (u 1558) i w))), (K0 L, u, G a, t)) := by
  simp (disch := first | assumption | omega) only [E_X11_ofAir, B_X11_ofAir_0, Option.bind_some, back_v, Option.toList_some, Option.toList_none, List.cons_append, List.nil_append, Nat.reduceAdd, Int.reduceToNat, Int.reduceNeg, upm_eq, upm_r, upm_i, if_pos, if_neg, ite_self, true_or, or_true, true_and, and_true, wr_id, i10, i01, lc_lt, lc_gt, lc_ge, lc_le, afit1, afit0, afitI, bifit, not_true_eq_false, not_false_eq_true, if_true, if_false, Bool.false_eq_true, reduceCtorEq, k1557, k1558, g1557_2, mAi]
theorem M_ofNumber {n w : Int} (h : 1 ≤ n ∧ n ≤ 99) (h3 : 0 ≤ w ∧ w < 6) : a_m 170 [a_r 1557, a_i n, a_i w] (K0 L, u, G a, t) = some (.inl (some (a_i (mCo (u 1558) n w))), (K0 L, u, G a, t)) := by
  simp (disch := first | assumption | omega) only [E_X11_ofNumber, B_X11_ofNumber_0, Option.bind_some, back_v, Option.toList_some, Option.toList_none, List.cons_append, List.nil_append, Nat.reduceAdd, Int.reduceToNat, Int.reduceNeg, upm_eq, upm_r, upm_i, if_pos, if_neg, ite_self, true_or, or_true, true_and, and_true, wr_id, i10, i01, lc_lt, lc_gt, lc_ge, lc_le, afit1, afit0, afitI, bifit, not_true_eq_false, not_false_eq_true, if_true, if_false, Bool.false_eq_true, reduceCtorEq, k1557, k1558, g1557_2, mCo]
theorem M_isNumber {n : Int} : a_m 171 [a_r 1557, a_i n] (K0 L, u, G a, t) = some (.inl (some (a_i (bi (inB n 1 (u 1558 2))))), (K0 L, u, G a, t)) := by
  simp (disch := first | assumption | omega) only [E_X11_isNumber, B_X11_isNumber_0, B_X11_isNumber_13, Option.bind_some, back_v, Option.toList_some, Option.toList_none, List.cons_append, List.nil_append, Nat.reduceAdd, Int.reduceToNat, Int.reduceNeg, upm_eq, upm_r, upm_i, if_pos, if_neg, ite_self, true_or, or_true, true_and, and_true, wr_id, i10, i01, lc_lt, lc_gt, lc_ge, lc_le, afit1, afit0, afitI, bifit, not_true_eq_false, not_false_eq_true, if_true, if_false, Bool.false_eq_true, reduceCtorEq, k1557, k1558, g1557_2, M_in, bifit]
theorem tdiv32 {n : Int} (h : 1 ≤ n ∧ n ≤ 99) : 0 ≤ n.tdiv 32 ∧ n.tdiv 32 ≤ 3 := by
  rw [Int.tdiv_eq_ediv_of_nonneg (by omega)]; omega
theorem M_hasHeardIt {l n : Int} (h : 0 ≤ l ∧ l ≤ 5) (h2 : u 1558 2 ≤ 99) : a_m 172 [a_r 1557, a_i l, a_i n] (K0 L, u, G a, t) = some (.inl (some (a_i (bi (mHeard (u 1558) l n)))), (K0 L, u, G a, t)) := by
  cases hb : inB n 1 (u 1558 2) with
  | false => simp (disch := first | assumption | omega) only [E_X11_hasHeardIt, B_X11_hasHeardIt_0, B_X11_hasHeardIt_5, B_X11_hasHeardIt_20, Option.bind_some, back_v, Option.toList_some, Option.toList_none, List.cons_append, List.nil_append, Nat.reduceAdd, Int.reduceToNat, Int.reduceNeg, upm_eq, upm_r, upm_i, if_pos, if_neg, ite_self, true_or, or_true, true_and, and_true, wr_id, i10, i01, lc_lt, lc_gt, lc_ge, lc_le, afit1, afit0, afitI, bifit, not_true_eq_false, not_false_eq_true, if_true, if_false, Bool.false_eq_true, reduceCtorEq, k1557, k1558, g1557_2, M_isNumber, hb, bi_f, mHeard, Bool.false_and]
  | true =>
    have h3 := inB_iff.mp hb
    have h4 := tdiv32 (n := n) (by omega)
    simp (disch := first | assumption | omega) only [E_X11_hasHeardIt, B_X11_hasHeardIt_0, B_X11_hasHeardIt_5, B_X11_hasHeardIt_20, Option.bind_some, back_v, Option.toList_some, Option.toList_none, List.cons_append, List.nil_append, Nat.reduceAdd, Int.reduceToNat, Int.reduceNeg, upm_eq, upm_r, upm_i, if_pos, if_neg, ite_self, true_or, or_true, true_and, and_true, wr_id, i10, i01, lc_lt, lc_gt, lc_ge, lc_le, afit1, afit0, afitI, bifit, not_true_eq_false, not_false_eq_true, if_true, if_false, Bool.false_eq_true, reduceCtorEq, k1557, k1558, g1557_2, M_isNumber, hb, bi_t, mHeard, Bool.true_and, M_ofListener]
    by_cases h5 : zand (zshr (mLi (u 1558) l (15 + n.tdiv 32)) (n.tmod 32)) 1 = 1 <;> simp [h5, bi]
theorem M_isFree {l k : Int} (h : -1 ≤ l ∧ l ≤ 5) (h2 : 0 ≤ k ∧ k < 12) : a_m 173 [a_r 1557, a_i l, a_i k] (K0 L, u, G a, t) = some (.inl (some (a_i (bi (decide (mOf (u 1558) l k 0 = -1))))), (K0 L, u, G a, t)) := by
  simp (disch := first | assumption | omega) only [E_X11_isFree, B_X11_isFree_0, B_X11_isFree_7, Option.bind_some, back_v, Option.toList_some, Option.toList_none, List.cons_append, List.nil_append, Nat.reduceAdd, Int.reduceToNat, Int.reduceNeg, upm_eq, upm_r, upm_i, if_pos, if_neg, ite_self, true_or, or_true, true_and, and_true, wr_id, i10, i01, lc_lt, lc_gt, lc_ge, lc_le, afit1, afit0, afitI, bifit, not_true_eq_false, not_false_eq_true, if_true, if_false, Bool.false_eq_true, reduceCtorEq, k1557, k1558, g1557_2, M_of]
  by_cases h5 : mOf (u 1558) l k 0 = -1 <;> simp [h5, bi]
theorem cpy0 {f g : Nat → Int} {sp dp : Nat} : a_cpy f g sp dp 0 = g := by
  funext k; unfold a_cpy; rw [if_neg (by omega)]
theorem cpy1 {f g : Nat → Int} {sp dp n : Nat} : up1 (a_cpy f g sp dp n) (dp + n) (f (sp + n)) = a_cpy f g sp dp (n + 1) := by
  funext k; simp only [a_cpy, up1]
  by_cases h : k = dp + n
  · subst h; rw [if_pos rfl, if_pos (by omega)]; congr 1; omega
  · rw [if_neg h]
    by_cases h2 : dp ≤ k ∧ k < dp + n
    · rw [if_pos h2, if_pos (by omega)]
    · rw [if_neg h2, if_neg (by omega)]
theorem upm_upr {α : Type} {f : Nat → Nat → α} {r i : Nat} {v : α} {w : Nat → α} : upm (upr f r w) r i v = upr f r (up1 w i v) := by
  rw [upm_up1, upr_f, upr_upr]
theorem cpy_out {f g : Nat → Int} {sp dp n k : Nat} (h : k < dp ∨ dp + n ≤ k) : a_cpy f g sp dp n k = g k := by
  unfold a_cpy; rw [if_neg (by omega)]
theorem cpy_in {f g : Nat → Int} {sp dp n k : Nat} (h : dp ≤ k) (h2 : k < dp + n) : a_cpy f g sp dp n k = f (sp + (k - dp)) := by
  unfold a_cpy; rw [if_pos ⟨h, h2⟩]
theorem M_laysSlot {f g : Int} (h : 0 ≤ f ∧ f + 5 ≤ 3280) (h2 : 0 ≤ g ∧ g + 5 ≤ 3280) (h3 : f + 5 ≤ g ∨ g + 5 ≤ f) : a_m 174 [a_r 1557, a_i f, a_i g] (K0 L, u, G a, t) = some (.inl none, (K0 L, upr u 1558 (a_cpy (u 1558) (u 1558) f.toNat g.toNat 5), G a, t)) := by
  simp (disch := first | assumption | omega) only [E_X11_laysSlot, B_X11_laysSlot_0, Option.bind_some, back_v, Option.toList_some, Option.toList_none, List.cons_append, List.nil_append, Nat.reduceAdd, Int.reduceToNat, Int.reduceNeg, upm_eq, upm_r, upm_i, if_pos, if_neg, ite_self, true_or, or_true, true_and, and_true, wr_id, i10, i01, lc_lt, lc_gt, lc_ge, lc_le, afit1, afit0, afitI, bifit, not_true_eq_false, not_false_eq_true, if_true, if_false, Bool.false_eq_true, reduceCtorEq, k1557, k1558, g1557_2]
  have key := it_fwd (n := 5) (P := fun i : Nat => a_X 174 2 [a_r 1557, a_i f, a_i g, a_i (i : Int)] [] (K0 L, upr u 1558 (a_cpy (u 1558) (u 1558) f.toNat g.toNat i), G a, t)) (fun i hi => by
    rw [B_X11_laysSlot_2]
    simp (disch := first | assumption | omega) only [B_X11_laysSlot_0, Option.bind_some, back_v, Option.toList_some, Option.toList_none, List.cons_append, List.nil_append, Nat.reduceAdd, Int.reduceToNat, Int.reduceNeg, upm_eq, upm_r, upm_i, if_pos, if_neg, ite_self, true_or, or_true, true_and, and_true, wr_id, i10, i01, lc_lt, lc_gt, lc_ge, lc_le, afit1, afit0, afitI, bifit, not_true_eq_false, not_false_eq_true, if_true, if_false, Bool.false_eq_true, reduceCtorEq, k1557, k1558, g1557_2, upr_eq, upm_upr]
    rw [cpy_out (by omega), show (g + (i : Int)).toNat = g.toNat + i from by omega, show (f + (i : Int)).toNat = f.toNat + i from by omega, cpy1]
    rfl)
  rw [cpy0, upr_self] at key
  refine (show _ = _ from key).trans ?_
  rw [B_X11_laysSlot_2]
  simp (disch := first | assumption | omega) only [B_X11_laysSlot_0, Option.bind_some, back_v, Option.toList_some, Option.toList_none, List.cons_append, List.nil_append, Nat.reduceAdd, Int.reduceToNat, Int.reduceNeg, upm_eq, upm_r, upm_i, if_pos, if_neg, ite_self, true_or, or_true, true_and, and_true, wr_id, i10, i01, lc_lt, lc_gt, lc_ge, lc_le, afit1, afit0, afitI, bifit, not_true_eq_false, not_false_eq_true, if_true, if_false, Bool.false_eq_true, reduceCtorEq, k1557, k1558, g1557_2]
theorem M_copies {r q : Nat} {f g : Int} {nr nq : Nat} (hr : K0 L r = (20, nr)) (hq : K0 L q = (20, nq)) (hne : r ≠ q) (h : 0 ≤ f ∧ f + 3280 ≤ nr ∧ f ≤ 100000) (h2 : 0 ≤ g ∧ g + 3280 ≤ nq ∧ g ≤ 100000) : a_m 163 [a_r r, a_i f, a_r q, a_i g] (K0 L, u, G a, t) = some (.inl none, (K0 L, upr u q (a_cpy (u r) (u q) f.toNat g.toNat 3280), G a, t)) := by
  simp (disch := first | assumption | omega) only [E_X11_copies, B_X11_copies_0, Option.bind_some, back_v, Option.toList_some, Option.toList_none, List.cons_append, List.nil_append, Nat.reduceAdd, Int.reduceToNat, Int.reduceNeg, upm_eq, upm_r, upm_i, if_pos, if_neg, ite_self, true_or, or_true, true_and, and_true, wr_id, i10, i01, lc_lt, lc_gt, lc_ge, lc_le, afit1, afit0, afitI, bifit, not_true_eq_false, not_false_eq_true, if_true, if_false, Bool.false_eq_true, reduceCtorEq, k1557, k1558, g1557_2]
  have key := it_fwd (n := 3280) (P := fun i : Nat => a_X 163 3 [a_r r, a_i f, a_r q, a_i g, a_i (i : Int)] [] (K0 L, upr u q (a_cpy (u r) (u q) f.toNat g.toNat i), G a, t)) (fun i hi => by
    rw [B_X11_copies_3]
    simp (disch := first | assumption | omega) only [B_X11_copies_0, Option.bind_some, back_v, Option.toList_some, Option.toList_none, List.cons_append, List.nil_append, Nat.reduceAdd, Int.reduceToNat, Int.reduceNeg, upm_eq, upm_r, upm_i, if_pos, if_neg, ite_self, true_or, or_true, true_and, and_true, wr_id, i10, i01, lc_lt, lc_gt, lc_ge, lc_le, afit1, afit0, afitI, bifit, not_true_eq_false, not_false_eq_true, if_true, if_false, Bool.false_eq_true, reduceCtorEq, k1557, k1558, g1557_2, upr_r, upm_upr, hr, hq]
    rw [show (g + (i : Int)).toNat = g.toNat + i from by omega, show (f + (i : Int)).toNat = f.toNat + i from by omega, cpy1]
    rfl)
  rw [cpy0, upr_self] at key
  refine (show _ = _ from key).trans ?_
  rw [B_X11_copies_3]
  simp (disch := first | assumption | omega) only [B_X11_copies_0, Option.bind_some, back_v, Option.toList_some, Option.toList_none, List.cons_append, List.nil_append, Nat.reduceAdd, Int.reduceToNat, Int.reduceNeg, upm_eq, upm_r, upm_i, if_pos, if_neg, ite_self, true_or, or_true, true_and, and_true, wr_id, i10, i01, lc_lt, lc_gt, lc_ge, lc_le, afit1, afit0, afitI, bifit, not_true_eq_false, not_false_eq_true, if_true, if_false, Bool.false_eq_true, reduceCtorEq, k1557, k1558, g1557_2]
end M1
