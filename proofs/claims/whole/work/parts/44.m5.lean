/-! ===== the reference: what ends, what is due, ticks ===== -/
def mCl1 (s : Nat → Int) (i : Nat) : Nat → Int := fun j =>
  if j = 4 then s 4 - 1 else if 1150 + 71 * i ≤ j ∧ j < 1150 + 71 * ((s 4).toNat - 1) then s (j + 71) else s j
def mClD : Nat → (Nat → Int) → (Nat → Int)
  | 0, s => s
  | i + 1, s => mClD i (if mStill s i = 0 then mCl1 s i else s)
def mClears (s : Nat → Int) : Nat → Int := mClD (s 4).toNat s
/-- some rows moved on: j0 is the first one that isn't yet -/
def shF (s : Nat → Int) (i n : Nat) : Nat → Int := fun j => if 1150 + 71 * i ≤ j ∧ j < n then s (j + 71) else s j
/-- the best one so far -/
def mNextF (s : Nat → Int) (l time r : Int) (i best : Int) : Int :=
  if mAi s i (5 + l) = time ∧ r < mRank s i ∧ (best = -1 ∨ mRank s i < mRank s best) then i else best
def mNextD (s : Nat → Int) (l time r : Int) : Int := itA (s 4).toNat 0 (-1) (mNextF s l time r)
/-- what stands on the air is what it should be -/
def airOK (s : Nat → Int) : Prop := 0 ≤ s 4 ∧ s 4 ≤ 30 ∧ ∀ i, 0 ≤ i → i < s 4 → (0 ≤ mAi s i 1 ∧ mAi s i 1 ≤ 99) ∧ (0 ≤ mAi s i 0 ∧ mAi s i 0 ≤ 1) ∧ (0 ≤ mAi s i 4 ∧ mAi s i 4 < 1000000) ∧ (mAi s i 0 = 0 → 1 ≤ mAi s i 1 ∧ 0 ≤ mCo s (mAi s i 1) 0 ∧ mCo s (mAi s i 1) 0 < 12)
section M5
variable {L : Nat} {u : Nat → Nat → Int} {a : Nat → Nat → Nat} {t : Nat × Nat × Nat} {s : Nat → Int}
theorem shF0 {i : Nat} : shF s i (1150 + 71 * i) = s := by
  funext j; simp only [shF]; rw [if_neg (by omega)]
theorem shF1 {i n : Nat} (h : 1150 + 71 * i ≤ n) : up1 (shF s i n) n (s (n + 71)) = shF s i (n + 1) := by
  funext j; simp only [shF, up1]
  by_cases h2 : j = n
  · subst h2; rw [if_pos rfl, if_pos (by omega)]
  · rw [if_neg h2]
    by_cases h3 : 1150 + 71 * i ≤ j ∧ j < n
    · rw [if_pos h3, if_pos (by omega)]
    · rw [if_neg h3, if_neg (by omega)]
theorem shF_out {i n j : Nat} (h : j < 1150 ∨ n ≤ j) : shF s i n j = s j := by simp only [shF]; rw [if_neg (by omega)]
theorem cl1_eq {i : Nat} (h : 1 ≤ s 4) : up1 (shF s i (1150 + 71 * ((s 4).toNat - 1))) 4 (s 4 - 1) = mCl1 s i := by
  funext j; simp only [shF, up1, mCl1]
theorem M_clears_in {i : Nat} {v : Int} (hs : 1 ≤ s 4 ∧ s 4 ≤ 30) (hi : (i : Int) < s 4) : ∀ (d : Nat) (x : Int), 1150 + 71 * (i : Int) ≤ x → x + d = 1150 + 71 * (s 4 - 1) → a_X 199 33 [a_r 1557, a_i v, a_i x] [] (K0 L, upr u 1558 (shF s i x.toNat), G a, t) = a_X 199 9 [a_r 1557, a_i (wr (v + -1)), a_i (1150 + 71 * (s 4 - 1))] [] (K0 L, upr u 1558 (mCl1 s i), G a, t) := by
  intro d
  induction d with
  | zero =>
    intro x h0 h
    have hx : x = 1150 + 71 * (s 4 - 1) := by omega
    rw [B_X11_clears_33]
    simp (disch := first | assumption | omega | (simp only [upr_f, upr_eq]; first | assumption | omega)) only [B_X11_clears_0, B_X11_clears_18, Option.bind_some, back_v, Option.toList_some, Option.toList_none, List.cons_append, List.nil_append, Nat.reduceAdd, Int.reduceToNat, Int.reduceNeg, upm_eq, upm_r, upm_i, if_pos, if_neg, ite_self, true_or, or_true, true_and, and_true, false_or, or_false, false_and, and_false, wr_id, i10, i01, upr_f, upr_eq, upm_upr, upr_upr, lc_lt, lc_gt, lc_ge, lc_le, afit1, afit0, afitI, bifit, not_true_eq_false, not_false_eq_true, if_true, if_false, Bool.false_eq_true, reduceCtorEq, k1557, k1558, g1557_2, shF_out]
    rw [show x.toNat = 1150 + 71 * ((s 4).toNat - 1) from by omega, cl1_eq hs.1, hx]
  | succ d ih =>
    intro x h0 h
    rw [B_X11_clears_33]
    simp (disch := first | assumption | omega | (simp only [upr_f, upr_eq]; first | assumption | omega)) only [B_X11_clears_0, B_X11_clears_18, Option.bind_some, back_v, Option.toList_some, Option.toList_none, List.cons_append, List.nil_append, Nat.reduceAdd, Int.reduceToNat, Int.reduceNeg, upm_eq, upm_r, upm_i, if_pos, if_neg, ite_self, true_or, or_true, true_and, and_true, false_or, or_false, false_and, and_false, wr_id, i10, i01, upr_f, upr_eq, upm_upr, upr_upr, lc_lt, lc_gt, lc_ge, lc_le, afit1, afit0, afitI, bifit, not_true_eq_false, not_false_eq_true, if_true, if_false, Bool.false_eq_true, reduceCtorEq, k1557, k1558, g1557_2, shF_out]
    rw [show (x + 71).toNat = x.toNat + 71 from by omega, shF1 (by omega), show x.toNat + 1 = (x + 1).toNat from by omega]
    exact ih _ (by omega) (by omega)
theorem M_clears_loop : ∀ (i : Nat) (s : Nat → Int) (v : AV), (i : Int) ≤ s 4 → s 4 ≤ 30 → 0 ≤ s 3 ∧ s 3 ≤ 6 → a_X 199 9 [a_r 1557, a_i ((i : Int) - 1), v] [] (K0 L, upr u 1558 s, G a, t) = some (.inl none, (K0 L, upr u 1558 (mClD i s), G a, t)) := by
  intro i
  induction i with
  | zero => intro s v h0 h h3; rw [B_X11_clears_9]; simp (disch := first | assumption | omega | (simp only [upr_f, upr_eq]; first | assumption | omega)) only [B_X11_clears_0, B_X11_clears_18, Option.bind_some, back_v, Option.toList_some, Option.toList_none, List.cons_append, List.nil_append, Nat.reduceAdd, Int.reduceToNat, Int.reduceNeg, upm_eq, upm_r, upm_i, if_pos, if_neg, ite_self, true_or, or_true, true_and, and_true, false_or, or_false, false_and, and_false, wr_id, i10, i01, upr_f, upr_eq, upm_upr, upr_upr, lc_lt, lc_gt, lc_ge, lc_le, afit1, afit0, afitI, bifit, not_true_eq_false, not_false_eq_true, if_true, if_false, Bool.false_eq_true, reduceCtorEq, k1557, k1558, g1557_2, mClD]
  | succ i ih =>
    intro s v h0 h h3; rw [B_X11_clears_9]
    have e : ((i + 1 : Nat) : Int) - 1 = (i : Int) := by omega
    rw [e]
    by_cases hc : mStill s i = 0
    · simp (disch := first | assumption | omega | (simp only [upr_f, upr_eq]; first | assumption | omega)) only [B_X11_clears_0, B_X11_clears_18, Option.bind_some, back_v, Option.toList_some, Option.toList_none, List.cons_append, List.nil_append, Nat.reduceAdd, Int.reduceToNat, Int.reduceNeg, upm_eq, upm_r, upm_i, if_pos, if_neg, ite_self, true_or, or_true, true_and, and_true, false_or, or_false, false_and, and_false, wr_id, i10, i01, upr_f, upr_eq, upm_upr, upr_upr, lc_lt, lc_gt, lc_ge, lc_le, afit1, afit0, afitI, bifit, not_true_eq_false, not_false_eq_true, if_true, if_false, Bool.false_eq_true, reduceCtorEq, k1557, k1558, g1557_2, M_stillTo, hc, mClD]
      have h1 := M_clears_in (L := L) (u := u) (a := a) (t := t) (s := s) (i := i) (v := (i : Int)) (by omega) (by omega) (71 * (s 4 - 1 - (i : Int))).toNat (1150 + 71 * (i : Int)) (by omega) (by omega)
      rw [show (1150 + 71 * (i : Int)).toNat = 1150 + 71 * i from by omega, shF0, wr_id (by omega) (by omega)] at h1
      rw [h1]
      exact ih _ _ (by simp only [mCl1, if_true]; omega) (by simp only [mCl1, if_true]; omega) (by simp only [mCl1]; rw [if_neg (by omega), if_neg (by omega)]; exact h3)
    · simp (disch := first | assumption | omega | (simp only [upr_f, upr_eq]; first | assumption | omega)) only [B_X11_clears_0, B_X11_clears_18, Option.bind_some, back_v, Option.toList_some, Option.toList_none, List.cons_append, List.nil_append, Nat.reduceAdd, Int.reduceToNat, Int.reduceNeg, upm_eq, upm_r, upm_i, if_pos, if_neg, ite_self, true_or, or_true, true_and, and_true, false_or, or_false, false_and, and_false, wr_id, i10, i01, upr_f, upr_eq, upm_upr, upr_upr, lc_lt, lc_gt, lc_ge, lc_le, afit1, afit0, afitI, bifit, not_true_eq_false, not_false_eq_true, if_true, if_false, Bool.false_eq_true, reduceCtorEq, k1557, k1558, g1557_2, M_stillTo, hc, mClD]
      exact ih _ _ (by omega) (by omega) h3
theorem M_clears (h4 : 0 ≤ s 4 ∧ s 4 ≤ 30) (h3 : 0 ≤ s 3 ∧ s 3 ≤ 6) : a_m 199 [a_r 1557] (K0 L, upr u 1558 s, G a, t) = some (.inl none, (K0 L, upr u 1558 (mClears s), G a, t)) := by
  simp (disch := first | assumption | omega | (simp only [upr_f, upr_eq]; first | assumption | omega)) only [E_X11_clears, B_X11_clears_0, B_X11_clears_18, Option.bind_some, back_v, Option.toList_some, Option.toList_none, List.cons_append, List.nil_append, Nat.reduceAdd, Int.reduceToNat, Int.reduceNeg, upm_eq, upm_r, upm_i, if_pos, if_neg, ite_self, true_or, or_true, true_and, and_true, false_or, or_false, false_and, and_false, wr_id, i10, i01, upr_f, upr_eq, upm_upr, upr_upr, lc_lt, lc_gt, lc_ge, lc_le, afit1, afit0, afitI, bifit, not_true_eq_false, not_false_eq_true, if_true, if_false, Bool.false_eq_true, reduceCtorEq, k1557, k1558, g1557_2]
  have := M_clears_loop (L := L) (u := u) (a := a) (t := t) (s 4).toNat s (a_x false) (by omega) (by omega) h3
  rw [show (((s 4).toNat : Nat) : Int) = s 4 from by omega] at this
  exact this
theorem M_nextDue_loop {l time r : Int} (hl : 0 ≤ l ∧ l ≤ 5) (hA : airOK s) : ∀ (d : Nat) (x best : Int), 0 ≤ x → x + d = s 4 → -1 ≤ best ∧ best < s 4 → a_X 205 6 [a_r 1557, a_i l, a_i time, a_l r, a_x false, a_i best, a_i x] [] (K0 L, upr u 1558 s, G a, t) = some (.inl (some (a_i (itA d x best (mNextF s l time r)))), (K0 L, upr u 1558 s, G a, t)) := by
  intro d
  induction d with
  | zero => intro x best h0 h hb; have := hA.1; have := hA.2.1; rw [B_X11_nextDue_6]; simp (disch := first | assumption | omega | (simp only [upr_f, upr_eq]; first | assumption | omega)) only [B_X11_nextDue_0, B_X11_nextDue_26, B_X11_nextDue_36, B_X11_nextDue_53, B_X11_nextDue_59, Option.bind_some, back_v, Option.toList_some, Option.toList_none, List.cons_append, List.nil_append, Nat.reduceAdd, Int.reduceToNat, Int.reduceNeg, upm_eq, upm_r, upm_i, if_pos, if_neg, ite_self, true_or, or_true, true_and, and_true, false_or, or_false, false_and, and_false, wr_id, i10, i01, upr_f, upr_eq, upm_upr, upr_upr, lc_lt, lc_gt, lc_ge, lc_le, afit1, afit0, afitI, bifit, not_true_eq_false, not_false_eq_true, if_true, if_false, Bool.false_eq_true, reduceCtorEq, k1557, k1558, g1557_2, itA]
  | succ d ih =>
    intro x best h0 h hb
    have h4 := hA.1
    have h5 := hA.2.1
    obtain ⟨b1, b2, b3, -⟩ := hA.2.2 x h0 (by omega)
    rw [B_X11_nextDue_6]
    by_cases c1 : mAi s x (5 + l) = time
    · by_cases c2 : r < mRank s x
      · by_cases c3 : best = -1
        · simp (disch := first | assumption | omega | (simp only [upr_f, upr_eq]; first | assumption | omega)) only [B_X11_nextDue_0, B_X11_nextDue_26, B_X11_nextDue_36, B_X11_nextDue_53, B_X11_nextDue_59, Option.bind_some, back_v, Option.toList_some, Option.toList_none, List.cons_append, List.nil_append, Nat.reduceAdd, Int.reduceToNat, Int.reduceNeg, upm_eq, upm_r, upm_i, if_pos, if_neg, ite_self, true_or, or_true, true_and, and_true, false_or, or_false, false_and, and_false, wr_id, i10, i01, upr_f, upr_eq, upm_upr, upr_upr, lc_lt, lc_gt, lc_ge, lc_le, afit1, afit0, afitI, bifit, not_true_eq_false, not_false_eq_true, if_true, if_false, Bool.false_eq_true, reduceCtorEq, k1557, k1558, g1557_2, M_ofAir, M_rank, c1, c3, itA, mNextF, c2]
          exact ih _ _ (by omega) (by omega) (by omega)
        · obtain ⟨g1, g2, g3, -⟩ := hA.2.2 best (by omega) (by omega)
          by_cases c4 : mRank s x < mRank s best
          · simp (disch := first | assumption | omega | (simp only [upr_f, upr_eq]; first | assumption | omega)) only [B_X11_nextDue_0, B_X11_nextDue_26, B_X11_nextDue_36, B_X11_nextDue_53, B_X11_nextDue_59, Option.bind_some, back_v, Option.toList_some, Option.toList_none, List.cons_append, List.nil_append, Nat.reduceAdd, Int.reduceToNat, Int.reduceNeg, upm_eq, upm_r, upm_i, if_pos, if_neg, ite_self, true_or, or_true, true_and, and_true, false_or, or_false, false_and, and_false, wr_id, i10, i01, upr_f, upr_eq, upm_upr, upr_upr, lc_lt, lc_gt, lc_ge, lc_le, afit1, afit0, afitI, bifit, not_true_eq_false, not_false_eq_true, if_true, if_false, Bool.false_eq_true, reduceCtorEq, k1557, k1558, g1557_2, M_ofAir, M_rank, c1, c3, itA, mNextF, c2]
            exact ih _ _ (by omega) (by omega) (by omega)
          · simp (disch := first | assumption | omega | (simp only [upr_f, upr_eq]; first | assumption | omega)) only [B_X11_nextDue_0, B_X11_nextDue_26, B_X11_nextDue_36, B_X11_nextDue_53, B_X11_nextDue_59, Option.bind_some, back_v, Option.toList_some, Option.toList_none, List.cons_append, List.nil_append, Nat.reduceAdd, Int.reduceToNat, Int.reduceNeg, upm_eq, upm_r, upm_i, if_pos, if_neg, ite_self, true_or, or_true, true_and, and_true, false_or, or_false, false_and, and_false, wr_id, i10, i01, upr_f, upr_eq, upm_upr, upr_upr, lc_lt, lc_gt, lc_ge, lc_le, afit1, afit0, afitI, bifit, not_true_eq_false, not_false_eq_true, if_true, if_false, Bool.false_eq_true, reduceCtorEq, k1557, k1558, g1557_2, M_ofAir, M_rank, c1, c3, c4, itA, mNextF, c2]
            exact ih _ _ (by omega) (by omega) (by omega)
      · simp (disch := first | assumption | omega | (simp only [upr_f, upr_eq]; first | assumption | omega)) only [B_X11_nextDue_0, B_X11_nextDue_26, B_X11_nextDue_36, B_X11_nextDue_53, B_X11_nextDue_59, Option.bind_some, back_v, Option.toList_some, Option.toList_none, List.cons_append, List.nil_append, Nat.reduceAdd, Int.reduceToNat, Int.reduceNeg, upm_eq, upm_r, upm_i, if_pos, if_neg, ite_self, true_or, or_true, true_and, and_true, false_or, or_false, false_and, and_false, wr_id, i10, i01, upr_f, upr_eq, upm_upr, upr_upr, lc_lt, lc_gt, lc_ge, lc_le, afit1, afit0, afitI, bifit, not_true_eq_false, not_false_eq_true, if_true, if_false, Bool.false_eq_true, reduceCtorEq, k1557, k1558, g1557_2, M_ofAir, M_rank, c1, itA, mNextF, c2]
        exact ih _ _ (by omega) (by omega) (by omega)
    · simp (disch := first | assumption | omega | (simp only [upr_f, upr_eq]; first | assumption | omega)) only [B_X11_nextDue_0, B_X11_nextDue_26, B_X11_nextDue_36, B_X11_nextDue_53, B_X11_nextDue_59, Option.bind_some, back_v, Option.toList_some, Option.toList_none, List.cons_append, List.nil_append, Nat.reduceAdd, Int.reduceToNat, Int.reduceNeg, upm_eq, upm_r, upm_i, if_pos, if_neg, ite_self, true_or, or_true, true_and, and_true, false_or, or_false, false_and, and_false, wr_id, i10, i01, upr_f, upr_eq, upm_upr, upr_upr, lc_lt, lc_gt, lc_ge, lc_le, afit1, afit0, afitI, bifit, not_true_eq_false, not_false_eq_true, if_true, if_false, Bool.false_eq_true, reduceCtorEq, k1557, k1558, g1557_2, M_ofAir, c1, itA, mNextF, false_and]
      exact ih _ _ (by omega) (by omega) (by omega)
theorem M_nextDue {l time r : Int} (hl : 0 ≤ l ∧ l ≤ 5) (hA : airOK s) : a_m 205 [a_r 1557, a_i l, a_i time, a_l r] (K0 L, upr u 1558 s, G a, t) = some (.inl (some (a_i (mNextD s l time r))), (K0 L, upr u 1558 s, G a, t)) := by
  have h4 := hA.1
  simp (disch := first | assumption | omega | (simp only [upr_f, upr_eq]; first | assumption | omega)) only [E_X11_nextDue, B_X11_nextDue_0, B_X11_nextDue_26, B_X11_nextDue_36, B_X11_nextDue_53, B_X11_nextDue_59, Option.bind_some, back_v, Option.toList_some, Option.toList_none, List.cons_append, List.nil_append, Nat.reduceAdd, Int.reduceToNat, Int.reduceNeg, upm_eq, upm_r, upm_i, if_pos, if_neg, ite_self, true_or, or_true, true_and, and_true, false_or, or_false, false_and, and_false, wr_id, i10, i01, upr_f, upr_eq, upm_upr, upr_upr, lc_lt, lc_gt, lc_ge, lc_le, afit1, afit0, afitI, bifit, not_true_eq_false, not_false_eq_true, if_true, if_false, Bool.false_eq_true, reduceCtorEq, k1557, k1558, g1557_2]
  exact M_nextDue_loop hl hA _ _ _ (by omega) (by omega) (by omega)
end M5
