/-! ===== the class's radio: questions ===== -/
section C7
variable {L : Nat} {u : Nat → Nat → Int} {a : Nat → Nat → Nat} {t : Nat × Nat × Nat} {R : Nat} {C : List (Nat → Int)} {s : Nat → Int} {c : Int}
theorem rel_list {l : Int} (hR : isRad R) (h : RelC (vw u R) (a R) C s) (hM : MI c s) (hl : -1 ≤ l ∧ l < s 3) : eqL (cF u R (R + qOf l)) (mOf s l) ∧ wfL (mOf s l) ∧ vOK u (R + qOf l) ∧ K0 L (R + qOf l) = (20, 12) := by
  have hM3 := hM.2.2.2.1
  have hM2 := hM.2.2.1
  have r5 := h.2.2.2.2.1 l hl.1 hl.2
  refine ⟨fun k w k0 k1 w0 w1 => cF_of r5 (by omega) k w ⟨k0, k1⟩ ⟨w0, w1⟩, fun k k0 k1 => ?_, vOK_of r5 (by omega) hM2.2, kq_of hR (by omega)⟩
  obtain ⟨a1, a2, a3, a4⟩ := r5 k k0 k1
  have hw := h.2.1 (rowI k (vw u R (qOf l) k.toNat)) (by unfold rowI; split <;> omega) (by unfold rowI; split <;> omega)
  unfold wfS at *
  rw [a4 0 (by decide) (by decide), a4 1 (by decide) (by decide), a4 2 (by decide) (by decide), a4 3 (by decide) (by decide)]
  exact hw
theorem q9 : qOf (-1) = 9 := by unfold qOf; rw [if_pos rfl]
theorem ql {l : Int} (h : 0 ≤ l) : qOf l = 106 + 4 * l.toNat := by unfold qOf; rw [if_neg (by omega)]
theorem C_listOf {l : Int} (hR : isRad R) (hl : -1 ≤ l ∧ l < 6) : a_m 31 [a_r R, a_i l] (K0 L, u, G a, t) = some (.inl (some (a_r (R + qOf l))), (K0 L, u, G a, t)) := by
  by_cases h : l = -1
  · subst h; rw [q9]; simp (disch := first | assumption | omega) only [kR0, kR9, kR10, kR11, kR102, gR0_0, gR0_1, gR0_2, gR0_3, gR10_0, gR11, gR102, E_X4_listOf, B_X4_listOf_0, Option.bind_some, back_v, Option.toList_some, Option.toList_none, List.cons_append, List.nil_append, Nat.reduceAdd, Int.reduceToNat, Int.reduceNeg, upm_eq, upm_r, upm_i, if_pos, if_neg, ite_self, true_or, or_true, true_and, and_true, false_or, or_false, false_and, and_false, wr_id, i10, i01, upr_f, upr_eq, thr58, upm_upr, upr_upr, lc_lt, lc_gt, lc_ge, lc_le, afit1, afit0, afitI, bifit, not_true_eq_false, not_false_eq_true, if_true, if_false, Bool.false_eq_true, reduceCtorEq, k1557, k1558, g1557_2]
  · rw [ql (by omega), ← Nat.add_assoc]; simp (disch := first | assumption | omega) only [kR0, kR9, kR10, kR11, kR102, gR0_0, gR0_1, gR0_2, gR0_3, gR10_0, gR11, gR102, kRl0, kRl1, kRl2, kRl3, gRl_2, gRl_3, gRl_4, E_X4_listOf, B_X4_listOf_0, Option.bind_some, back_v, Option.toList_some, Option.toList_none, List.cons_append, List.nil_append, Nat.reduceAdd, Int.reduceToNat, Int.reduceNeg, upm_eq, upm_r, upm_i, if_pos, if_neg, ite_self, true_or, or_true, true_and, and_true, false_or, or_false, false_and, and_false, wr_id, i10, i01, upr_f, upr_eq, thr58, upm_upr, upr_upr, lc_lt, lc_gt, lc_ge, lc_le, afit1, afit0, afitI, bifit, not_true_eq_false, not_false_eq_true, if_true, if_false, Bool.false_eq_true, reduceCtorEq, k1557, k1558, g1557_2, h]
theorem C_differing {l : Int} (hR : isRad R) (h : RelC (vw u R) (a R) C s) (hM : MI c s) (hl : 0 ≤ l ∧ l < s 3) : a_m 45 [a_r R, a_i l] (K0 L, u, G a, t) = some (.inl (some (a_i (mDiff s l (-1)))), (K0 L, u, G a, t)) := by
  have hM3 := hM.2.2.2.1
  obtain ⟨p1, p2, p3, p4⟩ := rel_list (L := L) (l := -1) hR h hM (by omega)
  obtain ⟨l1, l2, l3, l4⟩ := rel_list (L := L) (l := l) hR h hM (by omega)
  have hd := C_differences (L := L) (u := u) (a := a) (t := t) hR p4 l4 p3 l3
  rw [diff_eq p1 l1, diff_comm, q9, ql hl.1, ← Nat.add_assoc] at hd
  simp (disch := first | assumption | omega) only [kR0, kR9, kR10, kR11, kR102, gR0_0, gR0_1, gR0_2, gR0_3, gR10_0, gR11, gR102, kR1, kR2, kR3, kR4, kR5, kR6, kR7, kR8, gR1_0, gR1_1, gR1_2, gR1_3, gR1_4, gR1_5, gR1_6, kRl0, kRl1, kRl2, kRl3, gRl_2, gRl_3, gRl_4, E_X4_differing, B_X4_differing_0, B_X4_differing_20, Option.bind_some, back_v, Option.toList_some, Option.toList_none, List.cons_append, List.nil_append, Nat.reduceAdd, Int.reduceToNat, Int.reduceNeg, upm_eq, upm_r, upm_i, if_pos, if_neg, ite_self, true_or, or_true, true_and, and_true, false_or, or_false, false_and, and_false, wr_id, i10, i01, upr_f, upr_eq, thr58, upm_upr, upr_upr, lc_lt, lc_gt, lc_ge, lc_le, afit1, afit0, afitI, bifit, not_true_eq_false, not_false_eq_true, if_true, if_false, Bool.false_eq_true, reduceCtorEq, k1557, k1558, g1557_2, hd, afitI]
theorem C_isPublished {l : Int} (hR : isRad R) (h : RelC (vw u R) (a R) C s) (hM : MI c s) (hl : 0 ≤ l ∧ l < s 3) : a_m 46 [a_r R, a_i l] (K0 L, u, G a, t) = some (.inl (some (a_i (bi (Psame l s)))), (K0 L, u, G a, t)) := by
  have hd := C_differing (L := L) (t := t) hR h hM hl
  unfold Psame
  by_cases hz : mDiff s l (-1) = 0
  · simp (disch := first | assumption | omega) only [kR0, kR9, kR10, kR11, kR102, gR0_0, gR0_1, gR0_2, gR0_3, gR10_0, gR11, gR102, E_X4_isPublished, B_X4_isPublished_0, B_X4_isPublished_5, Option.bind_some, back_v, Option.toList_some, Option.toList_none, List.cons_append, List.nil_append, Nat.reduceAdd, Int.reduceToNat, Int.reduceNeg, upm_eq, upm_r, upm_i, if_pos, if_neg, ite_self, true_or, or_true, true_and, and_true, false_or, or_false, false_and, and_false, wr_id, i10, i01, upr_f, upr_eq, thr58, upm_upr, upr_upr, lc_lt, lc_gt, lc_ge, lc_le, afit1, afit0, afitI, bifit, not_true_eq_false, not_false_eq_true, if_true, if_false, Bool.false_eq_true, reduceCtorEq, k1557, k1558, g1557_2, hd, hz, decide_true, bi_t]
  · simp (disch := first | assumption | omega) only [kR0, kR9, kR10, kR11, kR102, gR0_0, gR0_1, gR0_2, gR0_3, gR10_0, gR11, gR102, E_X4_isPublished, B_X4_isPublished_0, B_X4_isPublished_5, Option.bind_some, back_v, Option.toList_some, Option.toList_none, List.cons_append, List.nil_append, Nat.reduceAdd, Int.reduceToNat, Int.reduceNeg, upm_eq, upm_r, upm_i, if_pos, if_neg, ite_self, true_or, or_true, true_and, and_true, false_or, or_false, false_and, and_false, wr_id, i10, i01, upr_f, upr_eq, thr58, upm_upr, upr_upr, lc_lt, lc_gt, lc_ge, lc_le, afit1, afit0, afitI, bifit, not_true_eq_false, not_false_eq_true, if_true, if_false, Bool.false_eq_true, reduceCtorEq, k1557, k1558, g1557_2, hd, hz, decide_false, bi_f]
theorem C_minutesWrong {l : Int} (hR : isRad R) (h : RelC (vw u R) (a R) C s) (hM : MI c s) (hl : 0 ≤ l ∧ l < s 3) : a_m 47 [a_r R, a_i l] (K0 L, u, G a, t) = some (.inl (some (a_i (mWrong s l))), (K0 L, u, G a, t)) := by
  have hM3 := hM.2.2.2.1
  obtain ⟨p1, p2, p3, p4⟩ := rel_list (L := L) (l := -1) hR h hM (by omega)
  obtain ⟨l1, l2, l3, l4⟩ := rel_list (L := L) (l := l) hR h hM (by omega)
  have hd := C_minutesApart (L := L) (u := u) (a := a) (t := t) hR p4 p3 l4 l3
  rw [apart_eq p1 p2 l1 l2, q9, ql hl.1, ← Nat.add_assoc] at hd
  simp (disch := first | assumption | omega) only [kR0, kR9, kR10, kR11, kR102, gR0_0, gR0_1, gR0_2, gR0_3, gR10_0, gR11, gR102, kRl0, kRl1, kRl2, kRl3, gRl_2, gRl_3, gRl_4, E_X4_minutesWrong, B_X4_minutesWrong_0, B_X4_minutesWrong_20, Option.bind_some, back_v, Option.toList_some, Option.toList_none, List.cons_append, List.nil_append, Nat.reduceAdd, Int.reduceToNat, Int.reduceNeg, upm_eq, upm_r, upm_i, if_pos, if_neg, ite_self, true_or, or_true, true_and, and_true, false_or, or_false, false_and, and_false, wr_id, i10, i01, upr_f, upr_eq, thr58, upm_upr, upr_upr, lc_lt, lc_gt, lc_ge, lc_le, afit1, afit0, afitI, bifit, not_true_eq_false, not_false_eq_true, if_true, if_false, Bool.false_eq_true, reduceCtorEq, k1557, k1558, g1557_2, hd, afitI]
theorem C_sameListeners_loop (hR : isRad R) (h : RelC (vw u R) (a R) C s) (hM : MI c s) : ∀ (d : Nat) (x acc : Int), 0 ≤ x → x + d = s 3 → i32 acc → a_X 48 4 [a_r R, a_i acc, a_i x] [] (K0 L, u, G a, t) = some (.inl (some (a_i (sumW d x acc (fun l => bi (decide (mDiff s l (-1) = 0)))))), (K0 L, u, G a, t)) := by
  obtain ⟨f4, f5, f6, f7, f8, f17, f10, fl⟩ := rel_facts h
  have hM3 := hM.2.2.2.1
  intro d
  induction d with
  | zero => intro x acc h0 hx ha; rw [B_X4_sameListeners_4]; simp (disch := first | assumption | omega) only [kR0, kR9, kR10, kR11, kR102, gR0_0, gR0_1, gR0_2, gR0_3, gR10_0, gR11, gR102, B_X4_sameListeners_0, B_X4_sameListeners_17, Option.bind_some, back_v, Option.toList_some, Option.toList_none, List.cons_append, List.nil_append, Nat.reduceAdd, Int.reduceToNat, Int.reduceNeg, upm_eq, upm_r, upm_i, if_pos, if_neg, ite_self, true_or, or_true, true_and, and_true, false_or, or_false, false_and, and_false, wr_id, i10, i01, upr_f, upr_eq, thr58, upm_upr, upr_upr, lc_lt, lc_gt, lc_ge, lc_le, afit1, afit0, afitI, bifit, not_true_eq_false, not_false_eq_true, if_true, if_false, Bool.false_eq_true, reduceCtorEq, k1557, k1558, g1557_2, f4, sumW]
  | succ d ih =>
    intro x acc h0 hx ha
    have hp := C_isPublished (L := L) (t := t) (l := x) hR h hM (by omega)
    rw [B_X4_sameListeners_4]
    unfold Psame at hp
    cases hc : decide (mDiff s x (-1) = 0) with
    | true => rw [hc] at hp; simp (disch := first | assumption | omega) only [kR0, kR9, kR10, kR11, kR102, gR0_0, gR0_1, gR0_2, gR0_3, gR10_0, gR11, gR102, B_X4_sameListeners_0, B_X4_sameListeners_17, Option.bind_some, back_v, Option.toList_some, Option.toList_none, List.cons_append, List.nil_append, Nat.reduceAdd, Int.reduceToNat, Int.reduceNeg, upm_eq, upm_r, upm_i, if_pos, if_neg, ite_self, true_or, or_true, true_and, and_true, false_or, or_false, false_and, and_false, wr_id, i10, i01, upr_f, upr_eq, thr58, upm_upr, upr_upr, lc_lt, lc_gt, lc_ge, lc_le, afit1, afit0, afitI, bifit, not_true_eq_false, not_false_eq_true, if_true, if_false, Bool.false_eq_true, reduceCtorEq, k1557, k1558, g1557_2, f4, hp, hc, bi_t, sumW]; exact ih _ _ (by omega) (by omega) i32_wr
    | false => rw [hc] at hp; simp (disch := first | assumption | omega) only [kR0, kR9, kR10, kR11, kR102, gR0_0, gR0_1, gR0_2, gR0_3, gR10_0, gR11, gR102, B_X4_sameListeners_0, B_X4_sameListeners_17, Option.bind_some, back_v, Option.toList_some, Option.toList_none, List.cons_append, List.nil_append, Nat.reduceAdd, Int.reduceToNat, Int.reduceNeg, upm_eq, upm_r, upm_i, if_pos, if_neg, ite_self, true_or, or_true, true_and, and_true, false_or, or_false, false_and, and_false, wr_id, i10, i01, upr_f, upr_eq, thr58, upm_upr, upr_upr, lc_lt, lc_gt, lc_ge, lc_le, afit1, afit0, afitI, bifit, not_true_eq_false, not_false_eq_true, if_true, if_false, Bool.false_eq_true, reduceCtorEq, k1557, k1558, g1557_2, f4, hp, hc, bi_f, sumW, wr_0 ha]; exact ih _ _ (by omega) (by omega) ha
theorem C_sameListeners (hR : isRad R) (h : RelC (vw u R) (a R) C s) (hM : MI c s) : a_m 48 [a_r R] (K0 L, u, G a, t) = some (.inl (some (a_i (mSame s))), (K0 L, u, G a, t)) := by
  have hM3 := hM.2.2.2.1
  simp (disch := first | assumption | omega) only [E_X4_sameListeners, B_X4_sameListeners_0, B_X4_sameListeners_17, Option.bind_some, back_v, Option.toList_some, Option.toList_none, List.cons_append, List.nil_append, Nat.reduceAdd, Int.reduceToNat, Int.reduceNeg, upm_eq, upm_r, upm_i, if_pos, if_neg, ite_self, true_or, or_true, true_and, and_true, false_or, or_false, false_and, and_false, wr_id, i10, i01, upr_f, upr_eq, thr58, upm_upr, upr_upr, lc_lt, lc_gt, lc_ge, lc_le, afit1, afit0, afitI, bifit, not_true_eq_false, not_false_eq_true, if_true, if_false, Bool.false_eq_true, reduceCtorEq, k1557, k1558, g1557_2]
  exact C_sameListeners_loop hR h hM _ _ _ (by decide) (by omega) ⟨by decide, by decide⟩
theorem C_knows {l n : Int} (hR : isRad R) (h : RelC (vw u R) (a R) C s) (hM : MI c s) (hl : 0 ≤ l ∧ l < s 3) : a_m 40 [a_r R, a_i l, a_i n] (K0 L, u, G a, t) = some (.inl (some (a_i (bi (mHeard s l n)))), (K0 L, u, G a, t)) := by
  obtain ⟨f4, f5, f6, f7, f8, f17, f10, fl⟩ := rel_facts h
  have hM3 := hM.2.2.2.1
  have hM2 := hM.2.2.1
  cases hb : inB n 1 (s 2) with
  | false =>
    have hz : mHeard s l n = false := by rw [mHeard_tb, hb]; rfl
    have hn : n < 1 ∨ s 2 < n := by
      refine Classical.byContradiction fun h9 => ?_
      rw [inB_t (by omega) (by omega)] at hb; cases hb
    rw [hz]
    by_cases h1 : n < 1
    · simp (disch := first | assumption | omega) only [kR0, kR9, kR10, kR11, kR102, gR0_0, gR0_1, gR0_2, gR0_3, gR10_0, gR11, gR102, kR1, kR2, kR3, kR4, kR5, kR6, kR7, kR8, gR1_0, gR1_1, gR1_2, gR1_3, gR1_4, gR1_5, gR1_6, E_X4_knows, B_X4_knows_0, Option.bind_some, back_v, Option.toList_some, Option.toList_none, List.cons_append, List.nil_append, Nat.reduceAdd, Int.reduceToNat, Int.reduceNeg, upm_eq, upm_r, upm_i, if_pos, if_neg, ite_self, true_or, or_true, true_and, and_true, false_or, or_false, false_and, and_false, wr_id, i10, i01, upr_f, upr_eq, thr58, upm_upr, upr_upr, lc_lt, lc_gt, lc_ge, lc_le, afit1, afit0, afitI, bifit, not_true_eq_false, not_false_eq_true, if_true, if_false, Bool.false_eq_true, reduceCtorEq, k1557, k1558, g1557_2, bi_f]
    · simp (disch := first | assumption | omega) only [kR0, kR9, kR10, kR11, kR102, gR0_0, gR0_1, gR0_2, gR0_3, gR10_0, gR11, gR102, kR1, kR2, kR3, kR4, kR5, kR6, kR7, kR8, gR1_0, gR1_1, gR1_2, gR1_3, gR1_4, gR1_5, gR1_6, E_X4_knows, B_X4_knows_0, Option.bind_some, back_v, Option.toList_some, Option.toList_none, List.cons_append, List.nil_append, Nat.reduceAdd, Int.reduceToNat, Int.reduceNeg, upm_eq, upm_r, upm_i, if_pos, if_neg, ite_self, true_or, or_true, true_and, and_true, false_or, or_false, false_and, and_false, wr_id, i10, i01, upr_f, upr_eq, thr58, upm_upr, upr_upr, lc_lt, lc_gt, lc_ge, lc_le, afit1, afit0, afitI, bifit, not_true_eq_false, not_false_eq_true, if_true, if_false, Bool.false_eq_true, reduceCtorEq, k1557, k1558, g1557_2, f17, bi_f]
  | true =>
    have hn := inB_iff.mp hb
    obtain ⟨q1, q2⟩ := h.2.2.2.1 n hn.1 hn.2
    have q3 := q2 l hl.1 (by omega)
    rw [decide_eq_true hl.2, Bool.true_and] at q3
    rw [vw_at (by decide)] at q3
    rw [← q3]
    by_cases hz : zand (zshr (u (R + 8) n.toNat) l) 1 = 1
    · have e : tb (u (R + 8) n.toNat) l = true := by unfold tb; rw [decide_eq_true hz]
      simp (disch := first | assumption | omega) only [kR0, kR9, kR10, kR11, kR102, gR0_0, gR0_1, gR0_2, gR0_3, gR10_0, gR11, gR102, kR1, kR2, kR3, kR4, kR5, kR6, kR7, kR8, gR1_0, gR1_1, gR1_2, gR1_3, gR1_4, gR1_5, gR1_6, E_X4_knows, B_X4_knows_0, Option.bind_some, back_v, Option.toList_some, Option.toList_none, List.cons_append, List.nil_append, Nat.reduceAdd, Int.reduceToNat, Int.reduceNeg, upm_eq, upm_r, upm_i, if_pos, if_neg, ite_self, true_or, or_true, true_and, and_true, false_or, or_false, false_and, and_false, wr_id, i10, i01, upr_f, upr_eq, thr58, upm_upr, upr_upr, lc_lt, lc_gt, lc_ge, lc_le, afit1, afit0, afitI, bifit, not_true_eq_false, not_false_eq_true, if_true, if_false, Bool.false_eq_true, reduceCtorEq, k1557, k1558, g1557_2, f17, hz, e, bi_t]
    · have e : tb (u (R + 8) n.toNat) l = false := by unfold tb; rw [decide_eq_false hz]
      simp (disch := first | assumption | omega) only [kR0, kR9, kR10, kR11, kR102, gR0_0, gR0_1, gR0_2, gR0_3, gR10_0, gR11, gR102, kR1, kR2, kR3, kR4, kR5, kR6, kR7, kR8, gR1_0, gR1_1, gR1_2, gR1_3, gR1_4, gR1_5, gR1_6, E_X4_knows, B_X4_knows_0, Option.bind_some, back_v, Option.toList_some, Option.toList_none, List.cons_append, List.nil_append, Nat.reduceAdd, Int.reduceToNat, Int.reduceNeg, upm_eq, upm_r, upm_i, if_pos, if_neg, ite_self, true_or, or_true, true_and, and_true, false_or, or_false, false_and, and_false, wr_id, i10, i01, upr_f, upr_eq, thr58, upm_upr, upr_upr, lc_lt, lc_gt, lc_ge, lc_le, afit1, afit0, afitI, bifit, not_true_eq_false, not_false_eq_true, if_true, if_false, Bool.false_eq_true, reduceCtorEq, k1557, k1558, g1557_2, f17, hz, e, bi_f]
theorem C_misses {l n : Int} (hR : isRad R) (h : RelC (vw u R) (a R) C s) (hM : MI c s) (hl : 0 ≤ l ∧ l < s 3) : a_m 41 [a_r R, a_i l, a_i n] (K0 L, u, G a, t) = some (.inl (some (a_i (bi (mMisses s l n)))), (K0 L, u, G a, t)) := by
  have hM3 := hM.2.2.2.1
  have hk := C_knows (L := L) (t := t) (l := l) (n := n) hR h hM hl
  obtain ⟨q1, q2, q3, q4, q5, q6, q7, q8, q9, q10⟩ := h.2.2.2.2.2.1 l hl.1 hl.2
  rw [← vw_l0 u (by omega)] at q3 q4
  unfold mMisses
  by_cases h1 : mLi s l 10 < n
  · by_cases h3 : n < mLi s l 11
    · cases hc : mHeard s l n with
      | true => rw [hc] at hk; simp (disch := first | assumption | omega) only [kR0, kR9, kR10, kR11, kR102, gR0_0, gR0_1, gR0_2, gR0_3, gR10_0, gR11, gR102, kRl0, kRl1, kRl2, kRl3, gRl_2, gRl_3, gRl_4, E_X4_misses, B_X4_misses_0, B_X4_misses_32, Option.bind_some, back_v, Option.toList_some, Option.toList_none, List.cons_append, List.nil_append, Nat.reduceAdd, Int.reduceToNat, Int.reduceNeg, upm_eq, upm_r, upm_i, if_pos, if_neg, ite_self, true_or, or_true, true_and, and_true, false_or, or_false, false_and, and_false, wr_id, i10, i01, upr_f, upr_eq, thr58, upm_upr, upr_upr, lc_lt, lc_gt, lc_ge, lc_le, afit1, afit0, afitI, bifit, not_true_eq_false, not_false_eq_true, if_true, if_false, Bool.false_eq_true, reduceCtorEq, k1557, k1558, g1557_2, q3, q4, hk, h1, h3, bi_t, bi_f, decide_true, Bool.true_and, Bool.not_true]
      | false => rw [hc] at hk; simp (disch := first | assumption | omega) only [kR0, kR9, kR10, kR11, kR102, gR0_0, gR0_1, gR0_2, gR0_3, gR10_0, gR11, gR102, kRl0, kRl1, kRl2, kRl3, gRl_2, gRl_3, gRl_4, E_X4_misses, B_X4_misses_0, B_X4_misses_32, Option.bind_some, back_v, Option.toList_some, Option.toList_none, List.cons_append, List.nil_append, Nat.reduceAdd, Int.reduceToNat, Int.reduceNeg, upm_eq, upm_r, upm_i, if_pos, if_neg, ite_self, true_or, or_true, true_and, and_true, false_or, or_false, false_and, and_false, wr_id, i10, i01, upr_f, upr_eq, thr58, upm_upr, upr_upr, lc_lt, lc_gt, lc_ge, lc_le, afit1, afit0, afitI, bifit, not_true_eq_false, not_false_eq_true, if_true, if_false, Bool.false_eq_true, reduceCtorEq, k1557, k1558, g1557_2, q3, q4, hk, h1, h3, bi_t, bi_f, decide_true, Bool.true_and, Bool.not_false]
    · simp (disch := first | assumption | omega) only [kR0, kR9, kR10, kR11, kR102, gR0_0, gR0_1, gR0_2, gR0_3, gR10_0, gR11, gR102, kRl0, kRl1, kRl2, kRl3, gRl_2, gRl_3, gRl_4, E_X4_misses, B_X4_misses_0, B_X4_misses_32, Option.bind_some, back_v, Option.toList_some, Option.toList_none, List.cons_append, List.nil_append, Nat.reduceAdd, Int.reduceToNat, Int.reduceNeg, upm_eq, upm_r, upm_i, if_pos, if_neg, ite_self, true_or, or_true, true_and, and_true, false_or, or_false, false_and, and_false, wr_id, i10, i01, upr_f, upr_eq, thr58, upm_upr, upr_upr, lc_lt, lc_gt, lc_ge, lc_le, afit1, afit0, afitI, bifit, not_true_eq_false, not_false_eq_true, if_true, if_false, Bool.false_eq_true, reduceCtorEq, k1557, k1558, g1557_2, q3, q4, h1, h3, bi_f, decide_true, decide_false, Bool.true_and, Bool.false_and]
  · simp (disch := first | assumption | omega) only [kR0, kR9, kR10, kR11, kR102, gR0_0, gR0_1, gR0_2, gR0_3, gR10_0, gR11, gR102, kRl0, kRl1, kRl2, kRl3, gRl_2, gRl_3, gRl_4, E_X4_misses, B_X4_misses_0, B_X4_misses_32, Option.bind_some, back_v, Option.toList_some, Option.toList_none, List.cons_append, List.nil_append, Nat.reduceAdd, Int.reduceToNat, Int.reduceNeg, upm_eq, upm_r, upm_i, if_pos, if_neg, ite_self, true_or, or_true, true_and, and_true, false_or, or_false, false_and, and_false, wr_id, i10, i01, upr_f, upr_eq, thr58, upm_upr, upr_upr, lc_lt, lc_gt, lc_ge, lc_le, afit1, afit0, afitI, bifit, not_true_eq_false, not_false_eq_true, if_true, if_false, Bool.false_eq_true, reduceCtorEq, k1557, k1558, g1557_2, q3, h1, bi_f, decide_false, Bool.false_and]
theorem C_numbersHeard_loop {l : Int} (hR : isRad R) (h : RelC (vw u R) (a R) C s) (hM : MI c s) (hl : 0 ≤ l ∧ l < s 3) : ∀ (d : Nat) (x acc : Int), 1 ≤ x → x + d = s 2 + 1 → i32 acc → a_X 42 4 [a_r R, a_i l, a_i acc, a_i x] [] (K0 L, u, G a, t) = some (.inl (some (a_i (sumW d x acc (fun n => bi (mHeard s l n))))), (K0 L, u, G a, t)) := by
  obtain ⟨f4, f5, f6, f7, f8, f17, f10, fl⟩ := rel_facts h
  have hM2 := hM.2.2.1
  intro d
  induction d with
  | zero => intro x acc h0 hx ha; rw [B_X4_numbersHeard_4]; simp (disch := first | assumption | omega) only [kR0, kR9, kR10, kR11, kR102, gR0_0, gR0_1, gR0_2, gR0_3, gR10_0, gR11, gR102, kR1, kR2, kR3, kR4, kR5, kR6, kR7, kR8, gR1_0, gR1_1, gR1_2, gR1_3, gR1_4, gR1_5, gR1_6, B_X4_numbersHeard_0, B_X4_numbersHeard_21, Option.bind_some, back_v, Option.toList_some, Option.toList_none, List.cons_append, List.nil_append, Nat.reduceAdd, Int.reduceToNat, Int.reduceNeg, upm_eq, upm_r, upm_i, if_pos, if_neg, ite_self, true_or, or_true, true_and, and_true, false_or, or_false, false_and, and_false, wr_id, i10, i01, upr_f, upr_eq, thr58, upm_upr, upr_upr, lc_lt, lc_gt, lc_ge, lc_le, afit1, afit0, afitI, bifit, not_true_eq_false, not_false_eq_true, if_true, if_false, Bool.false_eq_true, reduceCtorEq, k1557, k1558, g1557_2, f17, sumW]
  | succ d ih =>
    intro x acc h0 hx ha
    have hp := C_knows (L := L) (t := t) (l := l) (n := x) hR h hM hl
    rw [B_X4_numbersHeard_4]
    cases hc : mHeard s l x with
    | true => rw [hc] at hp; simp (disch := first | assumption | omega) only [kR0, kR9, kR10, kR11, kR102, gR0_0, gR0_1, gR0_2, gR0_3, gR10_0, gR11, gR102, kR1, kR2, kR3, kR4, kR5, kR6, kR7, kR8, gR1_0, gR1_1, gR1_2, gR1_3, gR1_4, gR1_5, gR1_6, B_X4_numbersHeard_0, B_X4_numbersHeard_21, Option.bind_some, back_v, Option.toList_some, Option.toList_none, List.cons_append, List.nil_append, Nat.reduceAdd, Int.reduceToNat, Int.reduceNeg, upm_eq, upm_r, upm_i, if_pos, if_neg, ite_self, true_or, or_true, true_and, and_true, false_or, or_false, false_and, and_false, wr_id, i10, i01, upr_f, upr_eq, thr58, upm_upr, upr_upr, lc_lt, lc_gt, lc_ge, lc_le, afit1, afit0, afitI, bifit, not_true_eq_false, not_false_eq_true, if_true, if_false, Bool.false_eq_true, reduceCtorEq, k1557, k1558, g1557_2, f17, hp, hc, bi_t, sumW]; exact ih _ _ (by omega) (by omega) i32_wr
    | false => rw [hc] at hp; simp (disch := first | assumption | omega) only [kR0, kR9, kR10, kR11, kR102, gR0_0, gR0_1, gR0_2, gR0_3, gR10_0, gR11, gR102, kR1, kR2, kR3, kR4, kR5, kR6, kR7, kR8, gR1_0, gR1_1, gR1_2, gR1_3, gR1_4, gR1_5, gR1_6, B_X4_numbersHeard_0, B_X4_numbersHeard_21, Option.bind_some, back_v, Option.toList_some, Option.toList_none, List.cons_append, List.nil_append, Nat.reduceAdd, Int.reduceToNat, Int.reduceNeg, upm_eq, upm_r, upm_i, if_pos, if_neg, ite_self, true_or, or_true, true_and, and_true, false_or, or_false, false_and, and_false, wr_id, i10, i01, upr_f, upr_eq, thr58, upm_upr, upr_upr, lc_lt, lc_gt, lc_ge, lc_le, afit1, afit0, afitI, bifit, not_true_eq_false, not_false_eq_true, if_true, if_false, Bool.false_eq_true, reduceCtorEq, k1557, k1558, g1557_2, f17, hp, hc, bi_f, sumW, wr_0 ha]; exact ih _ _ (by omega) (by omega) ha
theorem C_numbersHeard {l : Int} (hR : isRad R) (h : RelC (vw u R) (a R) C s) (hM : MI c s) (hl : 0 ≤ l ∧ l < s 3) : a_m 42 [a_r R, a_i l] (K0 L, u, G a, t) = some (.inl (some (a_i (mHeardOnes s l))), (K0 L, u, G a, t)) := by
  have hM2 := hM.2.2.1
  simp (disch := first | assumption | omega) only [E_X4_numbersHeard, B_X4_numbersHeard_0, B_X4_numbersHeard_21, Option.bind_some, back_v, Option.toList_some, Option.toList_none, List.cons_append, List.nil_append, Nat.reduceAdd, Int.reduceToNat, Int.reduceNeg, upm_eq, upm_r, upm_i, if_pos, if_neg, ite_self, true_or, or_true, true_and, and_true, false_or, or_false, false_and, and_false, wr_id, i10, i01, upr_f, upr_eq, thr58, upm_upr, upr_upr, lc_lt, lc_gt, lc_ge, lc_le, afit1, afit0, afitI, bifit, not_true_eq_false, not_false_eq_true, if_true, if_false, Bool.false_eq_true, reduceCtorEq, k1557, k1558, g1557_2]
  exact C_numbersHeard_loop hR h hM hl _ _ _ (by decide) (by omega) ⟨by decide, by decide⟩
theorem C_numbersMissed_loop {l : Int} (hR : isRad R) (h : RelC (vw u R) (a R) C s) (hM : MI c s) (hl : 0 ≤ l ∧ l < s 3) : ∀ (d : Nat) (x acc : Int), 1 ≤ x → x + d = s 2 + 1 → i32 acc → a_X 43 4 [a_r R, a_i l, a_i acc, a_i x] [] (K0 L, u, G a, t) = some (.inl (some (a_i (sumW d x acc (fun n => bi (mMisses s l n))))), (K0 L, u, G a, t)) := by
  obtain ⟨f4, f5, f6, f7, f8, f17, f10, fl⟩ := rel_facts h
  have hM2 := hM.2.2.1
  intro d
  induction d with
  | zero => intro x acc h0 hx ha; rw [B_X4_numbersMissed_4]; simp (disch := first | assumption | omega) only [kR0, kR9, kR10, kR11, kR102, gR0_0, gR0_1, gR0_2, gR0_3, gR10_0, gR11, gR102, kR1, kR2, kR3, kR4, kR5, kR6, kR7, kR8, gR1_0, gR1_1, gR1_2, gR1_3, gR1_4, gR1_5, gR1_6, B_X4_numbersMissed_0, B_X4_numbersMissed_21, Option.bind_some, back_v, Option.toList_some, Option.toList_none, List.cons_append, List.nil_append, Nat.reduceAdd, Int.reduceToNat, Int.reduceNeg, upm_eq, upm_r, upm_i, if_pos, if_neg, ite_self, true_or, or_true, true_and, and_true, false_or, or_false, false_and, and_false, wr_id, i10, i01, upr_f, upr_eq, thr58, upm_upr, upr_upr, lc_lt, lc_gt, lc_ge, lc_le, afit1, afit0, afitI, bifit, not_true_eq_false, not_false_eq_true, if_true, if_false, Bool.false_eq_true, reduceCtorEq, k1557, k1558, g1557_2, f17, sumW]
  | succ d ih =>
    intro x acc h0 hx ha
    have hp := C_misses (L := L) (t := t) (l := l) (n := x) hR h hM hl
    rw [B_X4_numbersMissed_4]
    cases hc : mMisses s l x with
    | true => rw [hc] at hp; simp (disch := first | assumption | omega) only [kR0, kR9, kR10, kR11, kR102, gR0_0, gR0_1, gR0_2, gR0_3, gR10_0, gR11, gR102, kR1, kR2, kR3, kR4, kR5, kR6, kR7, kR8, gR1_0, gR1_1, gR1_2, gR1_3, gR1_4, gR1_5, gR1_6, B_X4_numbersMissed_0, B_X4_numbersMissed_21, Option.bind_some, back_v, Option.toList_some, Option.toList_none, List.cons_append, List.nil_append, Nat.reduceAdd, Int.reduceToNat, Int.reduceNeg, upm_eq, upm_r, upm_i, if_pos, if_neg, ite_self, true_or, or_true, true_and, and_true, false_or, or_false, false_and, and_false, wr_id, i10, i01, upr_f, upr_eq, thr58, upm_upr, upr_upr, lc_lt, lc_gt, lc_ge, lc_le, afit1, afit0, afitI, bifit, not_true_eq_false, not_false_eq_true, if_true, if_false, Bool.false_eq_true, reduceCtorEq, k1557, k1558, g1557_2, f17, hp, hc, bi_t, sumW]; exact ih _ _ (by omega) (by omega) i32_wr
    | false => rw [hc] at hp; simp (disch := first | assumption | omega) only [kR0, kR9, kR10, kR11, kR102, gR0_0, gR0_1, gR0_2, gR0_3, gR10_0, gR11, gR102, kR1, kR2, kR3, kR4, kR5, kR6, kR7, kR8, gR1_0, gR1_1, gR1_2, gR1_3, gR1_4, gR1_5, gR1_6, B_X4_numbersMissed_0, B_X4_numbersMissed_21, Option.bind_some, back_v, Option.toList_some, Option.toList_none, List.cons_append, List.nil_append, Nat.reduceAdd, Int.reduceToNat, Int.reduceNeg, upm_eq, upm_r, upm_i, if_pos, if_neg, ite_self, true_or, or_true, true_and, and_true, false_or, or_false, false_and, and_false, wr_id, i10, i01, upr_f, upr_eq, thr58, upm_upr, upr_upr, lc_lt, lc_gt, lc_ge, lc_le, afit1, afit0, afitI, bifit, not_true_eq_false, not_false_eq_true, if_true, if_false, Bool.false_eq_true, reduceCtorEq, k1557, k1558, g1557_2, f17, hp, hc, bi_f, sumW, wr_0 ha]; exact ih _ _ (by omega) (by omega) ha
theorem C_numbersMissed {l : Int} (hR : isRad R) (h : RelC (vw u R) (a R) C s) (hM : MI c s) (hl : 0 ≤ l ∧ l < s 3) : a_m 43 [a_r R, a_i l] (K0 L, u, G a, t) = some (.inl (some (a_i (mMissed s l))), (K0 L, u, G a, t)) := by
  have hM2 := hM.2.2.1
  simp (disch := first | assumption | omega) only [E_X4_numbersMissed, B_X4_numbersMissed_0, B_X4_numbersMissed_21, Option.bind_some, back_v, Option.toList_some, Option.toList_none, List.cons_append, List.nil_append, Nat.reduceAdd, Int.reduceToNat, Int.reduceNeg, upm_eq, upm_r, upm_i, if_pos, if_neg, ite_self, true_or, or_true, true_and, and_true, false_or, or_false, false_and, and_false, wr_id, i10, i01, upr_f, upr_eq, thr58, upm_upr, upr_upr, lc_lt, lc_gt, lc_ge, lc_le, afit1, afit0, afitI, bifit, not_true_eq_false, not_false_eq_true, if_true, if_false, Bool.false_eq_true, reduceCtorEq, k1557, k1558, g1557_2]
  exact C_numbersMissed_loop hR h hM hl _ _ _ (by decide) (by omega) ⟨by decide, by decide⟩
theorem C_numbersBehind {l : Int} (hR : isRad R) (h : RelC (vw u R) (a R) C s) (hM : MI c s) (hl : 0 ≤ l ∧ l < s 3) : a_m 44 [a_r R, a_i l] (K0 L, u, G a, t) = some (.inl (some (a_i (mBehind s l))), (K0 L, u, G a, t)) := by
  obtain ⟨f4, f5, f6, f7, f8, f17, f10, fl⟩ := rel_facts h
  have hM3 := hM.2.2.2.1
  obtain ⟨q1, q2, q3, q4, q5, q6, q7, q8, q9, q10⟩ := h.2.2.2.2.2.1 l hl.1 hl.2
  rw [← vw_l0 u (by omega)] at q4
  unfold mBehind
  simp (disch := first | assumption | omega) only [kR0, kR9, kR10, kR11, kR102, gR0_0, gR0_1, gR0_2, gR0_3, gR10_0, gR11, gR102, kR1, kR2, kR3, kR4, kR5, kR6, kR7, kR8, gR1_0, gR1_1, gR1_2, gR1_3, gR1_4, gR1_5, gR1_6, kRl0, kRl1, kRl2, kRl3, gRl_2, gRl_3, gRl_4, E_X4_numbersBehind, B_X4_numbersBehind_0, Option.bind_some, back_v, Option.toList_some, Option.toList_none, List.cons_append, List.nil_append, Nat.reduceAdd, Int.reduceToNat, Int.reduceNeg, upm_eq, upm_r, upm_i, if_pos, if_neg, ite_self, true_or, or_true, true_and, and_true, false_or, or_false, false_and, and_false, wr_id, i10, i01, upr_f, upr_eq, thr58, upm_upr, upr_upr, lc_lt, lc_gt, lc_ge, lc_le, afit1, afit0, afitI, bifit, not_true_eq_false, not_false_eq_true, if_true, if_false, Bool.false_eq_true, reduceCtorEq, k1557, k1558, g1557_2, f17, q4, afitI]
theorem C_allDropped_loop (hR : isRad R) (h : RelC (vw u R) (a R) C s) (hM : MI c s) : ∀ (d : Nat) (x acc : Int), 0 ≤ x → x + d = s 3 → a_X 49 4 [a_r R, a_i acc, a_i x] [] (K0 L, u, G a, t) = some (.inl (some (a_i (sumW d x acc (fun l => mLi s l 12)))), (K0 L, u, G a, t)) := by
  obtain ⟨f4, f5, f6, f7, f8, f17, f10, fl⟩ := rel_facts h
  have hM3 := hM.2.2.2.1
  intro d
  induction d with
  | zero => intro x acc h0 hx; rw [B_X4_allDropped_4]; simp (disch := first | assumption | omega) only [kR0, kR9, kR10, kR11, kR102, gR0_0, gR0_1, gR0_2, gR0_3, gR10_0, gR11, gR102, B_X4_allDropped_0, Option.bind_some, back_v, Option.toList_some, Option.toList_none, List.cons_append, List.nil_append, Nat.reduceAdd, Int.reduceToNat, Int.reduceNeg, upm_eq, upm_r, upm_i, if_pos, if_neg, ite_self, true_or, or_true, true_and, and_true, false_or, or_false, false_and, and_false, wr_id, i10, i01, upr_f, upr_eq, thr58, upm_upr, upr_upr, lc_lt, lc_gt, lc_ge, lc_le, afit1, afit0, afitI, bifit, not_true_eq_false, not_false_eq_true, if_true, if_false, Bool.false_eq_true, reduceCtorEq, k1557, k1558, g1557_2, f4, sumW]
  | succ d ih =>
    intro x acc h0 hx
    obtain ⟨q1, q2, q3, q4, q5, q6, q7, q8, q9, q10⟩ := h.2.2.2.2.2.1 x h0 (by omega)
    rw [← vw_l0 u (by omega)] at q5
    rw [B_X4_allDropped_4]
    simp (disch := first | assumption | omega) only [kR0, kR9, kR10, kR11, kR102, gR0_0, gR0_1, gR0_2, gR0_3, gR10_0, gR11, gR102, kRl0, kRl1, kRl2, kRl3, gRl_2, gRl_3, gRl_4, B_X4_allDropped_0, Option.bind_some, back_v, Option.toList_some, Option.toList_none, List.cons_append, List.nil_append, Nat.reduceAdd, Int.reduceToNat, Int.reduceNeg, upm_eq, upm_r, upm_i, if_pos, if_neg, ite_self, true_or, or_true, true_and, and_true, false_or, or_false, false_and, and_false, wr_id, i10, i01, upr_f, upr_eq, thr58, upm_upr, upr_upr, lc_lt, lc_gt, lc_ge, lc_le, afit1, afit0, afitI, bifit, not_true_eq_false, not_false_eq_true, if_true, if_false, Bool.false_eq_true, reduceCtorEq, k1557, k1558, g1557_2, f4, q5, sumW]
    exact ih _ _ (by omega) (by omega)
theorem C_allDropped (hR : isRad R) (h : RelC (vw u R) (a R) C s) (hM : MI c s) : a_m 49 [a_r R] (K0 L, u, G a, t) = some (.inl (some (a_i (mSum s 12))), (K0 L, u, G a, t)) := by
  have hM3 := hM.2.2.2.1
  simp (disch := first | assumption | omega) only [E_X4_allDropped, B_X4_allDropped_0, Option.bind_some, back_v, Option.toList_some, Option.toList_none, List.cons_append, List.nil_append, Nat.reduceAdd, Int.reduceToNat, Int.reduceNeg, upm_eq, upm_r, upm_i, if_pos, if_neg, ite_self, true_or, or_true, true_and, and_true, false_or, or_false, false_and, and_false, wr_id, i10, i01, upr_f, upr_eq, thr58, upm_upr, upr_upr, lc_lt, lc_gt, lc_ge, lc_le, afit1, afit0, afitI, bifit, not_true_eq_false, not_false_eq_true, if_true, if_false, Bool.false_eq_true, reduceCtorEq, k1557, k1558, g1557_2]
  exact C_allDropped_loop hR h hM _ _ _ (by decide) (by omega)
theorem C_allUnheard_loop (hR : isRad R) (h : RelC (vw u R) (a R) C s) (hM : MI c s) : ∀ (d : Nat) (x acc : Int), 0 ≤ x → x + d = s 3 → a_X 50 4 [a_r R, a_i acc, a_i x] [] (K0 L, u, G a, t) = some (.inl (some (a_i (sumW d x acc (fun l => mLi s l 14)))), (K0 L, u, G a, t)) := by
  obtain ⟨f4, f5, f6, f7, f8, f17, f10, fl⟩ := rel_facts h
  have hM3 := hM.2.2.2.1
  intro d
  induction d with
  | zero => intro x acc h0 hx; rw [B_X4_allUnheard_4]; simp (disch := first | assumption | omega) only [kR0, kR9, kR10, kR11, kR102, gR0_0, gR0_1, gR0_2, gR0_3, gR10_0, gR11, gR102, B_X4_allUnheard_0, Option.bind_some, back_v, Option.toList_some, Option.toList_none, List.cons_append, List.nil_append, Nat.reduceAdd, Int.reduceToNat, Int.reduceNeg, upm_eq, upm_r, upm_i, if_pos, if_neg, ite_self, true_or, or_true, true_and, and_true, false_or, or_false, false_and, and_false, wr_id, i10, i01, upr_f, upr_eq, thr58, upm_upr, upr_upr, lc_lt, lc_gt, lc_ge, lc_le, afit1, afit0, afitI, bifit, not_true_eq_false, not_false_eq_true, if_true, if_false, Bool.false_eq_true, reduceCtorEq, k1557, k1558, g1557_2, f4, sumW]
  | succ d ih =>
    intro x acc h0 hx
    obtain ⟨q1, q2, q3, q4, q5, q6, q7, q8, q9, q10⟩ := h.2.2.2.2.2.1 x h0 (by omega)
    rw [← vw_l0 u (by omega)] at q7
    rw [B_X4_allUnheard_4]
    simp (disch := first | assumption | omega) only [kR0, kR9, kR10, kR11, kR102, gR0_0, gR0_1, gR0_2, gR0_3, gR10_0, gR11, gR102, kRl0, kRl1, kRl2, kRl3, gRl_2, gRl_3, gRl_4, B_X4_allUnheard_0, Option.bind_some, back_v, Option.toList_some, Option.toList_none, List.cons_append, List.nil_append, Nat.reduceAdd, Int.reduceToNat, Int.reduceNeg, upm_eq, upm_r, upm_i, if_pos, if_neg, ite_self, true_or, or_true, true_and, and_true, false_or, or_false, false_and, and_false, wr_id, i10, i01, upr_f, upr_eq, thr58, upm_upr, upr_upr, lc_lt, lc_gt, lc_ge, lc_le, afit1, afit0, afitI, bifit, not_true_eq_false, not_false_eq_true, if_true, if_false, Bool.false_eq_true, reduceCtorEq, k1557, k1558, g1557_2, f4, q7, sumW]
    exact ih _ _ (by omega) (by omega)
theorem C_allUnheard (hR : isRad R) (h : RelC (vw u R) (a R) C s) (hM : MI c s) : a_m 50 [a_r R] (K0 L, u, G a, t) = some (.inl (some (a_i (mSum s 14))), (K0 L, u, G a, t)) := by
  have hM3 := hM.2.2.2.1
  simp (disch := first | assumption | omega) only [E_X4_allUnheard, B_X4_allUnheard_0, Option.bind_some, back_v, Option.toList_some, Option.toList_none, List.cons_append, List.nil_append, Nat.reduceAdd, Int.reduceToNat, Int.reduceNeg, upm_eq, upm_r, upm_i, if_pos, if_neg, ite_self, true_or, or_true, true_and, and_true, false_or, or_false, false_and, and_false, wr_id, i10, i01, upr_f, upr_eq, thr58, upm_upr, upr_upr, lc_lt, lc_gt, lc_ge, lc_le, afit1, afit0, afitI, bifit, not_true_eq_false, not_false_eq_true, if_true, if_false, Bool.false_eq_true, reduceCtorEq, k1557, k1558, g1557_2]
  exact C_allUnheard_loop hR h hM _ _ _ (by decide) (by omega)
end C7
/-- the row of signals has each signal once -/
def okA (b : Nat → Nat) : Prop := (∀ p, p < 30 → b p < 30) ∧ ∀ p q, p < 30 → q < 30 → b p = b q → p = q
theorem Rel_okA {v : Nat → Nat → Int} {b : Nat → Nat} {s : Nat → Int} (h : Rel v b s) : okA b := by
  obtain ⟨C, h⟩ := h
  exact ⟨h.2.2.2.2.2.2.1, h.2.2.2.2.2.2.2.1⟩
section C7b
variable {L : Nat} {t : Nat × Nat × Nat} {R : Nat} {c : Int}
theorem C_passTicks_loop {n : Int} (hR : isRad R) (hc : c ≤ 1000) (hn : n ≤ 1000) : ∀ (d : Nat) (x : Int) (u : Nat → Nat → Int) (a : Nat → Nat → Nat) (s : Nat → Int), 0 ≤ x → x + d = n → Rel (vw u R) (a R) s → MI c s → s 1 + d ≤ 15000 →
    ∃ u' a', a_X 36 2 [a_r R, a_i n, a_i x] [] (K0 L, u, G a, t) = some (.inl none, (K0 L, u', G a', t)) ∧ Rel (vw u' R) (a' R) (mTicks d s) ∧ outR R u u' ∧ (∀ Q, Q ≠ R → a' Q = a Q) := by
  intro d
  induction d with
  | zero =>
    intro x u a s h0 h hrel hM h1
    refine ⟨u, a, ?_, hrel, outR.refl, fun _ _ => rfl⟩
    rw [B_X4_passTicks_2]; simp (disch := first | assumption | omega) only [B_X4_passTicks_0, B_X4_passTicks_11, Option.bind_some, back_v, Option.toList_some, Option.toList_none, List.cons_append, List.nil_append, Nat.reduceAdd, Int.reduceToNat, Int.reduceNeg, upm_eq, upm_r, upm_i, if_pos, if_neg, ite_self, true_or, or_true, true_and, and_true, false_or, or_false, false_and, and_false, wr_id, i10, i01, upr_f, upr_eq, thr58, upm_upr, upr_upr, lc_lt, lc_gt, lc_ge, lc_le, afit1, afit0, afitI, bifit, not_true_eq_false, not_false_eq_true, if_true, if_false, Bool.false_eq_true, reduceCtorEq, k1557, k1558, g1557_2]
  | succ d ih =>
    intro x u a s h0 h hrel hM h1
    obtain ⟨u1, a1, g1, g2, g3, g4⟩ := C_passTick (L := L) (u := u) (a := a) (t := t) hR hrel hM hc (by omega)
    obtain ⟨k1, k2, k3, k4, k5, k6⟩ := MI_tick hM hc (by omega)
    obtain ⟨u2, a2, j1, j2, j3, j4⟩ := ih (x + 1) u1 a1 (mTick s) (by omega) (by omega) g2 k1 (by omega)
    refine ⟨u2, a2, ?_, j2, g3.trans j3, fun Q hQ => by rw [j4 Q hQ, g4 Q hQ]⟩
    rw [← j1]
    rw [B_X4_passTicks_2]; simp (disch := first | assumption | omega) only [kR0, kR9, kR10, kR11, kR102, gR0_0, gR0_1, gR0_2, gR0_3, gR10_0, gR11, gR102, B_X4_passTicks_0, B_X4_passTicks_11, Option.bind_some, back_v, Option.toList_some, Option.toList_none, List.cons_append, List.nil_append, Nat.reduceAdd, Int.reduceToNat, Int.reduceNeg, upm_eq, upm_r, upm_i, if_pos, if_neg, ite_self, true_or, or_true, true_and, and_true, false_or, or_false, false_and, and_false, wr_id, i10, i01, upr_f, upr_eq, thr58, upm_upr, upr_upr, lc_lt, lc_gt, lc_ge, lc_le, afit1, afit0, afitI, bifit, not_true_eq_false, not_false_eq_true, if_true, if_false, Bool.false_eq_true, reduceCtorEq, k1557, k1558, g1557_2, g1]
theorem C_passTicks {n : Int} {u : Nat → Nat → Int} {a : Nat → Nat → Nat} {s : Nat → Int} (hR : isRad R) (hc : c ≤ 1000) (hn : 0 ≤ n ∧ n ≤ 1000) (hrel : Rel (vw u R) (a R) s) (hM : MI c s) (h1 : s 1 + n ≤ 15000) :
    ∃ u' a', a_m 36 [a_r R, a_i n] (K0 L, u, G a, t) = some (.inl none, (K0 L, u', G a', t)) ∧ Rel (vw u' R) (a' R) (mTicks n.toNat s) ∧ outR R u u' ∧ (∀ Q, Q ≠ R → a' Q = a Q) := by
  obtain ⟨u2, a2, j1, j2, j3, j4⟩ := C_passTicks_loop (L := L) (t := t) hR hc hn.2 n.toNat 0 u a s (by decide) (by omega) hrel hM (by omega)
  refine ⟨u2, a2, ?_, j2, j3, j4⟩
  rw [← j1]
  simp (disch := first | assumption | omega) only [E_X4_passTicks, B_X4_passTicks_0, B_X4_passTicks_11, Option.bind_some, back_v, Option.toList_some, Option.toList_none, List.cons_append, List.nil_append, Nat.reduceAdd, Int.reduceToNat, Int.reduceNeg, upm_eq, upm_r, upm_i, if_pos, if_neg, ite_self, true_or, or_true, true_and, and_true, false_or, or_false, false_and, and_false, wr_id, i10, i01, upr_f, upr_eq, thr58, upm_upr, upr_upr, lc_lt, lc_gt, lc_ge, lc_le, afit1, afit0, afitI, bifit, not_true_eq_false, not_false_eq_true, if_true, if_false, Bool.false_eq_true, reduceCtorEq, k1557, k1558, g1557_2]
theorem C_ticksUntilSame_loop {l lim : Int} (hR : isRad R) (hc : c ≤ 1000) (hlim : lim ≤ 1000) : ∀ (d : Nat) (x : Int) (u : Nat → Nat → Int) (a : Nat → Nat → Nat) (s : Nat → Int), 0 ≤ x → x + d = lim + 1 → 0 ≤ l ∧ l < s 3 → Rel (vw u R) (a R) s → MI c s → s 1 + d ≤ 15000 →
    ∃ u' a', a_X 51 2 [a_r R, a_i l, a_i lim, a_i x] [] (K0 L, u, G a, t) = some (.inl (some (a_i (mWait d x (Psame l) s))), (K0 L, u', G a', t)) ∧ outR R u u' ∧ (∀ Q, Q ≠ R → a' Q = a Q) ∧ okA (a' R) := by
  intro d
  induction d with
  | zero =>
    intro x u a s h0 h hl hrel hM h1
    refine ⟨u, a, ?_, outR.refl, fun _ _ => rfl, Rel_okA hrel⟩
    rw [B_X4_ticksUntilSame_2]; simp (disch := first | assumption | omega) only [B_X4_ticksUntilSame_0, B_X4_ticksUntilSame_12, B_X4_ticksUntilSame_21, Option.bind_some, back_v, Option.toList_some, Option.toList_none, List.cons_append, List.nil_append, Nat.reduceAdd, Int.reduceToNat, Int.reduceNeg, upm_eq, upm_r, upm_i, if_pos, if_neg, ite_self, true_or, or_true, true_and, and_true, false_or, or_false, false_and, and_false, wr_id, i10, i01, upr_f, upr_eq, thr58, upm_upr, upr_upr, lc_lt, lc_gt, lc_ge, lc_le, afit1, afit0, afitI, bifit, not_true_eq_false, not_false_eq_true, if_true, if_false, Bool.false_eq_true, reduceCtorEq, k1557, k1558, g1557_2, mWait]
  | succ d ih =>
    intro x u a s h0 h hl hrel hM h1
    obtain ⟨C, hC⟩ := hrel
    have hp := C_isPublished (L := L) (t := t) hR hC hM hl
    cases hq : Psame l s with
    | true =>
      rw [hq] at hp
      refine ⟨u, a, ?_, outR.refl, fun _ _ => rfl, Rel_okA ⟨C, hC⟩⟩
      rw [B_X4_ticksUntilSame_2]; simp (disch := first | assumption | omega) only [kR0, kR9, kR10, kR11, kR102, gR0_0, gR0_1, gR0_2, gR0_3, gR10_0, gR11, gR102, B_X4_ticksUntilSame_0, B_X4_ticksUntilSame_12, B_X4_ticksUntilSame_21, Option.bind_some, back_v, Option.toList_some, Option.toList_none, List.cons_append, List.nil_append, Nat.reduceAdd, Int.reduceToNat, Int.reduceNeg, upm_eq, upm_r, upm_i, if_pos, if_neg, ite_self, true_or, or_true, true_and, and_true, false_or, or_false, false_and, and_false, wr_id, i10, i01, upr_f, upr_eq, thr58, upm_upr, upr_upr, lc_lt, lc_gt, lc_ge, lc_le, afit1, afit0, afitI, bifit, not_true_eq_false, not_false_eq_true, if_true, if_false, Bool.false_eq_true, reduceCtorEq, k1557, k1558, g1557_2, hp, bi_t, mWait, hq]
    | false =>
      rw [hq] at hp
      obtain ⟨u1, a1, g1, g2, g3, g4⟩ := C_passTick (L := L) (u := u) (a := a) (t := t) hR ⟨C, hC⟩ hM hc (by omega)
      obtain ⟨k1, k2, k3, k4, k5, k6⟩ := MI_tick hM hc (by omega)
      obtain ⟨u2, a2, j1, j3, j4, j5⟩ := ih (x + 1) u1 a1 (mTick s) (by omega) (by omega) (by rw [k6]; exact hl) g2 k1 (by omega)
      refine ⟨u2, a2, ?_, g3.trans j3, fun Q hQ => by rw [j4 Q hQ, g4 Q hQ], j5⟩
      rw [mWait, hq, if_neg (by decide), ← j1]
      rw [B_X4_ticksUntilSame_2]; simp (disch := first | assumption | omega) only [kR0, kR9, kR10, kR11, kR102, gR0_0, gR0_1, gR0_2, gR0_3, gR10_0, gR11, gR102, B_X4_ticksUntilSame_0, B_X4_ticksUntilSame_12, B_X4_ticksUntilSame_21, Option.bind_some, back_v, Option.toList_some, Option.toList_none, List.cons_append, List.nil_append, Nat.reduceAdd, Int.reduceToNat, Int.reduceNeg, upm_eq, upm_r, upm_i, if_pos, if_neg, ite_self, true_or, or_true, true_and, and_true, false_or, or_false, false_and, and_false, wr_id, i10, i01, upr_f, upr_eq, thr58, upm_upr, upr_upr, lc_lt, lc_gt, lc_ge, lc_le, afit1, afit0, afitI, bifit, not_true_eq_false, not_false_eq_true, if_true, if_false, Bool.false_eq_true, reduceCtorEq, k1557, k1558, g1557_2, hp, bi_f, g1]
theorem C_ticksUntilSame {l lim : Int} {u : Nat → Nat → Int} {a : Nat → Nat → Nat} {s : Nat → Int} (hR : isRad R) (hc : c ≤ 1000) (hlim : 0 ≤ lim ∧ lim ≤ 1000) (hl : 0 ≤ l ∧ l < s 3) (hrel : Rel (vw u R) (a R) s) (hM : MI c s) (h1 : s 1 + lim ≤ 14900) :
    ∃ u' a', a_m 51 [a_r R, a_i l, a_i lim] (K0 L, u, G a, t) = some (.inl (some (a_i (mWait (lim + 1).toNat 0 (Psame l) s))), (K0 L, u', G a', t)) ∧ outR R u u' ∧ (∀ Q, Q ≠ R → a' Q = a Q) ∧ okA (a' R) := by
  obtain ⟨u2, a2, j1, j3, j4, j5⟩ := C_ticksUntilSame_loop (L := L) (t := t) hR hc hlim.2 (lim + 1).toNat 0 u a s (by decide) (by omega) hl hrel hM (by omega)
  refine ⟨u2, a2, ?_, j3, j4, j5⟩
  rw [← j1]
  simp (disch := first | assumption | omega) only [E_X4_ticksUntilSame, B_X4_ticksUntilSame_0, B_X4_ticksUntilSame_12, B_X4_ticksUntilSame_21, Option.bind_some, back_v, Option.toList_some, Option.toList_none, List.cons_append, List.nil_append, Nat.reduceAdd, Int.reduceToNat, Int.reduceNeg, upm_eq, upm_r, upm_i, if_pos, if_neg, ite_self, true_or, or_true, true_and, and_true, false_or, or_false, false_and, and_false, wr_id, i10, i01, upr_f, upr_eq, thr58, upm_upr, upr_upr, lc_lt, lc_gt, lc_ge, lc_le, afit1, afit0, afitI, bifit, not_true_eq_false, not_false_eq_true, if_true, if_false, Bool.false_eq_true, reduceCtorEq, k1557, k1558, g1557_2]
end C7b
