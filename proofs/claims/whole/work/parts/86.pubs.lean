/-! ===== public methods: what they need ===== -/
theorem RS_le {c c' : Int} {v : Nat → Nat → Int} {a : Nat → Nat → Nat} {R : Nat} {s : Nat → Int} (h : RS c v a R s) (hc : c ≤ c') : RS c' v a R s := ⟨h.1, MI_le h.2.1 hc, h.2.2⟩
section PUB
variable {L : Nat} {a : Nat → Nat → Nat} {t : Nat × Nat × Nat}
theorem RS_tick {c : Int} {v v' : Nat → Nat → Int} {a' : Nat → Nat → Nat} {R : Nat} {s : Nat → Int} (hM : MI c s) (hf : frs s) (hi : hi0 s) (h5 : i32 (s 5)) (hA : ∀ x ∈ airL s, x 1 ≤ s 2) (hc : c ≤ 1000) (h1 : s 1 ≤ 15000) : MI c (mTick s) ∧ frs (mTick s) ∧ hi0 (mTick s) ∧ i32 (mTick s 5) := by
  have hT := MI_tick hM hc h1
  exact ⟨hT.1, frs_tick hM hc h1 hf hA, hT.2.1 hi, tick5 hM hc h1 h5⟩
theorem C_need {v : Nat → Nat → Int} (h : v 18 8 ≠ 0) : a_m 144 [a_r 18] (K0 L, v, G a, t) = some (.inl none, (K0 L, v, G a, t)) := by
  simp (disch := first | assumption | omega) only [k18, g18_0, g18_1, g18_2, g18_3, g18_4, g18_5, g18_6, g18_7, E_X10_needRadio, B_X10_needRadio_0, Option.bind_some, back_v, Option.toList_some, Option.toList_none, List.cons_append, List.nil_append, Nat.reduceAdd, Int.reduceToNat, Int.reduceNeg, upm_eq, upm_r, upm_i, if_pos, if_neg, ite_self, true_or, or_true, true_and, and_true, false_or, or_false, false_and, and_false, wr_id, i10, i01, upr_f, upr_eq, thr58, upm_upr, upr_upr, lc_lt, lc_gt, lc_ge, lc_le, afit1, afit0, afitI, bifit, not_true_eq_false, not_false_eq_true, if_true, if_false, Bool.false_eq_true, reduceCtorEq, k1557, k1558, g1557_2, h]
theorem C_need_bad {v : Nat → Nat → Int} (h : v 18 8 = 0) : a_m 144 [a_r 18] (K0 L, v, G a, t) = some (.inr 1, (K0 L, v, G a, (t.1, t.2.1 + 1, t.2.2 + 6))) := by
  have hz : ¬ v 18 8 ≠ 0 := by omega
  simp (disch := first | assumption | omega) only [k18, g18_0, g18_1, g18_2, g18_3, g18_4, g18_5, g18_6, g18_7, E_X10_needRadio, B_X10_needRadio_0, Option.bind_some, back_v, Option.toList_some, Option.toList_none, List.cons_append, List.nil_append, Nat.reduceAdd, Int.reduceToNat, Int.reduceNeg, upm_eq, upm_r, upm_i, if_pos, if_neg, ite_self, true_or, or_true, true_and, and_true, false_or, or_false, false_and, and_false, wr_id, i10, i01, upr_f, upr_eq, thr58, upm_upr, upr_upr, lc_lt, lc_gt, lc_ge, lc_le, afit1, afit0, afitI, bifit, not_true_eq_false, not_false_eq_true, if_true, if_false, Bool.false_eq_true, reduceCtorEq, k1557, k1558, g1557_2, hz]
theorem C_needL {v : Nat → Nat → Int} {l : Int} (h : 0 ≤ l ∧ l < v 21 4) : a_m 145 [a_r 18, a_i l] (K0 L, v, G a, t) = some (.inl none, (K0 L, v, G a, t)) := by
  have h1 : ¬ l < 0 := by omega
  have h2 := h.2
  have k21 := kR0 (L := L) (R := 21) (.inl rfl)
  simp (disch := first | assumption | omega) only [k18, g18_0, g18_1, g18_2, g18_3, g18_4, g18_5, g18_6, g18_7, E_X10_needListener, B_X10_needListener_0, Option.bind_some, back_v, Option.toList_some, Option.toList_none, List.cons_append, List.nil_append, Nat.reduceAdd, Int.reduceToNat, Int.reduceNeg, upm_eq, upm_r, upm_i, if_pos, if_neg, ite_self, true_or, or_true, true_and, and_true, false_or, or_false, false_and, and_false, wr_id, i10, i01, upr_f, upr_eq, thr58, upm_upr, upr_upr, lc_lt, lc_gt, lc_ge, lc_le, afit1, afit0, afitI, bifit, not_true_eq_false, not_false_eq_true, if_true, if_false, Bool.false_eq_true, reduceCtorEq, k1557, k1558, g1557_2, k21]
  exact if_pos h2
theorem C_needL_bad {v : Nat → Nat → Int} {l : Int} (h : l < 0 ∨ v 21 4 ≤ l) : a_m 145 [a_r 18, a_i l] (K0 L, v, G a, t) = some (.inr 2, (K0 L, v, G a, (t.1, t.2.1 + 1, t.2.2 + 6))) := by
  have k21 := kR0 (L := L) (R := 21) (.inl rfl)
  by_cases h1 : l < 0
  · simp (disch := first | assumption | omega) only [k18, g18_0, g18_1, g18_2, g18_3, g18_4, g18_5, g18_6, g18_7, E_X10_needListener, B_X10_needListener_0, Option.bind_some, back_v, Option.toList_some, Option.toList_none, List.cons_append, List.nil_append, Nat.reduceAdd, Int.reduceToNat, Int.reduceNeg, upm_eq, upm_r, upm_i, if_pos, if_neg, ite_self, true_or, or_true, true_and, and_true, false_or, or_false, false_and, and_false, wr_id, i10, i01, upr_f, upr_eq, thr58, upm_upr, upr_upr, lc_lt, lc_gt, lc_ge, lc_le, afit1, afit0, afitI, bifit, not_true_eq_false, not_false_eq_true, if_true, if_false, Bool.false_eq_true, reduceCtorEq, k1557, k1558, g1557_2, k21]
  · have h2 : ¬ l < v 21 4 := by omega
    simp (disch := first | assumption | omega) only [k18, g18_0, g18_1, g18_2, g18_3, g18_4, g18_5, g18_6, g18_7, E_X10_needListener, B_X10_needListener_0, Option.bind_some, back_v, Option.toList_some, Option.toList_none, List.cons_append, List.nil_append, Nat.reduceAdd, Int.reduceToNat, Int.reduceNeg, upm_eq, upm_r, upm_i, if_pos, if_neg, ite_self, true_or, or_true, true_and, and_true, false_or, or_false, false_and, and_false, wr_id, i10, i01, upr_f, upr_eq, thr58, upm_upr, upr_upr, lc_lt, lc_gt, lc_ge, lc_le, afit1, afit0, afitI, bifit, not_true_eq_false, not_false_eq_true, if_true, if_false, Bool.false_eq_true, reduceCtorEq, k1557, k1558, g1557_2, k21]
    exact if_neg h2
theorem C_needB {v : Nat → Nat → Int} {x lo hi : Int} (h : lo ≤ x ∧ x ≤ hi) : a_m 149 [a_r 18, a_i x, a_i lo, a_i hi] (K0 L, v, G a, t) = some (.inl none, (K0 L, v, G a, t)) := by
  have h1 : ¬ x < lo := by omega
  have h2 := h.2
  simp (disch := first | assumption | omega) only [E_X10_needBetween, B_X10_needBetween_0, Option.bind_some, back_v, Option.toList_some, Option.toList_none, List.cons_append, List.nil_append, Nat.reduceAdd, Int.reduceToNat, Int.reduceNeg, upm_eq, upm_r, upm_i, if_pos, if_neg, ite_self, true_or, or_true, true_and, and_true, false_or, or_false, false_and, and_false, wr_id, i10, i01, upr_f, upr_eq, thr58, upm_upr, upr_upr, lc_lt, lc_gt, lc_ge, lc_le, afit1, afit0, afitI, bifit, not_true_eq_false, not_false_eq_true, if_true, if_false, Bool.false_eq_true, reduceCtorEq, k1557, k1558, g1557_2]
theorem C_needB_bad {v : Nat → Nat → Int} {x lo hi : Int} (h : x < lo ∨ hi < x) : a_m 149 [a_r 18, a_i x, a_i lo, a_i hi] (K0 L, v, G a, t) = some (.inr 3, (K0 L, v, G a, (t.1, t.2.1 + 1, t.2.2 + 6))) := by
  by_cases h1 : x < lo
  · simp (disch := first | assumption | omega) only [E_X10_needBetween, B_X10_needBetween_0, Option.bind_some, back_v, Option.toList_some, Option.toList_none, List.cons_append, List.nil_append, Nat.reduceAdd, Int.reduceToNat, Int.reduceNeg, upm_eq, upm_r, upm_i, if_pos, if_neg, ite_self, true_or, or_true, true_and, and_true, false_or, or_false, false_and, and_false, wr_id, i10, i01, upr_f, upr_eq, thr58, upm_upr, upr_upr, lc_lt, lc_gt, lc_ge, lc_le, afit1, afit0, afitI, bifit, not_true_eq_false, not_false_eq_true, if_true, if_false, Bool.false_eq_true, reduceCtorEq, k1557, k1558, g1557_2]
  · have h2 : ¬ x ≤ hi := by omega
    simp (disch := first | assumption | omega) only [E_X10_needBetween, B_X10_needBetween_0, Option.bind_some, back_v, Option.toList_some, Option.toList_none, List.cons_append, List.nil_append, Nat.reduceAdd, Int.reduceToNat, Int.reduceNeg, upm_eq, upm_r, upm_i, if_pos, if_neg, ite_self, true_or, or_true, true_and, and_true, false_or, or_false, false_and, and_false, wr_id, i10, i01, upr_f, upr_eq, thr58, upm_upr, upr_upr, lc_lt, lc_gt, lc_ge, lc_le, afit1, afit0, afitI, bifit, not_true_eq_false, not_false_eq_true, if_true, if_false, Bool.false_eq_true, reduceCtorEq, k1557, k1558, g1557_2]
theorem tabl_pub : ∀ m : Nat, m < 62 → m_tabl (91 + m) = false ∧ m_handL.lookup (91 + m) = none := by decide +kernel
/-- what a public method calls throws through it -/
theorem pub_e {m pc len e : Nat} {ls st : List AV} {σ : AS} (h : 91 ≤ m ∧ m < 153) : a_back m pc len ls st (.inr e, σ) = some (.inr e, σ) := by
  have h1 := tabl_pub (m - 91) (by omega)
  rw [show 91 + (m - 91) = m from by omega] at h1
  refine back_e ?_ h1.1
  unfold m_hand
  rw [h1.2]
  rfl
end PUB
