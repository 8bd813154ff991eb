/-! ===== a description is loaded ===== -/
section LOA
variable {L : Nat} {a : Nat → Nat → Nat} {t : Nat × Nat × Nat}
/-- the readers of both sides: the class's cells of v, the reference's of w -/
def XR (v w : Nat → Nat → Int) : Prop := v 19 1 = w 1557 7 ∧ (0 ≤ v 19 1 ∧ v 19 1 ≤ 500) ∧ v 19 2 = w 1557 8 ∧ v 19 3 = w 1557 9 ∧ v 20 = w 1561 ∧ (∀ i, 0 ≤ v 20 i ∧ v 20 i ≤ 255) ∧ strOK v ∧ strOK w
theorem C_load_bad {v : Nat → Nat → Int} {len : Int} (h : len < 0 ∨ v 19 1 < len) : a_m 92 [a_r 18, a_i len] (K0 L, v, G a, t) = some (.inr 2, (K0 L, v, G a, (t.1, t.2.1 + 1, t.2.2 + 6))) := by
  by_cases h1 : len < 0
  · simp (disch := first | assumption | omega) only [k18, g18_0, g18_1, g18_2, g18_3, g18_4, g18_5, g18_6, g18_7, k19, k20, g19_0, E_X10_load, B_X10_load_0, B_X10_load_37, B_X10_load_61, B_X10_load_68, Option.bind_some, back_v, Option.toList_some, Option.toList_none, List.cons_append, List.nil_append, Nat.reduceAdd, Int.reduceToNat, Int.reduceNeg, upm_eq, upm_r, upm_i, if_pos, if_neg, ite_self, true_or, or_true, true_and, and_true, false_or, or_false, false_and, and_false, wr_id, i10, i01, upr_f, upr_eq, thr58, upm_upr, upr_upr, lc_lt, lc_gt, lc_ge, lc_le, afit1, afit0, afitI, bifit, not_true_eq_false, not_false_eq_true, if_true, if_false, Bool.false_eq_true, reduceCtorEq, k1557, k1558, g1557_2]
  · have h2 : ¬ len ≤ v 19 1 := by omega
    simp (disch := first | assumption | omega) only [k18, g18_0, g18_1, g18_2, g18_3, g18_4, g18_5, g18_6, g18_7, k19, k20, g19_0, E_X10_load, B_X10_load_0, B_X10_load_37, B_X10_load_61, B_X10_load_68, Option.bind_some, back_v, Option.toList_some, Option.toList_none, List.cons_append, List.nil_append, Nat.reduceAdd, Int.reduceToNat, Int.reduceNeg, upm_eq, upm_r, upm_i, if_pos, if_neg, ite_self, true_or, or_true, true_and, and_true, false_or, or_false, false_and, and_false, wr_id, i10, i01, upr_f, upr_eq, thr58, upm_upr, upr_upr, lc_lt, lc_gt, lc_ge, lc_le, afit1, afit0, afitI, bifit, not_true_eq_false, not_false_eq_true, if_true, if_false, Bool.false_eq_true, reduceCtorEq, k1557, k1558, g1557_2]
theorem M_load_bad {w : Nat → Nat → Int} {len : Int} (h : len < 0 ∨ w 1557 7 < len) : a_m 191 [a_r 1557, a_i len] (K0 L, w, G a, t) = some (.inl (some (a_i (0))), (K0 L, upm w 1557 0 1, G a, t)) := by
  have hi : inB len 0 (w 1557 7) = false := inB_f h
  have hr := M_refuse1 (L := L) (u := w) (a := a) (t := t) (c := 1) (by decide)
  simp (disch := first | assumption | omega) only [k1559, k1560, k1561, k1562, k1563, k1564, k1565, k1566, k1567, g1557_3, g1557_5, g1557_6, g1557_17, g1557_18, g1557_19, g1557_20, g1557_21, g1557_23, E_X11_load, B_X11_load_0, B_X11_load_17, B_X11_load_29, B_X11_load_47, B_X11_load_76, B_X11_load_80, B_X11_load_124, B_X11_load_140, Option.bind_some, back_v, Option.toList_some, Option.toList_none, List.cons_append, List.nil_append, Nat.reduceAdd, Int.reduceToNat, Int.reduceNeg, upm_eq, upm_r, upm_i, if_pos, if_neg, ite_self, true_or, or_true, true_and, and_true, false_or, or_false, false_and, and_false, wr_id, i10, i01, upr_f, upr_eq, thr58, upm_upr, upr_upr, lc_lt, lc_gt, lc_ge, lc_le, afit1, afit0, afitI, bifit, not_true_eq_false, not_false_eq_true, if_true, if_false, Bool.false_eq_true, reduceCtorEq, k1557, k1558, g1557_2, M_in, hi, bi_f, hr]
theorem cpy_all {f g : Nat → Int} (hf : hi0 f) (hg : hi0 g) : a_cpy f g 0 0 3280 = f := by
  funext j
  unfold a_cpy
  by_cases hj : j < 3280
  · rw [if_pos (by omega)]; congr 1; omega
  · rw [if_neg (by omega), hg j (by omega), hf j (by omega)]
end LOA
