section SPE
variable {L : Nat} {a : Nat → Nat → Nat} {t : Nat × Nat × Nat}
theorem hisX_w {c : Int} {v w w' : Nat → Nat → Int} (h : hisX c v w a) (h1 : w' 1557 4 = w 1557 4) (h2 : ∀ i : Nat, i < 8 → slc (w' 1559) i = slc (w 1559) i) : hisX c v w' a := by
  obtain ⟨a1, a2, a3, a4⟩ := h
  refine ⟨by rw [h1]; exact a1, by rw [h1]; exact a2, a3, fun i hi => ?_⟩
  rw [h1] at hi ⊢
  rw [h2 i (by omega)]
  exact a4 i hi
theorem hisX_v {c : Int} {v v' w : Nat → Nat → Int} (h : hisX c v w a) (h1 : v' 275 = v 275) (h2 : ∀ q, 277 ≤ q → q < 1293 → v' q = v q) : hisX c v' w a := by
  obtain ⟨a1, a2, a3, a4⟩ := h
  unfold hisX
  rw [h1]
  refine ⟨a1, a2, a3, fun i hi => RS_out (a4 i hi) (fun q q0 q1 => ?_)⟩
  have := ringR_rad (p := v 275 1) (n := w 1557 4) (i := i)
  exact h2 q (by omega) (by omega)
theorem setPeriodBoth {c : Int} {v w : Nat → Nat → Int} {x : Int} (hv : v 18 8 ≠ 0) (hw : w 1557 1 ≠ 0) (hx : 0 ≤ x ∧ x ≤ 99) (h : hisX c v w a) (hS : RS c v a 21 (w 1558)) (hA : ∀ R, isRad R → okA (a R)) : ∃ v' w' y, a_m 138 [a_r 18, a_i x] (K0 L, v, G a, t) = some (.inl (some (a_i (y))), (K0 L, v', G a, t)) ∧ a_m 289 [a_r 1557, a_i x] (K0 L, w, G a, t) = some (.inl (some (a_i (y))), (K0 L, w', G a, t)) ∧ hisX c v' w' a ∧ RS c v' a 21 (w' 1558) ∧ (∀ q, q ≠ 275 → (q < 21 ∨ (148 ≤ q ∧ q < 277) ∨ 1293 ≤ q) → v' q = v q) ∧ (∀ j, j ≠ 1 → j ≠ 2 → v' 275 j = v 275 j) ∧ (∀ q, q ≠ 1557 → q ≠ 1558 → q ≠ 1559 → w' q = w q) ∧ (∀ j, j ≠ 0 → j ≠ 4 → w' 1557 j = w 1557 j) ∧ w' 1557 0 = 0 ∧ ∀ i : Nat, 8 ≤ i → slc (w' 1559) i = slc (w 1559) i := by
  have hh : hisX c v (upm w 1557 0 0) a := hisX_w h (upm_i (by decide)) (fun i _ => by rw [upm_rf (by decide)])
  obtain ⟨v1, w1, c0, m0, x1, f1, f2, f3, f4, f5⟩ := keepBoth (L := L) (a := a) (t := t) (c := c) (v := v) (w := upm w 1557 0 0) hh (by rw [upm_rf (by decide)]; exact hS) hA
  have hS1 : RS c v1 a 21 (w 1558) := RS_out hS (fun q q0 q1 => f1 q (by omega) (by omega))
  have w58 : w1 1558 = w 1558 := by rw [f3 1558 (by decide) (by decide), upm_rf (by decide)]
  have hy : v1 21 5 = w1 1558 0 := by
    obtain ⟨C, hC⟩ := hS1.1
    have := hC.1.2.1
    rw [vw_at (by decide), Nat.add_zero] at this
    rw [this, w58]
  have k21 := kR0 (L := L) (R := 21) (.inl rfl)
  have hn := C_need (L := L) (a := a) (t := t) hv
  have hb := C_needB (L := L) (a := a) (t := t) (v := v) hx
  have hnl := M_notLoaded1 (L := L) (a := a) (t := t) (u := w) hw
  have hi := inB_t hx.1 hx.2
  have hr := M_refuse0 (L := L) (u := w) (a := a) (t := t) (c := 2)
  refine ⟨upm v1 21 5 x, upm w1 1558 0 x, w1 1558 0, ?_, ?_, ?_, ?_, fun q q1 q2 => ?_, fun j j1 j2 => ?_, fun q q1 q2 q3 => ?_, fun j j1 j2 => ?_, ?_, fun i hi => ?_⟩
  · simp (disch := first | assumption | omega) only [k18, g18_0, g18_1, g18_2, g18_3, g18_4, g18_5, g18_6, g18_7, k275, k276, g275_0, g276, E_X10_setPeriod, B_X10_setPeriod_0, B_X10_setPeriod_4, B_X10_setPeriod_12, B_X10_setPeriod_23, Option.bind_some, back_v, Option.toList_some, Option.toList_none, List.cons_append, List.nil_append, Nat.reduceAdd, Int.reduceToNat, Int.reduceNeg, upm_eq, upm_r, upm_i, if_pos, if_neg, ite_self, true_or, or_true, true_and, and_true, false_or, or_false, false_and, and_false, wr_id, i10, i01, upr_f, upr_eq, thr58, upm_upr, upr_upr, lc_lt, lc_gt, lc_ge, lc_le, afit1, afit0, afitI, bifit, not_true_eq_false, not_false_eq_true, if_true, if_false, Bool.false_eq_true, reduceCtorEq, k1557, k1558, g1557_2, hn, hb, c0, k21, hy]
  · simp (disch := first | assumption | omega) only [k1559, k1560, k1561, k1562, k1563, k1564, k1565, k1566, k1567, g1557_3, g1557_5, g1557_6, g1557_17, g1557_18, g1557_19, g1557_20, g1557_21, g1557_23, E_X11_setPeriod, B_X11_setPeriod_0, B_X11_setPeriod_4, B_X11_setPeriod_17, B_X11_setPeriod_29, B_X11_setPeriod_38, Option.bind_some, back_v, Option.toList_some, Option.toList_none, List.cons_append, List.nil_append, Nat.reduceAdd, Int.reduceToNat, Int.reduceNeg, upm_eq, upm_r, upm_i, if_pos, if_neg, ite_self, true_or, or_true, true_and, and_true, false_or, or_false, false_and, and_false, wr_id, i10, i01, upr_f, upr_eq, thr58, upm_upr, upr_upr, lc_lt, lc_gt, lc_ge, lc_le, afit1, afit0, afitI, bifit, not_true_eq_false, not_false_eq_true, if_true, if_false, Bool.false_eq_true, reduceCtorEq, k1557, k1558, g1557_2, hnl, M_in, hi, bi_t, hr, m0]
  · exact hisX_w (hisX_v x1 (upm_rf (by decide)) (fun q q0 _ => upm_rf (by omega))) (upm_r (by decide)) (fun i _ => by rw [upm_rf (by decide)])
  · rw [upm_row, w58]; exact RS_period hS1 hx
  · rw [upm_rf (by omega), f1 q q1 (by omega)]
  · rw [upm_r (by decide), f2 j j1 j2]
  · rw [upm_rf q2, f3 q q1 q3, upm_rf q1]
  · rw [upm_r (by decide), f4 j j2, upm_i j1]
  · rw [upm_r (by decide), f4 0 (by decide), upm_eq]
  · rw [upm_rf (by decide), f5 i hi, upm_rf (by decide)]
theorem setPeriod_bad0 {v w : Nat → Nat → Int} {x : Int} (hv : v 18 8 = 0) (hw : w 1557 1 = 0) : a_m 138 [a_r 18, a_i x] (K0 L, v, G a, t) = some (.inr 1, (K0 L, v, G a, (t.1, t.2.1 + 1, t.2.2 + 6))) ∧ a_m 289 [a_r 1557, a_i x] (K0 L, w, G a, t) = some (.inl (some (a_i (0))), (K0 L, upm w 1557 0 1, G a, t)) := by
  have hn := C_need_bad (L := L) (a := a) (t := t) hv
  have hnl := M_notLoaded0 (L := L) (a := a) (t := t) (u := w) hw
  refine ⟨?_, ?_⟩
  · have be := fun pc len e ls st σ => pub_e (m := 138) (pc := pc) (len := len) (e := e) (ls := ls) (st := st) (σ := σ) (by decide)
    simp (disch := first | assumption | omega) only [k18, g18_0, g18_1, g18_2, g18_3, g18_4, g18_5, g18_6, g18_7, E_X10_setPeriod, B_X10_setPeriod_0, B_X10_setPeriod_4, B_X10_setPeriod_12, B_X10_setPeriod_23, Option.bind_some, back_v, Option.toList_some, Option.toList_none, List.cons_append, List.nil_append, Nat.reduceAdd, Int.reduceToNat, Int.reduceNeg, upm_eq, upm_r, upm_i, if_pos, if_neg, ite_self, true_or, or_true, true_and, and_true, false_or, or_false, false_and, and_false, wr_id, i10, i01, upr_f, upr_eq, thr58, upm_upr, upr_upr, lc_lt, lc_gt, lc_ge, lc_le, afit1, afit0, afitI, bifit, not_true_eq_false, not_false_eq_true, if_true, if_false, Bool.false_eq_true, reduceCtorEq, k1557, k1558, g1557_2, hn, be]
  · simp (disch := first | assumption | omega) only [E_X11_setPeriod, B_X11_setPeriod_0, B_X11_setPeriod_4, B_X11_setPeriod_17, B_X11_setPeriod_29, B_X11_setPeriod_38, Option.bind_some, back_v, Option.toList_some, Option.toList_none, List.cons_append, List.nil_append, Nat.reduceAdd, Int.reduceToNat, Int.reduceNeg, upm_eq, upm_r, upm_i, if_pos, if_neg, ite_self, true_or, or_true, true_and, and_true, false_or, or_false, false_and, and_false, wr_id, i10, i01, upr_f, upr_eq, thr58, upm_upr, upr_upr, lc_lt, lc_gt, lc_ge, lc_le, afit1, afit0, afitI, bifit, not_true_eq_false, not_false_eq_true, if_true, if_false, Bool.false_eq_true, reduceCtorEq, k1557, k1558, g1557_2, hnl]
theorem setPeriod_bad1 {v w : Nat → Nat → Int} {x : Int} (hv : v 18 8 ≠ 0) (hw : w 1557 1 ≠ 0) (hx : x < 0 ∨ 99 < x) : a_m 138 [a_r 18, a_i x] (K0 L, v, G a, t) = some (.inr 3, (K0 L, v, G a, (t.1, t.2.1 + 1, t.2.2 + 6))) ∧ a_m 289 [a_r 1557, a_i x] (K0 L, w, G a, t) = some (.inl (some (a_i (0))), (K0 L, upm w 1557 0 2, G a, t)) := by
  have hn := C_need (L := L) (a := a) (t := t) hv
  have hb := C_needB_bad (L := L) (a := a) (t := t) (v := v) hx
  have hnl := M_notLoaded1 (L := L) (a := a) (t := t) (u := w) hw
  have hi : inB x 0 99 = false := inB_f hx
  have hr := M_refuse1 (L := L) (u := w) (a := a) (t := t) (c := 2) (by decide)
  refine ⟨?_, ?_⟩
  · have be := fun pc len e ls st σ => pub_e (m := 138) (pc := pc) (len := len) (e := e) (ls := ls) (st := st) (σ := σ) (by decide)
    simp (disch := first | assumption | omega) only [k18, g18_0, g18_1, g18_2, g18_3, g18_4, g18_5, g18_6, g18_7, E_X10_setPeriod, B_X10_setPeriod_0, B_X10_setPeriod_4, B_X10_setPeriod_12, B_X10_setPeriod_23, Option.bind_some, back_v, Option.toList_some, Option.toList_none, List.cons_append, List.nil_append, Nat.reduceAdd, Int.reduceToNat, Int.reduceNeg, upm_eq, upm_r, upm_i, if_pos, if_neg, ite_self, true_or, or_true, true_and, and_true, false_or, or_false, false_and, and_false, wr_id, i10, i01, upr_f, upr_eq, thr58, upm_upr, upr_upr, lc_lt, lc_gt, lc_ge, lc_le, afit1, afit0, afitI, bifit, not_true_eq_false, not_false_eq_true, if_true, if_false, Bool.false_eq_true, reduceCtorEq, k1557, k1558, g1557_2, hn, hb, be]
  · simp (disch := first | assumption | omega) only [E_X11_setPeriod, B_X11_setPeriod_0, B_X11_setPeriod_4, B_X11_setPeriod_17, B_X11_setPeriod_29, B_X11_setPeriod_38, Option.bind_some, back_v, Option.toList_some, Option.toList_none, List.cons_append, List.nil_append, Nat.reduceAdd, Int.reduceToNat, Int.reduceNeg, upm_eq, upm_r, upm_i, if_pos, if_neg, ite_self, true_or, or_true, true_and, and_true, false_or, or_false, false_and, and_false, wr_id, i10, i01, upr_f, upr_eq, thr58, upm_upr, upr_upr, lc_lt, lc_gt, lc_ge, lc_le, afit1, afit0, afitI, bifit, not_true_eq_false, not_false_eq_true, if_true, if_false, Bool.false_eq_true, reduceCtorEq, k1557, k1558, g1557_2, hnl, M_in, hi, bi_f, hr]
end SPE
