section SDE
variable {L : Nat} {a : Nat → Nat → Nat} {t : Nat × Nat × Nat}
theorem RS_delay {c : Int} {v : Nat → Nat → Int} {R : Nat} {s : Nat → Int} {n : Nat} {x : Int} (h : RS c v a R s) (hl : (n : Int) < s 3) (hx : 0 ≤ x ∧ x ≤ 9) : RS c (upm v (R + 103 + 4 * n) 0 x) a R (up1 s (436 + 19 * (n : Int) + 0).toNat x) := by
  obtain ⟨⟨C, hC⟩, hM, hf, hi, h5⟩ := h
  have hM3 := hM.2.2.2.1
  have hL := hM.2.2.2.2.2.2.2 n (by omega) hl
  have hO : sameO2 n s (up1 s (436 + 19 * (n : Int) + 0).toNat x) := O2_up (by omega) (by decide)
  have hli : ∀ w, 0 ≤ w → w < 19 → mLi (up1 s (436 + 19 * (n : Int) + 0).toNat x) n w = if w = 0 then x else mLi s n w := by
    intro w w0 w1
    unfold mLi
    by_cases hw : w = 0
    · rw [if_pos hw, hw, up1_eq]
    · rw [if_neg hw, up1_ne (by omega)]
  refine ⟨⟨C, ?_⟩, O2_MI hM hO ⟨by omega, by omega⟩ ?_ ?_, ?_, fun j hj => by rw [up1_ne (by omega)]; exact hi j hj, by rw [up1_ne (by omega), up1_ne (by omega)]; exact h5⟩
  · have := rel_delay (x := x) hC hM (l := n) ⟨by omega, hl⟩
    rw [Int.toNat_natCast, ← vw_upm (R := R) (c := 103 + 4 * n) (by omega), ← Nat.add_assoc] at this
    exact this
  · rw [hli 0 (by decide) (by decide), if_pos rfl]; exact hx
  · rw [hli 1 (by decide) (by decide), if_neg (by decide)]; exact hL.2
  · exact frs_congr hf hM.2.2.1.1 (up1_ne (by omega)) (up1_ne (by omega)) (fun l w l0 l1 w0 w1 => by rw [mLi, up1_ne (by omega)]; rfl)
theorem setDelayBoth {c : Int} {v w : Nat → Nat → Int} {n : Nat} {x : Int} (hv : v 18 8 ≠ 0) (hw : w 1557 1 ≠ 0) (hl : (n : Int) < w 1558 3) (hx : 0 ≤ x ∧ x ≤ 9) (h : hisX c v w a) (hS : RS c v a 21 (w 1558)) (hA : ∀ R, isRad R → okA (a R)) : ∃ v' w' y, a_m 137 [a_r 18, a_i n, a_i x] (K0 L, v, G a, t) = some (.inl (some (a_i (y))), (K0 L, v', G a, t)) ∧ a_m 288 [a_r 1557, a_i n, a_i x] (K0 L, w, G a, t) = some (.inl (some (a_i (y))), (K0 L, w', G a, t)) ∧ hisX c v' w' a ∧ RS c v' a 21 (w' 1558) ∧ (∀ q, q ≠ 275 → (q < 21 ∨ (148 ≤ q ∧ q < 277) ∨ 1293 ≤ q) → v' q = v q) ∧ (∀ j, j ≠ 1 → j ≠ 2 → v' 275 j = v 275 j) ∧ (∀ q, q ≠ 1557 → q ≠ 1558 → q ≠ 1559 → w' q = w q) ∧ (∀ j, j ≠ 0 → j ≠ 4 → w' 1557 j = w 1557 j) ∧ w' 1557 0 = 0 ∧ ∀ i : Nat, 8 ≤ i → slc (w' 1559) i = slc (w 1559) i := by
  have hM3 := hS.2.1.2.2.2.1
  have hn6 : n < 6 := by omega
  have hh : hisX c v (upm w 1557 0 0) a := hisX_w h (upm_i (by decide)) (fun i _ => by rw [upm_rf (by decide)])
  obtain ⟨v1, w1, c0, m0, x1, f1, f2, f3, f4, f5⟩ := keepBoth (L := L) (a := a) (t := t) (c := c) (v := v) (w := upm w 1557 0 0) hh (by rw [upm_rf (by decide)]; exact hS) hA
  have hS1 : RS c v1 a 21 (w 1558) := RS_out hS (fun q q0 q1 => f1 q (by omega) (by omega))
  have w58 : w1 1558 = w 1558 := by rw [f3 1558 (by decide) (by decide), upm_rf (by decide)]
  have hR21 : isRad 21 := .inl rfl
  have hR4 : v 21 4 = w 1558 3 := by
    obtain ⟨C, hC⟩ := hS.1
    have := hC.1.1
    rwa [vw_at (by decide), Nat.add_zero] at this
  have hy : v1 (21 + 103 + 4 * n) 0 = mLi (w1 1558) n 0 := by
    obtain ⟨C, hC⟩ := hS1.1
    have := (hC.2.2.2.2.2.1 n (by omega) hl).1
    rw [Int.toNat_natCast, vw_at (by omega), ← Nat.add_assoc] at this
    rw [w58]; exact this
  have k21 := kR0 (L := L) (R := 21) hR21
  have g3 := gR0_3 (a := a) (R := 21) hR21
  have k102 := kR102 (L := L) (R := 21) hR21
  have g102 := gR102 (a := a) (R := 21) (j := n) hR21 hn6
  have kl := kRl0 (L := L) (R := 21) (l := n) hR21 hn6
  have hn := C_need (L := L) (a := a) (t := t) hv
  have hnl := C_needL (L := L) (a := a) (t := t) (v := v) (l := n) ⟨by omega, by rw [hR4]; exact hl⟩
  have hb := C_needB (L := L) (a := a) (t := t) (v := v) hx
  have hml := M_noListener (L := L) (a := a) (t := t) (u := w) (l := n) hw (by omega) (inB_t (by omega) (by omega))
  have hi := inB_t hx.1 hx.2
  have hr := M_refuse0 (L := L) (u := w) (a := a) (t := t) (c := 3)
  have hof := M_ofListener (L := L) (u := w1) (a := a) (t := t) (l := n) (w := 0) ⟨by omega, by omega⟩ (by decide)
  have hpu := M_putsListener (L := L) (u := w1) (a := a) (t := t) (l := n) (w := 0) (v := x) ⟨by omega, by omega⟩ (by decide)
  refine ⟨upm v1 (21 + 103 + 4 * n) 0 x, upm w1 1558 (436 + 19 * (n : Int) + 0).toNat x, mLi (w1 1558) n 0, ?_, ?_, ?_, ?_, fun q q1 q2 => ?_, fun j j1 j2 => ?_, fun q q1 q2 q3 => ?_, fun j j1 j2 => ?_, ?_, fun i hi => ?_⟩
  · simp (disch := first | assumption | omega) only [k18, g18_0, g18_1, g18_2, g18_3, g18_4, g18_5, g18_6, g18_7, k275, k276, g275_0, g276, E_X10_setDelay, B_X10_setDelay_0, B_X10_setDelay_4, B_X10_setDelay_9, B_X10_setDelay_17, B_X10_setDelay_28, Option.bind_some, back_v, Option.toList_some, Option.toList_none, List.cons_append, List.nil_append, Nat.reduceAdd, Int.reduceToNat, Int.reduceNeg, upm_eq, upm_r, upm_i, if_pos, if_neg, ite_self, true_or, or_true, true_and, and_true, false_or, or_false, false_and, and_false, wr_id, i10, i01, upr_f, upr_eq, thr58, upm_upr, upr_upr, lc_lt, lc_gt, lc_ge, lc_le, afit1, afit0, afitI, bifit, not_true_eq_false, not_false_eq_true, if_true, if_false, Bool.false_eq_true, reduceCtorEq, k1557, k1558, g1557_2, hn, hnl, hb, c0, k21, g3, k102, g102, kl, Int.toNat_natCast, hy]
  · simp (disch := first | assumption | omega) only [k1559, k1560, k1561, k1562, k1563, k1564, k1565, k1566, k1567, g1557_3, g1557_5, g1557_6, g1557_17, g1557_18, g1557_19, g1557_20, g1557_21, g1557_23, E_X11_setDelay, B_X11_setDelay_0, B_X11_setDelay_5, B_X11_setDelay_18, B_X11_setDelay_30, B_X11_setDelay_39, B_X11_setDelay_45, B_X11_setDelay_53, Option.bind_some, back_v, Option.toList_some, Option.toList_none, List.cons_append, List.nil_append, Nat.reduceAdd, Int.reduceToNat, Int.reduceNeg, upm_eq, upm_r, upm_i, if_pos, if_neg, ite_self, true_or, or_true, true_and, and_true, false_or, or_false, false_and, and_false, wr_id, i10, i01, upr_f, upr_eq, thr58, upm_upr, upr_upr, lc_lt, lc_gt, lc_ge, lc_le, afit1, afit0, afitI, bifit, not_true_eq_false, not_false_eq_true, if_true, if_false, Bool.false_eq_true, reduceCtorEq, k1557, k1558, g1557_2, hml, M_in, hi, bi_t, hr, m0, hof, hpu]
  · exact hisX_w (hisX_v x1 (upm_rf (by omega)) (fun q q0 _ => upm_rf (by omega))) (upm_r (by decide)) (fun i _ => by rw [upm_rf (by decide)])
  · rw [upm_row, w58]; exact RS_delay hS1 hl hx
  · rw [upm_rf (by omega), f1 q q1 (by omega)]
  · rw [upm_r (by omega), f2 j j1 j2]
  · rw [upm_rf q2, f3 q q1 q3, upm_rf q1]
  · rw [upm_r (by decide), f4 j j2, upm_i j1]
  · rw [upm_r (by decide), f4 0 (by decide), upm_eq]
  · rw [upm_rf (by decide), f5 i hi, upm_rf (by decide)]
theorem setDelay_bad0 {v w : Nat → Nat → Int} {l x : Int} (hv : v 18 8 = 0) (hw : w 1557 1 = 0) : a_m 137 [a_r 18, a_i l, a_i x] (K0 L, v, G a, t) = some (.inr 1, (K0 L, v, G a, (t.1, t.2.1 + 1, t.2.2 + 6))) ∧ a_m 288 [a_r 1557, a_i l, a_i x] (K0 L, w, G a, t) = some (.inl (some (a_i (0))), (K0 L, upm w 1557 0 1, G a, t)) := by
  have hn := C_need_bad (L := L) (a := a) (t := t) hv
  have hml := M_noListener0 (L := L) (a := a) (t := t) (u := w) (l := l) hw
  refine ⟨?_, ?_⟩
  · have be := fun pc len e ls st σ => pub_e (m := 137) (pc := pc) (len := len) (e := e) (ls := ls) (st := st) (σ := σ) (by decide)
    simp (disch := first | assumption | omega) only [k18, g18_0, g18_1, g18_2, g18_3, g18_4, g18_5, g18_6, g18_7, E_X10_setDelay, B_X10_setDelay_0, B_X10_setDelay_4, B_X10_setDelay_9, B_X10_setDelay_17, B_X10_setDelay_28, Option.bind_some, back_v, Option.toList_some, Option.toList_none, List.cons_append, List.nil_append, Nat.reduceAdd, Int.reduceToNat, Int.reduceNeg, upm_eq, upm_r, upm_i, if_pos, if_neg, ite_self, true_or, or_true, true_and, and_true, false_or, or_false, false_and, and_false, wr_id, i10, i01, upr_f, upr_eq, thr58, upm_upr, upr_upr, lc_lt, lc_gt, lc_ge, lc_le, afit1, afit0, afitI, bifit, not_true_eq_false, not_false_eq_true, if_true, if_false, Bool.false_eq_true, reduceCtorEq, k1557, k1558, g1557_2, hn, be]
  · simp (disch := first | assumption | omega) only [E_X11_setDelay, B_X11_setDelay_0, B_X11_setDelay_5, B_X11_setDelay_18, B_X11_setDelay_30, B_X11_setDelay_39, B_X11_setDelay_45, B_X11_setDelay_53, Option.bind_some, back_v, Option.toList_some, Option.toList_none, List.cons_append, List.nil_append, Nat.reduceAdd, Int.reduceToNat, Int.reduceNeg, upm_eq, upm_r, upm_i, if_pos, if_neg, ite_self, true_or, or_true, true_and, and_true, false_or, or_false, false_and, and_false, wr_id, i10, i01, upr_f, upr_eq, thr58, upm_upr, upr_upr, lc_lt, lc_gt, lc_ge, lc_le, afit1, afit0, afitI, bifit, not_true_eq_false, not_false_eq_true, if_true, if_false, Bool.false_eq_true, reduceCtorEq, k1557, k1558, g1557_2, hml]
theorem setDelay_bad1 {v w : Nat → Nat → Int} {l x : Int} (hv : v 18 8 ≠ 0) (hw : w 1557 1 ≠ 0) (h3 : v 21 4 = w 1558 3) (hs : 1 ≤ w 1558 3 ∧ w 1558 3 ≤ 6) (hl : l < 0 ∨ w 1558 3 ≤ l) : a_m 137 [a_r 18, a_i l, a_i x] (K0 L, v, G a, t) = some (.inr 2, (K0 L, v, G a, (t.1, t.2.1 + 1, t.2.2 + 6))) ∧ a_m 288 [a_r 1557, a_i l, a_i x] (K0 L, w, G a, t) = some (.inl (some (a_i (0))), (K0 L, upm w 1557 0 2, G a, t)) := by
  have hn := C_need (L := L) (a := a) (t := t) hv
  have hnl := C_needL_bad (L := L) (a := a) (t := t) (v := v) (l := l) (by omega)
  have hml := M_noListener2 (L := L) (a := a) (t := t) (u := w) (l := l) hw (by omega) (inB_f (by omega))
  refine ⟨?_, ?_⟩
  · have be := fun pc len e ls st σ => pub_e (m := 137) (pc := pc) (len := len) (e := e) (ls := ls) (st := st) (σ := σ) (by decide)
    simp (disch := first | assumption | omega) only [k18, g18_0, g18_1, g18_2, g18_3, g18_4, g18_5, g18_6, g18_7, E_X10_setDelay, B_X10_setDelay_0, B_X10_setDelay_4, B_X10_setDelay_9, B_X10_setDelay_17, B_X10_setDelay_28, Option.bind_some, back_v, Option.toList_some, Option.toList_none, List.cons_append, List.nil_append, Nat.reduceAdd, Int.reduceToNat, Int.reduceNeg, upm_eq, upm_r, upm_i, if_pos, if_neg, ite_self, true_or, or_true, true_and, and_true, false_or, or_false, false_and, and_false, wr_id, i10, i01, upr_f, upr_eq, thr58, upm_upr, upr_upr, lc_lt, lc_gt, lc_ge, lc_le, afit1, afit0, afitI, bifit, not_true_eq_false, not_false_eq_true, if_true, if_false, Bool.false_eq_true, reduceCtorEq, k1557, k1558, g1557_2, hn, hnl, be]
  · simp (disch := first | assumption | omega) only [E_X11_setDelay, B_X11_setDelay_0, B_X11_setDelay_5, B_X11_setDelay_18, B_X11_setDelay_30, B_X11_setDelay_39, B_X11_setDelay_45, B_X11_setDelay_53, Option.bind_some, back_v, Option.toList_some, Option.toList_none, List.cons_append, List.nil_append, Nat.reduceAdd, Int.reduceToNat, Int.reduceNeg, upm_eq, upm_r, upm_i, if_pos, if_neg, ite_self, true_or, or_true, true_and, and_true, false_or, or_false, false_and, and_false, wr_id, i10, i01, upr_f, upr_eq, thr58, upm_upr, upr_upr, lc_lt, lc_gt, lc_ge, lc_le, afit1, afit0, afitI, bifit, not_true_eq_false, not_false_eq_true, if_true, if_false, Bool.false_eq_true, reduceCtorEq, k1557, k1558, g1557_2, hml]
theorem setDelay_bad2 {v w : Nat → Nat → Int} {l x : Int} (hv : v 18 8 ≠ 0) (hw : w 1557 1 ≠ 0) (h3 : v 21 4 = w 1558 3) (hs : 1 ≤ w 1558 3 ∧ w 1558 3 ≤ 6) (hl : 0 ≤ l ∧ l < w 1558 3) (hx : x < 0 ∨ 9 < x) : a_m 137 [a_r 18, a_i l, a_i x] (K0 L, v, G a, t) = some (.inr 3, (K0 L, v, G a, (t.1, t.2.1 + 1, t.2.2 + 6))) ∧ a_m 288 [a_r 1557, a_i l, a_i x] (K0 L, w, G a, t) = some (.inl (some (a_i (0))), (K0 L, upm w 1557 0 3, G a, t)) := by
  have hn := C_need (L := L) (a := a) (t := t) hv
  have hnl := C_needL (L := L) (a := a) (t := t) (v := v) (l := l) ⟨hl.1, by omega⟩
  have hb := C_needB_bad (L := L) (a := a) (t := t) (v := v) hx
  have hml := M_noListener (L := L) (a := a) (t := t) (u := w) (l := l) hw (by omega) (inB_t (by omega) (by omega))
  have hi : inB x 0 9 = false := inB_f hx
  have hr := M_refuse1 (L := L) (u := w) (a := a) (t := t) (c := 3) (by decide)
  refine ⟨?_, ?_⟩
  · have be := fun pc len e ls st σ => pub_e (m := 137) (pc := pc) (len := len) (e := e) (ls := ls) (st := st) (σ := σ) (by decide)
    simp (disch := first | assumption | omega) only [k18, g18_0, g18_1, g18_2, g18_3, g18_4, g18_5, g18_6, g18_7, E_X10_setDelay, B_X10_setDelay_0, B_X10_setDelay_4, B_X10_setDelay_9, B_X10_setDelay_17, B_X10_setDelay_28, Option.bind_some, back_v, Option.toList_some, Option.toList_none, List.cons_append, List.nil_append, Nat.reduceAdd, Int.reduceToNat, Int.reduceNeg, upm_eq, upm_r, upm_i, if_pos, if_neg, ite_self, true_or, or_true, true_and, and_true, false_or, or_false, false_and, and_false, wr_id, i10, i01, upr_f, upr_eq, thr58, upm_upr, upr_upr, lc_lt, lc_gt, lc_ge, lc_le, afit1, afit0, afitI, bifit, not_true_eq_false, not_false_eq_true, if_true, if_false, Bool.false_eq_true, reduceCtorEq, k1557, k1558, g1557_2, hn, hnl, hb, be]
  · simp (disch := first | assumption | omega) only [E_X11_setDelay, B_X11_setDelay_0, B_X11_setDelay_5, B_X11_setDelay_18, B_X11_setDelay_30, B_X11_setDelay_39, B_X11_setDelay_45, B_X11_setDelay_53, Option.bind_some, back_v, Option.toList_some, Option.toList_none, List.cons_append, List.nil_append, Nat.reduceAdd, Int.reduceToNat, Int.reduceNeg, upm_eq, upm_r, upm_i, if_pos, if_neg, ite_self, true_or, or_true, true_and, and_true, false_or, or_false, false_and, and_false, wr_id, i10, i01, upr_f, upr_eq, thr58, upm_upr, upr_upr, lc_lt, lc_gt, lc_ge, lc_le, afit1, afit0, afitI, bifit, not_true_eq_false, not_false_eq_true, if_true, if_false, Bool.false_eq_true, reduceCtorEq, k1557, k1558, g1557_2, hml, M_in, hi, bi_f, hr]
end SDE
