section SAV
variable {L : Nat} {a : Nat → Nat → Nat} {t : Nat × Nat × Nat}
def savX (c : Int) (v w : Nat → Nat → Int) (a : Nat → Nat → Nat) : Prop := ∀ x : Nat, x < 2 → v 1294 x = w 1560 x ∧ (v 1294 x = 0 ∨ v 1294 x = 1) ∧ (v 1294 x = 1 → RS c v a (1303 + 127 * x) (slc (w 1559) (8 + x)))
theorem sav_rad {x : Nat} (hx : x < 2) : isRad (1303 + 127 * x) := by
  have : x = 0 ∨ x = 1 := by omega
  rcases this with rfl | rfl
  · exact .inr (.inr (.inr (.inl rfl)))
  · exact .inr (.inr (.inr (.inr rfl)))
theorem C_slot_bad {v : Nat → Nat → Int} {x : Int} (h : x < 0 ∨ 2 ≤ x) : a_m 148 [a_r 18, a_i x] (K0 L, v, G a, t) = some (.inr 2, (K0 L, v, G a, (t.1, t.2.1 + 1, t.2.2 + 6))) := by
  by_cases h1 : x < 0
  · simp (disch := first | assumption | omega) only [E_X10_needSavingSlot, B_X10_needSavingSlot_0, Option.bind_some, back_v, Option.toList_some, Option.toList_none, List.cons_append, List.nil_append, Nat.reduceAdd, Int.reduceToNat, Int.reduceNeg, upm_eq, upm_r, upm_i, if_pos, if_neg, ite_self, true_or, or_true, true_and, and_true, false_or, or_false, false_and, and_false, wr_id, i10, i01, upr_f, upr_eq, thr58, upm_upr, upr_upr, lc_lt, lc_gt, lc_ge, lc_le, afit1, afit0, afitI, bifit, not_true_eq_false, not_false_eq_true, if_true, if_false, Bool.false_eq_true, reduceCtorEq, k1557, k1558, g1557_2]
  · have h2 : ¬ x < 2 := by omega
    simp (disch := first | assumption | omega) only [E_X10_needSavingSlot, B_X10_needSavingSlot_0, Option.bind_some, back_v, Option.toList_some, Option.toList_none, List.cons_append, List.nil_append, Nat.reduceAdd, Int.reduceToNat, Int.reduceNeg, upm_eq, upm_r, upm_i, if_pos, if_neg, ite_self, true_or, or_true, true_and, and_true, false_or, or_false, false_and, and_false, wr_id, i10, i01, upr_f, upr_eq, thr58, upm_upr, upr_upr, lc_lt, lc_gt, lc_ge, lc_le, afit1, afit0, afitI, bifit, not_true_eq_false, not_false_eq_true, if_true, if_false, Bool.false_eq_true, reduceCtorEq, k1557, k1558, g1557_2]
theorem C_slot_ok {v : Nat → Nat → Int} {x : Int} (h : 0 ≤ x ∧ x < 2) : a_m 148 [a_r 18, a_i x] (K0 L, v, G a, t) = some (.inl none, (K0 L, v, G a, t)) := by
  have h1 : ¬ x < 0 := by omega
  have h2 := h.2
  simp (disch := first | assumption | omega) only [E_X10_needSavingSlot, B_X10_needSavingSlot_0, Option.bind_some, back_v, Option.toList_some, Option.toList_none, List.cons_append, List.nil_append, Nat.reduceAdd, Int.reduceToNat, Int.reduceNeg, upm_eq, upm_r, upm_i, if_pos, if_neg, ite_self, true_or, or_true, true_and, and_true, false_or, or_false, false_and, and_false, wr_id, i10, i01, upr_f, upr_eq, thr58, upm_upr, upr_upr, lc_lt, lc_gt, lc_ge, lc_le, afit1, afit0, afitI, bifit, not_true_eq_false, not_false_eq_true, if_true, if_false, Bool.false_eq_true, reduceCtorEq, k1557, k1558, g1557_2]
theorem RS_time {c : Int} {v : Nat → Nat → Int} {R : Nat} {s : Nat → Int} (h : RS c v a R s) : v R 6 = s 1 := by
  obtain ⟨C, hC⟩ := h.1
  have := hC.1.2.2.1
  rwa [vw_at (by decide), Nat.add_zero] at this
theorem save_bad0 {v w : Nat → Nat → Int} {x : Int} (hv : v 18 8 = 0) (hw : w 1557 1 = 0) : a_m 142 [a_r 18, a_i x] (K0 L, v, G a, t) = some (.inr 1, (K0 L, v, G a, (t.1, t.2.1 + 1, t.2.2 + 6))) ∧ a_m 293 [a_r 1557, a_i x] (K0 L, w, G a, t) = some (.inl (some (a_i (0))), (K0 L, upm w 1557 0 1, G a, t)) := by
  have hn := M_notLoaded0 (L := L) (a := a) (t := t) (u := w) hw
  have hz : ¬ v 18 8 ≠ 0 := by omega
  refine ⟨?_, ?_⟩
  · have be := fun len ls st σ => back_e (m := 142) (pc := 1) (e := 1) (len := len) (ls := ls) (st := st) (σ := σ) (by decide +kernel) (by decide +kernel)
    simp (disch := first | assumption | omega) only [k18, g18_0, g18_1, g18_2, g18_3, g18_4, g18_5, g18_6, g18_7, E_X10_save, B_X10_save_0, B_X10_save_4, B_X10_save_9, B_X10_save_22, E_X10_needRadio, B_X10_needRadio_0, Option.bind_some, back_v, Option.toList_some, Option.toList_none, List.cons_append, List.nil_append, Nat.reduceAdd, Int.reduceToNat, Int.reduceNeg, upm_eq, upm_r, upm_i, if_pos, if_neg, ite_self, true_or, or_true, true_and, and_true, false_or, or_false, false_and, and_false, wr_id, i10, i01, upr_f, upr_eq, thr58, upm_upr, upr_upr, lc_lt, lc_gt, lc_ge, lc_le, afit1, afit0, afitI, bifit, not_true_eq_false, not_false_eq_true, if_true, if_false, Bool.false_eq_true, reduceCtorEq, k1557, k1558, g1557_2, hz, be]
  · simp (disch := first | assumption | omega) only [E_X11_save, B_X11_save_0, B_X11_save_4, B_X11_save_15, B_X11_save_27, B_X11_save_52, Option.bind_some, back_v, Option.toList_some, Option.toList_none, List.cons_append, List.nil_append, Nat.reduceAdd, Int.reduceToNat, Int.reduceNeg, upm_eq, upm_r, upm_i, if_pos, if_neg, ite_self, true_or, or_true, true_and, and_true, false_or, or_false, false_and, and_false, wr_id, i10, i01, upr_f, upr_eq, thr58, upm_upr, upr_upr, lc_lt, lc_gt, lc_ge, lc_le, afit1, afit0, afitI, bifit, not_true_eq_false, not_false_eq_true, if_true, if_false, Bool.false_eq_true, reduceCtorEq, k1557, k1558, g1557_2, hn]
theorem save_bad1 {v w : Nat → Nat → Int} {x : Int} (hv : v 18 8 ≠ 0) (hw : w 1557 1 ≠ 0) (hx : x < 0 ∨ 2 ≤ x) : a_m 142 [a_r 18, a_i x] (K0 L, v, G a, t) = some (.inr 2, (K0 L, v, G a, (t.1, t.2.1 + 1, t.2.2 + 6))) ∧ a_m 293 [a_r 1557, a_i x] (K0 L, w, G a, t) = some (.inl (some (a_i (0))), (K0 L, upm w 1557 0 2, G a, t)) := by
  have hn := M_notLoaded1 (L := L) (a := a) (t := t) (u := w) hw
  have hb := C_slot_bad (L := L) (a := a) (t := t) (v := v) hx
  have hi : inB x 0 1 = false := inB_f (by omega)
  have hr := M_refuse1 (L := L) (u := w) (a := a) (t := t) (c := 2) (by decide)
  refine ⟨?_, ?_⟩
  · have be := fun len ls st σ => back_e (m := 142) (pc := 6) (e := 2) (len := len) (ls := ls) (st := st) (σ := σ) (by decide +kernel) (by decide +kernel)
    simp (disch := first | assumption | omega) only [k18, g18_0, g18_1, g18_2, g18_3, g18_4, g18_5, g18_6, g18_7, E_X10_save, B_X10_save_0, B_X10_save_4, B_X10_save_9, B_X10_save_22, E_X10_needRadio, B_X10_needRadio_0, Option.bind_some, back_v, Option.toList_some, Option.toList_none, List.cons_append, List.nil_append, Nat.reduceAdd, Int.reduceToNat, Int.reduceNeg, upm_eq, upm_r, upm_i, if_pos, if_neg, ite_self, true_or, or_true, true_and, and_true, false_or, or_false, false_and, and_false, wr_id, i10, i01, upr_f, upr_eq, thr58, upm_upr, upr_upr, lc_lt, lc_gt, lc_ge, lc_le, afit1, afit0, afitI, bifit, not_true_eq_false, not_false_eq_true, if_true, if_false, Bool.false_eq_true, reduceCtorEq, k1557, k1558, g1557_2, hv, hb, be]
  · simp (disch := first | assumption | omega) only [E_X11_save, B_X11_save_0, B_X11_save_4, B_X11_save_15, B_X11_save_27, B_X11_save_52, Option.bind_some, back_v, Option.toList_some, Option.toList_none, List.cons_append, List.nil_append, Nat.reduceAdd, Int.reduceToNat, Int.reduceNeg, upm_eq, upm_r, upm_i, if_pos, if_neg, ite_self, true_or, or_true, true_and, and_true, false_or, or_false, false_and, and_false, wr_id, i10, i01, upr_f, upr_eq, thr58, upm_upr, upr_upr, lc_lt, lc_gt, lc_ge, lc_le, afit1, afit0, afitI, bifit, not_true_eq_false, not_false_eq_true, if_true, if_false, Bool.false_eq_true, reduceCtorEq, k1557, k1558, g1557_2, hn, M_in, hi, bi_f, hr]
theorem saveBoth {c : Int} {v w : Nat → Nat → Int} {x : Nat} (hv : v 18 8 ≠ 0) (hw : w 1557 1 ≠ 0) (hx : x < 2) (h : savX c v w a) (hS : RS c v a 21 (w 1558)) (hA : ∀ R, isRad R → okA (a R)) : ∃ v' w' y, a_m 142 [a_r 18, a_i x] (K0 L, v, G a, t) = some (.inl (some (a_i (y))), (K0 L, v', G a, t)) ∧ a_m 293 [a_r 1557, a_i x] (K0 L, w, G a, t) = some (.inl (some (a_i (y))), (K0 L, w', G a, t)) ∧ savX c v' w' a ∧ (∀ q, q ≠ 1294 → q < 1303 → v' q = v q) ∧ (∀ q, 1557 ≤ q → v' q = v q) ∧ (∀ q, q ≠ 1557 → q ≠ 1559 → q ≠ 1560 → w' q = w q) ∧ (∀ j, j ≠ 0 → w' 1557 j = w 1557 j) ∧ w' 1557 0 = 0 ∧ ∀ i : Nat, i < 8 → slc (w' 1559) i = slc (w 1559) i := by
  have hR := sav_rad hx
  obtain ⟨v1, g0, g1, g2⟩ := C_copy (L := L) (a := a) (t := t) (c := c) (u := v) hR (.inl rfl) (by omega) hS.1 hS.2.1 (hA _ hR)
  have hok := C_slot_ok (L := L) (a := a) (t := t) (v := v) (x := x) ⟨by omega, by omega⟩
  have gs := g1293 (a := a) hx
  have k21 := kR0 (L := L) (R := 21) (.inl rfl)
  have ht := RS_time hS
  have ht1 : v1 21 6 = w 1558 1 := by rw [g1 21 (by omega)]; exact ht
  have hn := M_notLoaded1 (L := L) (a := a) (t := t) (u := w) hw
  have hi : inB (x : Int) 0 1 = true := inB_t (by omega) (by omega)
  have hr := M_refuse0 (L := L) (u := w) (a := a) (t := t) (c := 2)
  have hcp := M_copies (L := L) (a := a) (t := t) (u := upm w 1557 0 0) (r := 1558) (q := 1559) (f := 0) (g := 3280 * (8 + (x : Int))) k1558 k1559 (by decide) (by decide) (by omega)
  rw [upm_rf (by decide), upm_rf (by decide), show (0 : Int).toNat = 0 from rfl, show (3280 * (8 + (x : Int))).toNat = 3280 * (8 + x) from by omega] at hcp
  have o : ∀ q, q ≠ 1294 → (q < 1303 + 127 * x ∨ 1303 + 127 * x + 127 ≤ q) → upm v1 1294 x 1 q = v q := fun q q1 q2 => by rw [upm_rf q1, g1 q q2]
  refine ⟨upm v1 1294 x 1, upm (upr (upm w 1557 0 0) 1559 (a_cpy (w 1558) (w 1559) 0 (3280 * (8 + x)) 3280)) 1560 x 1, w 1558 1, ?_, ?_, fun y hy => ?_, fun q q1 q2 => o q q1 (by omega), fun q q1 => o q (by omega) (by omega), fun q q1 q2 q3 => ?_, fun j hj => ?_, ?_, fun i hi => ?_⟩
  · have kR := kR0 (L := L) hR
    simp (disch := first | assumption | omega) only [k18, g18_0, g18_1, g18_2, g18_3, g18_4, g18_5, g18_6, g18_7, k1293, k1294, g1293, E_X10_save, B_X10_save_0, B_X10_save_4, B_X10_save_9, B_X10_save_22, E_X10_needRadio, B_X10_needRadio_0, Option.bind_some, back_v, Option.toList_some, Option.toList_none, List.cons_append, List.nil_append, Nat.reduceAdd, Int.reduceToNat, Int.reduceNeg, upm_eq, upm_r, upm_i, if_pos, if_neg, ite_self, true_or, or_true, true_and, and_true, false_or, or_false, false_and, and_false, wr_id, i10, i01, upr_f, upr_eq, thr58, upm_upr, upr_upr, lc_lt, lc_gt, lc_ge, lc_le, afit1, afit0, afitI, bifit, not_true_eq_false, not_false_eq_true, if_true, if_false, Bool.false_eq_true, reduceCtorEq, k1557, k1558, g1557_2, hv, hok, Int.toNat_natCast, gs, g0, k21, kR, ht1]
  · simp (disch := first | assumption | omega) only [k1559, k1560, k1561, k1562, k1563, k1564, k1565, k1566, k1567, g1557_3, g1557_5, g1557_6, g1557_17, g1557_18, g1557_19, g1557_20, g1557_21, g1557_23, E_X11_save, B_X11_save_0, B_X11_save_4, B_X11_save_15, B_X11_save_27, B_X11_save_52, Option.bind_some, back_v, Option.toList_some, Option.toList_none, List.cons_append, List.nil_append, Nat.reduceAdd, Int.reduceToNat, Int.reduceNeg, upm_eq, upm_r, upm_i, if_pos, if_neg, ite_self, true_or, or_true, true_and, and_true, false_or, or_false, false_and, and_false, wr_id, i10, i01, upr_f, upr_eq, thr58, upm_upr, upr_upr, lc_lt, lc_gt, lc_ge, lc_le, afit1, afit0, afitI, bifit, not_true_eq_false, not_false_eq_true, if_true, if_false, Bool.false_eq_true, reduceCtorEq, k1557, k1558, g1557_2, hn, M_in, hi, bi_t, hr, hcp, Int.toNat_natCast, upr_rf]
  · by_cases hyx : y = x
    · subst hyx
      refine ⟨by rw [upm_eq, upm_eq], .inr upm_eq, fun _ => ?_⟩
      rw [upm_rf (by decide), upr_row2, slc_put hS.2.2.2.1]
      exact RS_out (v := v1) ⟨g2, hS.2⟩ (fun q q0 q1 => by rw [upm_rf (by omega)])
    · obtain ⟨b1, b2, b3⟩ := h y hy
      rw [upm_i hyx, g1 1294 (by omega), upm_i hyx, upr_rf (by decide), upm_rf (by decide)]
      refine ⟨b1, b2, fun hb => ?_⟩
      rw [upm_rf (by decide), upr_row2, slc_other (by omega)]
      exact RS_out (b3 hb) (fun q q0 q1 => o q (by omega) (by omega))
  · rw [upm_rf q3, upr_rf q2, upm_rf q1]
  · rw [upm_r (by decide), upr_rf (by decide), upm_i hj]
  · rw [upm_r (by decide), upr_rf (by decide), upm_eq]
  · rw [upm_rf (by decide), upr_row2, slc_other (by omega)]
theorem restore_bad0 {v w : Nat → Nat → Int} {x : Int} (hx : x < 0 ∨ 2 ≤ x) : a_m 143 [a_r 18, a_i x] (K0 L, v, G a, t) = some (.inr 2, (K0 L, v, G a, (t.1, t.2.1 + 1, t.2.2 + 6))) ∧ a_m 294 [a_r 1557, a_i x] (K0 L, w, G a, t) = some (.inl (some (a_i (0))), (K0 L, upm w 1557 0 1, G a, t)) := by
  have hb := C_slot_bad (L := L) (a := a) (t := t) (v := v) hx
  have hi : inB x 0 1 = false := inB_f (by omega)
  have hr := M_refuse1 (L := L) (u := w) (a := a) (t := t) (c := 1) (by decide)
  refine ⟨?_, ?_⟩
  · have be := fun len ls st σ => back_e (m := 143) (pc := 2) (e := 2) (len := len) (ls := ls) (st := st) (σ := σ) (by decide +kernel) (by decide +kernel)
    simp (disch := first | assumption | omega) only [k18, g18_0, g18_1, g18_2, g18_3, g18_4, g18_5, g18_6, g18_7, E_X10_restore, B_X10_restore_0, B_X10_restore_5, B_X10_restore_38, B_X10_restore_45, Option.bind_some, back_v, Option.toList_some, Option.toList_none, List.cons_append, List.nil_append, Nat.reduceAdd, Int.reduceToNat, Int.reduceNeg, upm_eq, upm_r, upm_i, if_pos, if_neg, ite_self, true_or, or_true, true_and, and_true, false_or, or_false, false_and, and_false, wr_id, i10, i01, upr_f, upr_eq, thr58, upm_upr, upr_upr, lc_lt, lc_gt, lc_ge, lc_le, afit1, afit0, afitI, bifit, not_true_eq_false, not_false_eq_true, if_true, if_false, Bool.false_eq_true, reduceCtorEq, k1557, k1558, g1557_2, hb, be]
  · simp (disch := first | assumption | omega) only [E_X11_restore, B_X11_restore_0, B_X11_restore_13, B_X11_restore_25, B_X11_restore_47, B_X11_restore_72, Option.bind_some, back_v, Option.toList_some, Option.toList_none, List.cons_append, List.nil_append, Nat.reduceAdd, Int.reduceToNat, Int.reduceNeg, upm_eq, upm_r, upm_i, if_pos, if_neg, ite_self, true_or, or_true, true_and, and_true, false_or, or_false, false_and, and_false, wr_id, i10, i01, upr_f, upr_eq, thr58, upm_upr, upr_upr, lc_lt, lc_gt, lc_ge, lc_le, afit1, afit0, afitI, bifit, not_true_eq_false, not_false_eq_true, if_true, if_false, Bool.false_eq_true, reduceCtorEq, k1557, k1558, g1557_2, M_in, hi, bi_f, hr]
theorem restore_bad1 {v w : Nat → Nat → Int} {x : Nat} (hx : x < 2) (hv : v 1294 x = 0) (hw : w 1560 x = 0) : a_m 143 [a_r 18, a_i x] (K0 L, v, G a, t) = some (.inr 1, (K0 L, v, G a, (t.1, t.2.1 + 1, t.2.2 + 6))) ∧ a_m 294 [a_r 1557, a_i x] (K0 L, w, G a, t) = some (.inl (some (a_i (0))), (K0 L, upm w 1557 0 2, G a, t)) := by
  have hok := C_slot_ok (L := L) (a := a) (t := t) (v := v) (x := x) ⟨by omega, by omega⟩
  have hi : inB (x : Int) 0 1 = true := inB_t (by omega) (by omega)
  have hr0 := M_refuse0 (L := L) (u := w) (a := a) (t := t) (c := 1)
  have hr := M_refuse1 (L := L) (u := w) (a := a) (t := t) (c := 2) (by decide)
  have zv : ¬ v 1294 x ≠ 0 := by omega
  have zw : ¬ w 1560 x ≠ 0 := by omega
  refine ⟨?_, ?_⟩
  · simp (disch := first | assumption | omega) only [k18, g18_0, g18_1, g18_2, g18_3, g18_4, g18_5, g18_6, g18_7, k1293, k1294, g1293, E_X10_restore, B_X10_restore_0, B_X10_restore_5, B_X10_restore_38, B_X10_restore_45, Option.bind_some, back_v, Option.toList_some, Option.toList_none, List.cons_append, List.nil_append, Nat.reduceAdd, Int.reduceToNat, Int.reduceNeg, upm_eq, upm_r, upm_i, if_pos, if_neg, ite_self, true_or, or_true, true_and, and_true, false_or, or_false, false_and, and_false, wr_id, i10, i01, upr_f, upr_eq, thr58, upm_upr, upr_upr, lc_lt, lc_gt, lc_ge, lc_le, afit1, afit0, afitI, bifit, not_true_eq_false, not_false_eq_true, if_true, if_false, Bool.false_eq_true, reduceCtorEq, k1557, k1558, g1557_2, hok, Int.toNat_natCast, zv]
  · simp (disch := first | assumption | omega) only [k1559, k1560, k1561, k1562, k1563, k1564, k1565, k1566, k1567, g1557_3, g1557_5, g1557_6, g1557_17, g1557_18, g1557_19, g1557_20, g1557_21, g1557_23, E_X11_restore, B_X11_restore_0, B_X11_restore_13, B_X11_restore_25, B_X11_restore_47, B_X11_restore_72, Option.bind_some, back_v, Option.toList_some, Option.toList_none, List.cons_append, List.nil_append, Nat.reduceAdd, Int.reduceToNat, Int.reduceNeg, upm_eq, upm_r, upm_i, if_pos, if_neg, ite_self, true_or, or_true, true_and, and_true, false_or, or_false, false_and, and_false, wr_id, i10, i01, upr_f, upr_eq, thr58, upm_upr, upr_upr, lc_lt, lc_gt, lc_ge, lc_le, afit1, afit0, afitI, bifit, not_true_eq_false, not_false_eq_true, if_true, if_false, Bool.false_eq_true, reduceCtorEq, k1557, k1558, g1557_2, M_in, hi, bi_t, hr0, hr, Int.toNat_natCast, zw]
theorem restoreBoth {c : Int} {v w : Nat → Nat → Int} {x : Nat} (hx : x < 2) (h : savX c v w a) (h1 : v 1294 x = 1) (h0 : hi0 (w 1558)) (hA : okA (a 21)) : ∃ v' w' y, a_m 143 [a_r 18, a_i x] (K0 L, v, G a, t) = some (.inl (some (a_i (y))), (K0 L, v', G a, t)) ∧ a_m 294 [a_r 1557, a_i x] (K0 L, w, G a, t) = some (.inl (some (a_i (y))), (K0 L, w', G a, t)) ∧ RS c v' a 21 (w' 1558) ∧ v' 275 2 = 0 ∧ w' 1557 4 = 0 ∧ (∀ q, q ≠ 275 → (q < 21 ∨ 148 ≤ q) → v' q = v q) ∧ (∀ j, j ≠ 2 → v' 275 j = v 275 j) ∧ (∀ q, q ≠ 1557 → q ≠ 1558 → w' q = w q) ∧ (∀ j, j ≠ 0 → j ≠ 4 → w' 1557 j = w 1557 j) ∧ w' 1557 0 = 0 := by
  obtain ⟨b1, b2, b3⟩ := h x hx
  have hS := b3 h1
  have hR := sav_rad hx
  obtain ⟨v1, g0, g1, g2⟩ := C_copy (L := L) (a := a) (t := t) (c := c) (u := v) (.inl rfl) hR (by omega) hS.1 hS.2.1 hA
  have hok := C_slot_ok (L := L) (a := a) (t := t) (v := v) (x := x) ⟨by omega, by omega⟩
  have gs := g1293 (a := a) hx
  have k21 := kR0 (L := L) (R := 21) (.inl rfl)
  have hfo := C_forget (L := L) (a := a) (t := t) (v := v1)
  have hS1 : RS c v1 a 21 (slc (w 1559) (8 + x)) := ⟨g2, hS.2⟩
  have ht1 : v1 21 6 = slc (w 1559) (8 + x) 1 := RS_time hS1
  have hi : inB (x : Int) 0 1 = true := inB_t (by omega) (by omega)
  have hr := M_refuse0 (L := L) (u := w) (a := a) (t := t) (c := 1)
  have hr2 := M_refuse0 (L := L) (u := w) (a := a) (t := t) (c := 2)
  have hcp := M_copies (L := L) (a := a) (t := t) (u := upm w 1557 0 0) (r := 1559) (q := 1558) (f := 3280 * (8 + (x : Int))) (g := 0) k1559 k1558 (by decide) (by omega) (by decide)
  rw [upm_rf (by decide), upm_rf (by decide), show (0 : Int).toNat = 0 from rfl, show (3280 * (8 + (x : Int))).toNat = 3280 * (8 + x) from by omega, cpy_slc h0] at hcp
  have zv : v 1294 x ≠ 0 := by omega
  have zw : w 1560 x ≠ 0 := by omega
  refine ⟨upm v1 275 2 0, upm (upr (upm w 1557 0 0) 1558 (slc (w 1559) (8 + x))) 1557 4 0, slc (w 1559) (8 + x) 1, ?_, ?_, ?_, upm_eq, upm_eq, fun q q1 q2 => by rw [upm_rf q1, g1 q (by omega)], fun j hj => by rw [upm_i hj, g1 275 (by omega)], fun q q1 q2 => by rw [upm_rf q1, upr_rf q2, upm_rf q1], fun j j1 j2 => by rw [upm_i j2, upr_rf (by decide), upm_i j1], by rw [upm_i (by decide), upr_rf (by decide), upm_eq]⟩
  · have kR := kR0 (L := L) hR
    simp (disch := first | assumption | omega) only [k18, g18_0, g18_1, g18_2, g18_3, g18_4, g18_5, g18_6, g18_7, k1293, k1294, g1293, k275, k276, g275_0, g276, E_X10_restore, B_X10_restore_0, B_X10_restore_5, B_X10_restore_38, B_X10_restore_45, Option.bind_some, back_v, Option.toList_some, Option.toList_none, List.cons_append, List.nil_append, Nat.reduceAdd, Int.reduceToNat, Int.reduceNeg, upm_eq, upm_r, upm_i, if_pos, if_neg, ite_self, true_or, or_true, true_and, and_true, false_or, or_false, false_and, and_false, wr_id, i10, i01, upr_f, upr_eq, thr58, upm_upr, upr_upr, lc_lt, lc_gt, lc_ge, lc_le, afit1, afit0, afitI, bifit, not_true_eq_false, not_false_eq_true, if_true, if_false, Bool.false_eq_true, reduceCtorEq, k1557, k1558, g1557_2, kR, hok, Int.toNat_natCast, gs, zv, g0, hfo, k21, ht1]
  · simp (disch := first | assumption | omega) only [k1559, k1560, k1561, k1562, k1563, k1564, k1565, k1566, k1567, g1557_3, g1557_5, g1557_6, g1557_17, g1557_18, g1557_19, g1557_20, g1557_21, g1557_23, E_X11_restore, B_X11_restore_0, B_X11_restore_13, B_X11_restore_25, B_X11_restore_47, B_X11_restore_72, Option.bind_some, back_v, Option.toList_some, Option.toList_none, List.cons_append, List.nil_append, Nat.reduceAdd, Int.reduceToNat, Int.reduceNeg, upm_eq, upm_r, upm_i, if_pos, if_neg, ite_self, true_or, or_true, true_and, and_true, false_or, or_false, false_and, and_false, wr_id, i10, i01, upr_f, upr_eq, thr58, upm_upr, upr_upr, lc_lt, lc_gt, lc_ge, lc_le, afit1, afit0, afitI, bifit, not_true_eq_false, not_false_eq_true, if_true, if_false, Bool.false_eq_true, reduceCtorEq, k1557, k1558, g1557_2, M_in, hi, bi_t, hr, hr2, hcp, Int.toNat_natCast, zw, upr_row2]
  · rw [upm_rf (by decide), upr_row2]
    exact RS_out hS1 (fun q q0 q1 => by rw [upm_rf (by omega)])
end SAV
