/-! ===== a description is loaded ===== -/
section LOA
variable {L : Nat} {a : Nat → Nat → Nat} {t : Nat × Nat × Nat}
/-- the readers of both sides: the class's cells of v, the reference's of w -/
def XR (v w : Nat → Nat → Int) : Prop := v 19 1 = w 1557 7 ∧ (0 ≤ v 19 1 ∧ v 19 1 ≤ 500) ∧ v 19 2 = w 1557 8 ∧ v 19 3 = w 1557 9 ∧ v 20 = w 1561 ∧ (∀ i, 0 ≤ v 20 i ∧ v 20 i ≤ 255) ∧ strOK v ∧ strOK w
theorem C_load_bad {v : Nat → Nat → Int} {len : Int} (h : len < 0 ∨ v 19 1 < len) : a_m 92 [a_r 18, a_i len] (K0 L, v, G a, t) = some (.inr 2, (K0 L, v, G a, (t.1, t.2.1 + 1, t.2.2 + 6))) := by
  by_cases h1 : len < 0
  · simp (disch := first | assumption | omega) only [k18, g18_0, g18_1, g18_2, g18_3, g18_4, g18_5, g18_6, g18_7, k19, k20, g19_0, E_X10_load, B_X10_load_0, B_X10_load_37, B_X10_load_61, B_X10_load_68, Option.bind_some, back_v, Option.toList_some, Option.toList_none, List.cons_append, List.nil_append, Nat.reduceAdd, Int.reduceToNat, Int.reduceNeg, upm_eq, upm_r, upm_i, if_pos, if_neg, ite_self, true_or, or_true, true_and, and_true, false_or, or_false, false_and, and_false, wr_id, i10, i01, upr_f, upr_eq, thr58, upm_upr, upr_upr, lc_lt, lc_gt, lc_ge, lc_le, afit1, afit0, afitI, bifit, not_true_eq_false, not_false_eq_true, if_true, if_false, Bool.false_eq_true, reduceCtorEq, k1557, k1558, g1557_2]
  · have h2 : ¬ len ≤ v 19 1 := by omega
    simp (disch := first | assumption | omega) only [k18, g18_0, g18_1, g18_2, g18_3, g18_4, g18_5, g18_6, g18_7, k19, k20, g19_0, E_X10_load, B_X10_load_0, B_X10_load_37, B_X10_load_61, B_X10_load_68, Option.bind_some, back_v, Option.toList_some, Option.toList_none, List.cons_append, List.nil_append, Nat.reduceAdd, Int.reduceToNat, Int.reduceNeg, upm_eq, upm_r, upm_i, if_pos, if_neg, ite_self, true_or, or_true, true_and, and_true, false_or, or_false, false_and, and_false, wr_id, i10, i01, upr_f, upr_eq, thr58, upm_upr, upr_upr, lc_lt, lc_gt, lc_ge, lc_le, afit1, afit0, afitI, bifit, not_true_eq_false, not_false_eq_true, if_true, if_false, Bool.false_eq_true, reduceCtorEq, k1557, k1558, g1557_2]
theorem M_load_bad {w : Nat → Nat → Int} {len : Int} (h : len < 0 ∨ w 1557 7 < len) : a_m 191 [a_r 1557, a_i len] (K0 L, w, G a, t) = some (.inl (some (a_i (0))), (K0 L, upm w 1557 0 1, G a, t)) := by
  have hi : inB len 0 (w 1557 7) = false := inB_f h
  have hr := M_refuse1 (L := L) (u := w) (a := a) (t := t) (c := 1) (by decide)
  simp (disch := first | assumption | omega) only [k1559, k1560, k1561, k1562, k1563, k1564, k1565, k1566, k1567, g1557_3, g1557_5, g1557_6, g1557_17, g1557_18, g1557_19, g1557_20, g1557_21, g1557_23, E_X11_load, B_X11_load_0, B_X11_load_17, B_X11_load_29, B_X11_load_47, B_X11_load_76, B_X11_load_80, B_X11_load_124, B_X11_load_140, Option.bind_some, back_v, Option.toList_some, Option.toList_none, List.cons_append, List.nil_append, Nat.reduceAdd, Int.reduceToNat, Int.reduceNeg, upm_eq, upm_r, upm_i, if_pos, if_neg, ite_self, true_or, or_true, true_and, and_true, false_or, or_false, false_and, and_false, wr_id, i10, i01, upr_f, upr_eq, thr58, upm_upr, upr_upr, lc_lt, lc_gt, lc_ge, lc_le, afit1, afit0, afitI, bifit, not_true_eq_false, not_false_eq_true, if_true, if_false, Bool.false_eq_true, reduceCtorEq, k1557, k1558, g1557_2, M_in, hi, bi_f, hr]
theorem cpy_all {f g : Nat → Int} (hf : hi0 f) (hg : hi0 g) : a_cpy f g 0 0 3280 = f := by
  funext j
  unfold a_cpy
  by_cases hj : j < 3280
  · rw [if_pos (by omega)]; congr 1; omega
  · rw [if_neg (by omega), hg j (by omega), hf j (by omega)]
theorem C_forget {v : Nat → Nat → Int} : a_m 13 [a_r 275] (K0 L, v, G a, t) = some (.inl none, (K0 L, upm v 275 2 0, G a, t)) := by
  simp (disch := first | assumption | omega) only [k275, k276, g275_0, g276, E_X1_forget, B_X1_forget_0, Option.bind_some, back_v, Option.toList_some, Option.toList_none, List.cons_append, List.nil_append, Nat.reduceAdd, Int.reduceToNat, Int.reduceNeg, upm_eq, upm_r, upm_i, if_pos, if_neg, ite_self, true_or, or_true, true_and, and_true, false_or, or_false, false_and, and_false, wr_id, i10, i01, upr_f, upr_eq, thr58, upm_upr, upr_upr, lc_lt, lc_gt, lc_ge, lc_le, afit1, afit0, afitI, bifit, not_true_eq_false, not_false_eq_true, if_true, if_false, Bool.false_eq_true, reduceCtorEq, k1557, k1558, g1557_2]
theorem C_load_end {v : Nat → Nat → Int} {len : Int} : a_X 92 70 [a_r 18, a_i len, a_i 0] [] (K0 L, v, G a, t) = some (.inl (some (a_i (v 21 4))), (K0 L, upm (upm (upm v 1294 0 0) 1294 1 0) 18 8 1, G a, t)) := by
  have k21 := kR0 (L := L) (R := 21) (.inl rfl)
  have k18' := k18 (L := L)
  rw [B_X10_load_70]
  simp (disch := first | assumption | omega) only [k18, g18_0, g18_1, g18_2, g18_3, g18_4, g18_5, g18_6, g18_7, k1293, k1294, g1293, B_X10_load_0, B_X10_load_37, B_X10_load_61, B_X10_load_68, Option.bind_some, back_v, Option.toList_some, Option.toList_none, List.cons_append, List.nil_append, Nat.reduceAdd, Int.reduceToNat, Int.reduceNeg, upm_eq, upm_r, upm_i, if_pos, if_neg, ite_self, true_or, or_true, true_and, and_true, false_or, or_false, false_and, and_false, wr_id, i10, i01, upr_f, upr_eq, thr58, upm_upr, upr_upr, lc_lt, lc_gt, lc_ge, lc_le, afit1, afit0, afitI, bifit, not_true_eq_false, not_false_eq_true, if_true, if_false, Bool.false_eq_true, reduceCtorEq, k1557, k1558, g1557_2, k21, Int.reduceAdd]
  rw [B_X10_load_70]
  simp (disch := first | assumption | omega) only [k18, g18_0, g18_1, g18_2, g18_3, g18_4, g18_5, g18_6, g18_7, k1293, k1294, g1293, B_X10_load_0, B_X10_load_37, B_X10_load_61, B_X10_load_68, Option.bind_some, back_v, Option.toList_some, Option.toList_none, List.cons_append, List.nil_append, Nat.reduceAdd, Int.reduceToNat, Int.reduceNeg, upm_eq, upm_r, upm_i, if_pos, if_neg, ite_self, true_or, or_true, true_and, and_true, false_or, or_false, false_and, and_false, wr_id, i10, i01, upr_f, upr_eq, thr58, upm_upr, upr_upr, lc_lt, lc_gt, lc_ge, lc_le, afit1, afit0, afitI, bifit, not_true_eq_false, not_false_eq_true, if_true, if_false, Bool.false_eq_true, reduceCtorEq, k1557, k1558, g1557_2, k21, Int.reduceAdd]
  rw [B_X10_load_70]
  simp (disch := first | assumption | omega) only [k18, g18_0, g18_1, g18_2, g18_3, g18_4, g18_5, g18_6, g18_7, k1293, k1294, g1293, B_X10_load_0, B_X10_load_37, B_X10_load_61, B_X10_load_68, Option.bind_some, back_v, Option.toList_some, Option.toList_none, List.cons_append, List.nil_append, Nat.reduceAdd, Int.reduceToNat, Int.reduceNeg, upm_eq, upm_r, upm_i, if_pos, if_neg, ite_self, true_or, or_true, true_and, and_true, false_or, or_false, false_and, and_false, wr_id, i10, i01, upr_f, upr_eq, thr58, upm_upr, upr_upr, lc_lt, lc_gt, lc_ge, lc_le, afit1, afit0, afitI, bifit, not_true_eq_false, not_false_eq_true, if_true, if_false, Bool.false_eq_true, reduceCtorEq, k1557, k1558, g1557_2, k21, Int.reduceAdd]
theorem loadBoth {v w : Nat → Nat → Int} {len : Int} (h : XR v w) (hl : 0 ≤ len ∧ len ≤ v 19 1) (h0 : hi0 (w 1558)) (h0' : hi0 (w 1562)) (hA1 : okA (a 21)) (hA2 : okA (a 148)) : ∃ v' w', XR v' w' ∧ (∀ q, q ≠ 18 → q ≠ 19 → q ≠ 275 → q ≠ 1294 → (q < 21 ∨ 275 ≤ q) → v' q = v q) ∧ (∀ q, q ≠ 1557 → q ≠ 1558 → q ≠ 1560 → q ≠ 1562 → w' q = w q) ∧ hi0 (w' 1562) ∧ (∀ j, j ≠ 0 → j ≠ 1 → j ≠ 4 → (j < 7 ∨ 17 ≤ j) → w' 1557 j = w 1557 j) ∧ (∀ j, j ≠ 8 → v' 18 j = v 18 j) ∧ (∀ j, j ≠ 2 → v' 275 j = v 275 j) ∧
    ((∃ m : Nat, a_m 92 [a_r 18, a_i len] (K0 L, v, G a, t) = some (.inl (some (a_i (m))), (K0 L, v', G a, t)) ∧ a_m 191 [a_r 1557, a_i len] (K0 L, w, G a, t) = some (.inl (some (a_i (m))), (K0 L, w', G a, t)) ∧ w' 1557 0 = 0 ∧ v' 18 8 = 1 ∧ w' 1557 1 = 1 ∧ Rel (vw v' 21) (a 21) (w' 1558) ∧ MI 0 (w' 1558) ∧ frs (w' 1558) ∧ hi0 (w' 1558) ∧ (w' 1558 5 = 0 ∧ w' 1558 1 = 0) ∧ v' 275 2 = 0 ∧ w' 1557 4 = 0 ∧ (v' 1294 0 = 0 ∧ v' 1294 1 = 0) ∧ w' 1560 0 = 0 ∧ w' 1560 1 = 0) ∨
     (a_m 92 [a_r 18, a_i len] (K0 L, v, G a, t) = some (.inr 3, (K0 L, v', G a, (t.1, t.2.1 + 1, t.2.2 + 6))) ∧ a_m 191 [a_r 1557, a_i len] (K0 L, w, G a, t) = some (.inl (some (a_i (0))), (K0 L, w', G a, t)) ∧ w' 1557 0 = 2 ∧ (∀ q, q ≠ 19 → (q < 148 ∨ 275 ≤ q) → v' q = v q) ∧ w' 1558 = w 1558 ∧ w' 1560 = w 1560 ∧ w' 1557 1 = w 1557 1 ∧ w' 1557 4 = w 1557 4)) := by
  obtain ⟨x1, ⟨x2, x3⟩, x4, x5, x6, x7, x8, x9⟩ := h
  have hR21 : isRad 21 := .inl rfl
  have hR148 : isRad 148 := .inr (.inl rfl)
  have hcp := M_copies (L := L) (a := a) (t := t) (u := upm w 1557 0 0) (r := 1558) (q := 1562) (f := 0) (g := 0) k1558 k1562 (by decide) (by decide) (by decide)
  rw [upm_rf (by decide), upm_rf (by decide), show (0 : Int).toNat = 0 from rfl, cpy_all h0 h0'] at hcp
  have hin : inB len 0 (w 1557 7) = true := inB_t hl.1 (by omega)
  have hrf := M_refuse0 (L := L) (u := w) (a := a) (t := t) (c := 1)
  generalize hw0 : upm (upm (upm (upm (upm (upr (upm w 1557 0 0) 1562 (w 1558)) 1557 7 0) 1557 10 len) 1557 11 0) 1557 15 0) 1557 16 (-1) = w0
  have w0q : ∀ q, q ≠ 1557 → q ≠ 1562 → w0 q = w q := fun q q1 q2 => by rw [← hw0, upm_rf q1, upm_rf q1, upm_rf q1, upm_rf q1, upm_rf q1, upr_rf q2, upm_rf q1]
  have w062 : w0 1562 = w 1558 := by rw [← hw0, upm_rf (by decide), upm_rf (by decide), upm_rf (by decide), upm_rf (by decide), upm_rf (by decide)]; funext i; exact upr_eq
  have w0j : ∀ j, j ≠ 0 → j ≠ 7 → j ≠ 10 → j ≠ 11 → j ≠ 15 → j ≠ 16 → w0 1557 j = w 1557 j := fun j j0 j7 j10 j11 j15 j16 => by rw [← hw0, upm_i j16, upm_i j15, upm_i j11, upm_i j10, upm_i j7, upr_rf (by decide), upm_i j0]
  have w00 : w0 1557 0 = 0 := by rw [← hw0, upm_i (by decide), upm_i (by decide), upm_i (by decide), upm_i (by decide), upm_i (by decide), upr_rf (by decide), upm_eq]
  have w07 : w0 1557 7 = 0 := by rw [← hw0, upm_i (by decide), upm_i (by decide), upm_i (by decide), upm_i (by decide), upm_eq]
  obtain ⟨v1, w1, w2, f1, f2, f3, f4, mp, mt, hh⟩ := parseBoth (L := L) (a := a) (t := t) (R := 148) (v := v) (w := w0) (len := len) (B := v 20) hR148 ⟨hl.1, by omega, x7⟩ rfl (by rw [w0q 1561 (by decide) (by decide)]; exact x6.symm) (by rw [← hw0, upm_i (by decide), upm_i (by decide), upm_i (by decide), upm_eq]) (by rw [← hw0, upm_i (by decide), upm_i (by decide), upm_eq]) (by rw [← hw0, upm_i (by decide), upm_eq]) x8 (strOK_congr (fun q q1 q2 => w0q q (by omega) (by omega)) x9) (by rw [w0q 1558 (by decide) (by decide)]; exact h0)
  have s1 : strOK v1 := strOK_congr (fun q q1 q2 => f1 q (by omega) (by omega)) x8
  have z0 : w2 1557 0 = 0 := by rw [mp.2 0 (by decide) (by decide) (by decide) (by decide) (by decide) (by decide)]; exact w00
  have z7 : w2 1557 7 = 0 := by rw [mp.2 7 (by decide) (by decide) (by decide) (by decide) (by decide) (by decide)]; exact w07
  have w2q : ∀ q, q ≠ 1557 → q ≠ 1558 → q ≠ 1562 → w2 q = w q := fun q q1 q2 q3 => by rw [mp.1 q q1 q2, w0q q q1 q3]
  have w262 : w2 1562 = w 1558 := by rw [mp.1 1562 (by decide) (by decide)]; exact w062
  have w2j : ∀ j, j ≠ 0 → j ≠ 7 → (j < 10 ∨ 17 ≤ j) → w2 1557 j = w 1557 j := fun j j0 j7 j10 => by rw [mp.2 j (by omega) (by omega) (by omega) (by omega) (by omega) (by omega), w0j j j0 j7 (by omega) (by omega) (by omega) (by omega)]
  rcases hh with ⟨c1, m1, m, P, p3, pm⟩ | ⟨c1, m1, F⟩
  · obtain ⟨hRel, hMI, hfrs, hhi⟩ := pd_rel (b := a 148) P.2.1 p3 pm hA2
    obtain ⟨v2, d0, d1, d2⟩ := C_copy (L := L) (a := a) (t := t) (c := 0) hR21 hR148 (by decide) hRel hMI hA1
    have e15 := P.2.2.2.1
    have hz5 : w2 1558 5 = 0 := P.2.1.1.2.2.2.2.2.2.2.2.2.2.1 5 (by decide) (by decide) (by decide) (by decide)
    have hz1 : w2 1558 1 = 0 := P.2.1.1.2.2.2.2.2.2.2.2.2.2.1 1 (by decide) (by decide) (by decide) (by decide)
    have v22 : v1 19 2 = 0 := P.1.1.2.2.2.2.2.2.2.1
    have v23 : v1 19 3 = -1 := P.1.1.2.2.2.2.2.2.2.2
    have r4 : v2 21 4 = m := by
      obtain ⟨C, hC⟩ := d2
      have := hC.1.1
      rw [vw_at (by decide)] at this
      rw [← p3]; exact this
    have o19 : ∀ q, (q < 21 ∨ 148 ≤ q) → v2 q = v1 q := fun q hq => d1 q (by omega)
    have hpc : a_m 92 [a_r 18, a_i len] (K0 L, v, G a, t) = some (.inl (some (a_i (m))), (K0 L, upm (upm (upm (upm v2 275 2 0) 1294 0 0) 1294 1 0) 18 8 1, G a, t)) := by
      have hl2 : ¬ len < 0 := by omega
      have hl3 := hl.2
      have hfo := C_forget (L := L) (a := a) (t := t) (v := v2)
      have hen := C_load_end (L := L) (a := a) (t := t) (v := upm v2 275 2 0) (len := len)
      rw [upm_r (by decide), r4] at hen
      have k21 := kR0 (L := L) (R := 21) (.inl rfl)
      simp (disch := first | assumption | omega) only [k18, g18_0, g18_1, g18_2, g18_3, g18_4, g18_5, g18_6, g18_7, k19, k20, g19_0, k275, k276, g275_0, g276, E_X10_load, B_X10_load_0, B_X10_load_37, B_X10_load_61, B_X10_load_68, Option.bind_some, back_v, Option.toList_some, Option.toList_none, List.cons_append, List.nil_append, Nat.reduceAdd, Int.reduceToNat, Int.reduceNeg, upm_eq, upm_r, upm_i, if_pos, if_neg, ite_self, true_or, or_true, true_and, and_true, false_or, or_false, false_and, and_false, wr_id, i10, i01, upr_f, upr_eq, thr58, upm_upr, upr_upr, lc_lt, lc_gt, lc_ge, lc_le, afit1, afit0, afitI, bifit, not_true_eq_false, not_false_eq_true, if_true, if_false, Bool.false_eq_true, reduceCtorEq, k1557, k1558, g1557_2, hl2, hl3, c1, d0, hfo, hen, k21]
    have hpm : a_m 191 [a_r 1557, a_i len] (K0 L, w, G a, t) = some (.inl (some (a_i (m))), (K0 L, upm (upm (upm (upm (upm (upm w2 1557 8 0) 1557 9 (-1)) 1557 1 1) 1557 4 0) 1560 0 0) 1560 1 0, G a, t)) := by
      simp (disch := first | assumption | omega) only [k1559, k1560, k1561, k1562, k1563, k1564, k1565, k1566, k1567, g1557_3, g1557_5, g1557_6, g1557_17, g1557_18, g1557_19, g1557_20, g1557_21, g1557_23, E_X11_load, B_X11_load_0, B_X11_load_17, B_X11_load_29, B_X11_load_47, B_X11_load_76, B_X11_load_80, B_X11_load_124, B_X11_load_140, E_X11_refuse, B_X11_refuse_0, Option.bind_some, back_v, Option.toList_some, Option.toList_none, List.cons_append, List.nil_append, Nat.reduceAdd, Int.reduceToNat, Int.reduceNeg, upm_eq, upm_r, upm_i, if_pos, if_neg, ite_self, true_or, or_true, true_and, and_true, false_or, or_false, false_and, and_false, wr_id, i10, i01, upr_f, upr_eq, thr58, upm_upr, upr_upr, lc_lt, lc_gt, lc_ge, lc_le, afit1, afit0, afitI, bifit, not_true_eq_false, not_false_eq_true, if_true, if_false, Bool.false_eq_true, reduceCtorEq, k1557, k1558, g1557_2, M_in, hin, bi_t, hrf, hcp, hw0, mt, m1, e15, z0, p3]
    generalize hV : upm (upm (upm (upm v2 275 2 0) 1294 0 0) 1294 1 0) 18 8 1 = V at *
    generalize hW : upm (upm (upm (upm (upm (upm w2 1557 8 0) 1557 9 (-1)) 1557 1 1) 1557 4 0) 1560 0 0) 1560 1 0 = W at *
    have vQ : ∀ q, q ≠ 18 → q ≠ 275 → q ≠ 1294 → V q = v2 q := fun q q1 q2 q3 => by rw [← hV, upm_rf q1, upm_rf q3, upm_rf q3, upm_rf q2]
    have wQ : ∀ q, q ≠ 1557 → q ≠ 1560 → W q = w2 q := fun q q1 q2 => by rw [← hW, upm_rf q2, upm_rf q2, upm_rf q1, upm_rf q1, upm_rf q1, upm_rf q1]
    have wJ : ∀ j, j ≠ 8 → j ≠ 9 → j ≠ 1 → j ≠ 4 → W 1557 j = w2 1557 j := fun j j1 j2 j3 j4 => by rw [← hW, upm_r (by decide), upm_r (by decide), upm_i j4, upm_i j3, upm_i j2, upm_i j1]
    have v19 : V 19 = v1 19 := by rw [vQ 19 (by decide) (by decide) (by decide), o19 19 (by decide)]
    have v20 : V 20 = v 20 := by rw [vQ 20 (by decide) (by decide) (by decide), o19 20 (by decide), f1 20 (by decide) (by decide)]
    have w58 : W 1558 = w2 1558 := wQ 1558 (by decide) (by decide)
    refine ⟨V, W, ⟨?_, ?_, ?_, ?_, ?_, ?_, ?_, ?_⟩, fun q q1 q2 q3 q4 q5 => ?_, fun q q1 q2 q3 q4 => ?_, ?_, fun j j0 j1 j4 j7 => ?_, fun j hj => ?_, fun j hj => ?_, .inl ⟨m, hpc, hpm, ?_, ?_, ?_, ?_, ?_, ?_, ?_, ?_, ?_, ?_, ⟨?_, ?_⟩, ?_, ?_⟩⟩
    · rw [v19, f3, wJ 7 (by decide) (by decide) (by decide) (by decide), z7]
    · rw [v19, f3]; decide
    · rw [v19, v22, ← hW, upm_r (by decide), upm_r (by decide), upm_i (by decide), upm_i (by decide), upm_i (by decide), upm_eq]
    · rw [v19, v23, ← hW, upm_r (by decide), upm_r (by decide), upm_i (by decide), upm_i (by decide), upm_eq]
    · rw [v20, wQ 1561 (by decide) (by decide), w2q 1561 (by decide) (by decide) (by decide)]; exact x6
    · rw [v20]; exact x7
    · exact strOK_congr (fun q q1 q2 => by rw [vQ q (by omega) (by omega) (by omega), o19 q (by omega)]) s1
    · exact strOK_congr (fun q q1 q2 => by rw [wQ q (by omega) (by omega), w2q q (by omega) (by omega) (by omega)]) x9
    · rw [vQ q q1 q3 q4, o19 q (by omega), f1 q q2 (by omega)]
    · rw [wQ q q1 q3, w2q q q1 q2 q4]
    · rw [wQ 1562 (by decide) (by decide), w262]; exact h0
    · rw [wJ j (by omega) (by omega) j1 j4, w2j j j0 (by omega) (by omega)]
    · rw [← hV, upm_i hj, upm_r (by decide), upm_r (by decide), upm_r (by decide), o19 18 (by decide), f1 18 (by decide) (by decide)]
    · rw [← hV, upm_r (by decide), upm_r (by decide), upm_r (by decide), upm_i hj, o19 275 (by decide), f1 275 (by decide) (by decide)]
    · rw [wJ 0 (by decide) (by decide) (by decide) (by decide)]; exact z0
    · rw [← hV, upm_eq]
    · rw [← hW, upm_r (by decide), upm_r (by decide), upm_i (by decide), upm_eq]
    · rw [w58, vw_congr (fun c hc => vQ _ (by omega) (by omega) (by omega))]; exact d2
    · rw [w58]; exact hMI
    · rw [w58]; exact hfrs
    · rw [w58]; exact hhi
    · rw [w58]; exact ⟨hz5, hz1⟩
    · rw [← hV, upm_r (by decide), upm_r (by decide), upm_r (by decide), upm_eq]
    · rw [← hW, upm_r (by decide), upm_r (by decide), upm_eq]
    · rw [← hV, upm_r (by decide), upm_i (by decide), upm_eq]
    · rw [← hV, upm_r (by decide), upm_eq]
    · rw [← hW, upm_i (by decide), upm_eq]
    · rw [← hW, upm_eq]
  · have hpc : a_m 92 [a_r 18, a_i len] (K0 L, v, G a, t) = some (.inr 3, (K0 L, v1, G a, (t.1, t.2.1 + 1, t.2.2 + 6))) := by
      have hl2 : ¬ len < 0 := by omega
      have hl3 := hl.2
      simp (disch := first | assumption | omega) only [k18, g18_0, g18_1, g18_2, g18_3, g18_4, g18_5, g18_6, g18_7, k19, k20, g19_0, E_X10_load, B_X10_load_0, B_X10_load_37, B_X10_load_61, B_X10_load_68, Option.bind_some, back_v, Option.toList_some, Option.toList_none, List.cons_append, List.nil_append, Nat.reduceAdd, Int.reduceToNat, Int.reduceNeg, upm_eq, upm_r, upm_i, if_pos, if_neg, ite_self, true_or, or_true, true_and, and_true, false_or, or_false, false_and, and_false, wr_id, i10, i01, upr_f, upr_eq, thr58, upm_upr, upr_upr, lc_lt, lc_gt, lc_ge, lc_le, afit1, afit0, afitI, bifit, not_true_eq_false, not_false_eq_true, if_true, if_false, Bool.false_eq_true, reduceCtorEq, k1557, k1558, g1557_2, hl2, hl3, c1]
    have e15 := F.2.2
    have hcb := M_copies (L := L) (a := a) (t := t) (u := upm (upm (upm w2 1557 8 (w2 1557 15)) 1557 9 (w2 1557 16)) 1557 0 2) (r := 1562) (q := 1558) (f := 0) (g := 0) k1562 k1558 (by decide) (by decide) (by decide)
    rw [upm_rf (by decide), upm_rf (by decide), upm_rf (by decide), upm_rf (by decide), upm_rf (by decide), upm_rf (by decide), show (0 : Int).toNat = 0 from rfl, w262, cpy_all h0 F.1.2] at hcb
    have hpm : a_m 191 [a_r 1557, a_i len] (K0 L, w, G a, t) = some (.inl (some (a_i (0))), (K0 L, upr (upm (upm (upm w2 1557 8 (w2 1557 15)) 1557 9 (w2 1557 16)) 1557 0 2) 1558 (w 1558), G a, t)) := by
      simp (disch := first | assumption | omega) only [k1559, k1560, k1561, k1562, k1563, k1564, k1565, k1566, k1567, g1557_3, g1557_5, g1557_6, g1557_17, g1557_18, g1557_19, g1557_20, g1557_21, g1557_23, E_X11_load, B_X11_load_0, B_X11_load_17, B_X11_load_29, B_X11_load_47, B_X11_load_76, B_X11_load_80, B_X11_load_124, B_X11_load_140, E_X11_refuse, B_X11_refuse_0, Option.bind_some, back_v, Option.toList_some, Option.toList_none, List.cons_append, List.nil_append, Nat.reduceAdd, Int.reduceToNat, Int.reduceNeg, upm_eq, upm_r, upm_i, if_pos, if_neg, ite_self, true_or, or_true, true_and, and_true, false_or, or_false, false_and, and_false, wr_id, i10, i01, upr_f, upr_eq, thr58, upm_upr, upr_upr, lc_lt, lc_gt, lc_ge, lc_le, afit1, afit0, afitI, bifit, not_true_eq_false, not_false_eq_true, if_true, if_false, Bool.false_eq_true, reduceCtorEq, k1557, k1558, g1557_2, M_in, hin, bi_t, hrf, hcp, hw0, mt, m1, e15, z0, hcb]
    generalize hW : upr (upm (upm (upm w2 1557 8 (w2 1557 15)) 1557 9 (w2 1557 16)) 1557 0 2) 1558 (w 1558) = W at *
    have wQ : ∀ q, q ≠ 1557 → q ≠ 1558 → W q = w2 q := fun q q1 q2 => by rw [← hW, upr_rf q2, upm_rf q1, upm_rf q1, upm_rf q1]
    have wJ : ∀ j, j ≠ 8 → j ≠ 9 → j ≠ 0 → W 1557 j = w2 1557 j := fun j j1 j2 j3 => by rw [← hW, upr_rf (by decide), upm_i j3, upm_i j2, upm_i j1]
    refine ⟨v1, W, ⟨?_, ?_, ?_, ?_, ?_, ?_, s1, ?_⟩, fun q q1 q2 q3 q4 q5 => ?_, fun q q1 q2 q3 q4 => ?_, ?_, fun j j0 j1 j4 j7 => ?_, fun j hj => ?_, fun j hj => ?_, .inr ⟨hpc, hpm, ?_, fun q q1 q2 => f1 q q1 (by omega), ?_, ?_, ?_, ?_⟩⟩
    · rw [f3, wJ 7 (by decide) (by decide) (by decide), z7]
    · rw [f3]; decide
    · rw [← hW, upr_rf (by decide), upm_i (by decide), upm_i (by decide), upm_eq]; exact F.1.1.symm
    · rw [← hW, upr_rf (by decide), upm_i (by decide), upm_eq]; exact F.2.1.symm
    · rw [f1 20 (by decide) (by decide), wQ 1561 (by decide) (by decide), w2q 1561 (by decide) (by decide) (by decide)]; exact x6
    · rw [f1 20 (by decide) (by decide)]; exact x7
    · exact strOK_congr (fun q q1 q2 => by rw [wQ q (by omega) (by omega), w2q q (by omega) (by omega) (by omega)]) x9
    · rw [f1 q q2 (by omega)]
    · rw [wQ q q1 q2, w2q q q1 q2 q4]
    · rw [wQ 1562 (by decide) (by decide), w262]; exact h0
    · rw [wJ j (by omega) (by omega) j0, w2j j j0 (by omega) (by omega)]
    · rw [f1 18 (by decide) (by decide)]
    · rw [f1 275 (by decide) (by decide)]
    · rw [← hW, upr_rf (by decide), upm_eq]
    · rw [← hW]; funext i; exact upr_eq
    · rw [wQ 1560 (by decide) (by decide), w2q 1560 (by decide) (by decide) (by decide)]
    · rw [wJ 1 (by decide) (by decide) (by decide), w2j 1 (by decide) (by decide) (by decide)]
    · rw [wJ 4 (by decide) (by decide) (by decide), w2j 4 (by decide) (by decide) (by decide)]
end LOA
