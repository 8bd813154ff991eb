/-! ===== undo, save, restore ===== -/
section UND
variable {L : Nat} {a : Nat → Nat → Nat} {t : Nat × Nat × Nat}
theorem C_takeBack {c : Int} {v : Nat → Nat → Int} {s : Nat → Int} {p n : Int} (h1 : v 275 1 = p) (hp : 0 ≤ p ∧ p < 8) (h2 : v 275 2 = n) (hn : 1 ≤ n ∧ n ≤ 8) (hS : RS c v a (277 + 127 * ((p - 1) % 8).toNat) s) (hA : okA (a 21)) : ∃ v', a_m 12 [a_r 275, a_r 21] (K0 L, v, G a, t) = some (.inl none, (K0 L, v', G a, t)) ∧ (∀ q, q ≠ 275 → (q < 21 ∨ 148 ≤ q) → v' q = v q) ∧ (∀ j, j ≠ 1 → j ≠ 2 → v' 275 j = v 275 j) ∧ v' 275 1 = (p - 1) % 8 ∧ v' 275 2 = n - 1 ∧ RS c v' a 21 s := by
  have hz : 0 ≤ (p - 1) % 8 ∧ (p - 1) % 8 < 8 := by omega
  have hzp : (p - 1) % 8 = if p ≤ 0 then 7 else p - 1 := by split <;> omega
  generalize hZ : (p - 1) % 8 = z at *
  have hR : isRad (277 + 127 * z.toNat) := .inr (.inr (.inl ⟨by omega, by omega, by omega⟩))
  have hS' : RS c (upm (upm v 275 1 z) 275 2 (n - 1)) a (277 + 127 * z.toNat) s := RS_out hS (fun q q0 q1 => by rw [upm_rf (by omega), upm_rf (by omega)])
  obtain ⟨v1, g0, g1, g2⟩ := C_copy (L := L) (a := a) (t := t) (c := c) (u := upm (upm v 275 1 z) 275 2 (n - 1)) (.inl rfl) hR (by omega) hS'.1 hS.2.1 hA
  have gk := g276 (a := a) (j := z.toNat) (by omega)
  have kk := kR0 (L := L) hR
  have k21 := kR0 (L := L) (R := 21) (.inl rfl)
  refine ⟨v1, ?_, fun q q1 q2 => by rw [g1 q (by omega), upm_rf q1, upm_rf q1], fun j j1 j2 => by rw [g1 275 (by omega), upm_i j2, upm_i j1], by rw [g1 275 (by omega), upm_i (by decide), upm_eq], by rw [g1 275 (by omega), upm_eq], g2, hS.2⟩
  by_cases h : p ≤ 0
  · rw [if_pos h] at hzp
    subst hzp
    rw [show Int.toNat 7 = 7 from rfl] at g0 gk kk
    simp (disch := first | assumption | omega) only [k275, k276, g275_0, g276, E_X1_takeBack, B_X1_takeBack_0, B_X1_takeBack_45, Option.bind_some, back_v, Option.toList_some, Option.toList_none, List.cons_append, List.nil_append, Nat.reduceAdd, Int.reduceToNat, Int.reduceNeg, upm_eq, upm_r, upm_i, if_pos, if_neg, ite_self, true_or, or_true, true_and, and_true, false_or, or_false, false_and, and_false, wr_id, i10, i01, upr_f, upr_eq, thr58, upm_upr, upr_upr, lc_lt, lc_gt, lc_ge, lc_le, afit1, afit0, afitI, bifit, not_true_eq_false, not_false_eq_true, if_true, if_false, Bool.false_eq_true, reduceCtorEq, k1557, k1558, g1557_2, h1, h2, gk, kk, k21, g0]
  · rw [if_neg h] at hzp
    subst hzp
    simp (disch := first | assumption | omega) only [k275, k276, g275_0, g276, E_X1_takeBack, B_X1_takeBack_0, B_X1_takeBack_45, Option.bind_some, back_v, Option.toList_some, Option.toList_none, List.cons_append, List.nil_append, Nat.reduceAdd, Int.reduceToNat, Int.reduceNeg, upm_eq, upm_r, upm_i, if_pos, if_neg, ite_self, true_or, or_true, true_and, and_true, false_or, or_false, false_and, and_false, wr_id, i10, i01, upr_f, upr_eq, thr58, upm_upr, upr_upr, lc_lt, lc_gt, lc_ge, lc_le, afit1, afit0, afitI, bifit, not_true_eq_false, not_false_eq_true, if_true, if_false, Bool.false_eq_true, reduceCtorEq, k1557, k1558, g1557_2, h1, h2, gk, kk, k21, g0]
theorem undoBoth {c : Int} {v w : Nat → Nat → Int} (h : hisX c v w a) (h0 : hi0 (w 1558)) (hA : okA (a 21)) :
    (w 1557 4 = 0 ∧ a_m 140 [a_r 18] (K0 L, v, G a, t) = some (.inr 1, (K0 L, v, G a, (t.1, t.2.1 + 1, t.2.2 + 6))) ∧ a_m 291 [a_r 1557] (K0 L, w, G a, t) = some (.inl (some (a_i (0))), (K0 L, upm w 1557 0 1, G a, t))) ∨
    (0 < w 1557 4 ∧ ∃ v' w' n, a_m 140 [a_r 18] (K0 L, v, G a, t) = some (.inl (some (a_i (n))), (K0 L, v', G a, t)) ∧ a_m 291 [a_r 1557] (K0 L, w, G a, t) = some (.inl (some (a_i (n))), (K0 L, w', G a, t)) ∧ hisX c v' w' a ∧ RS c v' a 21 (w' 1558) ∧ (∀ q, q ≠ 275 → (q < 21 ∨ 148 ≤ q) → v' q = v q) ∧ (∀ j, j ≠ 1 → j ≠ 2 → v' 275 j = v 275 j) ∧ (∀ q, q ≠ 1557 → q ≠ 1558 → w' q = w q) ∧ (∀ j, j ≠ 0 → j ≠ 4 → w' 1557 j = w 1557 j) ∧ w' 1557 0 = 0) := by
  obtain ⟨h1, h2, h3, h4⟩ := h
  by_cases hn : w 1557 4 = 0
  · refine .inl ⟨hn, ?_, ?_⟩
    · have hz : v 275 2 = 0 := by omega
      have hz' : ¬ v 275 2 ≠ 0 := by omega
      simp (disch := first | assumption | omega) only [k18, g18_0, g18_1, g18_2, g18_3, g18_4, g18_5, g18_6, g18_7, k275, k276, g275_0, g276, E_X10_undo, B_X10_undo_0, B_X10_undo_32, Option.bind_some, back_v, Option.toList_some, Option.toList_none, List.cons_append, List.nil_append, Nat.reduceAdd, Int.reduceToNat, Int.reduceNeg, upm_eq, upm_r, upm_i, if_pos, if_neg, ite_self, true_or, or_true, true_and, and_true, false_or, or_false, false_and, and_false, wr_id, i10, i01, upr_f, upr_eq, thr58, upm_upr, upr_upr, lc_lt, lc_gt, lc_ge, lc_le, afit1, afit0, afitI, bifit, not_true_eq_false, not_false_eq_true, if_true, if_false, Bool.false_eq_true, reduceCtorEq, k1557, k1558, g1557_2, hz']
    · have hr := M_refuse1 (L := L) (u := w) (a := a) (t := t) (c := 1) (by decide)
      have hz' : ¬ w 1557 4 ≠ 0 := by omega
      simp (disch := first | assumption | omega) only [E_X11_undo, B_X11_undo_0, B_X11_undo_22, B_X11_undo_59, Option.bind_some, back_v, Option.toList_some, Option.toList_none, List.cons_append, List.nil_append, Nat.reduceAdd, Int.reduceToNat, Int.reduceNeg, upm_eq, upm_r, upm_i, if_pos, if_neg, ite_self, true_or, or_true, true_and, and_true, false_or, or_false, false_and, and_false, wr_id, i10, i01, upr_f, upr_eq, thr58, upm_upr, upr_upr, lc_lt, lc_gt, lc_ge, lc_le, afit1, afit0, afitI, bifit, not_true_eq_false, not_false_eq_true, if_true, if_false, Bool.false_eq_true, reduceCtorEq, k1557, k1558, g1557_2, hz', hr]
  · have hpos : 0 < w 1557 4 := by omega
    generalize hnn : w 1557 4 = n at *
    have hlast := h4 (n - 1).toNat (by omega)
    have hri : ringR (v 275 1) n (((n - 1).toNat : Nat) : Int) = 277 + 127 * ((v 275 1 - 1) % 8).toNat := by unfold ringR; omega
    rw [hri] at hlast
    obtain ⟨v', c0, c1, c2, c3, c4, c5⟩ := C_takeBack (L := L) (a := a) (t := t) (c := c) (v := v) rfl h3 h1 ⟨by omega, h2.2⟩ hlast hA
    have hcp := M_copies (L := L) (a := a) (t := t) (u := upm (upm w 1557 0 0) 1557 4 (n - 1)) (r := 1559) (q := 1558) (f := 3280 * (n - 1)) (g := 0) k1559 k1558 (by decide) (by omega) (by decide)
    rw [upm_rf (by decide), upm_rf (by decide), upm_rf (by decide), upm_rf (by decide), show (0 : Int).toNat = 0 from rfl, show (3280 * (n - 1)).toNat = 3280 * (n - 1).toNat from by omega, cpy_slc h0] at hcp
    have hr := M_refuse0 (L := L) (u := w) (a := a) (t := t) (c := 1)
    refine .inr ⟨hpos, v', upr (upm (upm w 1557 0 0) 1557 4 (n - 1)) 1558 (slc (w 1559) (n - 1).toNat), n - 1, ?_, ?_, ⟨?_, ?_, ?_, fun i hi => ?_⟩, ?_, c1, c2, fun q q1 q2 => ?_, fun j j1 j2 => ?_, ?_⟩
    · have hz' : v 275 2 ≠ 0 := by omega
      simp (disch := first | assumption | omega) only [k18, g18_0, g18_1, g18_2, g18_3, g18_4, g18_5, g18_6, g18_7, k275, k276, g275_0, g276, E_X10_undo, B_X10_undo_0, B_X10_undo_32, Option.bind_some, back_v, Option.toList_some, Option.toList_none, List.cons_append, List.nil_append, Nat.reduceAdd, Int.reduceToNat, Int.reduceNeg, upm_eq, upm_r, upm_i, if_pos, if_neg, ite_self, true_or, or_true, true_and, and_true, false_or, or_false, false_and, and_false, wr_id, i10, i01, upr_f, upr_eq, thr58, upm_upr, upr_upr, lc_lt, lc_gt, lc_ge, lc_le, afit1, afit0, afitI, bifit, not_true_eq_false, not_false_eq_true, if_true, if_false, Bool.false_eq_true, reduceCtorEq, k1557, k1558, g1557_2, hz', c0, c4]
    · have hz : 0 + (n - 1) = n - 1 := by omega
      simp (disch := first | assumption | omega) only [k1559, k1560, k1561, k1562, k1563, k1564, k1565, k1566, k1567, g1557_3, g1557_5, g1557_6, g1557_17, g1557_18, g1557_19, g1557_20, g1557_21, g1557_23, E_X11_undo, B_X11_undo_0, B_X11_undo_22, B_X11_undo_59, Option.bind_some, back_v, Option.toList_some, Option.toList_none, List.cons_append, List.nil_append, Nat.reduceAdd, Int.reduceToNat, Int.reduceNeg, upm_eq, upm_r, upm_i, if_pos, if_neg, ite_self, true_or, or_true, true_and, and_true, false_or, or_false, false_and, and_false, wr_id, i10, i01, upr_f, upr_eq, thr58, upm_upr, upr_upr, lc_lt, lc_gt, lc_ge, lc_le, afit1, afit0, afitI, bifit, not_true_eq_false, not_false_eq_true, if_true, if_false, Bool.false_eq_true, reduceCtorEq, k1557, k1558, g1557_2, hnn, hn, hr, hz, hcp, upr_rf]
    · rw [c4, upr_rf (by decide), upm_eq]
    · rw [upr_rf (by decide), upm_eq]; omega
    · rw [c3]; omega
    · rw [upr_rf (by decide), upm_eq] at hi ⊢
      rw [upr_rf (by decide), upm_rf (by decide), upm_rf (by decide), c3]
      have hr2 : ringR ((v 275 1 - 1) % 8) (n - 1) i = ringR (v 275 1) n i := by unfold ringR; omega
      rw [hr2]
      exact RS_out (h4 i (by omega)) (fun q q0 q1 => c1 q (by have := ringR_rad (p := v 275 1) (n := n) (i := i); omega) (by have := ringR_rad (p := v 275 1) (n := n) (i := i); omega))
    · rw [upr_row2]; exact c5
    · rw [upr_rf q2, upm_rf q1, upm_rf q1]
    · rw [upr_rf (by decide), upm_i j2, upm_i j1]
    · rw [upr_rf (by decide), upm_i (by decide), upm_eq]
end UND
