/-! ===== writeDay on both sides ===== -/
section WDY
variable {L : Nat}
theorem XX_text {c : Int} {v v' w w' v0 w0 : Nat → Nat → Int} {a : Nat → Nat → Nat} {T : List Int} (h : XX c v w a) (hv : ∀ q, (q < 1295 ∨ 1300 < q) → v0 q = v q) (hw : Mq w w0 ∨ mgF (upm w 1557 0 0) w0) (h1 : tC v0 T v') (h2 : tM (upm w0 1557 24 0) T w') (hl : T.length ≤ 256) : XX (c + 1) v' w' a ∧ (∀ q, (q < 18 ∨ 1557 ≤ q) → v' q = v q) ∧ (∀ q, (q < 1557 ∨ 1567 < q) → w' q = w q) ∧ (w0 1557 0 = 0 → w' 1557 0 = 0) := by
  have hM : Mq w w0 := hw.elim id (fun z => (mgF_Mq z).1)
  have e1 : ∀ q, q ≠ 1557 → q ≠ 1567 → w' q = w0 q := fun q q1 q2 => by rw [h2.1 q q1 q2, upm_rf q1]
  have e2 : ∀ j, j ≠ 24 → w' 1557 j = w0 1557 j := fun j hj => by rw [h2.2.1 j hj, upm_i hj]
  refine ⟨XX_qt h (fun q q0 q1 q2 => ?_) (fun q j p1 p2 p3 => ?_) (TX_of h1 h2 hl) (fun _ _ => rfl) (h.2.2.2.2.2.2.2.2 148 (.inr (.inl rfl))), fun q hq => ?_, fun q hq => ?_, fun z => ?_⟩
  · rw [h1.1 q (by omega) (by omega), hv q (by omega)]
  · by_cases hq : q = 1557
    · subst hq
      rw [e2 j (by omega), hM 1557 j (by omega) (by omega) p3]
    · rw [e1 q hq (by omega), hM q j (by omega) (by omega) p3]
  · rw [h1.1 q (by omega) (by omega), hv q (by omega)]
  · rw [e1 q (by omega) (by omega)]
    exact Mq_lo hM q hq
  · rw [e2 0 (by decide), z]
theorem op_writeDay {l d : Int} : OP L 127 273 [a_i l, a_i d] e3 := by
  intro c v w a t c0 c1 hX
  have be := fun pc len e ls st σ => pub_e (m := 127) (pc := pc) (len := len) (e := e) (ls := ls) (st := st) (σ := σ) (by decide)
  by_cases hv : v 18 8 = 0
  · have hw := XX_ld0 hX hv
    have cn := C_need_bad (L := L) (a := a) (t := t) hv
    have mn := M_noList0 (L := L) (a := a) (t := t) (u := w) (l := l) hw
    exact OPc_bad (e := 1) (z := 0) (cd := 1) hX (by decide) (by simp (disch := first | assumption | omega) only [k18, g18_0, g18_1, g18_2, g18_3, g18_4, g18_5, g18_6, g18_7, E_X10_writeDay, B_X10_writeDay_0, B_X10_writeDay_4, B_X10_writeDay_9, B_X10_writeDay_17, B_X10_writeDay_36, B_X10_writeDay_40, B_X10_writeDay_47, B_X10_writeDay_164, B_X10_writeDay_89, B_X10_writeDay_73, B_X10_writeDay_98, B_X10_writeDay_114, B_X10_writeDay_123, B_X10_writeDay_139, Option.bind_some, back_v, Option.toList_some, Option.toList_none, List.cons_append, List.nil_append, Nat.reduceAdd, Int.reduceToNat, Int.reduceNeg, upm_eq, upm_r, upm_i, if_pos, if_neg, ite_self, true_or, or_true, true_and, and_true, false_or, or_false, false_and, and_false, wr_id, i10, i01, upr_f, upr_eq, thr58, upm_upr, upr_upr, lc_lt, lc_gt, lc_ge, lc_le, afit1, afit0, afitI, bifit, not_true_eq_false, not_false_eq_true, if_true, if_false, Bool.false_eq_true, reduceCtorEq, k1557, k1558, g1557_2, cn, be]) (by simp (disch := first | assumption | omega) only [E_X11_writeDay, B_X11_writeDay_0, B_X11_writeDay_6, B_X11_writeDay_17, B_X11_writeDay_35, B_X11_writeDay_65, B_X11_writeDay_55, B_X11_writeDay_71, B_X11_writeDay_81, B_X11_writeDay_87, B_X11_writeDay_97, E_X11_noDay, B_X11_noDay_0, B_X11_noDay_5, B_X11_noDay_13, B_X11_noDay_25, Option.bind_some, back_v, Option.toList_some, Option.toList_none, List.cons_append, List.nil_append, Nat.reduceAdd, Int.reduceToNat, Int.reduceNeg, upm_eq, upm_r, upm_i, if_pos, if_neg, ite_self, true_or, or_true, true_and, and_true, false_or, or_false, false_and, and_false, wr_id, i10, i01, upr_f, upr_eq, thr58, upm_upr, upr_upr, lc_lt, lc_gt, lc_ge, lc_le, afit1, afit0, afitI, bifit, not_true_eq_false, not_false_eq_true, if_true, if_false, Bool.false_eq_true, reduceCtorEq, k1557, k1558, g1557_2, mn])
  obtain ⟨hw, hS⟩ := XX_ld hX hv
  obtain ⟨⟨n3, n3a, n3b⟩, ⟨n2, n2a, n2b⟩, ⟨n4, n4a, n4b⟩, ⟨n1, n1a, n1b⟩, ⟨n0, n0a, n0b⟩, n5, n6⟩ := RS_n hS
  have hR : isRad 21 := .inl rfl
  have hM := hS.2.1
  have hW : upm w 1557 0 0 1558 = w 1558 := upm_rf (by decide)
  have cn := C_need (L := L) (a := a) (t := t) hv
  by_cases hl : l < -1 ∨ w 1558 3 ≤ l
  · have cl := C_needList_bad (L := L) (a := a) (t := t) (v := v) (l := l) (by omega) (by omega)
    have mn := M_noList2 (L := L) (a := a) (t := t) (u := w) (l := l) hw (by omega) (inB_f (by omega))
    exact OPc_bad (e := 2) (z := 0) (cd := 2) hX (by decide) (by simp (disch := first | assumption | omega) only [k18, g18_0, g18_1, g18_2, g18_3, g18_4, g18_5, g18_6, g18_7, E_X10_writeDay, B_X10_writeDay_0, B_X10_writeDay_4, B_X10_writeDay_9, B_X10_writeDay_17, B_X10_writeDay_36, B_X10_writeDay_40, B_X10_writeDay_47, B_X10_writeDay_164, B_X10_writeDay_89, B_X10_writeDay_73, B_X10_writeDay_98, B_X10_writeDay_114, B_X10_writeDay_123, B_X10_writeDay_139, Option.bind_some, back_v, Option.toList_some, Option.toList_none, List.cons_append, List.nil_append, Nat.reduceAdd, Int.reduceToNat, Int.reduceNeg, upm_eq, upm_r, upm_i, if_pos, if_neg, ite_self, true_or, or_true, true_and, and_true, false_or, or_false, false_and, and_false, wr_id, i10, i01, upr_f, upr_eq, thr58, upm_upr, upr_upr, lc_lt, lc_gt, lc_ge, lc_le, afit1, afit0, afitI, bifit, not_true_eq_false, not_false_eq_true, if_true, if_false, Bool.false_eq_true, reduceCtorEq, k1557, k1558, g1557_2, cn, cl, be]) (by simp (disch := first | assumption | omega) only [E_X11_writeDay, B_X11_writeDay_0, B_X11_writeDay_6, B_X11_writeDay_17, B_X11_writeDay_35, B_X11_writeDay_65, B_X11_writeDay_55, B_X11_writeDay_71, B_X11_writeDay_81, B_X11_writeDay_87, B_X11_writeDay_97, E_X11_noDay, B_X11_noDay_0, B_X11_noDay_5, B_X11_noDay_13, B_X11_noDay_25, Option.bind_some, back_v, Option.toList_some, Option.toList_none, List.cons_append, List.nil_append, Nat.reduceAdd, Int.reduceToNat, Int.reduceNeg, upm_eq, upm_r, upm_i, if_pos, if_neg, ite_self, true_or, or_true, true_and, and_true, false_or, or_false, false_and, and_false, wr_id, i10, i01, upr_f, upr_eq, thr58, upm_upr, upr_upr, lc_lt, lc_gt, lc_ge, lc_le, afit1, afit0, afitI, bifit, not_true_eq_false, not_false_eq_true, if_true, if_false, Bool.false_eq_true, reduceCtorEq, k1557, k1558, g1557_2, mn])
  have hl2 : -1 ≤ l ∧ l < w 1558 3 := by omega
  have cl := C_needList (L := L) (a := a) (t := t) (v := v) (l := l) (by omega)
  have mnA := fun aa : Nat → Nat → Nat => M_noList (L := L) (a := aa) (t := t) (u := w) (l := l) hw (by omega) (inB_t (by omega) (by omega))
  have mn := mnA a
  by_cases hb1 : d < 0 ∨ 6 < d
  · have cb1 := C_needB_bad (L := L) (a := a) (t := t) (v := v) (x := d) (lo := 0) (hi := 6) hb1
    have ib1 : inB d 0 6 = false := inB_f hb1
    have rb1 := M_refuse1 (L := L) (u := w) (a := a) (t := t) (c := 3) (by decide)
    exact OPc_bad (e := 3) (z := 0) (cd := 3) hX (by decide) (by simp (disch := first | assumption | omega) only [k18, g18_0, g18_1, g18_2, g18_3, g18_4, g18_5, g18_6, g18_7, E_X10_writeDay, B_X10_writeDay_0, B_X10_writeDay_4, B_X10_writeDay_9, B_X10_writeDay_17, B_X10_writeDay_36, B_X10_writeDay_40, B_X10_writeDay_47, B_X10_writeDay_164, B_X10_writeDay_89, B_X10_writeDay_73, B_X10_writeDay_98, B_X10_writeDay_114, B_X10_writeDay_123, B_X10_writeDay_139, Option.bind_some, back_v, Option.toList_some, Option.toList_none, List.cons_append, List.nil_append, Nat.reduceAdd, Int.reduceToNat, Int.reduceNeg, upm_eq, upm_r, upm_i, if_pos, if_neg, ite_self, true_or, or_true, true_and, and_true, false_or, or_false, false_and, and_false, wr_id, i10, i01, upr_f, upr_eq, thr58, upm_upr, upr_upr, lc_lt, lc_gt, lc_ge, lc_le, afit1, afit0, afitI, bifit, not_true_eq_false, not_false_eq_true, if_true, if_false, Bool.false_eq_true, reduceCtorEq, k1557, k1558, g1557_2, cn, cl, cb1, be]) (by simp (disch := first | assumption | omega) only [E_X11_writeDay, B_X11_writeDay_0, B_X11_writeDay_6, B_X11_writeDay_17, B_X11_writeDay_35, B_X11_writeDay_65, B_X11_writeDay_55, B_X11_writeDay_71, B_X11_writeDay_81, B_X11_writeDay_87, B_X11_writeDay_97, E_X11_noDay, B_X11_noDay_0, B_X11_noDay_5, B_X11_noDay_13, B_X11_noDay_25, Option.bind_some, back_v, Option.toList_some, Option.toList_none, List.cons_append, List.nil_append, Nat.reduceAdd, Int.reduceToNat, Int.reduceNeg, upm_eq, upm_r, upm_i, if_pos, if_neg, ite_self, true_or, or_true, true_and, and_true, false_or, or_false, false_and, and_false, wr_id, i10, i01, upr_f, upr_eq, thr58, upm_upr, upr_upr, lc_lt, lc_gt, lc_ge, lc_le, afit1, afit0, afitI, bifit, not_true_eq_false, not_false_eq_true, if_true, if_false, Bool.false_eq_true, reduceCtorEq, k1557, k1558, g1557_2, mn, M_in, M_isSlot, M_isDay, bi_t, ib1, bi_f, rb1])
  have cb1 := C_needB (L := L) (a := a) (t := t) (v := v) (x := d) (lo := 0) (hi := 6) (by omega)
  have ib1 : inB d 0 6 = true := inB_t (by omega) (by omega)
  have rb1 := M_refuse0 (L := L) (u := w) (a := a) (t := t) (c := 3)
  obtain ⟨C, hC⟩ := hS.1
  obtain ⟨v1, w1, m, g0, k0, g1, k1, g2, k2, g3, g4, g5⟩ := mergeBoth (L := L) (t := t) hX hv hl2 (show 0 ≤ d by omega)
  obtain ⟨q1, q2⟩ := mgF_Mq k1
  have cl2 := C_listOf (L := L) (u := v) (a := a) (t := t) (R := 21) (l := l) hR (by omega)
  have cc : a_m 74 [a_r 1301] (K0 L, v1, G a, t) = some (.inl none, (K0 L, upm v1 1301 1 0, G a, t)) := by simp (disch := first | assumption | omega) only [k1301, k1302, g1301_0, E_X7_clear, B_X7_clear_0, Option.bind_some, back_v, Option.toList_some, Option.toList_none, List.cons_append, List.nil_append, Nat.reduceAdd, Int.reduceToNat, Int.reduceNeg, upm_eq, upm_r, upm_i, if_pos, if_neg, ite_self, true_or, or_true, true_and, and_true, false_or, or_false, false_and, and_false, wr_id, i10, i01, upr_f, upr_eq, thr58, upm_upr, upr_upr, lc_lt, lc_gt, lc_ge, lc_le, afit1, afit0, afitI, bifit, not_true_eq_false, not_false_eq_true, if_true, if_false, Bool.false_eq_true, reduceCtorEq, k1557, k1558, g1557_2]
  have tc0 : tC v1 [] (upm v1 1301 1 0) := ⟨fun q q1 _ => upm_rf q1, by rw [upm_eq]; exact tx_nil⟩
  obtain ⟨v2, c1, c2⟩ := C_day_loop (L := L) (a := a) (t := t) (v0 := v1) (l := l) (dd := d) g3 g2 (fun i hi => by have := g5 i hi; omega) m 0 _ (by omega) tc0
  rw [Int.natCast_zero] at c1
  have hm1 : upm w1 1557 24 0 1557 22 = (m : Nat) := by rw [upm_i (by decide), k2]
  have hP : ∀ i, i < m → (0 ≤ upm w1 1557 24 0 1563 i ∧ upm w1 1557 24 0 1563 i ≤ 99) ∧ (0 ≤ upm w1 1557 24 0 1564 i ∧ upm w1 1557 24 0 1564 i ≤ 9999) ∧ (0 ≤ upm w1 1557 24 0 1565 i ∧ upm w1 1557 24 0 1565 i ≤ 9999) := by
    intro i hi
    obtain ⟨e1, e2, e3, -⟩ := g4 i hi
    have := g5 i hi
    rw [upm_rf (by decide), upm_rf (by decide), upm_rf (by decide), ← e1, ← e2, ← e3]
    omega
  have tm0 : tM (upm w1 1557 24 0) [] (upm w1 1557 24 0) := ⟨fun _ _ _ => rfl, fun _ _ => rfl, by rw [upm_eq]; exact tx_nil⟩
  have ex : dayT (upm w1 1557 24 0 1563) (upm w1 1557 24 0 1564) (upm w1 1557 24 0 1565) m = dayT (v1 1296) (v1 1297) (v1 1298) m := dayT_ext m (fun i hi => by
    obtain ⟨e1, e2, e3, -⟩ := g4 i hi
    rw [upm_rf (by decide), upm_rf (by decide), upm_rf (by decide)]
    exact ⟨e1.symm, e2.symm, e3.symm⟩)
  have hlen : (dayF (v1 1296) (v1 1297) (v1 1298) m).length ≤ 256 := by
    have := dayT_le (P := v1 1296) (B := v1 1297) (E := v1 1298) m (fun i hi => by have := g5 i hi; omega)
    unfold dayF
    split
    · decide
    · omega
  have hmm : ∃ w2, a_m 273 [a_r 1557, a_i l, a_i d] (K0 L, w, G a, t) = some (.inl (some (a_i (((dayF (v1 1296) (v1 1297) (v1 1298) m).length : Int)))), (K0 L, w2, G a, t)) ∧ tM (upm w1 1557 24 0) (dayF (v1 1296) (v1 1297) (v1 1298) m) w2 := by
    by_cases h0 : m = 0
    · subst h0
      obtain ⟨w2, s1, s2⟩ := M_says (L := L) (a := a) (t := t) (x := 45) tm0 (by decide)
      rw [List.nil_append] at s2
      obtain ⟨w3, s3, s4⟩ := M_day_loop (L := L) (a := a) (t := t) (w0 := upm w1 1557 24 0) (l := l) (dd := d) (T0 := [45]) (by decide) g3 hm1 hP 0 0 w2 (by omega) (by rw [dayT, List.append_nil]; exact s2)
      refine ⟨w3, ?_, s4⟩
      rw [Int.natCast_zero] at s3
      have e : dayF (v1 1296) (v1 1297) (v1 1298) 0 = [45] ++ dayT (upm w1 1557 24 0 1563) (upm w1 1557 24 0 1564) (upm w1 1557 24 0 1565) 0 := rfl
      rw [e, ← s3]
      have z : ¬ w1 1557 22 ≠ 0 := by rw [k2]; decide
      simp (disch := first | assumption | omega) only [k1559, k1560, k1561, k1562, k1563, k1564, k1565, k1566, k1567, g1557_3, g1557_5, g1557_6, g1557_17, g1557_18, g1557_19, g1557_20, g1557_21, g1557_23, E_X11_writeDay, B_X11_writeDay_0, B_X11_writeDay_6, B_X11_writeDay_17, B_X11_writeDay_35, B_X11_writeDay_65, B_X11_writeDay_55, B_X11_writeDay_71, B_X11_writeDay_81, B_X11_writeDay_87, B_X11_writeDay_97, E_X11_noDay, B_X11_noDay_0, B_X11_noDay_5, B_X11_noDay_13, B_X11_noDay_25, Option.bind_some, back_v, Option.toList_some, Option.toList_none, List.cons_append, List.nil_append, Nat.reduceAdd, Int.reduceToNat, Int.reduceNeg, upm_eq, upm_r, upm_i, if_pos, if_neg, ite_self, true_or, or_true, true_and, and_true, false_or, or_false, false_and, and_false, wr_id, i10, i01, upr_f, upr_eq, thr58, upm_upr, upr_upr, lc_lt, lc_gt, lc_ge, lc_le, afit1, afit0, afitI, bifit, not_true_eq_false, not_false_eq_true, if_true, if_false, Bool.false_eq_true, reduceCtorEq, k1557, k1558, g1557_2, mn, M_isDay, ib1, bi_t, rb1, k0, z, s1]
    · have e : dayF (v1 1296) (v1 1297) (v1 1298) m = [] ++ dayT (upm w1 1557 24 0 1563) (upm w1 1557 24 0 1564) (upm w1 1557 24 0 1565) m := by
        rw [ex, List.nil_append]; unfold dayF; rw [if_neg h0]
      obtain ⟨w3, s3, s4⟩ := M_day_loop (L := L) (a := a) (t := t) (w0 := upm w1 1557 24 0) (l := l) (dd := d) (T0 := []) (by decide) g3 hm1 hP m 0 _ (by omega) (by rw [dayT, List.append_nil]; exact tm0)
      rw [Int.natCast_zero] at s3
      refine ⟨w3, ?_, by rw [e]; exact s4⟩
      rw [e, ← s3]
      have z : w1 1557 22 ≠ 0 := by rw [k2]; omega
      simp (disch := first | assumption | omega) only [k1559, k1560, k1561, k1562, k1563, k1564, k1565, k1566, k1567, g1557_3, g1557_5, g1557_6, g1557_17, g1557_18, g1557_19, g1557_20, g1557_21, g1557_23, E_X11_writeDay, B_X11_writeDay_0, B_X11_writeDay_6, B_X11_writeDay_17, B_X11_writeDay_35, B_X11_writeDay_65, B_X11_writeDay_55, B_X11_writeDay_71, B_X11_writeDay_81, B_X11_writeDay_87, B_X11_writeDay_97, E_X11_noDay, B_X11_noDay_0, B_X11_noDay_5, B_X11_noDay_13, B_X11_noDay_25, Option.bind_some, back_v, Option.toList_some, Option.toList_none, List.cons_append, List.nil_append, Nat.reduceAdd, Int.reduceToNat, Int.reduceNeg, upm_eq, upm_r, upm_i, if_pos, if_neg, ite_self, true_or, or_true, true_and, and_true, false_or, or_false, false_and, and_false, wr_id, i10, i01, upr_f, upr_eq, thr58, upm_upr, upr_upr, lc_lt, lc_gt, lc_ge, lc_le, afit1, afit0, afitI, bifit, not_true_eq_false, not_false_eq_true, if_true, if_false, Bool.false_eq_true, reduceCtorEq, k1557, k1558, g1557_2, mn, M_isDay, ib1, bi_t, rb1, k0, z]
  obtain ⟨w2, m1, m2⟩ := hmm
  obtain ⟨x1, x2, x3, x4⟩ := XX_text hX g1 (.inr k1) c2 m2 hlen
  refine ⟨v2, w2, a, x1, x2, x3, .inl ⟨x4 q2, _, ?_, m1⟩⟩
  rw [← c1]
  simp (disch := first | assumption | omega) only [k18, g18_0, g18_1, g18_2, g18_3, g18_4, g18_5, g18_6, g18_7, k1295, k1296, k1297, k1298, k1299, k1300, g1295_0, g1295_1, g1295_2, g1295_3, g1295_5, kq21, kq22, kq23, kq24, kq25, kq26, kq27, kq28, kq29, kq30, kq31, kq32, kq123, gq21_0, gq21_1, gq21_2, gq21_3, gq22_0, gq22_1, gq22_2, gq22_3, gq22_4, gq22_5, gq22_6, gq31_0, gq123_j, gq32_j, kq124_l, kq125_l, kq126_l, kq127_l, gq124_2, gq124_3, gq124_4, kq33_p, kq34_p, kq35_p, gq33_6, gq33_7, k1301, k1302, g1301_0, E_X10_writeDay, B_X10_writeDay_0, B_X10_writeDay_4, B_X10_writeDay_9, B_X10_writeDay_17, B_X10_writeDay_36, B_X10_writeDay_40, B_X10_writeDay_47, B_X10_writeDay_164, B_X10_writeDay_89, B_X10_writeDay_73, B_X10_writeDay_98, B_X10_writeDay_114, B_X10_writeDay_123, B_X10_writeDay_139, Option.bind_some, back_v, Option.toList_some, Option.toList_none, List.cons_append, List.nil_append, Nat.reduceAdd, Int.reduceToNat, Int.reduceNeg, upm_eq, upm_r, upm_i, if_pos, if_neg, ite_self, true_or, or_true, true_and, and_true, false_or, or_false, false_and, and_false, wr_id, i10, i01, upr_f, upr_eq, thr58, upm_upr, upr_upr, lc_lt, lc_gt, lc_ge, lc_le, afit1, afit0, afitI, bifit, not_true_eq_false, not_false_eq_true, if_true, if_false, Bool.false_eq_true, reduceCtorEq, k1557, k1558, g1557_2, cn, cl, cb1, cl2, g0, cc]
end WDY
