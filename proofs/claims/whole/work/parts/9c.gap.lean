/-! ===== gaps added and dropped, the list fetched ===== -/
theorem RS_O2 {c l : Int} {v v' : Nat → Nat → Int} {a : Nat → Nat → Nat} {s s' : Nat → Int} (h : RS c v a 21 s) (hl : 0 ≤ l ∧ l < s 3) (hO : sameO2 l s s') (h0 : 0 ≤ mLi s' l 0 ∧ mLi s' l 0 ≤ 9) (h1 : 0 ≤ mLi s' l 1 ∧ mLi s' l 1 ≤ 4) (hh : ∀ w, 15 ≤ w → w < 19 → mLi s' l w = mLi s l w) (hr : ∀ C, RelC (vw v 21) (a 21) C s → RelC (vw v' 21) (a 21) C s') : RS c v' a 21 s' := by
  obtain ⟨⟨C, hC⟩, hM, hf, hi, h5, h6⟩ := h
  have hM3 := hM.2.2.2.1
  have hl5 : 0 ≤ l ∧ l ≤ 5 := by omega
  refine ⟨⟨C, hr C hC⟩, O2_MI hM hO hl5 h0 h1, frs_congr hf hM.2.2.1.1 (O2_hd hO hl5 (by decide)) (O2_hd hO hl5 (by decide)) (fun m w m0 m1 w0 w1 => ?_), O2_hi hO hl5 hi, by rw [O2_hd hO hl5 (by decide)]; exact h5, by rw [O2_hd hO hl5 (by decide)]; exact h6⟩
  by_cases hm : m = l
  · rw [hm]; exact hh w (by omega) (by omega)
  · exact O2_li hO hl5 (by omega) hm (by omega)
section GAP
variable {L : Nat} {c : Int} {v w : Nat → Nat → Int} {a : Nat → Nat → Nat} {t : Nat × Nat × Nat}
theorem op_addGap {l x y : Int} : OP L 135 286 [a_i l, a_i x, a_i y] e3 := by
  intro c v w a t c0 c1 hX
  have be := fun pc len e ls st σ => pub_e (m := 135) (pc := pc) (len := len) (e := e) (ls := ls) (st := st) (σ := σ) (by decide)
  by_cases hv : v 18 8 = 0
  · have hw := XX_ld0 hX hv
    have cn := C_need_bad (L := L) (a := a) (t := t) hv
    have mn := M_noListener0 (L := L) (a := a) (t := t) (u := w) (l := l) hw
    exact OPc_bad (e := 1) (z := 0) (cd := 1) hX (by decide) (by simp (disch := first | assumption | omega) only [k18, g18_0, g18_1, g18_2, g18_3, g18_4, g18_5, g18_6, g18_7, E_X10_addGap, B_X10_addGap_0, B_X10_addGap_4, B_X10_addGap_9, B_X10_addGap_18, B_X10_addGap_27, B_X10_addGap_65, B_X10_addGap_79, Option.bind_some, back_v, Option.toList_some, Option.toList_none, List.cons_append, List.nil_append, Nat.reduceAdd, Int.reduceToNat, Int.reduceNeg, upm_eq, upm_r, upm_i, if_pos, if_neg, ite_self, true_or, or_true, true_and, and_true, false_or, or_false, false_and, and_false, wr_id, i10, i01, upr_f, upr_eq, thr58, upm_upr, upr_upr, lc_lt, lc_gt, lc_ge, lc_le, afit1, afit0, afitI, bifit, not_true_eq_false, not_false_eq_true, if_true, if_false, Bool.false_eq_true, reduceCtorEq, k1557, k1558, g1557_2, cn, be]) (by simp (disch := first | assumption | omega) only [E_X11_addGap, B_X11_addGap_0, B_X11_addGap_5, B_X11_addGap_18, B_X11_addGap_53, B_X11_addGap_31, B_X11_addGap_62, B_X11_addGap_40, B_X11_addGap_68, B_X11_addGap_82, B_X11_addGap_96, B_X11_addGap_106, Option.bind_some, back_v, Option.toList_some, Option.toList_none, List.cons_append, List.nil_append, Nat.reduceAdd, Int.reduceToNat, Int.reduceNeg, upm_eq, upm_r, upm_i, if_pos, if_neg, ite_self, true_or, or_true, true_and, and_true, false_or, or_false, false_and, and_false, wr_id, i10, i01, upr_f, upr_eq, thr58, upm_upr, upr_upr, lc_lt, lc_gt, lc_ge, lc_le, afit1, afit0, afitI, bifit, not_true_eq_false, not_false_eq_true, if_true, if_false, Bool.false_eq_true, reduceCtorEq, k1557, k1558, g1557_2, mn])
  obtain ⟨hw, hS⟩ := XX_ld hX hv
  obtain ⟨⟨n3, n3a, n3b⟩, ⟨n2, n2a, n2b⟩, ⟨n4, n4a, n4b⟩, ⟨n1, n1a, n1b⟩, ⟨n0, n0a, n0b⟩, n5, n6⟩ := RS_n hS
  have hR : isRad 21 := .inl rfl
  have hM := hS.2.1
  have hW : upm w 1557 0 0 1558 = w 1558 := upm_rf (by decide)
  have cn := C_need (L := L) (a := a) (t := t) hv
  by_cases hl : l < 0 ∨ w 1558 3 ≤ l
  · have cl := C_needL_bad (L := L) (a := a) (t := t) (v := v) (l := l) (by omega)
    have mn := M_noListener2 (L := L) (a := a) (t := t) (u := w) (l := l) hw (by omega) (inB_f (by omega))
    exact OPc_bad (e := 2) (z := 0) (cd := 2) hX (by decide) (by simp (disch := first | assumption | omega) only [k18, g18_0, g18_1, g18_2, g18_3, g18_4, g18_5, g18_6, g18_7, E_X10_addGap, B_X10_addGap_0, B_X10_addGap_4, B_X10_addGap_9, B_X10_addGap_18, B_X10_addGap_27, B_X10_addGap_65, B_X10_addGap_79, Option.bind_some, back_v, Option.toList_some, Option.toList_none, List.cons_append, List.nil_append, Nat.reduceAdd, Int.reduceToNat, Int.reduceNeg, upm_eq, upm_r, upm_i, if_pos, if_neg, ite_self, true_or, or_true, true_and, and_true, false_or, or_false, false_and, and_false, wr_id, i10, i01, upr_f, upr_eq, thr58, upm_upr, upr_upr, lc_lt, lc_gt, lc_ge, lc_le, afit1, afit0, afitI, bifit, not_true_eq_false, not_false_eq_true, if_true, if_false, Bool.false_eq_true, reduceCtorEq, k1557, k1558, g1557_2, cn, cl, be]) (by simp (disch := first | assumption | omega) only [E_X11_addGap, B_X11_addGap_0, B_X11_addGap_5, B_X11_addGap_18, B_X11_addGap_53, B_X11_addGap_31, B_X11_addGap_62, B_X11_addGap_40, B_X11_addGap_68, B_X11_addGap_82, B_X11_addGap_96, B_X11_addGap_106, Option.bind_some, back_v, Option.toList_some, Option.toList_none, List.cons_append, List.nil_append, Nat.reduceAdd, Int.reduceToNat, Int.reduceNeg, upm_eq, upm_r, upm_i, if_pos, if_neg, ite_self, true_or, or_true, true_and, and_true, false_or, or_false, false_and, and_false, wr_id, i10, i01, upr_f, upr_eq, thr58, upm_upr, upr_upr, lc_lt, lc_gt, lc_ge, lc_le, afit1, afit0, afitI, bifit, not_true_eq_false, not_false_eq_true, if_true, if_false, Bool.false_eq_true, reduceCtorEq, k1557, k1558, g1557_2, mn])
  have hl2 : 0 ≤ l ∧ l < w 1558 3 := by omega
  have cl := C_needL (L := L) (a := a) (t := t) (v := v) (l := l) (by omega)
  have mnA := fun aa : Nat → Nat → Nat => M_noListener (L := L) (a := aa) (t := t) (u := w) (l := l) hw (by omega) (inB_t (by omega) (by omega))
  have mn := mnA a
  by_cases hb1 : x < 0 ∨ 9999 < x
  · have cb1 := C_needB_bad (L := L) (a := a) (t := t) (v := v) (x := x) (lo := 0) (hi := 9999) hb1
    have ib1 : inB x 0 9999 = false := inB_f hb1
    have rb1 := M_refuse1 (L := L) (u := w) (a := a) (t := t) (c := 3) (by decide)
    exact OPc_bad (e := 3) (z := 0) (cd := 3) hX (by decide) (by simp (disch := first | assumption | omega) only [k18, g18_0, g18_1, g18_2, g18_3, g18_4, g18_5, g18_6, g18_7, E_X10_addGap, B_X10_addGap_0, B_X10_addGap_4, B_X10_addGap_9, B_X10_addGap_18, B_X10_addGap_27, B_X10_addGap_65, B_X10_addGap_79, Option.bind_some, back_v, Option.toList_some, Option.toList_none, List.cons_append, List.nil_append, Nat.reduceAdd, Int.reduceToNat, Int.reduceNeg, upm_eq, upm_r, upm_i, if_pos, if_neg, ite_self, true_or, or_true, true_and, and_true, false_or, or_false, false_and, and_false, wr_id, i10, i01, upr_f, upr_eq, thr58, upm_upr, upr_upr, lc_lt, lc_gt, lc_ge, lc_le, afit1, afit0, afitI, bifit, not_true_eq_false, not_false_eq_true, if_true, if_false, Bool.false_eq_true, reduceCtorEq, k1557, k1558, g1557_2, cn, cl, cb1, be]) (by simp (disch := first | assumption | omega) only [E_X11_addGap, B_X11_addGap_0, B_X11_addGap_5, B_X11_addGap_18, B_X11_addGap_53, B_X11_addGap_31, B_X11_addGap_62, B_X11_addGap_40, B_X11_addGap_68, B_X11_addGap_82, B_X11_addGap_96, B_X11_addGap_106, Option.bind_some, back_v, Option.toList_some, Option.toList_none, List.cons_append, List.nil_append, Nat.reduceAdd, Int.reduceToNat, Int.reduceNeg, upm_eq, upm_r, upm_i, if_pos, if_neg, ite_self, true_or, or_true, true_and, and_true, false_or, or_false, false_and, and_false, wr_id, i10, i01, upr_f, upr_eq, thr58, upm_upr, upr_upr, lc_lt, lc_gt, lc_ge, lc_le, afit1, afit0, afitI, bifit, not_true_eq_false, not_false_eq_true, if_true, if_false, Bool.false_eq_true, reduceCtorEq, k1557, k1558, g1557_2, mn, M_in, M_isSlot, M_isDay, bi_t, ib1, bi_f, rb1])
  have cb1 := C_needB (L := L) (a := a) (t := t) (v := v) (x := x) (lo := 0) (hi := 9999) (by omega)
  have ib1 : inB x 0 9999 = true := inB_t (by omega) (by omega)
  have rb1 := M_refuse0 (L := L) (u := w) (a := a) (t := t) (c := 3)
  by_cases hb2 : y < x ∨ 9999 < y
  · have cb2 := C_needB_bad (L := L) (a := a) (t := t) (v := v) (x := y) (lo := x) (hi := 9999) hb2
    have ib2 : inB y x 9999 = false := inB_f hb2
    have rb2 := M_refuse1 (L := L) (u := w) (a := a) (t := t) (c := 3) (by decide)
    exact OPc_bad (e := 3) (z := 0) (cd := 3) hX (by decide) (by simp (disch := first | assumption | omega) only [k18, g18_0, g18_1, g18_2, g18_3, g18_4, g18_5, g18_6, g18_7, E_X10_addGap, B_X10_addGap_0, B_X10_addGap_4, B_X10_addGap_9, B_X10_addGap_18, B_X10_addGap_27, B_X10_addGap_65, B_X10_addGap_79, Option.bind_some, back_v, Option.toList_some, Option.toList_none, List.cons_append, List.nil_append, Nat.reduceAdd, Int.reduceToNat, Int.reduceNeg, upm_eq, upm_r, upm_i, if_pos, if_neg, ite_self, true_or, or_true, true_and, and_true, false_or, or_false, false_and, and_false, wr_id, i10, i01, upr_f, upr_eq, thr58, upm_upr, upr_upr, lc_lt, lc_gt, lc_ge, lc_le, afit1, afit0, afitI, bifit, not_true_eq_false, not_false_eq_true, if_true, if_false, Bool.false_eq_true, reduceCtorEq, k1557, k1558, g1557_2, cn, cl, cb1, cb2, be]) (by simp (disch := first | assumption | omega) only [E_X11_addGap, B_X11_addGap_0, B_X11_addGap_5, B_X11_addGap_18, B_X11_addGap_53, B_X11_addGap_31, B_X11_addGap_62, B_X11_addGap_40, B_X11_addGap_68, B_X11_addGap_82, B_X11_addGap_96, B_X11_addGap_106, Option.bind_some, back_v, Option.toList_some, Option.toList_none, List.cons_append, List.nil_append, Nat.reduceAdd, Int.reduceToNat, Int.reduceNeg, upm_eq, upm_r, upm_i, if_pos, if_neg, ite_self, true_or, or_true, true_and, and_true, false_or, or_false, false_and, and_false, wr_id, i10, i01, upr_f, upr_eq, thr58, upm_upr, upr_upr, lc_lt, lc_gt, lc_ge, lc_le, afit1, afit0, afitI, bifit, not_true_eq_false, not_false_eq_true, if_true, if_false, Bool.false_eq_true, reduceCtorEq, k1557, k1558, g1557_2, mn, ib1, rb1, M_in, M_isSlot, M_isDay, bi_t, ib2, bi_f, rb2])
  have cb2 := C_needB (L := L) (a := a) (t := t) (v := v) (x := y) (lo := x) (hi := 9999) (by omega)
  have ib2 : inB y x 9999 = true := inB_t (by omega) (by omega)
  have rb2 := M_refuse0 (L := L) (u := w) (a := a) (t := t) (c := 3)
  obtain ⟨C, hC⟩ := hS.1
  have hL := hM.2.2.2.2.2.2.2 l hl2.1 hl2.2
  have hg1 := (hC.2.2.2.2.2.1 l hl2.1 hl2.2).2.1
  rw [vw_at (by omega), show 21 + (103 + 4 * l.toNat) = 124 + 4 * l.toNat from by omega] at hg1
  have p1 := M_ofListener (L := L) (u := upm w 1557 0 0) (a := a) (t := t) (l := l) (w := 1) (by omega) (by decide)
  rw [hW] at p1
  have l6 : l < ((6 : Nat) : Int) := by omega
  by_cases h4 : mLi (w 1558) l 1 = 4
  · have rb := M_refuse1 (L := L) (u := w) (a := a) (t := t) (c := 3) (by decide)
    have h4' : ¬ mLi (w 1558) l 1 ≠ 4 := by omega
    have g4 : ¬ mLi (w 1558) l 1 < 4 := by omega
    exact OPc_bad (e := 3) (z := 0) (cd := 3) hX (by decide) (by simp (disch := first | assumption | omega) only [k18, g18_0, g18_1, g18_2, g18_3, g18_4, g18_5, g18_6, g18_7, kq21, kq22, kq23, kq24, kq25, kq26, kq27, kq28, kq29, kq30, kq31, kq32, kq123, gq21_0, gq21_1, gq21_2, gq21_3, gq22_0, gq22_1, gq22_2, gq22_3, gq22_4, gq22_5, gq22_6, gq31_0, gq123_j, gq32_j, kq124_l, kq125_l, kq126_l, kq127_l, gq124_2, gq124_3, gq124_4, kq33_p, kq34_p, kq35_p, gq33_6, gq33_7, E_X10_addGap, B_X10_addGap_0, B_X10_addGap_4, B_X10_addGap_9, B_X10_addGap_18, B_X10_addGap_27, B_X10_addGap_65, B_X10_addGap_79, Option.bind_some, back_v, Option.toList_some, Option.toList_none, List.cons_append, List.nil_append, Nat.reduceAdd, Int.reduceToNat, Int.reduceNeg, upm_eq, upm_r, upm_i, if_pos, if_neg, ite_self, true_or, or_true, true_and, and_true, false_or, or_false, false_and, and_false, wr_id, i10, i01, upr_f, upr_eq, thr58, upm_upr, upr_upr, lc_lt, lc_gt, lc_ge, lc_le, afit1, afit0, afitI, bifit, not_true_eq_false, not_false_eq_true, if_true, if_false, Bool.false_eq_true, reduceCtorEq, k1557, k1558, g1557_2, cn, cl, cb1, cb2, hg1, g4, be]) (by simp (disch := first | assumption | omega) only [E_X11_addGap, B_X11_addGap_0, B_X11_addGap_5, B_X11_addGap_18, B_X11_addGap_53, B_X11_addGap_31, B_X11_addGap_62, B_X11_addGap_40, B_X11_addGap_68, B_X11_addGap_82, B_X11_addGap_96, B_X11_addGap_106, Option.bind_some, back_v, Option.toList_some, Option.toList_none, List.cons_append, List.nil_append, Nat.reduceAdd, Int.reduceToNat, Int.reduceNeg, upm_eq, upm_r, upm_i, if_pos, if_neg, ite_self, true_or, or_true, true_and, and_true, false_or, or_false, false_and, and_false, wr_id, i10, i01, upr_f, upr_eq, thr58, upm_upr, upr_upr, lc_lt, lc_gt, lc_ge, lc_le, afit1, afit0, afitI, bifit, not_true_eq_false, not_false_eq_true, if_true, if_false, Bool.false_eq_true, reduceCtorEq, k1557, k1558, g1557_2, mn, M_in, ib1, ib2, bi_t, p1, h4', rb])
  · obtain ⟨v1, w1, hk, c1, m1⟩ := keepOp (L := L) (t := t) hX hv
    obtain ⟨k1, k2, k3, k4, k5, k6, hS1, w58⟩ := hk
    have g4 : mLi (w 1558) l 1 < 4 := by omega
    have hg2 : v1 (124 + 4 * l.toNat) 1 = mLi (w 1558) l 1 := by
      obtain ⟨C, hC⟩ := hS1.1
      have := (hC.2.2.2.2.2.1 l hl2.1 hl2.2).2.1
      rwa [vw_at (by omega), show 21 + (103 + 4 * l.toNat) = 124 + 4 * l.toNat from by omega] at this
    have pg : a_m 18 [a_r (124 + 4 * l.toNat), a_i x, a_i y] (K0 L, v1, G a, t) = some (.inl none, (K0 L, upm (upm (upm v1 (125 + 4 * l.toNat) (mLi (w 1558) l 1).toNat x) (126 + 4 * l.toNat) (mLi (w 1558) l 1).toNat y) (124 + 4 * l.toNat) 1 (mLi (w 1558) l 1 + 1), G a, t)) := C_putGap (R := 21) (n := l.toNat) hR (by omega) hg2 ⟨hL.2.1, g4⟩
    have q1 := M_ofListener (L := L) (u := w1) (a := a) (t := t) (l := l) (w := 1) (by omega) (by decide)
    rw [w58] at q1
    have m1' := m1 a t
    have q2 := M_putsListener (L := L) (u := w1) (a := a) (t := t) (l := l) (w := 2 + 2 * mLi (w 1558) l 1) (v := x) (by omega) (by omega)
    have q3 := M_putsListener (L := L) (u := upm w1 1558 (436 + 19 * l + (2 + 2 * mLi (w 1558) l 1)).toNat x) (a := a) (t := t) (l := l) (w := 2 + 2 * mLi (w 1558) l 1 + 1) (v := y) (by omega) (by omega)
    have q4 := M_putsListener (L := L) (u := upm (upm w1 1558 (436 + 19 * l + (2 + 2 * mLi (w 1558) l 1)).toNat x) 1558 (436 + 19 * l + (2 + 2 * mLi (w 1558) l 1 + 1)).toNat y) (a := a) (t := t) (l := l) (w := 1) (v := mLi (w 1558) l 1 + 1) (by omega) (by omega)
    have rb := M_refuse0 (L := L) (u := w) (a := a) (t := t) (c := 3)
    have z1 : wr (2 * mLi (w 1558) l 1) = 2 * mLi (w 1558) l 1 := wr_id (by omega) (by omega)
    have z2 : wr (2 + 2 * mLi (w 1558) l 1) = 2 + 2 * mLi (w 1558) l 1 := wr_id (by omega) (by omega)
    have z3 : wr (2 + 2 * mLi (w 1558) l 1 + 1) = 2 + 2 * mLi (w 1558) l 1 + 1 := wr_id (by omega) (by omega)
    have z4 : wr (mLi (w 1558) l 1 + 1) = mLi (w 1558) l 1 + 1 := wr_id (by omega) (by omega)
    refine OPc_kp (z := mLi (w 1558) l 1 + 1) (a' := a) (v2 := upm (upm (upm v1 (125 + 4 * l.toNat) (mLi (w 1558) l 1).toNat x) (126 + 4 * l.toNat) (mLi (w 1558) l 1).toNat y) (124 + 4 * l.toNat) 1 (mLi (w 1558) l 1 + 1)) (w2 := upm (upm (upm w1 1558 (436 + 19 * l + (2 + 2 * mLi (w 1558) l 1)).toNat x) 1558 (436 + 19 * l + (2 + 2 * mLi (w 1558) l 1 + 1)).toNat y) 1558 (436 + 19 * l + 1).toNat (mLi (w 1558) l 1 + 1)) hX hv ⟨k1, k2, k3, k4, k5, k6, hS1, w58⟩ (fun q hq => by rw [upm_rf (by omega), upm_rf (by omega), upm_rf (by omega)]) (fun q hq => by rw [upm_rf hq, upm_rf hq, upm_rf hq]) (fun _ _ => rfl) ?_ ?_ ?_
    · rw [upm_row, upm_row, upm_row, w58]
      refine RS_le (RS_O2 hS1 hl2 (addGap_O2 hl2.1 ⟨hL.2.1, g4⟩) ?_ ?_ (fun y' w0 w1 => ?_) (fun C hC => ?_)) (show c ≤ c + 1 by omega)
      · have := addGap_li (s := w 1558) (l := l) (x := x) (y := y) (w := 0) hl2.1 ⟨hL.2.1, g4⟩ (by decide)
        rw [if_neg (by omega), if_neg (by omega), if_neg (by omega)] at this
        show 0 ≤ mLi (mAddGap (w 1558) l x y) l 0 ∧ mLi (mAddGap (w 1558) l x y) l 0 ≤ 9
        rw [this]; exact hL.1
      · have := addGap_li (s := w 1558) (l := l) (x := x) (y := y) (w := 1) hl2.1 ⟨hL.2.1, g4⟩ (by decide)
        rw [if_pos (by omega)] at this
        show 0 ≤ mLi (mAddGap (w 1558) l x y) l 1 ∧ mLi (mAddGap (w 1558) l x y) l 1 ≤ 4
        rw [this]; omega
      · have := addGap_li (s := w 1558) (l := l) (x := x) (y := y) (w := y') hl2.1 ⟨hL.2.1, g4⟩ (by omega)
        rw [if_neg (by omega), if_neg (by omega), if_neg (by omega)] at this
        exact this
      · have hh := rel_addGap (x := x) (y := y) hC hM hl2 g4
        rw [← vw_upm (R := 21) (c := 104 + 4 * l.toNat) (by omega), ← vw_upm (R := 21) (c := 105 + 4 * l.toNat) (by omega), ← vw_upm (R := 21) (c := 103 + 4 * l.toNat) (by omega), show 21 + (104 + 4 * l.toNat) = 125 + 4 * l.toNat from by omega, show 21 + (105 + 4 * l.toNat) = 126 + 4 * l.toNat from by omega, show 21 + (103 + 4 * l.toNat) = 124 + 4 * l.toNat from by omega] at hh
        exact hh
    · simp (disch := first | assumption | omega) only [k18, g18_0, g18_1, g18_2, g18_3, g18_4, g18_5, g18_6, g18_7, k275, k276, g275_0, g276, kq21, kq22, kq23, kq24, kq25, kq26, kq27, kq28, kq29, kq30, kq31, kq32, kq123, gq21_0, gq21_1, gq21_2, gq21_3, gq22_0, gq22_1, gq22_2, gq22_3, gq22_4, gq22_5, gq22_6, gq31_0, gq123_j, gq32_j, kq124_l, kq125_l, kq126_l, kq127_l, gq124_2, gq124_3, gq124_4, kq33_p, kq34_p, kq35_p, gq33_6, gq33_7, E_X10_addGap, B_X10_addGap_0, B_X10_addGap_4, B_X10_addGap_9, B_X10_addGap_18, B_X10_addGap_27, B_X10_addGap_65, B_X10_addGap_79, Option.bind_some, back_v, Option.toList_some, Option.toList_none, List.cons_append, List.nil_append, Nat.reduceAdd, Int.reduceToNat, Int.reduceNeg, upm_eq, upm_r, upm_i, if_pos, if_neg, ite_self, true_or, or_true, true_and, and_true, false_or, or_false, false_and, and_false, wr_id, i10, i01, upr_f, upr_eq, thr58, upm_upr, upr_upr, lc_lt, lc_gt, lc_ge, lc_le, afit1, afit0, afitI, bifit, not_true_eq_false, not_false_eq_true, if_true, if_false, Bool.false_eq_true, reduceCtorEq, k1557, k1558, g1557_2, cn, cl, cb1, cb2, hg1, g4, c1, pg]
    · simp (disch := first | assumption | omega) only [E_X11_addGap, B_X11_addGap_0, B_X11_addGap_5, B_X11_addGap_18, B_X11_addGap_53, B_X11_addGap_31, B_X11_addGap_62, B_X11_addGap_40, B_X11_addGap_68, B_X11_addGap_82, B_X11_addGap_96, B_X11_addGap_106, Option.bind_some, back_v, Option.toList_some, Option.toList_none, List.cons_append, List.nil_append, Nat.reduceAdd, Int.reduceToNat, Int.reduceNeg, upm_eq, upm_r, upm_i, if_pos, if_neg, ite_self, true_or, or_true, true_and, and_true, false_or, or_false, false_and, and_false, wr_id, i10, i01, upr_f, upr_eq, thr58, upm_upr, upr_upr, lc_lt, lc_gt, lc_ge, lc_le, afit1, afit0, afitI, bifit, not_true_eq_false, not_false_eq_true, if_true, if_false, Bool.false_eq_true, reduceCtorEq, k1557, k1558, g1557_2, mn, M_in, ib1, ib2, bi_t, p1, h4, rb, m1', q1, z1, z2, z3, z4, q2, q3, q4]
theorem C_removeGap {n : Nat} {i g : Int} (hn : n < 6) (hg : 0 ≤ g ∧ g ≤ 3) : ∀ (d : Nat) (x : Int) (v : Nat → Nat → Int), 0 ≤ x → x + d = g → v (124 + 4 * n) 1 = g → ∃ v', a_X 19 12 [a_r (124 + 4 * n), a_i i, a_i x] [] (K0 L, v, G a, t) = some (.inl none, (K0 L, v', G a, t)) ∧ (∀ q, q ≠ 125 + 4 * n → q ≠ 126 + 4 * n → v' q = v q) ∧ ∀ j : Nat, v' (125 + 4 * n) j = (if x ≤ j ∧ (j : Int) < g then v (125 + 4 * n) (j + 1) else v (125 + 4 * n) j) ∧ v' (126 + 4 * n) j = (if x ≤ j ∧ (j : Int) < g then v (126 + 4 * n) (j + 1) else v (126 + 4 * n) j) := by
  intro d
  induction d with
  | zero =>
    intro x v x0 hx hv
    refine ⟨v, ?_, fun _ _ _ => rfl, fun j => ⟨by rw [if_neg (by omega)], by rw [if_neg (by omega)]⟩⟩
    have xg : x ≥ g := by omega
    rw [B_X2_removeGap_12]; simp (disch := first | assumption | omega) only [kq21, kq22, kq23, kq24, kq25, kq26, kq27, kq28, kq29, kq30, kq31, kq32, kq123, gq21_0, gq21_1, gq21_2, gq21_3, gq22_0, gq22_1, gq22_2, gq22_3, gq22_4, gq22_5, gq22_6, gq31_0, gq123_j, gq32_j, kq124_l, kq125_l, kq126_l, kq127_l, gq124_2, gq124_3, gq124_4, kq33_p, kq34_p, kq35_p, gq33_6, gq33_7, B_X2_removeGap_0, Option.bind_some, back_v, Option.toList_some, Option.toList_none, List.cons_append, List.nil_append, Nat.reduceAdd, Int.reduceToNat, Int.reduceNeg, upm_eq, upm_r, upm_i, if_pos, if_neg, ite_self, true_or, or_true, true_and, and_true, false_or, or_false, false_and, and_false, wr_id, i10, i01, upr_f, upr_eq, thr58, upm_upr, upr_upr, lc_lt, lc_gt, lc_ge, lc_le, afit1, afit0, afitI, bifit, not_true_eq_false, not_false_eq_true, if_true, if_false, Bool.false_eq_true, reduceCtorEq, k1557, k1558, g1557_2, hv, xg]
  | succ d ih =>
    intro x v x0 hx hv
    obtain ⟨v', e0, e1, e2⟩ := ih (x + 1) (upm (upm v (125 + 4 * n) x.toNat (v (125 + 4 * n) (x + 1).toNat)) (126 + 4 * n) x.toNat (v (126 + 4 * n) (x + 1).toNat)) (by omega) (by omega) (by rw [upm_rf (by omega), upm_rf (by omega)]; exact hv)
    refine ⟨v', ?_, fun q q1 q2 => by rw [e1 q q1 q2, upm_rf q2, upm_rf q1], fun j => ?_⟩
    · rw [← e0]
      have xg : ¬ x ≥ g := by omega
      rw [B_X2_removeGap_12]; simp (disch := first | assumption | omega) only [kq21, kq22, kq23, kq24, kq25, kq26, kq27, kq28, kq29, kq30, kq31, kq32, kq123, gq21_0, gq21_1, gq21_2, gq21_3, gq22_0, gq22_1, gq22_2, gq22_3, gq22_4, gq22_5, gq22_6, gq31_0, gq123_j, gq32_j, kq124_l, kq125_l, kq126_l, kq127_l, gq124_2, gq124_3, gq124_4, kq33_p, kq34_p, kq35_p, gq33_6, gq33_7, B_X2_removeGap_0, Option.bind_some, back_v, Option.toList_some, Option.toList_none, List.cons_append, List.nil_append, Nat.reduceAdd, Int.reduceToNat, Int.reduceNeg, upm_eq, upm_r, upm_i, if_pos, if_neg, ite_self, true_or, or_true, true_and, and_true, false_or, or_false, false_and, and_false, wr_id, i10, i01, upr_f, upr_eq, thr58, upm_upr, upr_upr, lc_lt, lc_gt, lc_ge, lc_le, afit1, afit0, afitI, bifit, not_true_eq_false, not_false_eq_true, if_true, if_false, Bool.false_eq_true, reduceCtorEq, k1557, k1558, g1557_2, hv, xg, upm_rf]
    · obtain ⟨e3, e4⟩ := e2 j
      rw [e3, e4]
      simp only [upm_rf (show 125 + 4 * n ≠ 126 + 4 * n by omega), upm_rf (show 126 + 4 * n ≠ 125 + 4 * n by omega)]
      by_cases h1 : x + 1 ≤ j ∧ (j : Int) < g
      · rw [if_pos h1, if_pos h1, if_pos (by omega), if_pos (by omega), upm_i (by omega), upm_i (by omega), upm_rf (by omega)]
        exact ⟨rfl, rfl⟩
      · rw [if_neg h1, if_neg h1]
        by_cases h2 : (j : Int) = x
        · have : j = x.toNat := by omega
          subst this
          rw [if_pos (by omega), if_pos (by omega), upm_eq, upm_eq, show (x + 1).toNat = x.toNat + 1 from by omega]
          exact ⟨rfl, rfl⟩
        · rw [if_neg (by omega), if_neg (by omega), upm_i (by omega), upm_i (by omega), upm_rf (by omega)]
          exact ⟨rfl, rfl⟩
theorem M_drop_loop {l i : Int} {u : Nat → Nat → Int} (hl : 0 ≤ l ∧ l ≤ 5) : ∀ (d : Nat) (x : Int) (s : Nat → Int), 2 ≤ x → x + d = 8 → a_X 287 51 [a_r 1557, a_i l, a_i i, a_i x] [] (K0 L, upr u 1558 s, G a, t) = a_X 287 51 [a_r 1557, a_i l, a_i i, a_i 8] [] (K0 L, upr u 1558 (itA d x s (mDrpK l)), G a, t) := by
  intro d
  induction d with
  | zero =>
    intro x s x0 hx
    have : x = 8 := by omega
    subst this
    rfl
  | succ d ih =>
    intro x s x0 hx
    rw [itA, ← ih (x + 1) _ (by omega) (by omega)]
    have xg : ¬ x + 2 ≥ 10 := by omega
    have q1 := M_ofListener (L := L) (u := upr u 1558 s) (a := a) (t := t) (l := l) (w := x + 2) hl (by omega)
    have q2 := M_putsListener (L := L) (u := upr u 1558 s) (a := a) (t := t) (l := l) (w := x) (v := mLi s l (x + 2)) hl (by omega)
    rw [upr_row2] at q1
    rw [upm_up1, upr_row2, upr_upr] at q2
    have z1 : wr (x + 2) = x + 2 := wr_id (by omega) (by omega)
    have z2 : wr (x + 1) = x + 1 := wr_id (by omega) (by omega)
    rw [B_X11_dropGap_51]; simp (disch := first | assumption | omega) only [B_X11_dropGap_0, B_X11_dropGap_5, B_X11_dropGap_18, B_X11_dropGap_24, B_X11_dropGap_36, B_X11_dropGap_45, B_X11_dropGap_88, B_X11_dropGap_70, B_X11_dropGap_93, B_X11_dropGap_73, B_X11_dropGap_99, Option.bind_some, back_v, Option.toList_some, Option.toList_none, List.cons_append, List.nil_append, Nat.reduceAdd, Int.reduceToNat, Int.reduceNeg, upm_eq, upm_r, upm_i, if_pos, if_neg, ite_self, true_or, or_true, true_and, and_true, false_or, or_false, false_and, and_false, wr_id, i10, i01, upr_f, upr_eq, thr58, upm_upr, upr_upr, lc_lt, lc_gt, lc_ge, lc_le, afit1, afit0, afitI, bifit, not_true_eq_false, not_false_eq_true, if_true, if_false, Bool.false_eq_true, reduceCtorEq, k1557, k1558, g1557_2, xg, q1, q2, z1, z2]
    rfl
theorem op_dropGap {l i : Int} : OP L 136 287 [a_i l, a_i i] e2 := by
  intro c v w a t c0 c1 hX
  have be := fun pc len e ls st σ => pub_e (m := 136) (pc := pc) (len := len) (e := e) (ls := ls) (st := st) (σ := σ) (by decide)
  by_cases hv : v 18 8 = 0
  · have hw := XX_ld0 hX hv
    have cn := C_need_bad (L := L) (a := a) (t := t) hv
    have mn := M_noListener0 (L := L) (a := a) (t := t) (u := w) (l := l) hw
    exact OPc_bad (e := 1) (z := 0) (cd := 1) hX (by decide) (by simp (disch := first | assumption | omega) only [k18, g18_0, g18_1, g18_2, g18_3, g18_4, g18_5, g18_6, g18_7, E_X10_dropGap, B_X10_dropGap_0, B_X10_dropGap_4, B_X10_dropGap_9, B_X10_dropGap_51, B_X10_dropGap_64, Option.bind_some, back_v, Option.toList_some, Option.toList_none, List.cons_append, List.nil_append, Nat.reduceAdd, Int.reduceToNat, Int.reduceNeg, upm_eq, upm_r, upm_i, if_pos, if_neg, ite_self, true_or, or_true, true_and, and_true, false_or, or_false, false_and, and_false, wr_id, i10, i01, upr_f, upr_eq, thr58, upm_upr, upr_upr, lc_lt, lc_gt, lc_ge, lc_le, afit1, afit0, afitI, bifit, not_true_eq_false, not_false_eq_true, if_true, if_false, Bool.false_eq_true, reduceCtorEq, k1557, k1558, g1557_2, cn, be]) (by simp (disch := first | assumption | omega) only [E_X11_dropGap, B_X11_dropGap_0, B_X11_dropGap_5, B_X11_dropGap_18, B_X11_dropGap_24, B_X11_dropGap_36, B_X11_dropGap_45, B_X11_dropGap_88, B_X11_dropGap_70, B_X11_dropGap_93, B_X11_dropGap_73, B_X11_dropGap_99, Option.bind_some, back_v, Option.toList_some, Option.toList_none, List.cons_append, List.nil_append, Nat.reduceAdd, Int.reduceToNat, Int.reduceNeg, upm_eq, upm_r, upm_i, if_pos, if_neg, ite_self, true_or, or_true, true_and, and_true, false_or, or_false, false_and, and_false, wr_id, i10, i01, upr_f, upr_eq, thr58, upm_upr, upr_upr, lc_lt, lc_gt, lc_ge, lc_le, afit1, afit0, afitI, bifit, not_true_eq_false, not_false_eq_true, if_true, if_false, Bool.false_eq_true, reduceCtorEq, k1557, k1558, g1557_2, mn])
  obtain ⟨hw, hS⟩ := XX_ld hX hv
  obtain ⟨⟨n3, n3a, n3b⟩, ⟨n2, n2a, n2b⟩, ⟨n4, n4a, n4b⟩, ⟨n1, n1a, n1b⟩, ⟨n0, n0a, n0b⟩, n5, n6⟩ := RS_n hS
  have hR : isRad 21 := .inl rfl
  have hM := hS.2.1
  have hW : upm w 1557 0 0 1558 = w 1558 := upm_rf (by decide)
  have cn := C_need (L := L) (a := a) (t := t) hv
  by_cases hl : l < 0 ∨ w 1558 3 ≤ l
  · have cl := C_needL_bad (L := L) (a := a) (t := t) (v := v) (l := l) (by omega)
    have mn := M_noListener2 (L := L) (a := a) (t := t) (u := w) (l := l) hw (by omega) (inB_f (by omega))
    exact OPc_bad (e := 2) (z := 0) (cd := 2) hX (by decide) (by simp (disch := first | assumption | omega) only [k18, g18_0, g18_1, g18_2, g18_3, g18_4, g18_5, g18_6, g18_7, E_X10_dropGap, B_X10_dropGap_0, B_X10_dropGap_4, B_X10_dropGap_9, B_X10_dropGap_51, B_X10_dropGap_64, Option.bind_some, back_v, Option.toList_some, Option.toList_none, List.cons_append, List.nil_append, Nat.reduceAdd, Int.reduceToNat, Int.reduceNeg, upm_eq, upm_r, upm_i, if_pos, if_neg, ite_self, true_or, or_true, true_and, and_true, false_or, or_false, false_and, and_false, wr_id, i10, i01, upr_f, upr_eq, thr58, upm_upr, upr_upr, lc_lt, lc_gt, lc_ge, lc_le, afit1, afit0, afitI, bifit, not_true_eq_false, not_false_eq_true, if_true, if_false, Bool.false_eq_true, reduceCtorEq, k1557, k1558, g1557_2, cn, cl, be]) (by simp (disch := first | assumption | omega) only [E_X11_dropGap, B_X11_dropGap_0, B_X11_dropGap_5, B_X11_dropGap_18, B_X11_dropGap_24, B_X11_dropGap_36, B_X11_dropGap_45, B_X11_dropGap_88, B_X11_dropGap_70, B_X11_dropGap_93, B_X11_dropGap_73, B_X11_dropGap_99, Option.bind_some, back_v, Option.toList_some, Option.toList_none, List.cons_append, List.nil_append, Nat.reduceAdd, Int.reduceToNat, Int.reduceNeg, upm_eq, upm_r, upm_i, if_pos, if_neg, ite_self, true_or, or_true, true_and, and_true, false_or, or_false, false_and, and_false, wr_id, i10, i01, upr_f, upr_eq, thr58, upm_upr, upr_upr, lc_lt, lc_gt, lc_ge, lc_le, afit1, afit0, afitI, bifit, not_true_eq_false, not_false_eq_true, if_true, if_false, Bool.false_eq_true, reduceCtorEq, k1557, k1558, g1557_2, mn])
  have hl2 : 0 ≤ l ∧ l < w 1558 3 := by omega
  have cl := C_needL (L := L) (a := a) (t := t) (v := v) (l := l) (by omega)
  have mnA := fun aa : Nat → Nat → Nat => M_noListener (L := L) (a := aa) (t := t) (u := w) (l := l) hw (by omega) (inB_t (by omega) (by omega))
  have mn := mnA a
  obtain ⟨C, hC⟩ := hS.1
  have hL := hM.2.2.2.2.2.2.2 l hl2.1 hl2.2
  have hg1 := (hC.2.2.2.2.2.1 l hl2.1 hl2.2).2.1
  rw [vw_at (by omega), show 21 + (103 + 4 * l.toNat) = 124 + 4 * l.toNat from by omega] at hg1
  have p1 := M_ofListener (L := L) (u := upm w 1557 0 0) (a := a) (t := t) (l := l) (w := 1) (by omega) (by decide)
  rw [hW] at p1
  have l6 : l < ((6 : Nat) : Int) := by omega
  have z0 : wr (mLi (w 1558) l 1 - 1) = mLi (w 1558) l 1 - 1 := wr_id (by omega) (by omega)
  by_cases hb : i < 0 ∨ mLi (w 1558) l 1 ≤ i
  · have rb := M_refuse1 (L := L) (u := w) (a := a) (t := t) (c := 2) (by decide)
    have ib : inB i 0 (mLi (w 1558) l 1 - 1) = false := inB_f (by omega)
    refine OPc_bad (e := 2) (z := 0) (cd := 2) hX (by decide) ?_ (by simp (disch := first | assumption | omega) only [E_X11_dropGap, B_X11_dropGap_0, B_X11_dropGap_5, B_X11_dropGap_18, B_X11_dropGap_24, B_X11_dropGap_36, B_X11_dropGap_45, B_X11_dropGap_88, B_X11_dropGap_70, B_X11_dropGap_93, B_X11_dropGap_73, B_X11_dropGap_99, Option.bind_some, back_v, Option.toList_some, Option.toList_none, List.cons_append, List.nil_append, Nat.reduceAdd, Int.reduceToNat, Int.reduceNeg, upm_eq, upm_r, upm_i, if_pos, if_neg, ite_self, true_or, or_true, true_and, and_true, false_or, or_false, false_and, and_false, wr_id, i10, i01, upr_f, upr_eq, thr58, upm_upr, upr_upr, lc_lt, lc_gt, lc_ge, lc_le, afit1, afit0, afitI, bifit, not_true_eq_false, not_false_eq_true, if_true, if_false, Bool.false_eq_true, reduceCtorEq, k1557, k1558, g1557_2, mn, M_in, p1, z0, ib, bi_f, rb])
    by_cases hi : i < 0
    · simp (disch := first | assumption | omega) only [k18, g18_0, g18_1, g18_2, g18_3, g18_4, g18_5, g18_6, g18_7, kq21, kq22, kq23, kq24, kq25, kq26, kq27, kq28, kq29, kq30, kq31, kq32, kq123, gq21_0, gq21_1, gq21_2, gq21_3, gq22_0, gq22_1, gq22_2, gq22_3, gq22_4, gq22_5, gq22_6, gq31_0, gq123_j, gq32_j, kq124_l, kq125_l, kq126_l, kq127_l, gq124_2, gq124_3, gq124_4, kq33_p, kq34_p, kq35_p, gq33_6, gq33_7, E_X10_dropGap, B_X10_dropGap_0, B_X10_dropGap_4, B_X10_dropGap_9, B_X10_dropGap_51, B_X10_dropGap_64, Option.bind_some, back_v, Option.toList_some, Option.toList_none, List.cons_append, List.nil_append, Nat.reduceAdd, Int.reduceToNat, Int.reduceNeg, upm_eq, upm_r, upm_i, if_pos, if_neg, ite_self, true_or, or_true, true_and, and_true, false_or, or_false, false_and, and_false, wr_id, i10, i01, upr_f, upr_eq, thr58, upm_upr, upr_upr, lc_lt, lc_gt, lc_ge, lc_le, afit1, afit0, afitI, bifit, not_true_eq_false, not_false_eq_true, if_true, if_false, Bool.false_eq_true, reduceCtorEq, k1557, k1558, g1557_2, cn, cl, hi, be]
    · have hi2 : ¬ i < mLi (w 1558) l 1 := by omega
      simp (disch := first | assumption | omega) only [k18, g18_0, g18_1, g18_2, g18_3, g18_4, g18_5, g18_6, g18_7, kq21, kq22, kq23, kq24, kq25, kq26, kq27, kq28, kq29, kq30, kq31, kq32, kq123, gq21_0, gq21_1, gq21_2, gq21_3, gq22_0, gq22_1, gq22_2, gq22_3, gq22_4, gq22_5, gq22_6, gq31_0, gq123_j, gq32_j, kq124_l, kq125_l, kq126_l, kq127_l, gq124_2, gq124_3, gq124_4, kq33_p, kq34_p, kq35_p, gq33_6, gq33_7, E_X10_dropGap, B_X10_dropGap_0, B_X10_dropGap_4, B_X10_dropGap_9, B_X10_dropGap_51, B_X10_dropGap_64, Option.bind_some, back_v, Option.toList_some, Option.toList_none, List.cons_append, List.nil_append, Nat.reduceAdd, Int.reduceToNat, Int.reduceNeg, upm_eq, upm_r, upm_i, if_pos, if_neg, ite_self, true_or, or_true, true_and, and_true, false_or, or_false, false_and, and_false, wr_id, i10, i01, upr_f, upr_eq, thr58, upm_upr, upr_upr, lc_lt, lc_gt, lc_ge, lc_le, afit1, afit0, afitI, bifit, not_true_eq_false, not_false_eq_true, if_true, if_false, Bool.false_eq_true, reduceCtorEq, k1557, k1558, g1557_2, cn, cl, hi, hg1, hi2, be]
  · obtain ⟨v1, w1, hk, c1, m1⟩ := keepOp (L := L) (t := t) hX hv
    obtain ⟨k1, k2, k3, k4, k5, k6, hS1, w58⟩ := hk
    have hi : ¬ i < 0 := by omega
    have hi2 : i < mLi (w 1558) l 1 := by omega
    have ib : inB i 0 (mLi (w 1558) l 1 - 1) = true := inB_t (by omega) (by omega)
    have rb := M_refuse0 (L := L) (u := w) (a := a) (t := t) (c := 2)
    have hg2 : v1 (124 + 4 * l.toNat) 1 = mLi (w 1558) l 1 := by
      obtain ⟨C, hC⟩ := hS1.1
      have := (hC.2.2.2.2.2.1 l hl2.1 hl2.2).2.1
      rwa [vw_at (by omega), show 21 + (103 + 4 * l.toNat) = 124 + 4 * l.toNat from by omega] at this
    obtain ⟨v2, e0, e1, e2⟩ := C_removeGap (L := L) (a := a) (t := t) (n := l.toNat) (i := i) (g := mLi (w 1558) l 1 - 1) (by omega) (by omega) (mLi (w 1558) l 1 - 1 - i).toNat i (upm v1 (124 + 4 * l.toNat) 1 (mLi (w 1558) l 1 - 1)) (by omega) (by omega) upm_eq
    have e0' : a_m 19 [a_r (124 + 4 * l.toNat), a_i i] (K0 L, v1, G a, t) = some (.inl none, (K0 L, v2, G a, t)) := by
      rw [← e0]
      simp (disch := first | assumption | omega) only [kq21, kq22, kq23, kq24, kq25, kq26, kq27, kq28, kq29, kq30, kq31, kq32, kq123, gq21_0, gq21_1, gq21_2, gq21_3, gq22_0, gq22_1, gq22_2, gq22_3, gq22_4, gq22_5, gq22_6, gq31_0, gq123_j, gq32_j, kq124_l, kq125_l, kq126_l, kq127_l, gq124_2, gq124_3, gq124_4, kq33_p, kq34_p, kq35_p, gq33_6, gq33_7, E_X2_removeGap, B_X2_removeGap_0, Option.bind_some, back_v, Option.toList_some, Option.toList_none, List.cons_append, List.nil_append, Nat.reduceAdd, Int.reduceToNat, Int.reduceNeg, upm_eq, upm_r, upm_i, if_pos, if_neg, ite_self, true_or, or_true, true_and, and_true, false_or, or_false, false_and, and_false, wr_id, i10, i01, upr_f, upr_eq, thr58, upm_upr, upr_upr, lc_lt, lc_gt, lc_ge, lc_le, afit1, afit0, afitI, bifit, not_true_eq_false, not_false_eq_true, if_true, if_false, Bool.false_eq_true, reduceCtorEq, k1557, k1558, g1557_2, hg2, z0]
    have m1' := m1 a t
    have dl := M_drop_loop (L := L) (a := a) (t := t) (u := w1) (l := l) (i := i) (by omega) (6 - 2 * i).toNat (2 + 2 * i) (w 1558) (by omega) (by omega)
    have q1 := M_ofListener (L := L) (u := upr w1 1558 (itA (6 - 2 * i).toNat (2 + 2 * i) (w 1558) (mDrpK l))) (a := a) (t := t) (l := l) (w := 1) (by omega) (by decide)
    have hz : mLi (itA (6 - 2 * i).toNat (2 + 2 * i) (w 1558) (mDrpK l)) l 1 = mLi (w 1558) l 1 := by
      rw [drp_li hl2.1 _ _ _ (by omega) (by omega) 1 (by decide), if_neg (by omega)]
    rw [upr_row2, hz] at q1
    have q2 := M_putsListener (L := L) (u := upr w1 1558 (itA (6 - 2 * i).toNat (2 + 2 * i) (w 1558) (mDrpK l))) (a := a) (t := t) (l := l) (w := 1) (v := mLi (w 1558) l 1 - 1) (by omega) (by decide)
    rw [upm_up1, upr_row2, upr_upr] at q2
    have es : upr w1 1558 (w 1558) = w1 := by rw [← w58]; exact upr_self
    rw [es] at dl
    have q3 := M_ofListener (L := L) (u := upr w1 1558 (mDrop (w 1558) l i)) (a := a) (t := t) (l := l) (w := 1) (by omega) (by decide)
    have hz2 : mLi (mDrop (w 1558) l i) l 1 = mLi (w 1558) l 1 - 1 := by rw [drop_li hl2.1 (by omega) (by decide), if_pos rfl]
    rw [upr_row2, hz2] at q3
    have e9 : v2 (124 + 4 * l.toNat) 1 = mLi (w 1558) l 1 - 1 := by rw [e1 _ (by omega) (by omega), upm_eq]
    refine OPc_kp (z := mLi (w 1558) l 1 - 1) (a' := a) (v2 := v2) (w2 := upr w1 1558 (mDrop (w 1558) l i)) hX hv ⟨k1, k2, k3, k4, k5, k6, hS1, w58⟩ (fun q hq => by rw [e1 q (by omega) (by omega), upm_rf (by omega)]) (fun q hq => by rw [upr_rf hq]) (fun _ _ => rfl) ?_ ?_ ?_
    · rw [upr_row2]
      refine RS_le (RS_O2 hS1 hl2 (drop_O2 hl2.1 (by omega)) ?_ ?_ (fun w w0 w1 => ?_) (fun C hC => ?_)) (show c ≤ c + 1 by omega)
      · rw [drop_li hl2.1 (by omega) (by decide), if_neg (by decide), if_neg (by omega)]; exact hL.1
      · rw [hz2]; omega
      · rw [drop_li hl2.1 (by omega) (by omega), if_neg (by omega), if_neg (by omega)]
      · refine rel_dropGap hC hM hl2 (by omega) (fun q q1 q2 q3 => ?_) (fun j hj => ?_) ?_ (fun j j0 j1 => ?_)
        · funext j
          simp only [vw]
          by_cases hq : q < 127
          · rw [if_pos hq, if_pos hq, e1 _ (by omega) (by omega), upm_rf (by omega)]
          · rw [if_neg hq, if_neg hq]
        · rw [vw_at (by omega), vw_at (by omega), show 21 + (103 + 4 * l.toNat) = 124 + 4 * l.toNat from by omega, e1 _ (by omega) (by omega), upm_i hj]
        · rw [vw_at (by omega), show 21 + (103 + 4 * l.toNat) = 124 + 4 * l.toNat from by omega]; exact e9
        · rw [vw_at (by omega), vw_at (by omega), vw_at (by omega), vw_at (by omega), show 21 + (104 + 4 * l.toNat) = 125 + 4 * l.toNat from by omega, show 21 + (105 + 4 * l.toNat) = 126 + 4 * l.toNat from by omega, (e2 j.toNat).1, (e2 j.toNat).2, upm_rf (by omega), upm_rf (by omega)]
          by_cases hij : i ≤ j
          · simp only [if_pos hij]; rw [if_pos (by omega), if_pos (by omega), show (j + 1).toNat = j.toNat + 1 from by omega]
            exact ⟨rfl, rfl⟩
          · simp only [if_neg hij]; rw [if_neg (by omega), if_neg (by omega)]
            exact ⟨rfl, rfl⟩
    · simp (disch := first | assumption | omega) only [k18, g18_0, g18_1, g18_2, g18_3, g18_4, g18_5, g18_6, g18_7, k275, k276, g275_0, g276, kq21, kq22, kq23, kq24, kq25, kq26, kq27, kq28, kq29, kq30, kq31, kq32, kq123, gq21_0, gq21_1, gq21_2, gq21_3, gq22_0, gq22_1, gq22_2, gq22_3, gq22_4, gq22_5, gq22_6, gq31_0, gq123_j, gq32_j, kq124_l, kq125_l, kq126_l, kq127_l, gq124_2, gq124_3, gq124_4, kq33_p, kq34_p, kq35_p, gq33_6, gq33_7, E_X10_dropGap, B_X10_dropGap_0, B_X10_dropGap_4, B_X10_dropGap_9, B_X10_dropGap_51, B_X10_dropGap_64, Option.bind_some, back_v, Option.toList_some, Option.toList_none, List.cons_append, List.nil_append, Nat.reduceAdd, Int.reduceToNat, Int.reduceNeg, upm_eq, upm_r, upm_i, if_pos, if_neg, ite_self, true_or, or_true, true_and, and_true, false_or, or_false, false_and, and_false, wr_id, i10, i01, upr_f, upr_eq, thr58, upm_upr, upr_upr, lc_lt, lc_gt, lc_ge, lc_le, afit1, afit0, afitI, bifit, not_true_eq_false, not_false_eq_true, if_true, if_false, Bool.false_eq_true, reduceCtorEq, k1557, k1558, g1557_2, cn, cl, hi, hg1, hi2, c1, e0', e9]
    · have z1 : wr (2 * i) = 2 * i := wr_id (by omega) (by omega)
      have z2 : wr (2 + 2 * i) = 2 + 2 * i := wr_id (by omega) (by omega)
      simp (disch := first | assumption | omega) only [E_X11_dropGap, B_X11_dropGap_0, B_X11_dropGap_5, B_X11_dropGap_18, B_X11_dropGap_24, B_X11_dropGap_36, B_X11_dropGap_45, B_X11_dropGap_88, B_X11_dropGap_70, B_X11_dropGap_93, B_X11_dropGap_73, B_X11_dropGap_99, Option.bind_some, back_v, Option.toList_some, Option.toList_none, List.cons_append, List.nil_append, Nat.reduceAdd, Int.reduceToNat, Int.reduceNeg, upm_eq, upm_r, upm_i, if_pos, if_neg, ite_self, true_or, or_true, true_and, and_true, false_or, or_false, false_and, and_false, wr_id, i10, i01, upr_f, upr_eq, thr58, upm_upr, upr_upr, lc_lt, lc_gt, lc_ge, lc_le, afit1, afit0, afitI, bifit, not_true_eq_false, not_false_eq_true, if_true, if_false, Bool.false_eq_true, reduceCtorEq, k1557, k1558, g1557_2, mn, M_in, p1, z0, ib, bi_t, rb, m1', z1, z2]
      rw [dl]
      have w10 : wr (8 + 2) ≥ 10 := by decide
      rw [B_X11_dropGap_51]
      simp (disch := first | assumption | omega) only [B_X11_dropGap_0, B_X11_dropGap_5, B_X11_dropGap_18, B_X11_dropGap_24, B_X11_dropGap_36, B_X11_dropGap_45, B_X11_dropGap_88, B_X11_dropGap_70, B_X11_dropGap_93, B_X11_dropGap_73, B_X11_dropGap_99, Option.bind_some, back_v, Option.toList_some, Option.toList_none, List.cons_append, List.nil_append, Nat.reduceAdd, Int.reduceToNat, Int.reduceNeg, upm_eq, upm_r, upm_i, if_pos, if_neg, ite_self, true_or, or_true, true_and, and_true, false_or, or_false, false_and, and_false, wr_id, i10, i01, upr_f, upr_eq, thr58, upm_upr, upr_upr, lc_lt, lc_gt, lc_ge, lc_le, afit1, afit0, afitI, bifit, not_true_eq_false, not_false_eq_true, if_true, if_false, Bool.false_eq_true, reduceCtorEq, k1557, k1558, g1557_2, w10, q1, z0]
      rw [q2]
      simp (disch := first | assumption | omega) only [B_X11_dropGap_0, B_X11_dropGap_5, B_X11_dropGap_18, B_X11_dropGap_24, B_X11_dropGap_36, B_X11_dropGap_45, B_X11_dropGap_88, B_X11_dropGap_70, B_X11_dropGap_93, B_X11_dropGap_73, B_X11_dropGap_99, Option.bind_some, back_v, Option.toList_some, Option.toList_none, List.cons_append, List.nil_append, Nat.reduceAdd, Int.reduceToNat, Int.reduceNeg, upm_eq, upm_r, upm_i, if_pos, if_neg, ite_self, true_or, or_true, true_and, and_true, false_or, or_false, false_and, and_false, wr_id, i10, i01, upr_f, upr_eq, thr58, upm_upr, upr_upr, lc_lt, lc_gt, lc_ge, lc_le, afit1, afit0, afitI, bifit, not_true_eq_false, not_false_eq_true, if_true, if_false, Bool.false_eq_true, reduceCtorEq, k1557, k1558, g1557_2]
      rw [show up1 (itA (6 - 2 * i).toNat (2 + 2 * i) (w 1558) (mDrpK l)) (436 + 19 * l + 1).toNat (mLi (w 1558) l 1 - 1) = mDrop (w 1558) l i from rfl, q3]
      simp (disch := first | assumption | omega) only [B_X11_dropGap_0, B_X11_dropGap_5, B_X11_dropGap_18, B_X11_dropGap_24, B_X11_dropGap_36, B_X11_dropGap_45, B_X11_dropGap_88, B_X11_dropGap_70, B_X11_dropGap_93, B_X11_dropGap_73, B_X11_dropGap_99, Option.bind_some, back_v, Option.toList_some, Option.toList_none, List.cons_append, List.nil_append, Nat.reduceAdd, Int.reduceToNat, Int.reduceNeg, upm_eq, upm_r, upm_i, if_pos, if_neg, ite_self, true_or, or_true, true_and, and_true, false_or, or_false, false_and, and_false, wr_id, i10, i01, upr_f, upr_eq, thr58, upm_upr, upr_upr, lc_lt, lc_gt, lc_ge, lc_le, afit1, afit0, afitI, bifit, not_true_eq_false, not_false_eq_true, if_true, if_false, Bool.false_eq_true, reduceCtorEq, k1557, k1558, g1557_2]
theorem M_fetch_loop {l z : Int} {u : Nat → Nat → Int} (hl : 0 ≤ l ∧ l ≤ 5) : ∀ (d : Nat) (x : Int) (s : Nat → Int), 0 ≤ x → x + d = 12 → a_X 290 23 [a_r 1557, a_i l, a_i z, a_i x] [] (K0 L, upr u 1558 s, G a, t) = a_X 290 23 [a_r 1557, a_i l, a_i z, a_i 12] [] (K0 L, upr u 1558 (itA d x s (mFetK l)), G a, t) := by
  intro d
  induction d with
  | zero =>
    intro x s x0 hx
    have : x = 12 := by omega
    subst this
    rfl
  | succ d ih =>
    intro x s x0 hx
    rw [itA, ← ih (x + 1) _ (by omega) (by omega)]
    have xg : ¬ x ≥ 12 := by omega
    have s1 := fun (σ : Nat → Nat → Int) => M_slotOf (u := σ) (t := t) (k := K0 L) (g := G a) (x := -1) (y := x) (by decide) (by omega)
    have s2 := fun (σ : Nat → Nat → Int) => M_slotOf (u := σ) (t := t) (k := K0 L) (g := G a) (x := l) (y := x) (by omega) (by omega)
    have q1 := M_laysSlot (L := L) (u := upr u 1558 s) (a := a) (t := t) (f := 16 + 60 * (-1 + 1) + 5 * x) (g := 16 + 60 * (l + 1) + 5 * x) (by omega) (by omega) (by omega)
    rw [upr_row2, upr_upr] at q1
    have z2 : wr (x + 1) = x + 1 := wr_id (by omega) (by omega)
    rw [B_X11_fetch_23]; simp (disch := first | assumption | omega) only [B_X11_fetch_0, B_X11_fetch_5, B_X11_fetch_14, B_X11_fetch_20, B_X11_fetch_66, B_X11_fetch_35, B_X11_fetch_72, B_X11_fetch_40, B_X11_fetch_43, Option.bind_some, back_v, Option.toList_some, Option.toList_none, List.cons_append, List.nil_append, Nat.reduceAdd, Int.reduceToNat, Int.reduceNeg, upm_eq, upm_r, upm_i, if_pos, if_neg, ite_self, true_or, or_true, true_and, and_true, false_or, or_false, false_and, and_false, wr_id, i10, i01, upr_f, upr_eq, thr58, upm_upr, upr_upr, lc_lt, lc_gt, lc_ge, lc_le, afit1, afit0, afitI, bifit, not_true_eq_false, not_false_eq_true, if_true, if_false, Bool.false_eq_true, reduceCtorEq, k1557, k1558, g1557_2, xg, s1, s2, q1, z2]
    rfl
theorem op_fetch {l : Int} : OP L 139 290 [a_i l] e2 := by
  intro c v w a t c0 c1 hX
  have be := fun pc len e ls st σ => pub_e (m := 139) (pc := pc) (len := len) (e := e) (ls := ls) (st := st) (σ := σ) (by decide)
  by_cases hv : v 18 8 = 0
  · have hw := XX_ld0 hX hv
    have cn := C_need_bad (L := L) (a := a) (t := t) hv
    have mn := M_noListener0 (L := L) (a := a) (t := t) (u := w) (l := l) hw
    exact OPc_bad (e := 1) (z := 0) (cd := 1) hX (by decide) (by simp (disch := first | assumption | omega) only [k18, g18_0, g18_1, g18_2, g18_3, g18_4, g18_5, g18_6, g18_7, E_X10_fetch, B_X10_fetch_0, B_X10_fetch_4, B_X10_fetch_9, B_X10_fetch_20, B_X10_fetch_28, B_X10_fetch_58, Option.bind_some, back_v, Option.toList_some, Option.toList_none, List.cons_append, List.nil_append, Nat.reduceAdd, Int.reduceToNat, Int.reduceNeg, upm_eq, upm_r, upm_i, if_pos, if_neg, ite_self, true_or, or_true, true_and, and_true, false_or, or_false, false_and, and_false, wr_id, i10, i01, upr_f, upr_eq, thr58, upm_upr, upr_upr, lc_lt, lc_gt, lc_ge, lc_le, afit1, afit0, afitI, bifit, not_true_eq_false, not_false_eq_true, if_true, if_false, Bool.false_eq_true, reduceCtorEq, k1557, k1558, g1557_2, cn, be]) (by simp (disch := first | assumption | omega) only [E_X11_fetch, B_X11_fetch_0, B_X11_fetch_5, B_X11_fetch_14, B_X11_fetch_20, B_X11_fetch_66, B_X11_fetch_35, B_X11_fetch_72, B_X11_fetch_40, B_X11_fetch_43, Option.bind_some, back_v, Option.toList_some, Option.toList_none, List.cons_append, List.nil_append, Nat.reduceAdd, Int.reduceToNat, Int.reduceNeg, upm_eq, upm_r, upm_i, if_pos, if_neg, ite_self, true_or, or_true, true_and, and_true, false_or, or_false, false_and, and_false, wr_id, i10, i01, upr_f, upr_eq, thr58, upm_upr, upr_upr, lc_lt, lc_gt, lc_ge, lc_le, afit1, afit0, afitI, bifit, not_true_eq_false, not_false_eq_true, if_true, if_false, Bool.false_eq_true, reduceCtorEq, k1557, k1558, g1557_2, mn])
  obtain ⟨hw, hS⟩ := XX_ld hX hv
  obtain ⟨⟨n3, n3a, n3b⟩, ⟨n2, n2a, n2b⟩, ⟨n4, n4a, n4b⟩, ⟨n1, n1a, n1b⟩, ⟨n0, n0a, n0b⟩, n5, n6⟩ := RS_n hS
  have hR : isRad 21 := .inl rfl
  have hM := hS.2.1
  have hW : upm w 1557 0 0 1558 = w 1558 := upm_rf (by decide)
  have cn := C_need (L := L) (a := a) (t := t) hv
  by_cases hl : l < 0 ∨ w 1558 3 ≤ l
  · have cl := C_needL_bad (L := L) (a := a) (t := t) (v := v) (l := l) (by omega)
    have mn := M_noListener2 (L := L) (a := a) (t := t) (u := w) (l := l) hw (by omega) (inB_f (by omega))
    exact OPc_bad (e := 2) (z := 0) (cd := 2) hX (by decide) (by simp (disch := first | assumption | omega) only [k18, g18_0, g18_1, g18_2, g18_3, g18_4, g18_5, g18_6, g18_7, E_X10_fetch, B_X10_fetch_0, B_X10_fetch_4, B_X10_fetch_9, B_X10_fetch_20, B_X10_fetch_28, B_X10_fetch_58, Option.bind_some, back_v, Option.toList_some, Option.toList_none, List.cons_append, List.nil_append, Nat.reduceAdd, Int.reduceToNat, Int.reduceNeg, upm_eq, upm_r, upm_i, if_pos, if_neg, ite_self, true_or, or_true, true_and, and_true, false_or, or_false, false_and, and_false, wr_id, i10, i01, upr_f, upr_eq, thr58, upm_upr, upr_upr, lc_lt, lc_gt, lc_ge, lc_le, afit1, afit0, afitI, bifit, not_true_eq_false, not_false_eq_true, if_true, if_false, Bool.false_eq_true, reduceCtorEq, k1557, k1558, g1557_2, cn, cl, be]) (by simp (disch := first | assumption | omega) only [E_X11_fetch, B_X11_fetch_0, B_X11_fetch_5, B_X11_fetch_14, B_X11_fetch_20, B_X11_fetch_66, B_X11_fetch_35, B_X11_fetch_72, B_X11_fetch_40, B_X11_fetch_43, Option.bind_some, back_v, Option.toList_some, Option.toList_none, List.cons_append, List.nil_append, Nat.reduceAdd, Int.reduceToNat, Int.reduceNeg, upm_eq, upm_r, upm_i, if_pos, if_neg, ite_self, true_or, or_true, true_and, and_true, false_or, or_false, false_and, and_false, wr_id, i10, i01, upr_f, upr_eq, thr58, upm_upr, upr_upr, lc_lt, lc_gt, lc_ge, lc_le, afit1, afit0, afitI, bifit, not_true_eq_false, not_false_eq_true, if_true, if_false, Bool.false_eq_true, reduceCtorEq, k1557, k1558, g1557_2, mn])
  have hl2 : 0 ≤ l ∧ l < w 1558 3 := by omega
  have cl := C_needL (L := L) (a := a) (t := t) (v := v) (l := l) (by omega)
  have mnA := fun aa : Nat → Nat → Nat => M_noListener (L := L) (a := aa) (t := t) (u := w) (l := l) hw (by omega) (inB_t (by omega) (by omega))
  have mn := mnA a
  obtain ⟨C, hC⟩ := hS.1
  have hL := hM.2.2.2.2.2.2.2 l hl2.1 hl2.2
  have l6 : l < ((6 : Nat) : Int) := by omega
  obtain ⟨v1, w1, hk, c1, m1⟩ := keepOp (L := L) (t := t) hX hv
  obtain ⟨k1, k2, k3, k4, k5, k6, hS1, w58⟩ := hk
  have m1' := m1 a t
  obtain ⟨C1, hC1⟩ := hS1.1
  have d1 := C_differing (L := L) (t := t) (u := v1) (R := 21) (l := l) hR hC1 hM hl2
  have d2 := M_differing (L := L) (u := w1) (a := a) (t := t) (l := l) (o := -1) (by omega) (by decide)
  rw [w58] at d2
  obtain ⟨-, ⟨n2', -, -⟩, -⟩ := RS_n hS1
  obtain ⟨f1, f2⟩ := fet_of (l := l) (by omega) 12 0 (w 1558) (by decide) (by decide)
  have es : upr w1 1558 (w 1558) = w1 := by rw [← w58]; exact upr_self
  have fl := M_fetch_loop (L := L) (a := a) (t := t) (u := w1) (l := l) (z := mDiff (w 1558) l (-1)) (by omega) 12 0 (w 1558) (by decide) (by decide)
  rw [es] at fl
  have q1 := M_ofListener (L := L) (u := upr w1 1558 (itA 12 0 (w 1558) (mFetK l))) (a := a) (t := t) (l := l) (w := 10) (by omega) (by decide)
  have hz : mLi (itA 12 0 (w 1558) (mFetK l)) l 10 = mLi (w 1558) l 10 := by unfold mLi; rw [f2 _ (by omega)]
  rw [upr_row2, hz] at q1
  have q2 := M_putsListener (L := L) (u := upr w1 1558 (itA 12 0 (w 1558) (mFetK l))) (a := a) (t := t) (l := l) (w := 10) (v := max (w 1558 2) (mLi (w 1558) l 10)) (by omega) (by decide)
  rw [upm_up1, upr_row2, upr_upr] at q2
  have hz2 : itA 12 0 (w 1558) (mFetK l) 2 = w 1558 2 := f2 2 (by omega)
  refine OPc_kp (z := mDiff (w 1558) l (-1)) (a' := a) (v2 := upm (upr v1 (127 + 4 * l.toNat) (a_cpy (v1 30) (v1 (127 + 4 * l.toNat)) 0 0 12)) (124 + 4 * l.toNat) 5 (max (v1 (124 + 4 * l.toNat) 5) (w 1558 2))) (w2 := upr w1 1558 (mFetch (w 1558) l)) hX hv ⟨k1, k2, k3, k4, k5, k6, hS1, w58⟩ (fun q hq => by rw [upm_rf (by omega), upr_rf (by omega)]) (fun q hq => by rw [upr_rf hq]) (fun _ _ => rfl) ?_ ?_ ?_
  · rw [upr_row2]
    refine RS_le (RS_O2 hS1 hl2 (fetch_O2 (by omega)) ?_ ?_ (fun w w0 w1 => ?_) (fun C hC => ?_)) (show c ≤ c + 1 by omega)
    · rw [fetch_li (by omega) (by decide), if_neg (by decide)]; exact hL.1
    · rw [fetch_li (by omega) (by decide), if_neg (by decide)]; exact hL.2
    · rw [fetch_li (by omega) (by omega), if_neg (by omega)]
    · have hh := rel_fetch hC hM hl2
      rw [vw_at (by decide), vw_at (by omega), vw_at (by omega), ← vw_upr (R := 21) (c := 106 + 4 * l.toNat) (by omega), ← vw_upm (R := 21) (c := 103 + 4 * l.toNat) (by omega), show 21 + (106 + 4 * l.toNat) = 127 + 4 * l.toNat from by omega, show 21 + (103 + 4 * l.toNat) = 124 + 4 * l.toNat from by omega] at hh
      exact hh
  · have t1 : a_m 21 [a_r (124 + 4 * l.toNat), a_r 30, a_i (w 1558 2)] (K0 L, v1, G a, t) = some (.inl none, (K0 L, upm (upr v1 (127 + 4 * l.toNat) (a_cpy (v1 30) (v1 (127 + 4 * l.toNat)) 0 0 12)) (124 + 4 * l.toNat) 5 (max (v1 (124 + 4 * l.toNat) 5) (w 1558 2)), G a, t)) := by
      have hne : 30 ≠ 127 + 4 * l.toNat := by omega
      have hr2 : ∀ x, upr v1 (127 + 4 * l.toNat) x (124 + 4 * l.toNat) = v1 (124 + 4 * l.toNat) := fun x => upr_rf (by omega)
      simp (disch := first | assumption | omega) only [kq21, kq22, kq23, kq24, kq25, kq26, kq27, kq28, kq29, kq30, kq31, kq32, kq123, gq21_0, gq21_1, gq21_2, gq21_3, gq22_0, gq22_1, gq22_2, gq22_3, gq22_4, gq22_5, gq22_6, gq31_0, gq123_j, gq32_j, kq124_l, kq125_l, kq126_l, kq127_l, gq124_2, gq124_3, gq124_4, kq33_p, kq34_p, kq35_p, gq33_6, gq33_7, E_X2_takeList, B_X2_takeList_0, Option.bind_some, back_v, Option.toList_some, Option.toList_none, List.cons_append, List.nil_append, Nat.reduceAdd, Int.reduceToNat, Int.reduceNeg, upm_eq, upm_r, upm_i, if_pos, if_neg, ite_self, true_or, or_true, true_and, and_true, false_or, or_false, false_and, and_false, wr_id, i10, i01, upr_f, upr_eq, thr58, upm_upr, upr_upr, lc_lt, lc_gt, lc_ge, lc_le, afit1, afit0, afitI, bifit, not_true_eq_false, not_false_eq_true, if_true, if_false, Bool.false_eq_true, reduceCtorEq, k1557, k1558, g1557_2, hne, hr2, Int.reduceToNat]
    simp (disch := first | assumption | omega) only [k18, g18_0, g18_1, g18_2, g18_3, g18_4, g18_5, g18_6, g18_7, k275, k276, g275_0, g276, kq21, kq22, kq23, kq24, kq25, kq26, kq27, kq28, kq29, kq30, kq31, kq32, kq123, gq21_0, gq21_1, gq21_2, gq21_3, gq22_0, gq22_1, gq22_2, gq22_3, gq22_4, gq22_5, gq22_6, gq31_0, gq123_j, gq32_j, kq124_l, kq125_l, kq126_l, kq127_l, gq124_2, gq124_3, gq124_4, kq33_p, kq34_p, kq35_p, gq33_6, gq33_7, E_X10_fetch, B_X10_fetch_0, B_X10_fetch_4, B_X10_fetch_9, B_X10_fetch_20, B_X10_fetch_28, B_X10_fetch_58, Option.bind_some, back_v, Option.toList_some, Option.toList_none, List.cons_append, List.nil_append, Nat.reduceAdd, Int.reduceToNat, Int.reduceNeg, upm_eq, upm_r, upm_i, if_pos, if_neg, ite_self, true_or, or_true, true_and, and_true, false_or, or_false, false_and, and_false, wr_id, i10, i01, upr_f, upr_eq, thr58, upm_upr, upr_upr, lc_lt, lc_gt, lc_ge, lc_le, afit1, afit0, afitI, bifit, not_true_eq_false, not_false_eq_true, if_true, if_false, Bool.false_eq_true, reduceCtorEq, k1557, k1558, g1557_2, cn, cl, c1, d1, n2', t1]
  · simp (disch := first | assumption | omega) only [E_X11_fetch, B_X11_fetch_0, B_X11_fetch_5, B_X11_fetch_14, B_X11_fetch_20, B_X11_fetch_66, B_X11_fetch_35, B_X11_fetch_72, B_X11_fetch_40, B_X11_fetch_43, Option.bind_some, back_v, Option.toList_some, Option.toList_none, List.cons_append, List.nil_append, Nat.reduceAdd, Int.reduceToNat, Int.reduceNeg, upm_eq, upm_r, upm_i, if_pos, if_neg, ite_self, true_or, or_true, true_and, and_true, false_or, or_false, false_and, and_false, wr_id, i10, i01, upr_f, upr_eq, thr58, upm_upr, upr_upr, lc_lt, lc_gt, lc_ge, lc_le, afit1, afit0, afitI, bifit, not_true_eq_false, not_false_eq_true, if_true, if_false, Bool.false_eq_true, reduceCtorEq, k1557, k1558, g1557_2, mn, m1', d2]
    rw [fl]
    rw [B_X11_fetch_23]
    simp (disch := first | assumption | omega) only [B_X11_fetch_0, B_X11_fetch_5, B_X11_fetch_14, B_X11_fetch_20, B_X11_fetch_66, B_X11_fetch_35, B_X11_fetch_72, B_X11_fetch_40, B_X11_fetch_43, Option.bind_some, back_v, Option.toList_some, Option.toList_none, List.cons_append, List.nil_append, Nat.reduceAdd, Int.reduceToNat, Int.reduceNeg, upm_eq, upm_r, upm_i, if_pos, if_neg, ite_self, true_or, or_true, true_and, and_true, false_or, or_false, false_and, and_false, wr_id, i10, i01, upr_f, upr_eq, thr58, upm_upr, upr_upr, lc_lt, lc_gt, lc_ge, lc_le, afit1, afit0, afitI, bifit, not_true_eq_false, not_false_eq_true, if_true, if_false, Bool.false_eq_true, reduceCtorEq, k1557, k1558, g1557_2, q1, hz2, q2]
    rfl
end GAP
