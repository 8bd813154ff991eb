/-! ===== merged stops as operations ===== -/
theorem mgH_of {v : Nat → Nat → Int} {b : Nat → Nat} {C : List (Nat → Int)} {s : Nat → Int} {c l d : Int} (h : RelC (vw v 21) b C s) (hM : MI c s) (hl : -1 ≤ l ∧ l < s 3) (hd : 0 ≤ d) (wf : wfL (mOf s l)) : mgH v (21 + qOf l) (mOf s l) d := by
  have hM3 := hM.2.2.2.1
  have hM2 := hM.2.2.1
  intro k k0 k1
  obtain ⟨r1, r2, r3, r4⟩ := h.2.2.2.2.1 l hl.1 hl.2 k k0 k1
  rw [vw_at (by unfold qOf; split <;> omega)] at r1 r4
  have w0 := r4 0 (by decide) (by decide)
  have w1 := r4 1 (by decide) (by decide)
  have w2 := r4 2 (by decide) (by decide)
  have w3 := r4 3 (by decide) (by decide)
  unfold vW at w0 w1 w2 w3
  rw [if_pos rfl, vw_at (by decide)] at w0
  rw [if_neg (by decide), if_pos rfl, vw_at (by decide)] at w1
  rw [if_neg (by decide), if_neg (by decide), if_pos rfl, vw_at (by decide)] at w2
  rw [if_neg (by decide), if_neg (by decide), if_neg (by decide), vw_at (by decide)] at w3
  refine ⟨⟨r1.1, by omega⟩, w0.symm, w1.symm, w2.symm, w3.symm, fun hday => ?_⟩
  rcases wf k k0 k1 with hw | hw
  · omega
  · exact hw.2.2.2.1
section MGO
variable {L : Nat} {c : Int} {v w : Nat → Nat → Int} {a : Nat → Nat → Nat} {t : Nat × Nat × Nat}
theorem mergeBoth {l d : Int} (hX : XX c v w a) (hv : v 18 8 ≠ 0) (hl : -1 ≤ l ∧ l < w 1558 3) (hd : 0 ≤ d) : ∃ v' w' n, a_m 23 [a_r 1295, a_r 22, a_r (21 + qOf l), a_i d] (K0 L, v, G a, t) = some (.inl none, (K0 L, v', G a, t)) ∧ a_m 232 [a_r 1557, a_i l, a_i d] (K0 L, upm w 1557 0 0, G a, t) = some (.inl none, (K0 L, w', G a, t)) ∧ (∀ q, (q < 1295 ∨ 1300 < q) → v' q = v q) ∧ mgF (upm w 1557 0 0) w' ∧ v' 1295 4 = (n : Nat) ∧ w' 1557 22 = (n : Nat) ∧ n ≤ 12 ∧ (∀ i, i < n → v' 1296 i = w' 1563 i ∧ v' 1297 i = w' 1564 i ∧ v' 1298 i = w' 1565 i ∧ v' 1299 i = w' 1566 i) ∧ (∀ i, i < n → (0 ≤ v' 1296 i ∧ v' 1296 i ≤ 29) ∧ (0 ≤ v' 1297 i ∧ v' 1297 i ≤ 1439) ∧ (0 ≤ v' 1298 i ∧ v' 1298 i ≤ 1439)) := by
  obtain ⟨hw, hS⟩ := XX_ld hX hv
  obtain ⟨⟨n3, n3a, n3b⟩, -⟩ := RS_n hS
  have hM := hS.2.1
  obtain ⟨C, hC⟩ := hS.1
  have hW : upm w 1557 0 0 1558 = w 1558 := upm_rf (by decide)
  obtain ⟨eq, wf, vo, kq⟩ := rel_list (L := L) (R := 21) (l := l) (.inl rfl) hC hM hl
  have hm := mgH_of hC hM hl hd wf
  obtain ⟨v', n, g0, g1, g2, g3, g4⟩ := C_collect (L := L) (a := a) (t := t) (by unfold qOf; split <;> omega) kq hm
  obtain ⟨w', n', k0, k1, k2, k3, k4⟩ := M_merges (L := L) (a := a) (t := t) (l := l) (day := d) (w := upm w 1557 0 0) (by omega) hd (by
    rw [hW]
    intro k k0 k1
    rcases wf k k0 k1 with hw | hw
    · exact ⟨fun _ => hw.2.1, fun h => by have := hw.2.1; omega⟩
    · exact ⟨fun h => by have := hw.1; omega, fun _ => hw.2.2.2.1⟩)
  rw [hW] at k4
  obtain ⟨u1, u2⟩ := cnn_uniq g4 k4
  subst u1
  have hrng : ∀ j, ∀ m ∈ SLs (mOf (w 1558) l) d j, (j : Int) ≤ 12 → (0 ≤ m.1 ∧ m.1 ≤ 29) ∧ 0 ≤ m.2.1 ∧ m.2.1 < m.2.2 ∧ m.2.2 ≤ 1439 := by
    intro j
    induction j with
    | zero => intro m hm; exact absurd hm (by simp [SLs])
    | succ j ih =>
      intro m hm hj
      rw [SLs] at hm
      split at hm
      · rename_i hday
        rcases List.mem_cons.mp hm with hm | hm
        · subst hm
          rcases wf (j : Int) (by omega) (by omega) with hw | hw
          · have := hw.2.1; omega
          · exact ⟨hw.1, hw.2.2.1, hw.2.2.2.1, hw.2.2.2.2⟩
        · exact ih m hm (by omega)
      · exact ih m hm (by omega)
  refine ⟨v', w', n, g0, k0, g1, k1, g2, k3, g3, fun i hi => ?_, fun i hi => ?_⟩
  · obtain ⟨e1, e2, e3, e4⟩ := u2 i hi
    exact ⟨e1.symm, e2.symm, e3.symm, e4.symm⟩
  · have hbe := g4.2.1 i hi
    obtain ⟨m, hm, m1, m2, m3⟩ := g4.2.2.2.1 i hi (2 * v' 1297 i) (by omega) (by omega)
    obtain ⟨m', hm', m1', m2', m3'⟩ := g4.2.2.2.1 i hi (2 * v' 1298 i) (by omega) (by omega)
    have r := hrng 12 m hm (by decide)
    have r' := hrng 12 m' hm' (by decide)
    omega
theorem mgF_Mq {w' : Nat → Nat → Int} (h : mgF (upm w 1557 0 0) w') : Mq w w' ∧ w' 1557 0 = 0 := by
  refine ⟨fun q j h1 h2 h3 => ?_, by rw [h.2 0 (by decide), upm_eq]⟩
  by_cases hq : q = 1557
  · subst hq
    rw [h.2 j (by omega), upm_i (by omega)]
  · rw [h.1 q hq (by omega), upm_rf hq]
theorem op_merged {l d : Int} : OP L 104 234 [a_i l, a_i d] e3 := by
  intro c v w a t c0 c1 hX
  have be := fun pc len e ls st σ => pub_e (m := 104) (pc := pc) (len := len) (e := e) (ls := ls) (st := st) (σ := σ) (by decide)
  by_cases hv : v 18 8 = 0
  · have hw := XX_ld0 hX hv
    have cn := C_need_bad (L := L) (a := a) (t := t) hv
    have mn := M_noList0 (L := L) (a := a) (t := t) (u := w) (l := l) hw
    exact OPc_bad (e := 1) (z := 0) (cd := 1) hX (by decide) (by simp (disch := first | assumption | omega) only [k18, g18_0, g18_1, g18_2, g18_3, g18_4, g18_5, g18_6, g18_7, E_X10_merged, B_X10_merged_0, B_X10_merged_4, B_X10_merged_9, B_X10_merged_17, B_X10_merged_36, B_X10_merged_40, Option.bind_some, back_v, Option.toList_some, Option.toList_none, List.cons_append, List.nil_append, Nat.reduceAdd, Int.reduceToNat, Int.reduceNeg, upm_eq, upm_r, upm_i, if_pos, if_neg, ite_self, true_or, or_true, true_and, and_true, false_or, or_false, false_and, and_false, wr_id, i10, i01, upr_f, upr_eq, thr58, upm_upr, upr_upr, lc_lt, lc_gt, lc_ge, lc_le, afit1, afit0, afitI, bifit, not_true_eq_false, not_false_eq_true, if_true, if_false, Bool.false_eq_true, reduceCtorEq, k1557, k1558, g1557_2, cn, be]) (by simp (disch := first | assumption | omega) only [E_X11_merged, B_X11_merged_0, B_X11_merged_6, B_X11_merged_17, E_X11_noDay, B_X11_noDay_0, B_X11_noDay_5, B_X11_noDay_13, B_X11_noDay_25, Option.bind_some, back_v, Option.toList_some, Option.toList_none, List.cons_append, List.nil_append, Nat.reduceAdd, Int.reduceToNat, Int.reduceNeg, upm_eq, upm_r, upm_i, if_pos, if_neg, ite_self, true_or, or_true, true_and, and_true, false_or, or_false, false_and, and_false, wr_id, i10, i01, upr_f, upr_eq, thr58, upm_upr, upr_upr, lc_lt, lc_gt, lc_ge, lc_le, afit1, afit0, afitI, bifit, not_true_eq_false, not_false_eq_true, if_true, if_false, Bool.false_eq_true, reduceCtorEq, k1557, k1558, g1557_2, mn])
  obtain ⟨hw, hS⟩ := XX_ld hX hv
  obtain ⟨⟨n3, n3a, n3b⟩, ⟨n2, n2a, n2b⟩, ⟨n4, n4a, n4b⟩, ⟨n1, n1a, n1b⟩, ⟨n0, n0a, n0b⟩, n5, n6⟩ := RS_n hS
  have hR : isRad 21 := .inl rfl
  have hM := hS.2.1
  have hW : upm w 1557 0 0 1558 = w 1558 := upm_rf (by decide)
  have cn := C_need (L := L) (a := a) (t := t) hv
  by_cases hl : l < -1 ∨ w 1558 3 ≤ l
  · have cl := C_needList_bad (L := L) (a := a) (t := t) (v := v) (l := l) (by omega) (by omega)
    have mn := M_noList2 (L := L) (a := a) (t := t) (u := w) (l := l) hw (by omega) (inB_f (by omega))
    exact OPc_bad (e := 2) (z := 0) (cd := 2) hX (by decide) (by simp (disch := first | assumption | omega) only [k18, g18_0, g18_1, g18_2, g18_3, g18_4, g18_5, g18_6, g18_7, E_X10_merged, B_X10_merged_0, B_X10_merged_4, B_X10_merged_9, B_X10_merged_17, B_X10_merged_36, B_X10_merged_40, Option.bind_some, back_v, Option.toList_some, Option.toList_none, List.cons_append, List.nil_append, Nat.reduceAdd, Int.reduceToNat, Int.reduceNeg, upm_eq, upm_r, upm_i, if_pos, if_neg, ite_self, true_or, or_true, true_and, and_true, false_or, or_false, false_and, and_false, wr_id, i10, i01, upr_f, upr_eq, thr58, upm_upr, upr_upr, lc_lt, lc_gt, lc_ge, lc_le, afit1, afit0, afitI, bifit, not_true_eq_false, not_false_eq_true, if_true, if_false, Bool.false_eq_true, reduceCtorEq, k1557, k1558, g1557_2, cn, cl, be]) (by simp (disch := first | assumption | omega) only [E_X11_merged, B_X11_merged_0, B_X11_merged_6, B_X11_merged_17, E_X11_noDay, B_X11_noDay_0, B_X11_noDay_5, B_X11_noDay_13, B_X11_noDay_25, Option.bind_some, back_v, Option.toList_some, Option.toList_none, List.cons_append, List.nil_append, Nat.reduceAdd, Int.reduceToNat, Int.reduceNeg, upm_eq, upm_r, upm_i, if_pos, if_neg, ite_self, true_or, or_true, true_and, and_true, false_or, or_false, false_and, and_false, wr_id, i10, i01, upr_f, upr_eq, thr58, upm_upr, upr_upr, lc_lt, lc_gt, lc_ge, lc_le, afit1, afit0, afitI, bifit, not_true_eq_false, not_false_eq_true, if_true, if_false, Bool.false_eq_true, reduceCtorEq, k1557, k1558, g1557_2, mn])
  have hl2 : -1 ≤ l ∧ l < w 1558 3 := by omega
  have cl := C_needList (L := L) (a := a) (t := t) (v := v) (l := l) (by omega)
  have mnA := fun aa : Nat → Nat → Nat => M_noList (L := L) (a := aa) (t := t) (u := w) (l := l) hw (by omega) (inB_t (by omega) (by omega))
  have mn := mnA a
  by_cases hb1 : d < 0 ∨ 6 < d
  · have cb1 := C_needB_bad (L := L) (a := a) (t := t) (v := v) (x := d) (lo := 0) (hi := 6) hb1
    have ib1 : inB d 0 6 = false := inB_f hb1
    have rb1 := M_refuse1 (L := L) (u := w) (a := a) (t := t) (c := 3) (by decide)
    exact OPc_bad (e := 3) (z := 0) (cd := 3) hX (by decide) (by simp (disch := first | assumption | omega) only [k18, g18_0, g18_1, g18_2, g18_3, g18_4, g18_5, g18_6, g18_7, E_X10_merged, B_X10_merged_0, B_X10_merged_4, B_X10_merged_9, B_X10_merged_17, B_X10_merged_36, B_X10_merged_40, Option.bind_some, back_v, Option.toList_some, Option.toList_none, List.cons_append, List.nil_append, Nat.reduceAdd, Int.reduceToNat, Int.reduceNeg, upm_eq, upm_r, upm_i, if_pos, if_neg, ite_self, true_or, or_true, true_and, and_true, false_or, or_false, false_and, and_false, wr_id, i10, i01, upr_f, upr_eq, thr58, upm_upr, upr_upr, lc_lt, lc_gt, lc_ge, lc_le, afit1, afit0, afitI, bifit, not_true_eq_false, not_false_eq_true, if_true, if_false, Bool.false_eq_true, reduceCtorEq, k1557, k1558, g1557_2, cn, cl, cb1, be]) (by simp (disch := first | assumption | omega) only [E_X11_merged, B_X11_merged_0, B_X11_merged_6, B_X11_merged_17, E_X11_noDay, B_X11_noDay_0, B_X11_noDay_5, B_X11_noDay_13, B_X11_noDay_25, Option.bind_some, back_v, Option.toList_some, Option.toList_none, List.cons_append, List.nil_append, Nat.reduceAdd, Int.reduceToNat, Int.reduceNeg, upm_eq, upm_r, upm_i, if_pos, if_neg, ite_self, true_or, or_true, true_and, and_true, false_or, or_false, false_and, and_false, wr_id, i10, i01, upr_f, upr_eq, thr58, upm_upr, upr_upr, lc_lt, lc_gt, lc_ge, lc_le, afit1, afit0, afitI, bifit, not_true_eq_false, not_false_eq_true, if_true, if_false, Bool.false_eq_true, reduceCtorEq, k1557, k1558, g1557_2, mn, M_in, M_isSlot, M_isDay, bi_t, ib1, bi_f, rb1])
  have cb1 := C_needB (L := L) (a := a) (t := t) (v := v) (x := d) (lo := 0) (hi := 6) (by omega)
  have ib1 : inB d 0 6 = true := inB_t (by omega) (by omega)
  have rb1 := M_refuse0 (L := L) (u := w) (a := a) (t := t) (c := 3)
  obtain ⟨C, hC⟩ := hS.1
  obtain ⟨v', w', m, g0, k0, g1, k1, g2, k2, g3, g4, g5⟩ := mergeBoth (L := L) (t := t) hX hv hl2 (show 0 ≤ d by omega)
  obtain ⟨q1, q2⟩ := mgF_Mq k1
  have cl2 := C_listOf (L := L) (u := v) (a := a) (t := t) (R := 21) (l := l) hR (by omega)
  refine OPc_spare (z := (m : Int)) (v' := v') (w' := w') (a' := a) hX (fun q _ h2 => g1 q (by omega)) (fun _ _ => rfl) (hX.2.2.2.2.2.2.2.2 148 (.inr (.inl rfl))) q1 q2 ?_ ?_
  · simp (disch := first | assumption | omega) only [k18, g18_0, g18_1, g18_2, g18_3, g18_4, g18_5, g18_6, g18_7, k1295, k1296, k1297, k1298, k1299, k1300, g1295_0, g1295_1, g1295_2, g1295_3, g1295_5, kq21, kq22, kq23, kq24, kq25, kq26, kq27, kq28, kq29, kq30, kq31, kq32, kq123, gq21_0, gq21_1, gq21_2, gq21_3, gq22_0, gq22_1, gq22_2, gq22_3, gq22_4, gq22_5, gq22_6, gq31_0, gq123_j, gq32_j, kq124_l, kq125_l, kq126_l, kq127_l, gq124_2, gq124_3, gq124_4, kq33_p, kq34_p, kq35_p, gq33_6, gq33_7, E_X10_merged, B_X10_merged_0, B_X10_merged_4, B_X10_merged_9, B_X10_merged_17, B_X10_merged_36, B_X10_merged_40, Option.bind_some, back_v, Option.toList_some, Option.toList_none, List.cons_append, List.nil_append, Nat.reduceAdd, Int.reduceToNat, Int.reduceNeg, upm_eq, upm_r, upm_i, if_pos, if_neg, ite_self, true_or, or_true, true_and, and_true, false_or, or_false, false_and, and_false, wr_id, i10, i01, upr_f, upr_eq, thr58, upm_upr, upr_upr, lc_lt, lc_gt, lc_ge, lc_le, afit1, afit0, afitI, bifit, not_true_eq_false, not_false_eq_true, if_true, if_false, Bool.false_eq_true, reduceCtorEq, k1557, k1558, g1557_2, cn, cl, cb1, cl2, g0, g2]
  · simp (disch := first | assumption | omega) only [E_X11_merged, B_X11_merged_0, B_X11_merged_6, B_X11_merged_17, E_X11_noDay, B_X11_noDay_0, B_X11_noDay_5, B_X11_noDay_13, B_X11_noDay_25, Option.bind_some, back_v, Option.toList_some, Option.toList_none, List.cons_append, List.nil_append, Nat.reduceAdd, Int.reduceToNat, Int.reduceNeg, upm_eq, upm_r, upm_i, if_pos, if_neg, ite_self, true_or, or_true, true_and, and_true, false_or, or_false, false_and, and_false, wr_id, i10, i01, upr_f, upr_eq, thr58, upm_upr, upr_upr, lc_lt, lc_gt, lc_ge, lc_le, afit1, afit0, afitI, bifit, not_true_eq_false, not_false_eq_true, if_true, if_false, Bool.false_eq_true, reduceCtorEq, k1557, k1558, g1557_2, mn, M_isDay, ib1, bi_t, rb1, k0, k2]
theorem C_prop {u : Nat → Nat → Int} {i x : Int} (hi : 0 ≤ i ∧ i < 12) (hx : 0 ≤ x ∧ x ≤ 3) : a_m 27 [a_r 1295, a_i i, a_i x] (K0 L, u, G a, t) = some (.inl (some (a_i ((if x = 0 then u 1296 i.toNat else if x = 1 then u 1297 i.toNat else if x = 2 then u 1298 i.toNat else u 1299 i.toNat)))), (K0 L, u, G a, t)) := by
  have i12 : i < ((12 : Nat) : Int) := by omega
  have hxx : x = 0 ∨ x = 1 ∨ x = 2 ∨ x = 3 := by omega
  rcases hxx with rfl | rfl | rfl | rfl
  · simp (disch := first | assumption | omega) only [k1295, k1296, k1297, k1298, k1299, k1300, g1295_0, g1295_1, g1295_2, g1295_3, g1295_5, E_X3_property, B_X3_property_0, B_X3_property_28, B_X3_property_35, B_X3_property_42, B_X3_property_49, Option.bind_some, back_v, Option.toList_some, Option.toList_none, List.cons_append, List.nil_append, Nat.reduceAdd, Int.reduceToNat, Int.reduceNeg, upm_eq, upm_r, upm_i, if_pos, if_neg, ite_self, true_or, or_true, true_and, and_true, false_or, or_false, false_and, and_false, wr_id, i10, i01, upr_f, upr_eq, thr58, upm_upr, upr_upr, lc_lt, lc_gt, lc_ge, lc_le, afit1, afit0, afitI, bifit, not_true_eq_false, not_false_eq_true, if_true, if_false, Bool.false_eq_true, reduceCtorEq, k1557, k1558, g1557_2]
  · simp (disch := first | assumption | omega) only [k1295, k1296, k1297, k1298, k1299, k1300, g1295_0, g1295_1, g1295_2, g1295_3, g1295_5, E_X3_property, B_X3_property_0, B_X3_property_28, B_X3_property_35, B_X3_property_42, B_X3_property_49, Option.bind_some, back_v, Option.toList_some, Option.toList_none, List.cons_append, List.nil_append, Nat.reduceAdd, Int.reduceToNat, Int.reduceNeg, upm_eq, upm_r, upm_i, if_pos, if_neg, ite_self, true_or, or_true, true_and, and_true, false_or, or_false, false_and, and_false, wr_id, i10, i01, upr_f, upr_eq, thr58, upm_upr, upr_upr, lc_lt, lc_gt, lc_ge, lc_le, afit1, afit0, afitI, bifit, not_true_eq_false, not_false_eq_true, if_true, if_false, Bool.false_eq_true, reduceCtorEq, k1557, k1558, g1557_2]
  · simp (disch := first | assumption | omega) only [k1295, k1296, k1297, k1298, k1299, k1300, g1295_0, g1295_1, g1295_2, g1295_3, g1295_5, E_X3_property, B_X3_property_0, B_X3_property_28, B_X3_property_35, B_X3_property_42, B_X3_property_49, Option.bind_some, back_v, Option.toList_some, Option.toList_none, List.cons_append, List.nil_append, Nat.reduceAdd, Int.reduceToNat, Int.reduceNeg, upm_eq, upm_r, upm_i, if_pos, if_neg, ite_self, true_or, or_true, true_and, and_true, false_or, or_false, false_and, and_false, wr_id, i10, i01, upr_f, upr_eq, thr58, upm_upr, upr_upr, lc_lt, lc_gt, lc_ge, lc_le, afit1, afit0, afitI, bifit, not_true_eq_false, not_false_eq_true, if_true, if_false, Bool.false_eq_true, reduceCtorEq, k1557, k1558, g1557_2]
  · simp (disch := first | assumption | omega) only [k1295, k1296, k1297, k1298, k1299, k1300, g1295_0, g1295_1, g1295_2, g1295_3, g1295_5, E_X3_property, B_X3_property_0, B_X3_property_28, B_X3_property_35, B_X3_property_42, B_X3_property_49, Option.bind_some, back_v, Option.toList_some, Option.toList_none, List.cons_append, List.nil_append, Nat.reduceAdd, Int.reduceToNat, Int.reduceNeg, upm_eq, upm_r, upm_i, if_pos, if_neg, ite_self, true_or, or_true, true_and, and_true, false_or, or_false, false_and, and_false, wr_id, i10, i01, upr_f, upr_eq, thr58, upm_upr, upr_upr, lc_lt, lc_gt, lc_ge, lc_le, afit1, afit0, afitI, bifit, not_true_eq_false, not_false_eq_true, if_true, if_false, Bool.false_eq_true, reduceCtorEq, k1557, k1558, g1557_2]
theorem op_mergedStop {l d i x : Int} : OP L 105 235 [a_i l, a_i d, a_i i, a_i x] e3 := by
  intro c v w a t c0 c1 hX
  have be := fun pc len e ls st σ => pub_e (m := 105) (pc := pc) (len := len) (e := e) (ls := ls) (st := st) (σ := σ) (by decide)
  by_cases hv : v 18 8 = 0
  · have hw := XX_ld0 hX hv
    have cn := C_need_bad (L := L) (a := a) (t := t) hv
    have mn := M_noList0 (L := L) (a := a) (t := t) (u := w) (l := l) hw
    exact OPc_bad (e := 1) (z := 0) (cd := 1) hX (by decide) (by simp (disch := first | assumption | omega) only [k18, g18_0, g18_1, g18_2, g18_3, g18_4, g18_5, g18_6, g18_7, E_X10_mergedStop, B_X10_mergedStop_0, B_X10_mergedStop_4, B_X10_mergedStop_9, B_X10_mergedStop_17, B_X10_mergedStop_25, B_X10_mergedStop_44, B_X10_mergedStop_48, B_X10_mergedStop_75, Option.bind_some, back_v, Option.toList_some, Option.toList_none, List.cons_append, List.nil_append, Nat.reduceAdd, Int.reduceToNat, Int.reduceNeg, upm_eq, upm_r, upm_i, if_pos, if_neg, ite_self, true_or, or_true, true_and, and_true, false_or, or_false, false_and, and_false, wr_id, i10, i01, upr_f, upr_eq, thr58, upm_upr, upr_upr, lc_lt, lc_gt, lc_ge, lc_le, afit1, afit0, afitI, bifit, not_true_eq_false, not_false_eq_true, if_true, if_false, Bool.false_eq_true, reduceCtorEq, k1557, k1558, g1557_2, cn, be]) (by simp (disch := first | assumption | omega) only [E_X11_mergedStop, B_X11_mergedStop_0, B_X11_mergedStop_6, B_X11_mergedStop_20, B_X11_mergedStop_32, B_X11_mergedStop_43, B_X11_mergedStop_56, E_X11_noDay, B_X11_noDay_0, B_X11_noDay_5, B_X11_noDay_13, B_X11_noDay_25, Option.bind_some, back_v, Option.toList_some, Option.toList_none, List.cons_append, List.nil_append, Nat.reduceAdd, Int.reduceToNat, Int.reduceNeg, upm_eq, upm_r, upm_i, if_pos, if_neg, ite_self, true_or, or_true, true_and, and_true, false_or, or_false, false_and, and_false, wr_id, i10, i01, upr_f, upr_eq, thr58, upm_upr, upr_upr, lc_lt, lc_gt, lc_ge, lc_le, afit1, afit0, afitI, bifit, not_true_eq_false, not_false_eq_true, if_true, if_false, Bool.false_eq_true, reduceCtorEq, k1557, k1558, g1557_2, mn])
  obtain ⟨hw, hS⟩ := XX_ld hX hv
  obtain ⟨⟨n3, n3a, n3b⟩, ⟨n2, n2a, n2b⟩, ⟨n4, n4a, n4b⟩, ⟨n1, n1a, n1b⟩, ⟨n0, n0a, n0b⟩, n5, n6⟩ := RS_n hS
  have hR : isRad 21 := .inl rfl
  have hM := hS.2.1
  have hW : upm w 1557 0 0 1558 = w 1558 := upm_rf (by decide)
  have cn := C_need (L := L) (a := a) (t := t) hv
  by_cases hl : l < -1 ∨ w 1558 3 ≤ l
  · have cl := C_needList_bad (L := L) (a := a) (t := t) (v := v) (l := l) (by omega) (by omega)
    have mn := M_noList2 (L := L) (a := a) (t := t) (u := w) (l := l) hw (by omega) (inB_f (by omega))
    exact OPc_bad (e := 2) (z := 0) (cd := 2) hX (by decide) (by simp (disch := first | assumption | omega) only [k18, g18_0, g18_1, g18_2, g18_3, g18_4, g18_5, g18_6, g18_7, E_X10_mergedStop, B_X10_mergedStop_0, B_X10_mergedStop_4, B_X10_mergedStop_9, B_X10_mergedStop_17, B_X10_mergedStop_25, B_X10_mergedStop_44, B_X10_mergedStop_48, B_X10_mergedStop_75, Option.bind_some, back_v, Option.toList_some, Option.toList_none, List.cons_append, List.nil_append, Nat.reduceAdd, Int.reduceToNat, Int.reduceNeg, upm_eq, upm_r, upm_i, if_pos, if_neg, ite_self, true_or, or_true, true_and, and_true, false_or, or_false, false_and, and_false, wr_id, i10, i01, upr_f, upr_eq, thr58, upm_upr, upr_upr, lc_lt, lc_gt, lc_ge, lc_le, afit1, afit0, afitI, bifit, not_true_eq_false, not_false_eq_true, if_true, if_false, Bool.false_eq_true, reduceCtorEq, k1557, k1558, g1557_2, cn, cl, be]) (by simp (disch := first | assumption | omega) only [E_X11_mergedStop, B_X11_mergedStop_0, B_X11_mergedStop_6, B_X11_mergedStop_20, B_X11_mergedStop_32, B_X11_mergedStop_43, B_X11_mergedStop_56, E_X11_noDay, B_X11_noDay_0, B_X11_noDay_5, B_X11_noDay_13, B_X11_noDay_25, Option.bind_some, back_v, Option.toList_some, Option.toList_none, List.cons_append, List.nil_append, Nat.reduceAdd, Int.reduceToNat, Int.reduceNeg, upm_eq, upm_r, upm_i, if_pos, if_neg, ite_self, true_or, or_true, true_and, and_true, false_or, or_false, false_and, and_false, wr_id, i10, i01, upr_f, upr_eq, thr58, upm_upr, upr_upr, lc_lt, lc_gt, lc_ge, lc_le, afit1, afit0, afitI, bifit, not_true_eq_false, not_false_eq_true, if_true, if_false, Bool.false_eq_true, reduceCtorEq, k1557, k1558, g1557_2, mn])
  have hl2 : -1 ≤ l ∧ l < w 1558 3 := by omega
  have cl := C_needList (L := L) (a := a) (t := t) (v := v) (l := l) (by omega)
  have mnA := fun aa : Nat → Nat → Nat => M_noList (L := L) (a := aa) (t := t) (u := w) (l := l) hw (by omega) (inB_t (by omega) (by omega))
  have mn := mnA a
  by_cases hb1 : d < 0 ∨ 6 < d
  · have cb1 := C_needB_bad (L := L) (a := a) (t := t) (v := v) (x := d) (lo := 0) (hi := 6) hb1
    have ib1 : inB d 0 6 = false := inB_f hb1
    have rb1 := M_refuse1 (L := L) (u := w) (a := a) (t := t) (c := 3) (by decide)
    exact OPc_bad (e := 3) (z := 0) (cd := 3) hX (by decide) (by simp (disch := first | assumption | omega) only [k18, g18_0, g18_1, g18_2, g18_3, g18_4, g18_5, g18_6, g18_7, E_X10_mergedStop, B_X10_mergedStop_0, B_X10_mergedStop_4, B_X10_mergedStop_9, B_X10_mergedStop_17, B_X10_mergedStop_25, B_X10_mergedStop_44, B_X10_mergedStop_48, B_X10_mergedStop_75, Option.bind_some, back_v, Option.toList_some, Option.toList_none, List.cons_append, List.nil_append, Nat.reduceAdd, Int.reduceToNat, Int.reduceNeg, upm_eq, upm_r, upm_i, if_pos, if_neg, ite_self, true_or, or_true, true_and, and_true, false_or, or_false, false_and, and_false, wr_id, i10, i01, upr_f, upr_eq, thr58, upm_upr, upr_upr, lc_lt, lc_gt, lc_ge, lc_le, afit1, afit0, afitI, bifit, not_true_eq_false, not_false_eq_true, if_true, if_false, Bool.false_eq_true, reduceCtorEq, k1557, k1558, g1557_2, cn, cl, cb1, be]) (by simp (disch := first | assumption | omega) only [E_X11_mergedStop, B_X11_mergedStop_0, B_X11_mergedStop_6, B_X11_mergedStop_20, B_X11_mergedStop_32, B_X11_mergedStop_43, B_X11_mergedStop_56, E_X11_noDay, B_X11_noDay_0, B_X11_noDay_5, B_X11_noDay_13, B_X11_noDay_25, Option.bind_some, back_v, Option.toList_some, Option.toList_none, List.cons_append, List.nil_append, Nat.reduceAdd, Int.reduceToNat, Int.reduceNeg, upm_eq, upm_r, upm_i, if_pos, if_neg, ite_self, true_or, or_true, true_and, and_true, false_or, or_false, false_and, and_false, wr_id, i10, i01, upr_f, upr_eq, thr58, upm_upr, upr_upr, lc_lt, lc_gt, lc_ge, lc_le, afit1, afit0, afitI, bifit, not_true_eq_false, not_false_eq_true, if_true, if_false, Bool.false_eq_true, reduceCtorEq, k1557, k1558, g1557_2, mn, M_in, M_isSlot, M_isDay, bi_t, ib1, bi_f, rb1])
  have cb1 := C_needB (L := L) (a := a) (t := t) (v := v) (x := d) (lo := 0) (hi := 6) (by omega)
  have ib1 : inB d 0 6 = true := inB_t (by omega) (by omega)
  have rb1 := M_refuse0 (L := L) (u := w) (a := a) (t := t) (c := 3)
  by_cases hb2 : x < 0 ∨ 3 < x
  · have cb2 := C_needB_bad (L := L) (a := a) (t := t) (v := v) (x := x) (lo := 0) (hi := 3) hb2
    have ib2 : inB x 0 3 = false := inB_f hb2
    have rb2 := M_refuse1 (L := L) (u := w) (a := a) (t := t) (c := 3) (by decide)
    exact OPc_bad (e := 3) (z := 0) (cd := 3) hX (by decide) (by simp (disch := first | assumption | omega) only [k18, g18_0, g18_1, g18_2, g18_3, g18_4, g18_5, g18_6, g18_7, E_X10_mergedStop, B_X10_mergedStop_0, B_X10_mergedStop_4, B_X10_mergedStop_9, B_X10_mergedStop_17, B_X10_mergedStop_25, B_X10_mergedStop_44, B_X10_mergedStop_48, B_X10_mergedStop_75, Option.bind_some, back_v, Option.toList_some, Option.toList_none, List.cons_append, List.nil_append, Nat.reduceAdd, Int.reduceToNat, Int.reduceNeg, upm_eq, upm_r, upm_i, if_pos, if_neg, ite_self, true_or, or_true, true_and, and_true, false_or, or_false, false_and, and_false, wr_id, i10, i01, upr_f, upr_eq, thr58, upm_upr, upr_upr, lc_lt, lc_gt, lc_ge, lc_le, afit1, afit0, afitI, bifit, not_true_eq_false, not_false_eq_true, if_true, if_false, Bool.false_eq_true, reduceCtorEq, k1557, k1558, g1557_2, cn, cl, cb1, cb2, be]) (by simp (disch := first | assumption | omega) only [E_X11_mergedStop, B_X11_mergedStop_0, B_X11_mergedStop_6, B_X11_mergedStop_20, B_X11_mergedStop_32, B_X11_mergedStop_43, B_X11_mergedStop_56, E_X11_noDay, B_X11_noDay_0, B_X11_noDay_5, B_X11_noDay_13, B_X11_noDay_25, Option.bind_some, back_v, Option.toList_some, Option.toList_none, List.cons_append, List.nil_append, Nat.reduceAdd, Int.reduceToNat, Int.reduceNeg, upm_eq, upm_r, upm_i, if_pos, if_neg, ite_self, true_or, or_true, true_and, and_true, false_or, or_false, false_and, and_false, wr_id, i10, i01, upr_f, upr_eq, thr58, upm_upr, upr_upr, lc_lt, lc_gt, lc_ge, lc_le, afit1, afit0, afitI, bifit, not_true_eq_false, not_false_eq_true, if_true, if_false, Bool.false_eq_true, reduceCtorEq, k1557, k1558, g1557_2, mn, ib1, rb1, M_in, M_isSlot, M_isDay, bi_t, ib2, bi_f, rb2])
  have cb2 := C_needB (L := L) (a := a) (t := t) (v := v) (x := x) (lo := 0) (hi := 3) (by omega)
  have ib2 : inB x 0 3 = true := inB_t (by omega) (by omega)
  have rb2 := M_refuse0 (L := L) (u := w) (a := a) (t := t) (c := 3)
  obtain ⟨C, hC⟩ := hS.1
  obtain ⟨v', w', m, g0, k0, g1, k1, g2, k2, g3, g4, g5⟩ := mergeBoth (L := L) (t := t) hX hv hl2 (show 0 ≤ d by omega)
  obtain ⟨q1, q2⟩ := mgF_Mq k1
  have cl2 := C_listOf (L := L) (u := v) (a := a) (t := t) (R := 21) (l := l) hR (by omega)
  have z : wr ((m : Int) - 1) = (m : Int) - 1 := wr_id (by omega) (by omega)
  by_cases hi : i < 0 ∨ (m : Int) ≤ i
  · have ib : inB i 0 ((m : Int) - 1) = false := inB_f (by omega)
    refine OPc_spare (z := -1) (v' := v') (w' := w') (a' := a) hX (fun q _ h2 => g1 q (by omega)) (fun _ _ => rfl) (hX.2.2.2.2.2.2.2.2 148 (.inr (.inl rfl))) q1 q2 ?_ ?_
    · by_cases h1 : i < 0
      · simp (disch := first | assumption | omega) only [k18, g18_0, g18_1, g18_2, g18_3, g18_4, g18_5, g18_6, g18_7, k1295, k1296, k1297, k1298, k1299, k1300, g1295_0, g1295_1, g1295_2, g1295_3, g1295_5, kq21, kq22, kq23, kq24, kq25, kq26, kq27, kq28, kq29, kq30, kq31, kq32, kq123, gq21_0, gq21_1, gq21_2, gq21_3, gq22_0, gq22_1, gq22_2, gq22_3, gq22_4, gq22_5, gq22_6, gq31_0, gq123_j, gq32_j, kq124_l, kq125_l, kq126_l, kq127_l, gq124_2, gq124_3, gq124_4, kq33_p, kq34_p, kq35_p, gq33_6, gq33_7, E_X10_mergedStop, B_X10_mergedStop_0, B_X10_mergedStop_4, B_X10_mergedStop_9, B_X10_mergedStop_17, B_X10_mergedStop_25, B_X10_mergedStop_44, B_X10_mergedStop_48, B_X10_mergedStop_75, Option.bind_some, back_v, Option.toList_some, Option.toList_none, List.cons_append, List.nil_append, Nat.reduceAdd, Int.reduceToNat, Int.reduceNeg, upm_eq, upm_r, upm_i, if_pos, if_neg, ite_self, true_or, or_true, true_and, and_true, false_or, or_false, false_and, and_false, wr_id, i10, i01, upr_f, upr_eq, thr58, upm_upr, upr_upr, lc_lt, lc_gt, lc_ge, lc_le, afit1, afit0, afitI, bifit, not_true_eq_false, not_false_eq_true, if_true, if_false, Bool.false_eq_true, reduceCtorEq, k1557, k1558, g1557_2, cn, cl, cb1, cb2, cl2, g0, g2, h1]
      · have h2 : ¬ i < (m : Int) := by omega
        simp (disch := first | assumption | omega) only [k18, g18_0, g18_1, g18_2, g18_3, g18_4, g18_5, g18_6, g18_7, k1295, k1296, k1297, k1298, k1299, k1300, g1295_0, g1295_1, g1295_2, g1295_3, g1295_5, kq21, kq22, kq23, kq24, kq25, kq26, kq27, kq28, kq29, kq30, kq31, kq32, kq123, gq21_0, gq21_1, gq21_2, gq21_3, gq22_0, gq22_1, gq22_2, gq22_3, gq22_4, gq22_5, gq22_6, gq31_0, gq123_j, gq32_j, kq124_l, kq125_l, kq126_l, kq127_l, gq124_2, gq124_3, gq124_4, kq33_p, kq34_p, kq35_p, gq33_6, gq33_7, E_X10_mergedStop, B_X10_mergedStop_0, B_X10_mergedStop_4, B_X10_mergedStop_9, B_X10_mergedStop_17, B_X10_mergedStop_25, B_X10_mergedStop_44, B_X10_mergedStop_48, B_X10_mergedStop_75, Option.bind_some, back_v, Option.toList_some, Option.toList_none, List.cons_append, List.nil_append, Nat.reduceAdd, Int.reduceToNat, Int.reduceNeg, upm_eq, upm_r, upm_i, if_pos, if_neg, ite_self, true_or, or_true, true_and, and_true, false_or, or_false, false_and, and_false, wr_id, i10, i01, upr_f, upr_eq, thr58, upm_upr, upr_upr, lc_lt, lc_gt, lc_ge, lc_le, afit1, afit0, afitI, bifit, not_true_eq_false, not_false_eq_true, if_true, if_false, Bool.false_eq_true, reduceCtorEq, k1557, k1558, g1557_2, cn, cl, cb1, cb2, cl2, g0, g2, h1, h2]
    · simp (disch := first | assumption | omega) only [k1559, k1560, k1561, k1562, k1563, k1564, k1565, k1566, k1567, g1557_3, g1557_5, g1557_6, g1557_17, g1557_18, g1557_19, g1557_20, g1557_21, g1557_23, E_X11_mergedStop, B_X11_mergedStop_0, B_X11_mergedStop_6, B_X11_mergedStop_20, B_X11_mergedStop_32, B_X11_mergedStop_43, B_X11_mergedStop_56, E_X11_noDay, B_X11_noDay_0, B_X11_noDay_5, B_X11_noDay_13, B_X11_noDay_25, Option.bind_some, back_v, Option.toList_some, Option.toList_none, List.cons_append, List.nil_append, Nat.reduceAdd, Int.reduceToNat, Int.reduceNeg, upm_eq, upm_r, upm_i, if_pos, if_neg, ite_self, true_or, or_true, true_and, and_true, false_or, or_false, false_and, and_false, wr_id, i10, i01, upr_f, upr_eq, thr58, upm_upr, upr_upr, lc_lt, lc_gt, lc_ge, lc_le, afit1, afit0, afitI, bifit, not_true_eq_false, not_false_eq_true, if_true, if_false, Bool.false_eq_true, reduceCtorEq, k1557, k1558, g1557_2, mn, M_in, M_isDay, ib1, ib2, bi_t, rb1, k0, k2, z, ib, bi_f]
  · have ib : inB i 0 ((m : Int) - 1) = true := inB_t (by omega) (by omega)
    obtain ⟨e1, e2, e3, e4⟩ := g4 i.toNat (by omega)
    have pp := C_prop (L := L) (a := a) (t := t) (u := v') (i := i) (x := x) (by omega) (by omega)
    rw [e1, e2, e3, e4] at pp
    have h1 : ¬ i < 0 := by omega
    have h2 : i < (m : Int) := by omega
    have i12 : i < ((12 : Nat) : Int) := by omega
    refine OPc_spare (z := (if x = 0 then w' 1563 i.toNat else if x = 1 then w' 1564 i.toNat else if x = 2 then w' 1565 i.toNat else w' 1566 i.toNat)) (v' := v') (w' := w') (a' := a) hX (fun q _ h2 => g1 q (by omega)) (fun _ _ => rfl) (hX.2.2.2.2.2.2.2.2 148 (.inr (.inl rfl))) q1 q2 ?_ ?_
    · simp (disch := first | assumption | omega) only [k18, g18_0, g18_1, g18_2, g18_3, g18_4, g18_5, g18_6, g18_7, k1295, k1296, k1297, k1298, k1299, k1300, g1295_0, g1295_1, g1295_2, g1295_3, g1295_5, kq21, kq22, kq23, kq24, kq25, kq26, kq27, kq28, kq29, kq30, kq31, kq32, kq123, gq21_0, gq21_1, gq21_2, gq21_3, gq22_0, gq22_1, gq22_2, gq22_3, gq22_4, gq22_5, gq22_6, gq31_0, gq123_j, gq32_j, kq124_l, kq125_l, kq126_l, kq127_l, gq124_2, gq124_3, gq124_4, kq33_p, kq34_p, kq35_p, gq33_6, gq33_7, E_X10_mergedStop, B_X10_mergedStop_0, B_X10_mergedStop_4, B_X10_mergedStop_9, B_X10_mergedStop_17, B_X10_mergedStop_25, B_X10_mergedStop_44, B_X10_mergedStop_48, B_X10_mergedStop_75, Option.bind_some, back_v, Option.toList_some, Option.toList_none, List.cons_append, List.nil_append, Nat.reduceAdd, Int.reduceToNat, Int.reduceNeg, upm_eq, upm_r, upm_i, if_pos, if_neg, ite_self, true_or, or_true, true_and, and_true, false_or, or_false, false_and, and_false, wr_id, i10, i01, upr_f, upr_eq, thr58, upm_upr, upr_upr, lc_lt, lc_gt, lc_ge, lc_le, afit1, afit0, afitI, bifit, not_true_eq_false, not_false_eq_true, if_true, if_false, Bool.false_eq_true, reduceCtorEq, k1557, k1558, g1557_2, cn, cl, cb1, cb2, cl2, g0, g2, h1, h2, pp]
    · have one : (1 : Int) ≠ 0 := by decide
      have two : (2 : Int) ≠ 0 ∧ (2 : Int) ≠ 1 := by decide
      have hxx : x = 0 ∨ x = 1 ∨ x = 2 ∨ x = 3 := by omega
      rcases hxx with rfl | rfl | rfl | rfl
      · simp (disch := first | assumption | omega) only [k1559, k1560, k1561, k1562, k1563, k1564, k1565, k1566, k1567, g1557_3, g1557_5, g1557_6, g1557_17, g1557_18, g1557_19, g1557_20, g1557_21, g1557_23, E_X11_mergedStop, B_X11_mergedStop_0, B_X11_mergedStop_6, B_X11_mergedStop_20, B_X11_mergedStop_32, B_X11_mergedStop_43, B_X11_mergedStop_56, E_X11_noDay, B_X11_noDay_0, B_X11_noDay_5, B_X11_noDay_13, B_X11_noDay_25, Option.bind_some, back_v, Option.toList_some, Option.toList_none, List.cons_append, List.nil_append, Nat.reduceAdd, Int.reduceToNat, Int.reduceNeg, upm_eq, upm_r, upm_i, if_pos, if_neg, ite_self, true_or, or_true, true_and, and_true, false_or, or_false, false_and, and_false, wr_id, i10, i01, upr_f, upr_eq, thr58, upm_upr, upr_upr, lc_lt, lc_gt, lc_ge, lc_le, afit1, afit0, afitI, bifit, not_true_eq_false, not_false_eq_true, if_true, if_false, Bool.false_eq_true, reduceCtorEq, k1557, k1558, g1557_2, mn, M_in, M_isDay, ib1, ib2, bi_t, rb1, k0, k2, z, ib]
      · simp (disch := first | assumption | omega) only [k1559, k1560, k1561, k1562, k1563, k1564, k1565, k1566, k1567, g1557_3, g1557_5, g1557_6, g1557_17, g1557_18, g1557_19, g1557_20, g1557_21, g1557_23, E_X11_mergedStop, B_X11_mergedStop_0, B_X11_mergedStop_6, B_X11_mergedStop_20, B_X11_mergedStop_32, B_X11_mergedStop_43, B_X11_mergedStop_56, E_X11_noDay, B_X11_noDay_0, B_X11_noDay_5, B_X11_noDay_13, B_X11_noDay_25, Option.bind_some, back_v, Option.toList_some, Option.toList_none, List.cons_append, List.nil_append, Nat.reduceAdd, Int.reduceToNat, Int.reduceNeg, upm_eq, upm_r, upm_i, if_pos, if_neg, ite_self, true_or, or_true, true_and, and_true, false_or, or_false, false_and, and_false, wr_id, i10, i01, upr_f, upr_eq, thr58, upm_upr, upr_upr, lc_lt, lc_gt, lc_ge, lc_le, afit1, afit0, afitI, bifit, not_true_eq_false, not_false_eq_true, if_true, if_false, Bool.false_eq_true, reduceCtorEq, k1557, k1558, g1557_2, mn, M_in, M_isDay, ib1, ib2, bi_t, rb1, k0, k2, z, ib]
      · simp (disch := first | assumption | omega) only [k1559, k1560, k1561, k1562, k1563, k1564, k1565, k1566, k1567, g1557_3, g1557_5, g1557_6, g1557_17, g1557_18, g1557_19, g1557_20, g1557_21, g1557_23, E_X11_mergedStop, B_X11_mergedStop_0, B_X11_mergedStop_6, B_X11_mergedStop_20, B_X11_mergedStop_32, B_X11_mergedStop_43, B_X11_mergedStop_56, E_X11_noDay, B_X11_noDay_0, B_X11_noDay_5, B_X11_noDay_13, B_X11_noDay_25, Option.bind_some, back_v, Option.toList_some, Option.toList_none, List.cons_append, List.nil_append, Nat.reduceAdd, Int.reduceToNat, Int.reduceNeg, upm_eq, upm_r, upm_i, if_pos, if_neg, ite_self, true_or, or_true, true_and, and_true, false_or, or_false, false_and, and_false, wr_id, i10, i01, upr_f, upr_eq, thr58, upm_upr, upr_upr, lc_lt, lc_gt, lc_ge, lc_le, afit1, afit0, afitI, bifit, not_true_eq_false, not_false_eq_true, if_true, if_false, Bool.false_eq_true, reduceCtorEq, k1557, k1558, g1557_2, mn, M_in, M_isDay, ib1, ib2, bi_t, rb1, k0, k2, z, ib]
      · simp (disch := first | assumption | omega) only [k1559, k1560, k1561, k1562, k1563, k1564, k1565, k1566, k1567, g1557_3, g1557_5, g1557_6, g1557_17, g1557_18, g1557_19, g1557_20, g1557_21, g1557_23, E_X11_mergedStop, B_X11_mergedStop_0, B_X11_mergedStop_6, B_X11_mergedStop_20, B_X11_mergedStop_32, B_X11_mergedStop_43, B_X11_mergedStop_56, E_X11_noDay, B_X11_noDay_0, B_X11_noDay_5, B_X11_noDay_13, B_X11_noDay_25, Option.bind_some, back_v, Option.toList_some, Option.toList_none, List.cons_append, List.nil_append, Nat.reduceAdd, Int.reduceToNat, Int.reduceNeg, upm_eq, upm_r, upm_i, if_pos, if_neg, ite_self, true_or, or_true, true_and, and_true, false_or, or_false, false_and, and_false, wr_id, i10, i01, upr_f, upr_eq, thr58, upm_upr, upr_upr, lc_lt, lc_gt, lc_ge, lc_le, afit1, afit0, afitI, bifit, not_true_eq_false, not_false_eq_true, if_true, if_false, Bool.false_eq_true, reduceCtorEq, k1557, k1558, g1557_2, mn, M_in, M_isDay, ib1, ib2, bi_t, rb1, k0, k2, z, ib]
end MGO
