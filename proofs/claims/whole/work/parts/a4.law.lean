/-! ===== the law ===== -/
def LH (L : Nat) (c i : Int) (u : Nat → Nat → Int) (a : Nat → Nat → Nat) : Prop := (0 ≤ i ∧ i + 7 ≤ L ∧ L ≤ 3584) ∧ (0 ≤ c ∧ c ≤ 600) ∧ XX c u u a ∧ ∀ j, i32 (u 17 j)
def LN (L : Nat) (c i : Int) (u : Nat → Nat → Int) (t : Nat × Nat × Nat) (r : Option (AO × AS)) : Prop := ∃ (u' : Nat → Nat → Int) (a' : Nat → Nat → Nat) (t' : Nat × Nat × Nat) (y6 y7 y8 : AV), r = a_X 350 28 [a_r 17, a_r 18, a_r 1557, a_r 1568, a_r 1569, a_i (i + 7), y6, y7, y8] [] (K0 L, u', G a', t') ∧ XX (c + 1) u' u' a' ∧ u' 17 = u 17 ∧ t'.1 = t.1 ∧ t'.2.1 ≤ t.2.1 + 1 ∧ t'.2.2 ≤ t.2.2 + 6
theorem wr7 {L : Nat} {i : Int} (h : 0 ≤ i ∧ i + 7 ≤ L ∧ L ≤ 3584) : wr (i + 1) = i + 1 ∧ wr (i + 2) = i + 2 ∧ wr (i + 3) = i + 3 ∧ wr (i + 4) = i + 4 ∧ wr (i + 5) = i + 5 ∧ wr (i + 6) = i + 6 ∧ wr (i + 7) = i + 7 :=
  ⟨wr_id (by omega) (by omega), wr_id (by omega) (by omega), wr_id (by omega) (by omega), wr_id (by omega) (by omega), wr_id (by omega) (by omega), wr_id (by omega) (by omega), wr_id (by omega) (by omega)⟩
theorem XX_up {c : Int} {u : Nat → Nat → Int} {a : Nat → Nat → Nat} (h : XX c u u a) : XX (c + 1) u u a := XX_q h (fun _ _ _ _ => rfl) (fun _ _ _ _ _ => rfl) (fun _ _ => rfl) (h.2.2.2.2.2.2.2.2 148 (.inr (.inl rfl)))
section LWH
variable {L : Nat} {c i : Int} {u : Nat → Nat → Int} {a : Nat → Nat → Nat} {t : Nat × Nat × Nat} {v6 v7 v8 : AV}
theorem M_thr0 : a_m 154 [a_r 1557] (K0 L, u, G a, t) = some (.inl (some (a_i (u 1557 0))), (K0 L, u, G a, t)) := by simp (disch := first | assumption | omega) only [E_X11_thrown, B_X11_thrown_0, Option.bind_some, back_v, Option.toList_some, Option.toList_none, List.cons_append, List.nil_append, Nat.reduceAdd, Int.reduceToNat, Int.reduceNeg, upm_eq, upm_r, upm_i, if_pos, if_neg, ite_self, true_or, or_true, true_and, and_true, false_or, or_false, false_and, and_false, wr_id, i10, i01, upr_f, upr_eq, thr58, upm_upr, upr_upr, lc_lt, lc_gt, lc_ge, lc_le, afit1, afit0, afitI, bifit, not_true_eq_false, not_false_eq_true, if_true, if_false, Bool.false_eq_true, reduceCtorEq, k1557, k1558, g1557_2]
theorem XX_9 {z : Int} (h : XX c u u a) : XX c (upm u 1569 0 z) (upm u 1569 0 z) a := XX_congr h (fun q hq => upm_rf (by omega)) (fun q hq => upm_rf (by omega))
theorem XX_cd {cd : Int} (h : XX c u u a) : XX (c + 1) (upm u 1557 0 cd) (upm u 1557 0 cd) a := by
  refine XX_q h (fun q q0 _ _ => upm_rf (by omega)) Mq_thr (fun _ _ => rfl) (h.2.2.2.2.2.2.2.2 148 (.inr (.inl rfl)))
theorem cmp_eq0 (op) : (Op.cmpValue (some .eq) op).toInt = 0 := by cases op <;> rfl
theorem u64_back {x : UInt64} : UInt64.ofNat ((x.toNat : Int)).toNat = x := by rw [Int.toNat_natCast, UInt64.ofNat_toNat]
theorem law_share (H : LH L c i u a) : LN L c i u t (a_X 350 2306 [a_r 17, a_r 18, a_r 1557, a_r 1568, a_r 1569, a_i i, v6, v7, v8] [] (K0 L, u, G a, t)) := by
  obtain ⟨hi, hc, hX, hs⟩ := H
  obtain ⟨w1, w2, w3, w4, w5, w6, w7⟩ := wr7 hi
  by_cases hv : u 18 8 = 0
  · obtain ⟨g1, -⟩ := op_sameShare0 (L := L) (t := t) hX hv
    obtain ⟨-, g2⟩ := op_sameShare0 (L := L) (t := (t.1, t.2.1 + 1, t.2.2 + 6)) hX hv
    have g3 : a_m 332 [a_r 18, a_r 1569] (K0 L, u, G a, t) = some (.inl (some (a_i 1)), (K0 L, u, G a, (t.1, t.2.1 + 1, t.2.2 + 6))) := by
      rw [E_L_sameShare, B_L_sameShare_0, if_pos (show (K0 L 18).1 = 10 from rfl), g1]; exact (back_h (m := 332) (pc := 3) (len := 3) (st := [a_i 0, a_r 1569]) (e := 1) (h := 11) (by decide +kernel)).trans B_L_sameShare_11
    have m1 := M_thr0 (L := L) (u := upm u 1557 0 1) (a := a) (t := (t.1, t.2.1 + 1, t.2.2 + 6))
    rw [upm_eq] at m1
    refine ⟨upm u 1557 0 1, a, (t.1, t.2.1 + 1, t.2.2 + 6), a_i 1, a_f 0, v8, ?_, XX_cd (cd := 1) hX, upm_rf (by decide), rfl, Nat.le_refl _, Nat.le_refl _⟩
    have one : (1 : Int) ≠ 0 := by decide
    simp (disch := first | assumption | omega) only [B_L_law_2306, B_L_law_2312, B_L_law_2318, B_L_law_2324, Option.bind_some, back_v, Option.toList_some, Option.toList_none, List.cons_append, List.nil_append, Nat.reduceAdd, Int.reduceToNat, Int.reduceNeg, upm_eq, upm_r, upm_i, if_pos, if_neg, ite_self, true_or, or_true, true_and, and_true, false_or, or_false, false_and, and_false, wr_id, i10, i01, upr_f, upr_eq, thr58, upm_upr, upr_upr, lc_lt, lc_gt, lc_ge, lc_le, afit1, afit0, afitI, bifit, not_true_eq_false, not_false_eq_true, if_true, if_false, Bool.false_eq_true, reduceCtorEq, k1557, k1558, g1557_2, k18, w7, g3, g2, m1]
  · obtain ⟨f, hf, g1, -⟩ := op_sameShare (L := L) (t := t) hX hv
    obtain ⟨f1, f2⟩ := hf
    have hX2 : XX c u (upm u 1569 0 ((FP.f2d f).toNat : Int)) a := XX_congr hX (fun _ _ => rfl) (fun q hq => upm_rf (by omega))
    obtain ⟨f', -, g1', g2⟩ := op_sameShare (L := L) (t := t) hX2 hv
    have e := g1.symm.trans g1'
    injection e with e
    injection e with e
    injection e with e
    injection e with e
    injection e with e
    injection e with e
    injection e with e
    injection e with e
    subst e
    have g3 : a_m 332 [a_r 18, a_r 1569] (K0 L, u, G a, t) = some (.inl (some (a_i (0))), (K0 L, upm u 1569 0 ((FP.f2d f).toNat : Int), G a, t)) := by
      simp (disch := first | assumption | omega) only [E_L_sameShare, B_L_sameShare_0, B_L_sameShare_6, Option.bind_some, back_v, Option.toList_some, Option.toList_none, List.cons_append, List.nil_append, Nat.reduceAdd, Int.reduceToNat, Int.reduceNeg, upm_eq, upm_r, upm_i, if_pos, if_neg, ite_self, true_or, or_true, true_and, and_true, false_or, or_false, false_and, and_false, wr_id, i10, i01, upr_f, upr_eq, thr58, upm_upr, upr_upr, lc_lt, lc_gt, lc_ge, lc_le, afit1, afit0, afitI, bifit, not_true_eq_false, not_false_eq_true, if_true, if_false, Bool.false_eq_true, reduceCtorEq, k1557, k1558, g1557_2, g1, k18, k1569]
    have g4 := g2 t
    have m1 := M_thr0 (L := L) (u := upm (upm u 1569 0 ((FP.f2d f).toNat : Int)) 1557 0 0) (a := a) (t := t)
    rw [upm_eq] at m1
    refine ⟨upm (upm u 1569 0 ((FP.f2d f).toNat : Int)) 1557 0 0, a, t, a_i 0, a_f f, v8, ?_, XX_cd (cd := 0) (XX_9 hX), by rw [upm_rf (by decide), upm_rf (by decide)], rfl, by omega, by omega⟩
    have one : ¬ (0 : Int) ≠ 0 := by decide
    simp (disch := first | assumption | omega) only [B_L_law_2306, B_L_law_2312, B_L_law_2318, B_L_law_2324, Option.bind_some, back_v, Option.toList_some, Option.toList_none, List.cons_append, List.nil_append, Nat.reduceAdd, Int.reduceToNat, Int.reduceNeg, upm_eq, upm_r, upm_i, if_pos, if_neg, ite_self, true_or, or_true, true_and, and_true, false_or, or_false, false_and, and_false, wr_id, i10, i01, upr_f, upr_eq, thr58, upm_upr, upr_upr, lc_lt, lc_gt, lc_ge, lc_le, afit1, afit0, afitI, bifit, not_true_eq_false, not_false_eq_true, if_true, if_false, Bool.false_eq_true, reduceCtorEq, k1557, k1558, g1557_2, k18, w7, g3, g4, m1, k1569, u64_back, f2, cmp_eq0]
theorem law_mean (H : LH L c i u a) : LN L c i u t (a_X 350 2372 [a_r 17, a_r 18, a_r 1557, a_r 1568, a_r 1569, a_i i, v6, v7, v8] [] (K0 L, u, G a, t)) := by
  obtain ⟨hi, hc, hX, hs⟩ := H
  obtain ⟨w1, w2, w3, w4, w5, w6, w7⟩ := wr7 hi
  by_cases hv : u 18 8 = 0
  · obtain ⟨g1, -⟩ := op_meanBehind0 (L := L) (t := t) hX hv
    obtain ⟨-, g2⟩ := op_meanBehind0 (L := L) (t := (t.1, t.2.1 + 1, t.2.2 + 6)) hX hv
    have g3 : a_m 333 [a_r 18, a_r 1569] (K0 L, u, G a, t) = some (.inl (some (a_i 1)), (K0 L, u, G a, (t.1, t.2.1 + 1, t.2.2 + 6))) := by
      rw [E_L_meanBehind, B_L_meanBehind_0, if_pos (show (K0 L 18).1 = 10 from rfl), g1]; exact (back_h (m := 333) (pc := 3) (len := 3) (st := [a_i 0, a_r 1569]) (e := 1) (h := 10) (by decide +kernel)).trans B_L_meanBehind_10
    have m1 := M_thr0 (L := L) (u := upm u 1557 0 1) (a := a) (t := (t.1, t.2.1 + 1, t.2.2 + 6))
    rw [upm_eq] at m1
    refine ⟨upm u 1557 0 1, a, (t.1, t.2.1 + 1, t.2.2 + 6), a_i 1, a_d 0, a_x false, ?_, XX_cd (cd := 1) hX, upm_rf (by decide), rfl, Nat.le_refl _, Nat.le_refl _⟩
    have one : (1 : Int) ≠ 0 := by decide
    simp (disch := first | assumption | omega) only [B_L_law_2372, B_L_law_2378, B_L_law_2384, B_L_law_2390, Option.bind_some, back_v, Option.toList_some, Option.toList_none, List.cons_append, List.nil_append, Nat.reduceAdd, Int.reduceToNat, Int.reduceNeg, upm_eq, upm_r, upm_i, if_pos, if_neg, ite_self, true_or, or_true, true_and, and_true, false_or, or_false, false_and, and_false, wr_id, i10, i01, upr_f, upr_eq, thr58, upm_upr, upr_upr, lc_lt, lc_gt, lc_ge, lc_le, afit1, afit0, afitI, bifit, not_true_eq_false, not_false_eq_true, if_true, if_false, Bool.false_eq_true, reduceCtorEq, k1557, k1558, g1557_2, k18, w7, g3, g2, m1]
  · obtain ⟨f, hf, g1, -⟩ := op_meanBehind (L := L) (t := t) hX hv
    obtain ⟨f1, f2⟩ := hf
    have hX2 : XX c u (upm u 1569 0 (f.toNat : Int)) a := XX_congr hX (fun _ _ => rfl) (fun q hq => upm_rf (by omega))
    obtain ⟨f', -, g1', g2⟩ := op_meanBehind (L := L) (t := t) hX2 hv
    have e := g1.symm.trans g1'
    injection e with e
    injection e with e
    injection e with e
    injection e with e
    injection e with e
    injection e with e
    injection e with e
    injection e with e
    injection e with e
    subst e
    have g3 : a_m 333 [a_r 18, a_r 1569] (K0 L, u, G a, t) = some (.inl (some (a_i (0))), (K0 L, upm u 1569 0 (f.toNat : Int), G a, t)) := by
      simp (disch := first | assumption | omega) only [E_L_meanBehind, B_L_meanBehind_0, B_L_meanBehind_6, Option.bind_some, back_v, Option.toList_some, Option.toList_none, List.cons_append, List.nil_append, Nat.reduceAdd, Int.reduceToNat, Int.reduceNeg, upm_eq, upm_r, upm_i, if_pos, if_neg, ite_self, true_or, or_true, true_and, and_true, false_or, or_false, false_and, and_false, wr_id, i10, i01, upr_f, upr_eq, thr58, upm_upr, upr_upr, lc_lt, lc_gt, lc_ge, lc_le, afit1, afit0, afitI, bifit, not_true_eq_false, not_false_eq_true, if_true, if_false, Bool.false_eq_true, reduceCtorEq, k1557, k1558, g1557_2, g1, k18, k1569]
    have g4 := g2 t
    have m1 := M_thr0 (L := L) (u := upm (upm u 1569 0 (f.toNat : Int)) 1557 0 0) (a := a) (t := t)
    rw [upm_eq] at m1
    refine ⟨upm (upm u 1569 0 (f.toNat : Int)) 1557 0 0, a, t, a_i 0, a_d f, a_x false, ?_, XX_cd (cd := 0) (XX_9 hX), by rw [upm_rf (by decide), upm_rf (by decide)], rfl, by omega, by omega⟩
    have one : ¬ (0 : Int) ≠ 0 := by decide
    simp (disch := first | assumption | omega) only [B_L_law_2372, B_L_law_2378, B_L_law_2384, B_L_law_2390, Option.bind_some, back_v, Option.toList_some, Option.toList_none, List.cons_append, List.nil_append, Nat.reduceAdd, Int.reduceToNat, Int.reduceNeg, upm_eq, upm_r, upm_i, if_pos, if_neg, ite_self, true_or, or_true, true_and, and_true, false_or, or_false, false_and, and_false, wr_id, i10, i01, upr_f, upr_eq, thr58, upm_upr, upr_upr, lc_lt, lc_gt, lc_ge, lc_le, afit1, afit0, afitI, bifit, not_true_eq_false, not_false_eq_true, if_true, if_false, Bool.false_eq_true, reduceCtorEq, k1557, k1558, g1557_2, k18, w7, g3, g4, m1, k1569, u64_back, f2, cmp_eq0]
end LWH
/-! the law's calls, by wip/whole/spec/gen_law.py -/
section LAW
variable {L : Nat} {c i : Int} {u : Nat → Nat → Int} {a : Nat → Nat → Nat} {t : Nat × Nat × Nat} {v6 v7 v8 : AV}
theorem law_0 (H : LH L c i u a) : LN L c i u t (a_X 350 272 [a_r 17, a_r 18, a_r 1557, a_r 1568, a_r 1569, a_i i, v6, v7, v8] [] (K0 L, u, G a, t)) := by
  obtain ⟨hi, hc, hX, hs⟩ := H
  obtain ⟨w1, w2, w3, w4, w5, w6, w7⟩ := wr7 hi
  obtain ⟨z, v1, w', a', e1, e2, e5, e6, e7⟩ := stepD (t := t) (op_append : OP L 91 175 [a_i (u 17 (i + 1).toNat), a_i (u 17 (i + 2).toNat), a_i (u 17 (i + 3).toNat), a_i (u 17 (i + 4).toNat), a_i (u 17 (i + 5).toNat)] []) hc.1 hc.2 hX
  refine ⟨w', a', t, v6, v7, v8, ?_, e5, e6, rfl, by omega, by omega⟩
  have n7 : ∀ j, v1 17 j = u 17 j := fun j => by rw [e7]
  simp (disch := first | assumption | omega) only [B_L_law_272, B_L_law_306, B_L_law_340, Option.bind_some, back_v, Option.toList_some, Option.toList_none, List.cons_append, List.nil_append, Nat.reduceAdd, Int.reduceToNat, Int.reduceNeg, upm_eq, upm_r, upm_i, if_pos, if_neg, ite_self, true_or, or_true, true_and, and_true, false_or, or_false, false_and, and_false, wr_id, i10, i01, upr_f, upr_eq, thr58, upm_upr, upr_upr, lc_lt, lc_gt, lc_ge, lc_le, afit1, afit0, afitI, bifit, not_true_eq_false, not_false_eq_true, if_true, if_false, Bool.false_eq_true, reduceCtorEq, k1557, k1558, g1557_2, k17, k18, w1, w2, w3, w4, w5, w6, w7, n7, e1, e2]
theorem law_1 (H : LH L c i u a) : LN L c i u t (a_X 350 345 [a_r 17, a_r 18, a_r 1557, a_r 1568, a_r 1569, a_i i, v6, v7, v8] [] (K0 L, u, G a, t)) := by
  obtain ⟨hi, hc, hX, hs⟩ := H
  obtain ⟨w1, w2, w3, w4, w5, w6, w7⟩ := wr7 hi
  obtain ⟨k, z, v1, w', a', t1, e1, e2, e3, e4, e5, e6, e7, e8, e9, e10⟩ := stepW (t := t) (op_load : OP L 92 191 [a_i (u 17 (i + 1).toNat)] eL) wrap_302 (by decide) hc.1 hc.2 hX
  have e1' : a_m 302 [a_r 18, a_i (u 17 (i + 1).toNat), a_r 1568] (K0 L, u, G a, t) = some (.inl (some (a_i k)), (K0 L, v1, G a', t1)) := e1
  have m1 := M_thr0 (L := L) (u := w') (a := a') (t := t1)
  rw [e3] at m1
  refine ⟨w', a', t1, a_i k, a_i z, v8, ?_, e5, e6, e8, e9, e10⟩
  have n7 : ∀ j, v1 17 j = u 17 j := fun j => by rw [e7]
  by_cases hk : k = 0
  · have hk' : ¬ k ≠ 0 := by omega
    have e4' : w' 1568 0 = z := e4 hk
    simp (disch := first | assumption | omega) only [B_L_law_345, B_L_law_356, B_L_law_368, B_L_law_374, Option.bind_some, back_v, Option.toList_some, Option.toList_none, List.cons_append, List.nil_append, Nat.reduceAdd, Int.reduceToNat, Int.reduceNeg, upm_eq, upm_r, upm_i, if_pos, if_neg, ite_self, true_or, or_true, true_and, and_true, false_or, or_false, false_and, and_false, wr_id, i10, i01, upr_f, upr_eq, thr58, upm_upr, upr_upr, lc_lt, lc_gt, lc_ge, lc_le, afit1, afit0, afitI, bifit, not_true_eq_false, not_false_eq_true, if_true, if_false, Bool.false_eq_true, reduceCtorEq, k1557, k1558, g1557_2, k17, k18, k1568, w1, w2, w3, w4, w5, w6, w7, n7, e1', e2, m1, e4']
  · have hk' : k ≠ 0 := hk
    simp (disch := first | assumption | omega) only [B_L_law_345, B_L_law_356, B_L_law_368, B_L_law_374, Option.bind_some, back_v, Option.toList_some, Option.toList_none, List.cons_append, List.nil_append, Nat.reduceAdd, Int.reduceToNat, Int.reduceNeg, upm_eq, upm_r, upm_i, if_pos, if_neg, ite_self, true_or, or_true, true_and, and_true, false_or, or_false, false_and, and_false, wr_id, i10, i01, upr_f, upr_eq, thr58, upm_upr, upr_upr, lc_lt, lc_gt, lc_ge, lc_le, afit1, afit0, afitI, bifit, not_true_eq_false, not_false_eq_true, if_true, if_false, Bool.false_eq_true, reduceCtorEq, k1557, k1558, g1557_2, k17, k18, k1568, w1, w2, w3, w4, w5, w6, w7, n7, e1', e2, m1]
theorem law_2 (H : LH L c i u a) : LN L c i u t (a_X 350 401 [a_r 17, a_r 18, a_r 1557, a_r 1568, a_r 1569, a_i i, v6, v7, v8] [] (K0 L, u, G a, t)) := by
  obtain ⟨hi, hc, hX, hs⟩ := H
  obtain ⟨w1, w2, w3, w4, w5, w6, w7⟩ := wr7 hi
  obtain ⟨z, v1, w', a', e1, e2, e5, e6, e7⟩ := stepD (t := t) (op_parseError : OP L 93 177 [] []) hc.1 hc.2 hX
  refine ⟨w', a', t, v6, v7, v8, ?_, e5, e6, rfl, by omega, by omega⟩
  have n7 : ∀ j, v1 17 j = u 17 j := fun j => by rw [e7]
  simp (disch := first | assumption | omega) only [B_L_law_401, B_L_law_405, B_L_law_409, Option.bind_some, back_v, Option.toList_some, Option.toList_none, List.cons_append, List.nil_append, Nat.reduceAdd, Int.reduceToNat, Int.reduceNeg, upm_eq, upm_r, upm_i, if_pos, if_neg, ite_self, true_or, or_true, true_and, and_true, false_or, or_false, false_and, and_false, wr_id, i10, i01, upr_f, upr_eq, thr58, upm_upr, upr_upr, lc_lt, lc_gt, lc_ge, lc_le, afit1, afit0, afitI, bifit, not_true_eq_false, not_false_eq_true, if_true, if_false, Bool.false_eq_true, reduceCtorEq, k1557, k1558, g1557_2, k17, k18, w1, w2, w3, w4, w5, w6, w7, n7, e1, e2]
theorem law_3 (H : LH L c i u a) : LN L c i u t (a_X 350 414 [a_r 17, a_r 18, a_r 1557, a_r 1568, a_r 1569, a_i i, v6, v7, v8] [] (K0 L, u, G a, t)) := by
  obtain ⟨hi, hc, hX, hs⟩ := H
  obtain ⟨w1, w2, w3, w4, w5, w6, w7⟩ := wr7 hi
  obtain ⟨z, v1, w', a', e1, e2, e5, e6, e7⟩ := stepD (t := t) (op_errorPosition : OP L 94 178 [] []) hc.1 hc.2 hX
  refine ⟨w', a', t, v6, v7, v8, ?_, e5, e6, rfl, by omega, by omega⟩
  have n7 : ∀ j, v1 17 j = u 17 j := fun j => by rw [e7]
  simp (disch := first | assumption | omega) only [B_L_law_414, B_L_law_418, B_L_law_422, Option.bind_some, back_v, Option.toList_some, Option.toList_none, List.cons_append, List.nil_append, Nat.reduceAdd, Int.reduceToNat, Int.reduceNeg, upm_eq, upm_r, upm_i, if_pos, if_neg, ite_self, true_or, or_true, true_and, and_true, false_or, or_false, false_and, and_false, wr_id, i10, i01, upr_f, upr_eq, thr58, upm_upr, upr_upr, lc_lt, lc_gt, lc_ge, lc_le, afit1, afit0, afitI, bifit, not_true_eq_false, not_false_eq_true, if_true, if_false, Bool.false_eq_true, reduceCtorEq, k1557, k1558, g1557_2, k17, k18, w1, w2, w3, w4, w5, w6, w7, n7, e1, e2]
theorem law_4 (H : LH L c i u a) : LN L c i u t (a_X 350 427 [a_r 17, a_r 18, a_r 1557, a_r 1568, a_r 1569, a_i i, v6, v7, v8] [] (K0 L, u, G a, t)) := by
  obtain ⟨hi, hc, hX, hs⟩ := H
  obtain ⟨w1, w2, w3, w4, w5, w6, w7⟩ := wr7 hi
  obtain ⟨z, v1, w', a', e1, e2, e5, e6, e7⟩ := stepD (t := t) (op_buffered : OP L 95 176 [] []) hc.1 hc.2 hX
  refine ⟨w', a', t, v6, v7, v8, ?_, e5, e6, rfl, by omega, by omega⟩
  have n7 : ∀ j, v1 17 j = u 17 j := fun j => by rw [e7]
  simp (disch := first | assumption | omega) only [B_L_law_427, B_L_law_431, B_L_law_435, Option.bind_some, back_v, Option.toList_some, Option.toList_none, List.cons_append, List.nil_append, Nat.reduceAdd, Int.reduceToNat, Int.reduceNeg, upm_eq, upm_r, upm_i, if_pos, if_neg, ite_self, true_or, or_true, true_and, and_true, false_or, or_false, false_and, and_false, wr_id, i10, i01, upr_f, upr_eq, thr58, upm_upr, upr_upr, lc_lt, lc_gt, lc_ge, lc_le, afit1, afit0, afitI, bifit, not_true_eq_false, not_false_eq_true, if_true, if_false, Bool.false_eq_true, reduceCtorEq, k1557, k1558, g1557_2, k17, k18, w1, w2, w3, w4, w5, w6, w7, n7, e1, e2]
theorem law_5 (H : LH L c i u a) : LN L c i u t (a_X 350 440 [a_r 17, a_r 18, a_r 1557, a_r 1568, a_r 1569, a_i i, v6, v7, v8] [] (K0 L, u, G a, t)) := by
  obtain ⟨hi, hc, hX, hs⟩ := H
  obtain ⟨w1, w2, w3, w4, w5, w6, w7⟩ := wr7 hi
  obtain ⟨k, z, v1, w', a', t1, e1, e2, e3, e4, e5, e6, e7, e8, e9, e10⟩ := stepW (t := t) (op_count : OP L 96 215 [a_i (u 17 (i + 1).toNat)] eA) wrap_303 (by decide) hc.1 hc.2 hX
  have e1' : a_m 303 [a_r 18, a_i (u 17 (i + 1).toNat), a_r 1568] (K0 L, u, G a, t) = some (.inl (some (a_i k)), (K0 L, v1, G a', t1)) := e1
  have m1 := M_thr0 (L := L) (u := w') (a := a') (t := t1)
  rw [e3] at m1
  refine ⟨w', a', t1, a_i k, a_i z, v8, ?_, e5, e6, e8, e9, e10⟩
  have n7 : ∀ j, v1 17 j = u 17 j := fun j => by rw [e7]
  by_cases hk : k = 0
  · have hk' : ¬ k ≠ 0 := by omega
    have e4' : w' 1568 0 = z := e4 hk
    simp (disch := first | assumption | omega) only [B_L_law_440, B_L_law_451, B_L_law_463, B_L_law_469, Option.bind_some, back_v, Option.toList_some, Option.toList_none, List.cons_append, List.nil_append, Nat.reduceAdd, Int.reduceToNat, Int.reduceNeg, upm_eq, upm_r, upm_i, if_pos, if_neg, ite_self, true_or, or_true, true_and, and_true, false_or, or_false, false_and, and_false, wr_id, i10, i01, upr_f, upr_eq, thr58, upm_upr, upr_upr, lc_lt, lc_gt, lc_ge, lc_le, afit1, afit0, afitI, bifit, not_true_eq_false, not_false_eq_true, if_true, if_false, Bool.false_eq_true, reduceCtorEq, k1557, k1558, g1557_2, k17, k18, k1568, w1, w2, w3, w4, w5, w6, w7, n7, e1', e2, m1, e4']
  · have hk' : k ≠ 0 := hk
    simp (disch := first | assumption | omega) only [B_L_law_440, B_L_law_451, B_L_law_463, B_L_law_469, Option.bind_some, back_v, Option.toList_some, Option.toList_none, List.cons_append, List.nil_append, Nat.reduceAdd, Int.reduceToNat, Int.reduceNeg, upm_eq, upm_r, upm_i, if_pos, if_neg, ite_self, true_or, or_true, true_and, and_true, false_or, or_false, false_and, and_false, wr_id, i10, i01, upr_f, upr_eq, thr58, upm_upr, upr_upr, lc_lt, lc_gt, lc_ge, lc_le, afit1, afit0, afitI, bifit, not_true_eq_false, not_false_eq_true, if_true, if_false, Bool.false_eq_true, reduceCtorEq, k1557, k1558, g1557_2, k17, k18, k1568, w1, w2, w3, w4, w5, w6, w7, n7, e1', e2, m1]
theorem law_6 (H : LH L c i u a) : LN L c i u t (a_X 350 496 [a_r 17, a_r 18, a_r 1557, a_r 1568, a_r 1569, a_i i, v6, v7, v8] [] (K0 L, u, G a, t)) := by
  obtain ⟨hi, hc, hX, hs⟩ := H
  obtain ⟨w1, w2, w3, w4, w5, w6, w7⟩ := wr7 hi
  obtain ⟨k, z, v1, w', a', t1, e1, e2, e3, e4, e5, e6, e7, e8, e9, e10⟩ := stepW (t := t) (op_stop : OP L 97 216 [a_i (u 17 (i + 1).toNat), a_i (u 17 (i + 2).toNat), a_i (u 17 (i + 3).toNat)] e3) wrap_304 (by decide) hc.1 hc.2 hX
  have e1' : a_m 304 [a_r 18, a_i (u 17 (i + 1).toNat), a_i (u 17 (i + 2).toNat), a_i (u 17 (i + 3).toNat), a_r 1568] (K0 L, u, G a, t) = some (.inl (some (a_i k)), (K0 L, v1, G a', t1)) := e1
  have m1 := M_thr0 (L := L) (u := w') (a := a') (t := t1)
  rw [e3] at m1
  refine ⟨w', a', t1, a_i k, a_i z, v8, ?_, e5, e6, e8, e9, e10⟩
  have n7 : ∀ j, v1 17 j = u 17 j := fun j => by rw [e7]
  by_cases hk : k = 0
  · have hk' : ¬ k ≠ 0 := by omega
    have e4' : w' 1568 0 = z := e4 hk
    simp (disch := first | assumption | omega) only [B_L_law_496, B_L_law_519, B_L_law_543, B_L_law_549, Option.bind_some, back_v, Option.toList_some, Option.toList_none, List.cons_append, List.nil_append, Nat.reduceAdd, Int.reduceToNat, Int.reduceNeg, upm_eq, upm_r, upm_i, if_pos, if_neg, ite_self, true_or, or_true, true_and, and_true, false_or, or_false, false_and, and_false, wr_id, i10, i01, upr_f, upr_eq, thr58, upm_upr, upr_upr, lc_lt, lc_gt, lc_ge, lc_le, afit1, afit0, afitI, bifit, not_true_eq_false, not_false_eq_true, if_true, if_false, Bool.false_eq_true, reduceCtorEq, k1557, k1558, g1557_2, k17, k18, k1568, w1, w2, w3, w4, w5, w6, w7, n7, e1', e2, m1, e4']
  · have hk' : k ≠ 0 := hk
    simp (disch := first | assumption | omega) only [B_L_law_496, B_L_law_519, B_L_law_543, B_L_law_549, Option.bind_some, back_v, Option.toList_some, Option.toList_none, List.cons_append, List.nil_append, Nat.reduceAdd, Int.reduceToNat, Int.reduceNeg, upm_eq, upm_r, upm_i, if_pos, if_neg, ite_self, true_or, or_true, true_and, and_true, false_or, or_false, false_and, and_false, wr_id, i10, i01, upr_f, upr_eq, thr58, upm_upr, upr_upr, lc_lt, lc_gt, lc_ge, lc_le, afit1, afit0, afitI, bifit, not_true_eq_false, not_false_eq_true, if_true, if_false, Bool.false_eq_true, reduceCtorEq, k1557, k1558, g1557_2, k17, k18, k1568, w1, w2, w3, w4, w5, w6, w7, n7, e1', e2, m1]
theorem law_7 (H : LH L c i u a) : LN L c i u t (a_X 350 576 [a_r 17, a_r 18, a_r 1557, a_r 1568, a_r 1569, a_i i, v6, v7, v8] [] (K0 L, u, G a, t)) := by
  obtain ⟨hi, hc, hX, hs⟩ := H
  obtain ⟨w1, w2, w3, w4, w5, w6, w7⟩ := wr7 hi
  obtain ⟨k, z, v1, w', a', t1, e1, e2, e3, e4, e5, e6, e7, e8, e9, e10⟩ := stepW (t := t) (op_onAir : OP L 98 217 [a_i (u 17 (i + 1).toNat), a_i (u 17 (i + 2).toNat)] e3) wrap_305 (by decide) hc.1 hc.2 hX
  have e1' : a_m 305 [a_r 18, a_i (u 17 (i + 1).toNat), a_i (u 17 (i + 2).toNat), a_r 1568] (K0 L, u, G a, t) = some (.inl (some (a_i k)), (K0 L, v1, G a', t1)) := e1
  have m1 := M_thr0 (L := L) (u := w') (a := a') (t := t1)
  rw [e3] at m1
  refine ⟨w', a', t1, a_i k, a_i z, v8, ?_, e5, e6, e8, e9, e10⟩
  have n7 : ∀ j, v1 17 j = u 17 j := fun j => by rw [e7]
  by_cases hk : k = 0
  · have hk' : ¬ k ≠ 0 := by omega
    have e4' : w' 1568 0 = z := e4 hk
    simp (disch := first | assumption | omega) only [B_L_law_576, B_L_law_593, B_L_law_611, B_L_law_617, Option.bind_some, back_v, Option.toList_some, Option.toList_none, List.cons_append, List.nil_append, Nat.reduceAdd, Int.reduceToNat, Int.reduceNeg, upm_eq, upm_r, upm_i, if_pos, if_neg, ite_self, true_or, or_true, true_and, and_true, false_or, or_false, false_and, and_false, wr_id, i10, i01, upr_f, upr_eq, thr58, upm_upr, upr_upr, lc_lt, lc_gt, lc_ge, lc_le, afit1, afit0, afitI, bifit, not_true_eq_false, not_false_eq_true, if_true, if_false, Bool.false_eq_true, reduceCtorEq, k1557, k1558, g1557_2, k17, k18, k1568, w1, w2, w3, w4, w5, w6, w7, n7, e1', e2, m1, e4']
  · have hk' : k ≠ 0 := hk
    simp (disch := first | assumption | omega) only [B_L_law_576, B_L_law_593, B_L_law_611, B_L_law_617, Option.bind_some, back_v, Option.toList_some, Option.toList_none, List.cons_append, List.nil_append, Nat.reduceAdd, Int.reduceToNat, Int.reduceNeg, upm_eq, upm_r, upm_i, if_pos, if_neg, ite_self, true_or, or_true, true_and, and_true, false_or, or_false, false_and, and_false, wr_id, i10, i01, upr_f, upr_eq, thr58, upm_upr, upr_upr, lc_lt, lc_gt, lc_ge, lc_le, afit1, afit0, afitI, bifit, not_true_eq_false, not_false_eq_true, if_true, if_false, Bool.false_eq_true, reduceCtorEq, k1557, k1558, g1557_2, k17, k18, k1568, w1, w2, w3, w4, w5, w6, w7, n7, e1', e2, m1]
theorem law_8 (H : LH L c i u a) : LN L c i u t (a_X 350 644 [a_r 17, a_r 18, a_r 1557, a_r 1568, a_r 1569, a_i i, v6, v7, v8] [] (K0 L, u, G a, t)) := by
  obtain ⟨hi, hc, hX, hs⟩ := H
  obtain ⟨w1, w2, w3, w4, w5, w6, w7⟩ := wr7 hi
  obtain ⟨k, z, v1, w', a', t1, e1, e2, e3, e4, e5, e6, e7, e8, e9, e10⟩ := stepW (t := t) (op_number : OP L 99 220 [a_i (u 17 (i + 1).toNat), a_i (u 17 (i + 2).toNat)] eA) wrap_306 (by decide) hc.1 hc.2 hX
  have e1' : a_m 306 [a_r 18, a_i (u 17 (i + 1).toNat), a_i (u 17 (i + 2).toNat), a_r 1568] (K0 L, u, G a, t) = some (.inl (some (a_i k)), (K0 L, v1, G a', t1)) := e1
  have m1 := M_thr0 (L := L) (u := w') (a := a') (t := t1)
  rw [e3] at m1
  refine ⟨w', a', t1, a_i k, a_i z, v8, ?_, e5, e6, e8, e9, e10⟩
  have n7 : ∀ j, v1 17 j = u 17 j := fun j => by rw [e7]
  by_cases hk : k = 0
  · have hk' : ¬ k ≠ 0 := by omega
    have e4' : w' 1568 0 = z := e4 hk
    simp (disch := first | assumption | omega) only [B_L_law_644, B_L_law_661, B_L_law_679, B_L_law_685, Option.bind_some, back_v, Option.toList_some, Option.toList_none, List.cons_append, List.nil_append, Nat.reduceAdd, Int.reduceToNat, Int.reduceNeg, upm_eq, upm_r, upm_i, if_pos, if_neg, ite_self, true_or, or_true, true_and, and_true, false_or, or_false, false_and, and_false, wr_id, i10, i01, upr_f, upr_eq, thr58, upm_upr, upr_upr, lc_lt, lc_gt, lc_ge, lc_le, afit1, afit0, afitI, bifit, not_true_eq_false, not_false_eq_true, if_true, if_false, Bool.false_eq_true, reduceCtorEq, k1557, k1558, g1557_2, k17, k18, k1568, w1, w2, w3, w4, w5, w6, w7, n7, e1', e2, m1, e4']
  · have hk' : k ≠ 0 := hk
    simp (disch := first | assumption | omega) only [B_L_law_644, B_L_law_661, B_L_law_679, B_L_law_685, Option.bind_some, back_v, Option.toList_some, Option.toList_none, List.cons_append, List.nil_append, Nat.reduceAdd, Int.reduceToNat, Int.reduceNeg, upm_eq, upm_r, upm_i, if_pos, if_neg, ite_self, true_or, or_true, true_and, and_true, false_or, or_false, false_and, and_false, wr_id, i10, i01, upr_f, upr_eq, thr58, upm_upr, upr_upr, lc_lt, lc_gt, lc_ge, lc_le, afit1, afit0, afitI, bifit, not_true_eq_false, not_false_eq_true, if_true, if_false, Bool.false_eq_true, reduceCtorEq, k1557, k1558, g1557_2, k17, k18, k1568, w1, w2, w3, w4, w5, w6, w7, n7, e1', e2, m1]
theorem law_9 (H : LH L c i u a) : LN L c i u t (a_X 350 712 [a_r 17, a_r 18, a_r 1557, a_r 1568, a_r 1569, a_i i, v6, v7, v8] [] (K0 L, u, G a, t)) := by
  obtain ⟨hi, hc, hX, hs⟩ := H
  obtain ⟨w1, w2, w3, w4, w5, w6, w7⟩ := wr7 hi
  obtain ⟨k, z, v1, w', a', t1, e1, e2, e3, e4, e5, e6, e7, e8, e9, e10⟩ := stepW (t := t) (op_minutes : OP L 100 223 [a_i (u 17 (i + 1).toNat), a_i (u 17 (i + 2).toNat)] e3) wrap_307 (by decide) hc.1 hc.2 hX
  have e1' : a_m 307 [a_r 18, a_i (u 17 (i + 1).toNat), a_i (u 17 (i + 2).toNat), a_r 1568] (K0 L, u, G a, t) = some (.inl (some (a_i k)), (K0 L, v1, G a', t1)) := e1
  have m1 := M_thr0 (L := L) (u := w') (a := a') (t := t1)
  rw [e3] at m1
  refine ⟨w', a', t1, a_i k, a_i z, v8, ?_, e5, e6, e8, e9, e10⟩
  have n7 : ∀ j, v1 17 j = u 17 j := fun j => by rw [e7]
  by_cases hk : k = 0
  · have hk' : ¬ k ≠ 0 := by omega
    have e4' : w' 1568 0 = z := e4 hk
    simp (disch := first | assumption | omega) only [B_L_law_712, B_L_law_729, B_L_law_747, B_L_law_753, Option.bind_some, back_v, Option.toList_some, Option.toList_none, List.cons_append, List.nil_append, Nat.reduceAdd, Int.reduceToNat, Int.reduceNeg, upm_eq, upm_r, upm_i, if_pos, if_neg, ite_self, true_or, or_true, true_and, and_true, false_or, or_false, false_and, and_false, wr_id, i10, i01, upr_f, upr_eq, thr58, upm_upr, upr_upr, lc_lt, lc_gt, lc_ge, lc_le, afit1, afit0, afitI, bifit, not_true_eq_false, not_false_eq_true, if_true, if_false, Bool.false_eq_true, reduceCtorEq, k1557, k1558, g1557_2, k17, k18, k1568, w1, w2, w3, w4, w5, w6, w7, n7, e1', e2, m1, e4']
  · have hk' : k ≠ 0 := hk
    simp (disch := first | assumption | omega) only [B_L_law_712, B_L_law_729, B_L_law_747, B_L_law_753, Option.bind_some, back_v, Option.toList_some, Option.toList_none, List.cons_append, List.nil_append, Nat.reduceAdd, Int.reduceToNat, Int.reduceNeg, upm_eq, upm_r, upm_i, if_pos, if_neg, ite_self, true_or, or_true, true_and, and_true, false_or, or_false, false_and, and_false, wr_id, i10, i01, upr_f, upr_eq, thr58, upm_upr, upr_upr, lc_lt, lc_gt, lc_ge, lc_le, afit1, afit0, afitI, bifit, not_true_eq_false, not_false_eq_true, if_true, if_false, Bool.false_eq_true, reduceCtorEq, k1557, k1558, g1557_2, k17, k18, k1568, w1, w2, w3, w4, w5, w6, w7, n7, e1', e2, m1]
theorem law_10 (H : LH L c i u a) : LN L c i u t (a_X 350 780 [a_r 17, a_r 18, a_r 1557, a_r 1568, a_r 1569, a_i i, v6, v7, v8] [] (K0 L, u, G a, t)) := by
  obtain ⟨hi, hc, hX, hs⟩ := H
  obtain ⟨w1, w2, w3, w4, w5, w6, w7⟩ := wr7 hi
  obtain ⟨k, z, v1, w', a', t1, e1, e2, e3, e4, e5, e6, e7, e8, e9, e10⟩ := stepW (t := t) (op_stands : OP L 101 225 [a_i (u 17 (i + 1).toNat), a_i (u 17 (i + 2).toNat), a_i (u 17 (i + 3).toNat)] e3) wrap_308 (by decide) hc.1 hc.2 hX
  have e1' : a_m 308 [a_r 18, a_i (u 17 (i + 1).toNat), a_i (u 17 (i + 2).toNat), a_i (u 17 (i + 3).toNat), a_r 1568] (K0 L, u, G a, t) = some (.inl (some (a_i k)), (K0 L, v1, G a', t1)) := e1
  have m1 := M_thr0 (L := L) (u := w') (a := a') (t := t1)
  rw [e3] at m1
  refine ⟨w', a', t1, a_i k, a_i z, v8, ?_, e5, e6, e8, e9, e10⟩
  have n7 : ∀ j, v1 17 j = u 17 j := fun j => by rw [e7]
  by_cases hk : k = 0
  · have hk' : ¬ k ≠ 0 := by omega
    have e4' : w' 1568 0 = z := e4 hk
    simp (disch := first | assumption | omega) only [B_L_law_780, B_L_law_803, B_L_law_827, B_L_law_833, Option.bind_some, back_v, Option.toList_some, Option.toList_none, List.cons_append, List.nil_append, Nat.reduceAdd, Int.reduceToNat, Int.reduceNeg, upm_eq, upm_r, upm_i, if_pos, if_neg, ite_self, true_or, or_true, true_and, and_true, false_or, or_false, false_and, and_false, wr_id, i10, i01, upr_f, upr_eq, thr58, upm_upr, upr_upr, lc_lt, lc_gt, lc_ge, lc_le, afit1, afit0, afitI, bifit, not_true_eq_false, not_false_eq_true, if_true, if_false, Bool.false_eq_true, reduceCtorEq, k1557, k1558, g1557_2, k17, k18, k1568, w1, w2, w3, w4, w5, w6, w7, n7, e1', e2, m1, e4']
  · have hk' : k ≠ 0 := hk
    simp (disch := first | assumption | omega) only [B_L_law_780, B_L_law_803, B_L_law_827, B_L_law_833, Option.bind_some, back_v, Option.toList_some, Option.toList_none, List.cons_append, List.nil_append, Nat.reduceAdd, Int.reduceToNat, Int.reduceNeg, upm_eq, upm_r, upm_i, if_pos, if_neg, ite_self, true_or, or_true, true_and, and_true, false_or, or_false, false_and, and_false, wr_id, i10, i01, upr_f, upr_eq, thr58, upm_upr, upr_upr, lc_lt, lc_gt, lc_ge, lc_le, afit1, afit0, afitI, bifit, not_true_eq_false, not_false_eq_true, if_true, if_false, Bool.false_eq_true, reduceCtorEq, k1557, k1558, g1557_2, k17, k18, k1568, w1, w2, w3, w4, w5, w6, w7, n7, e1', e2, m1]
theorem law_11 (H : LH L c i u a) : LN L c i u t (a_X 350 860 [a_r 17, a_r 18, a_r 1557, a_r 1568, a_r 1569, a_i i, v6, v7, v8] [] (K0 L, u, G a, t)) := by
  obtain ⟨hi, hc, hX, hs⟩ := H
  obtain ⟨w1, w2, w3, w4, w5, w6, w7⟩ := wr7 hi
  obtain ⟨k, z, v1, w', a', t1, e1, e2, e3, e4, e5, e6, e7, e8, e9, e10⟩ := stepW (t := t) (op_nextAt : OP L 102 226 [a_i (u 17 (i + 1).toNat), a_i (u 17 (i + 2).toNat), a_i (u 17 (i + 3).toNat)] e3) wrap_309 (by decide) hc.1 hc.2 hX
  have e1' : a_m 309 [a_r 18, a_i (u 17 (i + 1).toNat), a_i (u 17 (i + 2).toNat), a_i (u 17 (i + 3).toNat), a_r 1568] (K0 L, u, G a, t) = some (.inl (some (a_i k)), (K0 L, v1, G a', t1)) := e1
  have m1 := M_thr0 (L := L) (u := w') (a := a') (t := t1)
  rw [e3] at m1
  refine ⟨w', a', t1, a_i k, a_i z, v8, ?_, e5, e6, e8, e9, e10⟩
  have n7 : ∀ j, v1 17 j = u 17 j := fun j => by rw [e7]
  by_cases hk : k = 0
  · have hk' : ¬ k ≠ 0 := by omega
    have e4' : w' 1568 0 = z := e4 hk
    simp (disch := first | assumption | omega) only [B_L_law_860, B_L_law_883, B_L_law_907, B_L_law_913, Option.bind_some, back_v, Option.toList_some, Option.toList_none, List.cons_append, List.nil_append, Nat.reduceAdd, Int.reduceToNat, Int.reduceNeg, upm_eq, upm_r, upm_i, if_pos, if_neg, ite_self, true_or, or_true, true_and, and_true, false_or, or_false, false_and, and_false, wr_id, i10, i01, upr_f, upr_eq, thr58, upm_upr, upr_upr, lc_lt, lc_gt, lc_ge, lc_le, afit1, afit0, afitI, bifit, not_true_eq_false, not_false_eq_true, if_true, if_false, Bool.false_eq_true, reduceCtorEq, k1557, k1558, g1557_2, k17, k18, k1568, w1, w2, w3, w4, w5, w6, w7, n7, e1', e2, m1, e4']
  · have hk' : k ≠ 0 := hk
    simp (disch := first | assumption | omega) only [B_L_law_860, B_L_law_883, B_L_law_907, B_L_law_913, Option.bind_some, back_v, Option.toList_some, Option.toList_none, List.cons_append, List.nil_append, Nat.reduceAdd, Int.reduceToNat, Int.reduceNeg, upm_eq, upm_r, upm_i, if_pos, if_neg, ite_self, true_or, or_true, true_and, and_true, false_or, or_false, false_and, and_false, wr_id, i10, i01, upr_f, upr_eq, thr58, upm_upr, upr_upr, lc_lt, lc_gt, lc_ge, lc_le, afit1, afit0, afitI, bifit, not_true_eq_false, not_false_eq_true, if_true, if_false, Bool.false_eq_true, reduceCtorEq, k1557, k1558, g1557_2, k17, k18, k1568, w1, w2, w3, w4, w5, w6, w7, n7, e1', e2, m1]
theorem law_12 (H : LH L c i u a) : LN L c i u t (a_X 350 940 [a_r 17, a_r 18, a_r 1557, a_r 1568, a_r 1569, a_i i, v6, v7, v8] [] (K0 L, u, G a, t)) := by
  obtain ⟨hi, hc, hX, hs⟩ := H
  obtain ⟨w1, w2, w3, w4, w5, w6, w7⟩ := wr7 hi
  obtain ⟨k, z, v1, w', a', t1, e1, e2, e3, e4, e5, e6, e7, e8, e9, e10⟩ := stepW (t := t) (op_clashes : OP L 103 228 [a_i (u 17 (i + 1).toNat)] e2) wrap_310 (by decide) hc.1 hc.2 hX
  have e1' : a_m 310 [a_r 18, a_i (u 17 (i + 1).toNat), a_r 1568] (K0 L, u, G a, t) = some (.inl (some (a_i k)), (K0 L, v1, G a', t1)) := e1
  have m1 := M_thr0 (L := L) (u := w') (a := a') (t := t1)
  rw [e3] at m1
  refine ⟨w', a', t1, a_i k, a_i z, v8, ?_, e5, e6, e8, e9, e10⟩
  have n7 : ∀ j, v1 17 j = u 17 j := fun j => by rw [e7]
  by_cases hk : k = 0
  · have hk' : ¬ k ≠ 0 := by omega
    have e4' : w' 1568 0 = z := e4 hk
    simp (disch := first | assumption | omega) only [B_L_law_940, B_L_law_951, B_L_law_963, B_L_law_969, Option.bind_some, back_v, Option.toList_some, Option.toList_none, List.cons_append, List.nil_append, Nat.reduceAdd, Int.reduceToNat, Int.reduceNeg, upm_eq, upm_r, upm_i, if_pos, if_neg, ite_self, true_or, or_true, true_and, and_true, false_or, or_false, false_and, and_false, wr_id, i10, i01, upr_f, upr_eq, thr58, upm_upr, upr_upr, lc_lt, lc_gt, lc_ge, lc_le, afit1, afit0, afitI, bifit, not_true_eq_false, not_false_eq_true, if_true, if_false, Bool.false_eq_true, reduceCtorEq, k1557, k1558, g1557_2, k17, k18, k1568, w1, w2, w3, w4, w5, w6, w7, n7, e1', e2, m1, e4']
  · have hk' : k ≠ 0 := hk
    simp (disch := first | assumption | omega) only [B_L_law_940, B_L_law_951, B_L_law_963, B_L_law_969, Option.bind_some, back_v, Option.toList_some, Option.toList_none, List.cons_append, List.nil_append, Nat.reduceAdd, Int.reduceToNat, Int.reduceNeg, upm_eq, upm_r, upm_i, if_pos, if_neg, ite_self, true_or, or_true, true_and, and_true, false_or, or_false, false_and, and_false, wr_id, i10, i01, upr_f, upr_eq, thr58, upm_upr, upr_upr, lc_lt, lc_gt, lc_ge, lc_le, afit1, afit0, afitI, bifit, not_true_eq_false, not_false_eq_true, if_true, if_false, Bool.false_eq_true, reduceCtorEq, k1557, k1558, g1557_2, k17, k18, k1568, w1, w2, w3, w4, w5, w6, w7, n7, e1', e2, m1]
theorem law_13 (H : LH L c i u a) : LN L c i u t (a_X 350 996 [a_r 17, a_r 18, a_r 1557, a_r 1568, a_r 1569, a_i i, v6, v7, v8] [] (K0 L, u, G a, t)) := by
  obtain ⟨hi, hc, hX, hs⟩ := H
  obtain ⟨w1, w2, w3, w4, w5, w6, w7⟩ := wr7 hi
  obtain ⟨k, z, v1, w', a', t1, e1, e2, e3, e4, e5, e6, e7, e8, e9, e10⟩ := stepW (t := t) (op_merged : OP L 104 234 [a_i (u 17 (i + 1).toNat), a_i (u 17 (i + 2).toNat)] e3) wrap_311 (by decide) hc.1 hc.2 hX
  have e1' : a_m 311 [a_r 18, a_i (u 17 (i + 1).toNat), a_i (u 17 (i + 2).toNat), a_r 1568] (K0 L, u, G a, t) = some (.inl (some (a_i k)), (K0 L, v1, G a', t1)) := e1
  have m1 := M_thr0 (L := L) (u := w') (a := a') (t := t1)
  rw [e3] at m1
  refine ⟨w', a', t1, a_i k, a_i z, v8, ?_, e5, e6, e8, e9, e10⟩
  have n7 : ∀ j, v1 17 j = u 17 j := fun j => by rw [e7]
  by_cases hk : k = 0
  · have hk' : ¬ k ≠ 0 := by omega
    have e4' : w' 1568 0 = z := e4 hk
    simp (disch := first | assumption | omega) only [B_L_law_996, B_L_law_1013, B_L_law_1031, B_L_law_1037, Option.bind_some, back_v, Option.toList_some, Option.toList_none, List.cons_append, List.nil_append, Nat.reduceAdd, Int.reduceToNat, Int.reduceNeg, upm_eq, upm_r, upm_i, if_pos, if_neg, ite_self, true_or, or_true, true_and, and_true, false_or, or_false, false_and, and_false, wr_id, i10, i01, upr_f, upr_eq, thr58, upm_upr, upr_upr, lc_lt, lc_gt, lc_ge, lc_le, afit1, afit0, afitI, bifit, not_true_eq_false, not_false_eq_true, if_true, if_false, Bool.false_eq_true, reduceCtorEq, k1557, k1558, g1557_2, k17, k18, k1568, w1, w2, w3, w4, w5, w6, w7, n7, e1', e2, m1, e4']
  · have hk' : k ≠ 0 := hk
    simp (disch := first | assumption | omega) only [B_L_law_996, B_L_law_1013, B_L_law_1031, B_L_law_1037, Option.bind_some, back_v, Option.toList_some, Option.toList_none, List.cons_append, List.nil_append, Nat.reduceAdd, Int.reduceToNat, Int.reduceNeg, upm_eq, upm_r, upm_i, if_pos, if_neg, ite_self, true_or, or_true, true_and, and_true, false_or, or_false, false_and, and_false, wr_id, i10, i01, upr_f, upr_eq, thr58, upm_upr, upr_upr, lc_lt, lc_gt, lc_ge, lc_le, afit1, afit0, afitI, bifit, not_true_eq_false, not_false_eq_true, if_true, if_false, Bool.false_eq_true, reduceCtorEq, k1557, k1558, g1557_2, k17, k18, k1568, w1, w2, w3, w4, w5, w6, w7, n7, e1', e2, m1]
theorem law_14 (H : LH L c i u a) : LN L c i u t (a_X 350 1064 [a_r 17, a_r 18, a_r 1557, a_r 1568, a_r 1569, a_i i, v6, v7, v8] [] (K0 L, u, G a, t)) := by
  obtain ⟨hi, hc, hX, hs⟩ := H
  obtain ⟨w1, w2, w3, w4, w5, w6, w7⟩ := wr7 hi
  obtain ⟨k, z, v1, w', a', t1, e1, e2, e3, e4, e5, e6, e7, e8, e9, e10⟩ := stepW (t := t) (op_mergedStop : OP L 105 235 [a_i (u 17 (i + 1).toNat), a_i (u 17 (i + 2).toNat), a_i (u 17 (i + 3).toNat), a_i (u 17 (i + 4).toNat)] e3) wrap_312 (by decide) hc.1 hc.2 hX
  have e1' : a_m 312 [a_r 18, a_i (u 17 (i + 1).toNat), a_i (u 17 (i + 2).toNat), a_i (u 17 (i + 3).toNat), a_i (u 17 (i + 4).toNat), a_r 1568] (K0 L, u, G a, t) = some (.inl (some (a_i k)), (K0 L, v1, G a', t1)) := e1
  have m1 := M_thr0 (L := L) (u := w') (a := a') (t := t1)
  rw [e3] at m1
  refine ⟨w', a', t1, a_i k, a_i z, v8, ?_, e5, e6, e8, e9, e10⟩
  have n7 : ∀ j, v1 17 j = u 17 j := fun j => by rw [e7]
  by_cases hk : k = 0
  · have hk' : ¬ k ≠ 0 := by omega
    have e4' : w' 1568 0 = z := e4 hk
    simp (disch := first | assumption | omega) only [B_L_law_1064, B_L_law_1093, B_L_law_1123, B_L_law_1129, Option.bind_some, back_v, Option.toList_some, Option.toList_none, List.cons_append, List.nil_append, Nat.reduceAdd, Int.reduceToNat, Int.reduceNeg, upm_eq, upm_r, upm_i, if_pos, if_neg, ite_self, true_or, or_true, true_and, and_true, false_or, or_false, false_and, and_false, wr_id, i10, i01, upr_f, upr_eq, thr58, upm_upr, upr_upr, lc_lt, lc_gt, lc_ge, lc_le, afit1, afit0, afitI, bifit, not_true_eq_false, not_false_eq_true, if_true, if_false, Bool.false_eq_true, reduceCtorEq, k1557, k1558, g1557_2, k17, k18, k1568, w1, w2, w3, w4, w5, w6, w7, n7, e1', e2, m1, e4']
  · have hk' : k ≠ 0 := hk
    simp (disch := first | assumption | omega) only [B_L_law_1064, B_L_law_1093, B_L_law_1123, B_L_law_1129, Option.bind_some, back_v, Option.toList_some, Option.toList_none, List.cons_append, List.nil_append, Nat.reduceAdd, Int.reduceToNat, Int.reduceNeg, upm_eq, upm_r, upm_i, if_pos, if_neg, ite_self, true_or, or_true, true_and, and_true, false_or, or_false, false_and, and_false, wr_id, i10, i01, upr_f, upr_eq, thr58, upm_upr, upr_upr, lc_lt, lc_gt, lc_ge, lc_le, afit1, afit0, afitI, bifit, not_true_eq_false, not_false_eq_true, if_true, if_false, Bool.false_eq_true, reduceCtorEq, k1557, k1558, g1557_2, k17, k18, k1568, w1, w2, w3, w4, w5, w6, w7, n7, e1', e2, m1]
theorem law_15 (H : LH L c i u a) : LN L c i u t (a_X 350 1156 [a_r 17, a_r 18, a_r 1557, a_r 1568, a_r 1569, a_i i, v6, v7, v8] [] (K0 L, u, G a, t)) := by
  obtain ⟨hi, hc, hX, hs⟩ := H
  obtain ⟨w1, w2, w3, w4, w5, w6, w7⟩ := wr7 hi
  obtain ⟨k, z, v1, w', a', t1, e1, e2, e3, e4, e5, e6, e7, e8, e9, e10⟩ := stepW (t := t) (op_listener : OP L 106 239 [a_i (u 17 (i + 1).toNat), a_i (u 17 (i + 2).toNat)] e3) wrap_313 (by decide) hc.1 hc.2 hX
  have e1' : a_m 313 [a_r 18, a_i (u 17 (i + 1).toNat), a_i (u 17 (i + 2).toNat), a_r 1568] (K0 L, u, G a, t) = some (.inl (some (a_i k)), (K0 L, v1, G a', t1)) := e1
  have m1 := M_thr0 (L := L) (u := w') (a := a') (t := t1)
  rw [e3] at m1
  refine ⟨w', a', t1, a_i k, a_i z, v8, ?_, e5, e6, e8, e9, e10⟩
  have n7 : ∀ j, v1 17 j = u 17 j := fun j => by rw [e7]
  by_cases hk : k = 0
  · have hk' : ¬ k ≠ 0 := by omega
    have e4' : w' 1568 0 = z := e4 hk
    simp (disch := first | assumption | omega) only [B_L_law_1156, B_L_law_1173, B_L_law_1191, B_L_law_1197, Option.bind_some, back_v, Option.toList_some, Option.toList_none, List.cons_append, List.nil_append, Nat.reduceAdd, Int.reduceToNat, Int.reduceNeg, upm_eq, upm_r, upm_i, if_pos, if_neg, ite_self, true_or, or_true, true_and, and_true, false_or, or_false, false_and, and_false, wr_id, i10, i01, upr_f, upr_eq, thr58, upm_upr, upr_upr, lc_lt, lc_gt, lc_ge, lc_le, afit1, afit0, afitI, bifit, not_true_eq_false, not_false_eq_true, if_true, if_false, Bool.false_eq_true, reduceCtorEq, k1557, k1558, g1557_2, k17, k18, k1568, w1, w2, w3, w4, w5, w6, w7, n7, e1', e2, m1, e4']
  · have hk' : k ≠ 0 := hk
    simp (disch := first | assumption | omega) only [B_L_law_1156, B_L_law_1173, B_L_law_1191, B_L_law_1197, Option.bind_some, back_v, Option.toList_some, Option.toList_none, List.cons_append, List.nil_append, Nat.reduceAdd, Int.reduceToNat, Int.reduceNeg, upm_eq, upm_r, upm_i, if_pos, if_neg, ite_self, true_or, or_true, true_and, and_true, false_or, or_false, false_and, and_false, wr_id, i10, i01, upr_f, upr_eq, thr58, upm_upr, upr_upr, lc_lt, lc_gt, lc_ge, lc_le, afit1, afit0, afitI, bifit, not_true_eq_false, not_false_eq_true, if_true, if_false, Bool.false_eq_true, reduceCtorEq, k1557, k1558, g1557_2, k17, k18, k1568, w1, w2, w3, w4, w5, w6, w7, n7, e1', e2, m1]
theorem law_16 (H : LH L c i u a) : LN L c i u t (a_X 350 1224 [a_r 17, a_r 18, a_r 1557, a_r 1568, a_r 1569, a_i i, v6, v7, v8] [] (K0 L, u, G a, t)) := by
  obtain ⟨hi, hc, hX, hs⟩ := H
  obtain ⟨w1, w2, w3, w4, w5, w6, w7⟩ := wr7 hi
  obtain ⟨k, z, v1, w', a', t1, e1, e2, e3, e4, e5, e6, e7, e8, e9, e10⟩ := stepW (t := t) (op_gap : OP L 107 240 [a_i (u 17 (i + 1).toNat), a_i (u 17 (i + 2).toNat), a_i (u 17 (i + 3).toNat)] e3) wrap_314 (by decide) hc.1 hc.2 hX
  have e1' : a_m 314 [a_r 18, a_i (u 17 (i + 1).toNat), a_i (u 17 (i + 2).toNat), a_i (u 17 (i + 3).toNat), a_r 1568] (K0 L, u, G a, t) = some (.inl (some (a_i k)), (K0 L, v1, G a', t1)) := e1
  have m1 := M_thr0 (L := L) (u := w') (a := a') (t := t1)
  rw [e3] at m1
  refine ⟨w', a', t1, a_i k, a_i z, v8, ?_, e5, e6, e8, e9, e10⟩
  have n7 : ∀ j, v1 17 j = u 17 j := fun j => by rw [e7]
  by_cases hk : k = 0
  · have hk' : ¬ k ≠ 0 := by omega
    have e4' : w' 1568 0 = z := e4 hk
    simp (disch := first | assumption | omega) only [B_L_law_1224, B_L_law_1247, B_L_law_1271, B_L_law_1277, Option.bind_some, back_v, Option.toList_some, Option.toList_none, List.cons_append, List.nil_append, Nat.reduceAdd, Int.reduceToNat, Int.reduceNeg, upm_eq, upm_r, upm_i, if_pos, if_neg, ite_self, true_or, or_true, true_and, and_true, false_or, or_false, false_and, and_false, wr_id, i10, i01, upr_f, upr_eq, thr58, upm_upr, upr_upr, lc_lt, lc_gt, lc_ge, lc_le, afit1, afit0, afitI, bifit, not_true_eq_false, not_false_eq_true, if_true, if_false, Bool.false_eq_true, reduceCtorEq, k1557, k1558, g1557_2, k17, k18, k1568, w1, w2, w3, w4, w5, w6, w7, n7, e1', e2, m1, e4']
  · have hk' : k ≠ 0 := hk
    simp (disch := first | assumption | omega) only [B_L_law_1224, B_L_law_1247, B_L_law_1271, B_L_law_1277, Option.bind_some, back_v, Option.toList_some, Option.toList_none, List.cons_append, List.nil_append, Nat.reduceAdd, Int.reduceToNat, Int.reduceNeg, upm_eq, upm_r, upm_i, if_pos, if_neg, ite_self, true_or, or_true, true_and, and_true, false_or, or_false, false_and, and_false, wr_id, i10, i01, upr_f, upr_eq, thr58, upm_upr, upr_upr, lc_lt, lc_gt, lc_ge, lc_le, afit1, afit0, afitI, bifit, not_true_eq_false, not_false_eq_true, if_true, if_false, Bool.false_eq_true, reduceCtorEq, k1557, k1558, g1557_2, k17, k18, k1568, w1, w2, w3, w4, w5, w6, w7, n7, e1', e2, m1]
theorem law_17 (H : LH L c i u a) : LN L c i u t (a_X 350 1304 [a_r 17, a_r 18, a_r 1557, a_r 1568, a_r 1569, a_i i, v6, v7, v8] [] (K0 L, u, G a, t)) := by
  obtain ⟨hi, hc, hX, hs⟩ := H
  obtain ⟨w1, w2, w3, w4, w5, w6, w7⟩ := wr7 hi
  obtain ⟨k, z, v1, w', a', t1, e1, e2, e3, e4, e5, e6, e7, e8, e9, e10⟩ := stepW (t := t) (op_hasHeard : OP L 108 241 [a_i (u 17 (i + 1).toNat), a_i (u 17 (i + 2).toNat)] e2) wrap_315 (by decide) hc.1 hc.2 hX
  have e1' : a_m 315 [a_r 18, a_i (u 17 (i + 1).toNat), a_i (u 17 (i + 2).toNat), a_r 1568] (K0 L, u, G a, t) = some (.inl (some (a_i k)), (K0 L, v1, G a', t1)) := e1
  have m1 := M_thr0 (L := L) (u := w') (a := a') (t := t1)
  rw [e3] at m1
  refine ⟨w', a', t1, a_i k, a_i z, v8, ?_, e5, e6, e8, e9, e10⟩
  have n7 : ∀ j, v1 17 j = u 17 j := fun j => by rw [e7]
  by_cases hk : k = 0
  · have hk' : ¬ k ≠ 0 := by omega
    have e4' : w' 1568 0 = if z = 0 then 0 else 1 := e4 hk
    by_cases hz : z = 0
    · rw [if_pos hz] at e4'; simp (disch := first | assumption | omega) only [B_L_law_1304, B_L_law_1321, B_L_law_1339, B_L_law_1345, Option.bind_some, back_v, Option.toList_some, Option.toList_none, List.cons_append, List.nil_append, Nat.reduceAdd, Int.reduceToNat, Int.reduceNeg, upm_eq, upm_r, upm_i, if_pos, if_neg, ite_self, true_or, or_true, true_and, and_true, false_or, or_false, false_and, and_false, wr_id, i10, i01, upr_f, upr_eq, thr58, upm_upr, upr_upr, lc_lt, lc_gt, lc_ge, lc_le, afit1, afit0, afitI, bifit, not_true_eq_false, not_false_eq_true, if_true, if_false, Bool.false_eq_true, reduceCtorEq, k1557, k1558, g1557_2, k17, k18, k1568, w1, w2, w3, w4, w5, w6, w7, n7, e1', e2, m1, e4', hz]
    · rw [if_neg hz] at e4'; simp (disch := first | assumption | omega) only [B_L_law_1304, B_L_law_1321, B_L_law_1339, B_L_law_1345, Option.bind_some, back_v, Option.toList_some, Option.toList_none, List.cons_append, List.nil_append, Nat.reduceAdd, Int.reduceToNat, Int.reduceNeg, upm_eq, upm_r, upm_i, if_pos, if_neg, ite_self, true_or, or_true, true_and, and_true, false_or, or_false, false_and, and_false, wr_id, i10, i01, upr_f, upr_eq, thr58, upm_upr, upr_upr, lc_lt, lc_gt, lc_ge, lc_le, afit1, afit0, afitI, bifit, not_true_eq_false, not_false_eq_true, if_true, if_false, Bool.false_eq_true, reduceCtorEq, k1557, k1558, g1557_2, k17, k18, k1568, w1, w2, w3, w4, w5, w6, w7, n7, e1', e2, m1, e4', hz]
  · have hk' : k ≠ 0 := hk
    simp (disch := first | assumption | omega) only [B_L_law_1304, B_L_law_1321, B_L_law_1339, B_L_law_1345, Option.bind_some, back_v, Option.toList_some, Option.toList_none, List.cons_append, List.nil_append, Nat.reduceAdd, Int.reduceToNat, Int.reduceNeg, upm_eq, upm_r, upm_i, if_pos, if_neg, ite_self, true_or, or_true, true_and, and_true, false_or, or_false, false_and, and_false, wr_id, i10, i01, upr_f, upr_eq, thr58, upm_upr, upr_upr, lc_lt, lc_gt, lc_ge, lc_le, afit1, afit0, afitI, bifit, not_true_eq_false, not_false_eq_true, if_true, if_false, Bool.false_eq_true, reduceCtorEq, k1557, k1558, g1557_2, k17, k18, k1568, w1, w2, w3, w4, w5, w6, w7, n7, e1', e2, m1]
theorem law_18 (H : LH L c i u a) : LN L c i u t (a_X 350 1379 [a_r 17, a_r 18, a_r 1557, a_r 1568, a_r 1569, a_i i, v6, v7, v8] [] (K0 L, u, G a, t)) := by
  obtain ⟨hi, hc, hX, hs⟩ := H
  obtain ⟨w1, w2, w3, w4, w5, w6, w7⟩ := wr7 hi
  obtain ⟨k, z, v1, w', a', t1, e1, e2, e3, e4, e5, e6, e7, e8, e9, e10⟩ := stepW (t := t) (op_missing (hs _) : OP L 109 242 [a_i (u 17 (i + 1).toNat), a_i (u 17 (i + 2).toNat)] e2) wrap_316 (by decide) hc.1 hc.2 hX
  have e1' : a_m 316 [a_r 18, a_i (u 17 (i + 1).toNat), a_i (u 17 (i + 2).toNat), a_r 1568] (K0 L, u, G a, t) = some (.inl (some (a_i k)), (K0 L, v1, G a', t1)) := e1
  have m1 := M_thr0 (L := L) (u := w') (a := a') (t := t1)
  rw [e3] at m1
  refine ⟨w', a', t1, a_i k, a_i z, v8, ?_, e5, e6, e8, e9, e10⟩
  have n7 : ∀ j, v1 17 j = u 17 j := fun j => by rw [e7]
  by_cases hk : k = 0
  · have hk' : ¬ k ≠ 0 := by omega
    have e4' : w' 1568 0 = z := e4 hk
    simp (disch := first | assumption | omega) only [B_L_law_1379, B_L_law_1396, B_L_law_1414, B_L_law_1420, Option.bind_some, back_v, Option.toList_some, Option.toList_none, List.cons_append, List.nil_append, Nat.reduceAdd, Int.reduceToNat, Int.reduceNeg, upm_eq, upm_r, upm_i, if_pos, if_neg, ite_self, true_or, or_true, true_and, and_true, false_or, or_false, false_and, and_false, wr_id, i10, i01, upr_f, upr_eq, thr58, upm_upr, upr_upr, lc_lt, lc_gt, lc_ge, lc_le, afit1, afit0, afitI, bifit, not_true_eq_false, not_false_eq_true, if_true, if_false, Bool.false_eq_true, reduceCtorEq, k1557, k1558, g1557_2, k17, k18, k1568, w1, w2, w3, w4, w5, w6, w7, n7, e1', e2, m1, e4']
  · have hk' : k ≠ 0 := hk
    simp (disch := first | assumption | omega) only [B_L_law_1379, B_L_law_1396, B_L_law_1414, B_L_law_1420, Option.bind_some, back_v, Option.toList_some, Option.toList_none, List.cons_append, List.nil_append, Nat.reduceAdd, Int.reduceToNat, Int.reduceNeg, upm_eq, upm_r, upm_i, if_pos, if_neg, ite_self, true_or, or_true, true_and, and_true, false_or, or_false, false_and, and_false, wr_id, i10, i01, upr_f, upr_eq, thr58, upm_upr, upr_upr, lc_lt, lc_gt, lc_ge, lc_le, afit1, afit0, afitI, bifit, not_true_eq_false, not_false_eq_true, if_true, if_false, Bool.false_eq_true, reduceCtorEq, k1557, k1558, g1557_2, k17, k18, k1568, w1, w2, w3, w4, w5, w6, w7, n7, e1', e2, m1]
theorem law_19 (H : LH L c i u a) : LN L c i u t (a_X 350 1447 [a_r 17, a_r 18, a_r 1557, a_r 1568, a_r 1569, a_i i, v6, v7, v8] [] (K0 L, u, G a, t)) := by
  obtain ⟨hi, hc, hX, hs⟩ := H
  obtain ⟨w1, w2, w3, w4, w5, w6, w7⟩ := wr7 hi
  obtain ⟨k, z, v1, w', a', t1, e1, e2, e3, e4, e5, e6, e7, e8, e9, e10⟩ := stepW (t := t) (op_isSame : OP L 110 243 [a_i (u 17 (i + 1).toNat), a_i (u 17 (i + 2).toNat)] e2) wrap_317 (by decide) hc.1 hc.2 hX
  have e1' : a_m 317 [a_r 18, a_i (u 17 (i + 1).toNat), a_i (u 17 (i + 2).toNat), a_r 1568] (K0 L, u, G a, t) = some (.inl (some (a_i k)), (K0 L, v1, G a', t1)) := e1
  have m1 := M_thr0 (L := L) (u := w') (a := a') (t := t1)
  rw [e3] at m1
  refine ⟨w', a', t1, a_i k, a_i z, v8, ?_, e5, e6, e8, e9, e10⟩
  have n7 : ∀ j, v1 17 j = u 17 j := fun j => by rw [e7]
  by_cases hk : k = 0
  · have hk' : ¬ k ≠ 0 := by omega
    have e4' : w' 1568 0 = if z = 0 then 0 else 1 := e4 hk
    by_cases hz : z = 0
    · rw [if_pos hz] at e4'; simp (disch := first | assumption | omega) only [B_L_law_1447, B_L_law_1464, B_L_law_1482, B_L_law_1488, Option.bind_some, back_v, Option.toList_some, Option.toList_none, List.cons_append, List.nil_append, Nat.reduceAdd, Int.reduceToNat, Int.reduceNeg, upm_eq, upm_r, upm_i, if_pos, if_neg, ite_self, true_or, or_true, true_and, and_true, false_or, or_false, false_and, and_false, wr_id, i10, i01, upr_f, upr_eq, thr58, upm_upr, upr_upr, lc_lt, lc_gt, lc_ge, lc_le, afit1, afit0, afitI, bifit, not_true_eq_false, not_false_eq_true, if_true, if_false, Bool.false_eq_true, reduceCtorEq, k1557, k1558, g1557_2, k17, k18, k1568, w1, w2, w3, w4, w5, w6, w7, n7, e1', e2, m1, e4', hz]
    · rw [if_neg hz] at e4'; simp (disch := first | assumption | omega) only [B_L_law_1447, B_L_law_1464, B_L_law_1482, B_L_law_1488, Option.bind_some, back_v, Option.toList_some, Option.toList_none, List.cons_append, List.nil_append, Nat.reduceAdd, Int.reduceToNat, Int.reduceNeg, upm_eq, upm_r, upm_i, if_pos, if_neg, ite_self, true_or, or_true, true_and, and_true, false_or, or_false, false_and, and_false, wr_id, i10, i01, upr_f, upr_eq, thr58, upm_upr, upr_upr, lc_lt, lc_gt, lc_ge, lc_le, afit1, afit0, afitI, bifit, not_true_eq_false, not_false_eq_true, if_true, if_false, Bool.false_eq_true, reduceCtorEq, k1557, k1558, g1557_2, k17, k18, k1568, w1, w2, w3, w4, w5, w6, w7, n7, e1', e2, m1, e4', hz]
  · have hk' : k ≠ 0 := hk
    simp (disch := first | assumption | omega) only [B_L_law_1447, B_L_law_1464, B_L_law_1482, B_L_law_1488, Option.bind_some, back_v, Option.toList_some, Option.toList_none, List.cons_append, List.nil_append, Nat.reduceAdd, Int.reduceToNat, Int.reduceNeg, upm_eq, upm_r, upm_i, if_pos, if_neg, ite_self, true_or, or_true, true_and, and_true, false_or, or_false, false_and, and_false, wr_id, i10, i01, upr_f, upr_eq, thr58, upm_upr, upr_upr, lc_lt, lc_gt, lc_ge, lc_le, afit1, afit0, afitI, bifit, not_true_eq_false, not_false_eq_true, if_true, if_false, Bool.false_eq_true, reduceCtorEq, k1557, k1558, g1557_2, k17, k18, k1568, w1, w2, w3, w4, w5, w6, w7, n7, e1', e2, m1]
theorem law_20 (H : LH L c i u a) : LN L c i u t (a_X 350 1522 [a_r 17, a_r 18, a_r 1557, a_r 1568, a_r 1569, a_i i, v6, v7, v8] [] (K0 L, u, G a, t)) := by
  obtain ⟨hi, hc, hX, hs⟩ := H
  obtain ⟨w1, w2, w3, w4, w5, w6, w7⟩ := wr7 hi
  obtain ⟨k, z, v1, w', a', t1, e1, e2, e3, e4, e5, e6, e7, e8, e9, e10⟩ := stepW (t := t) (op_wrongMinutes : OP L 111 245 [a_i (u 17 (i + 1).toNat)] e2) wrap_318 (by decide) hc.1 hc.2 hX
  have e1' : a_m 318 [a_r 18, a_i (u 17 (i + 1).toNat), a_r 1568] (K0 L, u, G a, t) = some (.inl (some (a_i k)), (K0 L, v1, G a', t1)) := e1
  have m1 := M_thr0 (L := L) (u := w') (a := a') (t := t1)
  rw [e3] at m1
  refine ⟨w', a', t1, a_i k, a_i z, v8, ?_, e5, e6, e8, e9, e10⟩
  have n7 : ∀ j, v1 17 j = u 17 j := fun j => by rw [e7]
  by_cases hk : k = 0
  · have hk' : ¬ k ≠ 0 := by omega
    have e4' : w' 1568 0 = z := e4 hk
    simp (disch := first | assumption | omega) only [B_L_law_1522, B_L_law_1533, B_L_law_1545, B_L_law_1551, Option.bind_some, back_v, Option.toList_some, Option.toList_none, List.cons_append, List.nil_append, Nat.reduceAdd, Int.reduceToNat, Int.reduceNeg, upm_eq, upm_r, upm_i, if_pos, if_neg, ite_self, true_or, or_true, true_and, and_true, false_or, or_false, false_and, and_false, wr_id, i10, i01, upr_f, upr_eq, thr58, upm_upr, upr_upr, lc_lt, lc_gt, lc_ge, lc_le, afit1, afit0, afitI, bifit, not_true_eq_false, not_false_eq_true, if_true, if_false, Bool.false_eq_true, reduceCtorEq, k1557, k1558, g1557_2, k17, k18, k1568, w1, w2, w3, w4, w5, w6, w7, n7, e1', e2, m1, e4']
  · have hk' : k ≠ 0 := hk
    simp (disch := first | assumption | omega) only [B_L_law_1522, B_L_law_1533, B_L_law_1545, B_L_law_1551, Option.bind_some, back_v, Option.toList_some, Option.toList_none, List.cons_append, List.nil_append, Nat.reduceAdd, Int.reduceToNat, Int.reduceNeg, upm_eq, upm_r, upm_i, if_pos, if_neg, ite_self, true_or, or_true, true_and, and_true, false_or, or_false, false_and, and_false, wr_id, i10, i01, upr_f, upr_eq, thr58, upm_upr, upr_upr, lc_lt, lc_gt, lc_ge, lc_le, afit1, afit0, afitI, bifit, not_true_eq_false, not_false_eq_true, if_true, if_false, Bool.false_eq_true, reduceCtorEq, k1557, k1558, g1557_2, k17, k18, k1568, w1, w2, w3, w4, w5, w6, w7, n7, e1', e2, m1]
theorem law_21 (H : LH L c i u a) : LN L c i u t (a_X 350 1578 [a_r 17, a_r 18, a_r 1557, a_r 1568, a_r 1569, a_i i, v6, v7, v8] [] (K0 L, u, G a, t)) := by
  obtain ⟨hi, hc, hX, hs⟩ := H
  obtain ⟨w1, w2, w3, w4, w5, w6, w7⟩ := wr7 hi
  obtain ⟨k, z, v1, w', a', t1, e1, e2, e3, e4, e5, e6, e7, e8, e9, e10⟩ := stepW (t := t) (op_worst : OP L 112 246 [] e1) wrap_319 (by decide) hc.1 hc.2 hX
  have e1' : a_m 319 [a_r 18, a_r 1568] (K0 L, u, G a, t) = some (.inl (some (a_i k)), (K0 L, v1, G a', t1)) := e1
  have m1 := M_thr0 (L := L) (u := w') (a := a') (t := t1)
  rw [e3] at m1
  refine ⟨w', a', t1, a_i k, a_i z, v8, ?_, e5, e6, e8, e9, e10⟩
  have n7 : ∀ j, v1 17 j = u 17 j := fun j => by rw [e7]
  by_cases hk : k = 0
  · have hk' : ¬ k ≠ 0 := by omega
    have e4' : w' 1568 0 = z := e4 hk
    simp (disch := first | assumption | omega) only [B_L_law_1578, B_L_law_1583, B_L_law_1589, B_L_law_1595, Option.bind_some, back_v, Option.toList_some, Option.toList_none, List.cons_append, List.nil_append, Nat.reduceAdd, Int.reduceToNat, Int.reduceNeg, upm_eq, upm_r, upm_i, if_pos, if_neg, ite_self, true_or, or_true, true_and, and_true, false_or, or_false, false_and, and_false, wr_id, i10, i01, upr_f, upr_eq, thr58, upm_upr, upr_upr, lc_lt, lc_gt, lc_ge, lc_le, afit1, afit0, afitI, bifit, not_true_eq_false, not_false_eq_true, if_true, if_false, Bool.false_eq_true, reduceCtorEq, k1557, k1558, g1557_2, k17, k18, k1568, w1, w2, w3, w4, w5, w6, w7, n7, e1', e2, m1, e4']
  · have hk' : k ≠ 0 := hk
    simp (disch := first | assumption | omega) only [B_L_law_1578, B_L_law_1583, B_L_law_1589, B_L_law_1595, Option.bind_some, back_v, Option.toList_some, Option.toList_none, List.cons_append, List.nil_append, Nat.reduceAdd, Int.reduceToNat, Int.reduceNeg, upm_eq, upm_r, upm_i, if_pos, if_neg, ite_self, true_or, or_true, true_and, and_true, false_or, or_false, false_and, and_false, wr_id, i10, i01, upr_f, upr_eq, thr58, upm_upr, upr_upr, lc_lt, lc_gt, lc_ge, lc_le, afit1, afit0, afitI, bifit, not_true_eq_false, not_false_eq_true, if_true, if_false, Bool.false_eq_true, reduceCtorEq, k1557, k1558, g1557_2, k17, k18, k1568, w1, w2, w3, w4, w5, w6, w7, n7, e1', e2, m1]
theorem law_22 (H : LH L c i u a) : LN L c i u t (a_X 350 1622 [a_r 17, a_r 18, a_r 1557, a_r 1568, a_r 1569, a_i i, v6, v7, v8] [] (K0 L, u, G a, t)) := by
  obtain ⟨hi, hc, hX, hs⟩ := H
  obtain ⟨w1, w2, w3, w4, w5, w6, w7⟩ := wr7 hi
  obtain ⟨k, z, v1, w', a', t1, e1, e2, e3, e4, e5, e6, e7, e8, e9, e10⟩ := stepW (t := t) (op_behind : OP L 113 248 [a_i (u 17 (i + 1).toNat)] e2) wrap_320 (by decide) hc.1 hc.2 hX
  have e1' : a_m 320 [a_r 18, a_i (u 17 (i + 1).toNat), a_r 1568] (K0 L, u, G a, t) = some (.inl (some (a_i k)), (K0 L, v1, G a', t1)) := e1
  have m1 := M_thr0 (L := L) (u := w') (a := a') (t := t1)
  rw [e3] at m1
  refine ⟨w', a', t1, a_i k, a_i z, v8, ?_, e5, e6, e8, e9, e10⟩
  have n7 : ∀ j, v1 17 j = u 17 j := fun j => by rw [e7]
  by_cases hk : k = 0
  · have hk' : ¬ k ≠ 0 := by omega
    have e4' : w' 1568 0 = z := e4 hk
    simp (disch := first | assumption | omega) only [B_L_law_1622, B_L_law_1633, B_L_law_1645, B_L_law_1651, Option.bind_some, back_v, Option.toList_some, Option.toList_none, List.cons_append, List.nil_append, Nat.reduceAdd, Int.reduceToNat, Int.reduceNeg, upm_eq, upm_r, upm_i, if_pos, if_neg, ite_self, true_or, or_true, true_and, and_true, false_or, or_false, false_and, and_false, wr_id, i10, i01, upr_f, upr_eq, thr58, upm_upr, upr_upr, lc_lt, lc_gt, lc_ge, lc_le, afit1, afit0, afitI, bifit, not_true_eq_false, not_false_eq_true, if_true, if_false, Bool.false_eq_true, reduceCtorEq, k1557, k1558, g1557_2, k17, k18, k1568, w1, w2, w3, w4, w5, w6, w7, n7, e1', e2, m1, e4']
  · have hk' : k ≠ 0 := hk
    simp (disch := first | assumption | omega) only [B_L_law_1622, B_L_law_1633, B_L_law_1645, B_L_law_1651, Option.bind_some, back_v, Option.toList_some, Option.toList_none, List.cons_append, List.nil_append, Nat.reduceAdd, Int.reduceToNat, Int.reduceNeg, upm_eq, upm_r, upm_i, if_pos, if_neg, ite_self, true_or, or_true, true_and, and_true, false_or, or_false, false_and, and_false, wr_id, i10, i01, upr_f, upr_eq, thr58, upm_upr, upr_upr, lc_lt, lc_gt, lc_ge, lc_le, afit1, afit0, afitI, bifit, not_true_eq_false, not_false_eq_true, if_true, if_false, Bool.false_eq_true, reduceCtorEq, k1557, k1558, g1557_2, k17, k18, k1568, w1, w2, w3, w4, w5, w6, w7, n7, e1', e2, m1]
theorem law_23 (H : LH L c i u a) : LN L c i u t (a_X 350 1678 [a_r 17, a_r 18, a_r 1557, a_r 1568, a_r 1569, a_i i, v6, v7, v8] [] (K0 L, u, G a, t)) := by
  obtain ⟨hi, hc, hX, hs⟩ := H
  obtain ⟨w1, w2, w3, w4, w5, w6, w7⟩ := wr7 hi
  obtain ⟨k, z, v1, w', a', t1, e1, e2, e3, e4, e5, e6, e7, e8, e9, e10⟩ := stepW (t := t) (op_overtakes : OP L 114 250 [a_i (u 17 (i + 1).toNat)] e2) wrap_321 (by decide) hc.1 hc.2 hX
  have e1' : a_m 321 [a_r 18, a_i (u 17 (i + 1).toNat), a_r 1568] (K0 L, u, G a, t) = some (.inl (some (a_i k)), (K0 L, v1, G a', t1)) := e1
  have m1 := M_thr0 (L := L) (u := w') (a := a') (t := t1)
  rw [e3] at m1
  refine ⟨w', a', t1, a_i k, a_i z, v8, ?_, e5, e6, e8, e9, e10⟩
  have n7 : ∀ j, v1 17 j = u 17 j := fun j => by rw [e7]
  by_cases hk : k = 0
  · have hk' : ¬ k ≠ 0 := by omega
    have e4' : w' 1568 0 = z := e4 hk
    simp (disch := first | assumption | omega) only [B_L_law_1678, B_L_law_1689, B_L_law_1701, B_L_law_1707, Option.bind_some, back_v, Option.toList_some, Option.toList_none, List.cons_append, List.nil_append, Nat.reduceAdd, Int.reduceToNat, Int.reduceNeg, upm_eq, upm_r, upm_i, if_pos, if_neg, ite_self, true_or, or_true, true_and, and_true, false_or, or_false, false_and, and_false, wr_id, i10, i01, upr_f, upr_eq, thr58, upm_upr, upr_upr, lc_lt, lc_gt, lc_ge, lc_le, afit1, afit0, afitI, bifit, not_true_eq_false, not_false_eq_true, if_true, if_false, Bool.false_eq_true, reduceCtorEq, k1557, k1558, g1557_2, k17, k18, k1568, w1, w2, w3, w4, w5, w6, w7, n7, e1', e2, m1, e4']
  · have hk' : k ≠ 0 := hk
    simp (disch := first | assumption | omega) only [B_L_law_1678, B_L_law_1689, B_L_law_1701, B_L_law_1707, Option.bind_some, back_v, Option.toList_some, Option.toList_none, List.cons_append, List.nil_append, Nat.reduceAdd, Int.reduceToNat, Int.reduceNeg, upm_eq, upm_r, upm_i, if_pos, if_neg, ite_self, true_or, or_true, true_and, and_true, false_or, or_false, false_and, and_false, wr_id, i10, i01, upr_f, upr_eq, thr58, upm_upr, upr_upr, lc_lt, lc_gt, lc_ge, lc_le, afit1, afit0, afitI, bifit, not_true_eq_false, not_false_eq_true, if_true, if_false, Bool.false_eq_true, reduceCtorEq, k1557, k1558, g1557_2, k17, k18, k1568, w1, w2, w3, w4, w5, w6, w7, n7, e1', e2, m1]
theorem law_24 (H : LH L c i u a) : LN L c i u t (a_X 350 1734 [a_r 17, a_r 18, a_r 1557, a_r 1568, a_r 1569, a_i i, v6, v7, v8] [] (K0 L, u, G a, t)) := by
  obtain ⟨hi, hc, hX, hs⟩ := H
  obtain ⟨w1, w2, w3, w4, w5, w6, w7⟩ := wr7 hi
  obtain ⟨k, z, v1, w', a', t1, e1, e2, e3, e4, e5, e6, e7, e8, e9, e10⟩ := stepW (t := t) (op_sameIn : OP L 115 254 [a_i (u 17 (i + 1).toNat)] e2) wrap_322 (by decide) hc.1 hc.2 hX
  have e1' : a_m 322 [a_r 18, a_i (u 17 (i + 1).toNat), a_r 1568] (K0 L, u, G a, t) = some (.inl (some (a_i k)), (K0 L, v1, G a', t1)) := e1
  have m1 := M_thr0 (L := L) (u := w') (a := a') (t := t1)
  rw [e3] at m1
  refine ⟨w', a', t1, a_i k, a_i z, v8, ?_, e5, e6, e8, e9, e10⟩
  have n7 : ∀ j, v1 17 j = u 17 j := fun j => by rw [e7]
  by_cases hk : k = 0
  · have hk' : ¬ k ≠ 0 := by omega
    have e4' : w' 1568 0 = z := e4 hk
    simp (disch := first | assumption | omega) only [B_L_law_1734, B_L_law_1745, B_L_law_1757, B_L_law_1763, Option.bind_some, back_v, Option.toList_some, Option.toList_none, List.cons_append, List.nil_append, Nat.reduceAdd, Int.reduceToNat, Int.reduceNeg, upm_eq, upm_r, upm_i, if_pos, if_neg, ite_self, true_or, or_true, true_and, and_true, false_or, or_false, false_and, and_false, wr_id, i10, i01, upr_f, upr_eq, thr58, upm_upr, upr_upr, lc_lt, lc_gt, lc_ge, lc_le, afit1, afit0, afitI, bifit, not_true_eq_false, not_false_eq_true, if_true, if_false, Bool.false_eq_true, reduceCtorEq, k1557, k1558, g1557_2, k17, k18, k1568, w1, w2, w3, w4, w5, w6, w7, n7, e1', e2, m1, e4']
  · have hk' : k ≠ 0 := hk
    simp (disch := first | assumption | omega) only [B_L_law_1734, B_L_law_1745, B_L_law_1757, B_L_law_1763, Option.bind_some, back_v, Option.toList_some, Option.toList_none, List.cons_append, List.nil_append, Nat.reduceAdd, Int.reduceToNat, Int.reduceNeg, upm_eq, upm_r, upm_i, if_pos, if_neg, ite_self, true_or, or_true, true_and, and_true, false_or, or_false, false_and, and_false, wr_id, i10, i01, upr_f, upr_eq, thr58, upm_upr, upr_upr, lc_lt, lc_gt, lc_ge, lc_le, afit1, afit0, afitI, bifit, not_true_eq_false, not_false_eq_true, if_true, if_false, Bool.false_eq_true, reduceCtorEq, k1557, k1558, g1557_2, k17, k18, k1568, w1, w2, w3, w4, w5, w6, w7, n7, e1', e2, m1]
theorem law_25 (H : LH L c i u a) : LN L c i u t (a_X 350 1790 [a_r 17, a_r 18, a_r 1557, a_r 1568, a_r 1569, a_i i, v6, v7, v8] [] (K0 L, u, G a, t)) := by
  obtain ⟨hi, hc, hX, hs⟩ := H
  obtain ⟨w1, w2, w3, w4, w5, w6, w7⟩ := wr7 hi
  obtain ⟨k, z, v1, w', a', t1, e1, e2, e3, e4, e5, e6, e7, e8, e9, e10⟩ := stepW (t := t) (op_allSameIn : OP L 116 256 [] e1) wrap_323 (by decide) hc.1 hc.2 hX
  have e1' : a_m 323 [a_r 18, a_r 1568] (K0 L, u, G a, t) = some (.inl (some (a_i k)), (K0 L, v1, G a', t1)) := e1
  have m1 := M_thr0 (L := L) (u := w') (a := a') (t := t1)
  rw [e3] at m1
  refine ⟨w', a', t1, a_i k, a_i z, v8, ?_, e5, e6, e8, e9, e10⟩
  have n7 : ∀ j, v1 17 j = u 17 j := fun j => by rw [e7]
  by_cases hk : k = 0
  · have hk' : ¬ k ≠ 0 := by omega
    have e4' : w' 1568 0 = z := e4 hk
    simp (disch := first | assumption | omega) only [B_L_law_1790, B_L_law_1795, B_L_law_1801, B_L_law_1807, Option.bind_some, back_v, Option.toList_some, Option.toList_none, List.cons_append, List.nil_append, Nat.reduceAdd, Int.reduceToNat, Int.reduceNeg, upm_eq, upm_r, upm_i, if_pos, if_neg, ite_self, true_or, or_true, true_and, and_true, false_or, or_false, false_and, and_false, wr_id, i10, i01, upr_f, upr_eq, thr58, upm_upr, upr_upr, lc_lt, lc_gt, lc_ge, lc_le, afit1, afit0, afitI, bifit, not_true_eq_false, not_false_eq_true, if_true, if_false, Bool.false_eq_true, reduceCtorEq, k1557, k1558, g1557_2, k17, k18, k1568, w1, w2, w3, w4, w5, w6, w7, n7, e1', e2, m1, e4']
  · have hk' : k ≠ 0 := hk
    simp (disch := first | assumption | omega) only [B_L_law_1790, B_L_law_1795, B_L_law_1801, B_L_law_1807, Option.bind_some, back_v, Option.toList_some, Option.toList_none, List.cons_append, List.nil_append, Nat.reduceAdd, Int.reduceToNat, Int.reduceNeg, upm_eq, upm_r, upm_i, if_pos, if_neg, ite_self, true_or, or_true, true_and, and_true, false_or, or_false, false_and, and_false, wr_id, i10, i01, upr_f, upr_eq, thr58, upm_upr, upr_upr, lc_lt, lc_gt, lc_ge, lc_le, afit1, afit0, afitI, bifit, not_true_eq_false, not_false_eq_true, if_true, if_false, Bool.false_eq_true, reduceCtorEq, k1557, k1558, g1557_2, k17, k18, k1568, w1, w2, w3, w4, w5, w6, w7, n7, e1', e2, m1]
theorem law_26 (H : LH L c i u a) : LN L c i u t (a_X 350 1834 [a_r 17, a_r 18, a_r 1557, a_r 1568, a_r 1569, a_i i, v6, v7, v8] [] (K0 L, u, G a, t)) := by
  obtain ⟨hi, hc, hX, hs⟩ := H
  obtain ⟨w1, w2, w3, w4, w5, w6, w7⟩ := wr7 hi
  obtain ⟨k, z, v1, w', a', t1, e1, e2, e3, e4, e5, e6, e7, e8, e9, e10⟩ := stepW (t := t) (op_heardIn : OP L 117 258 [a_i (u 17 (i + 1).toNat), a_i (u 17 (i + 2).toNat)] e2) wrap_324 (by decide) hc.1 hc.2 hX
  have e1' : a_m 324 [a_r 18, a_i (u 17 (i + 1).toNat), a_i (u 17 (i + 2).toNat), a_r 1568] (K0 L, u, G a, t) = some (.inl (some (a_i k)), (K0 L, v1, G a', t1)) := e1
  have m1 := M_thr0 (L := L) (u := w') (a := a') (t := t1)
  rw [e3] at m1
  refine ⟨w', a', t1, a_i k, a_i z, v8, ?_, e5, e6, e8, e9, e10⟩
  have n7 : ∀ j, v1 17 j = u 17 j := fun j => by rw [e7]
  by_cases hk : k = 0
  · have hk' : ¬ k ≠ 0 := by omega
    have e4' : w' 1568 0 = z := e4 hk
    simp (disch := first | assumption | omega) only [B_L_law_1834, B_L_law_1851, B_L_law_1869, B_L_law_1875, Option.bind_some, back_v, Option.toList_some, Option.toList_none, List.cons_append, List.nil_append, Nat.reduceAdd, Int.reduceToNat, Int.reduceNeg, upm_eq, upm_r, upm_i, if_pos, if_neg, ite_self, true_or, or_true, true_and, and_true, false_or, or_false, false_and, and_false, wr_id, i10, i01, upr_f, upr_eq, thr58, upm_upr, upr_upr, lc_lt, lc_gt, lc_ge, lc_le, afit1, afit0, afitI, bifit, not_true_eq_false, not_false_eq_true, if_true, if_false, Bool.false_eq_true, reduceCtorEq, k1557, k1558, g1557_2, k17, k18, k1568, w1, w2, w3, w4, w5, w6, w7, n7, e1', e2, m1, e4']
  · have hk' : k ≠ 0 := hk
    simp (disch := first | assumption | omega) only [B_L_law_1834, B_L_law_1851, B_L_law_1869, B_L_law_1875, Option.bind_some, back_v, Option.toList_some, Option.toList_none, List.cons_append, List.nil_append, Nat.reduceAdd, Int.reduceToNat, Int.reduceNeg, upm_eq, upm_r, upm_i, if_pos, if_neg, ite_self, true_or, or_true, true_and, and_true, false_or, or_false, false_and, and_false, wr_id, i10, i01, upr_f, upr_eq, thr58, upm_upr, upr_upr, lc_lt, lc_gt, lc_ge, lc_le, afit1, afit0, afitI, bifit, not_true_eq_false, not_false_eq_true, if_true, if_false, Bool.false_eq_true, reduceCtorEq, k1557, k1558, g1557_2, k17, k18, k1568, w1, w2, w3, w4, w5, w6, w7, n7, e1', e2, m1]
theorem law_27 (H : LH L c i u a) : LN L c i u t (a_X 350 1902 [a_r 17, a_r 18, a_r 1557, a_r 1568, a_r 1569, a_i i, v6, v7, v8] [] (K0 L, u, G a, t)) := by
  obtain ⟨hi, hc, hX, hs⟩ := H
  obtain ⟨w1, w2, w3, w4, w5, w6, w7⟩ := wr7 hi
  obtain ⟨k, z, v1, w', a', t1, e1, e2, e3, e4, e5, e6, e7, e8, e9, e10⟩ := stepW (t := t) (op_missingIn : OP L 118 260 [a_i (u 17 (i + 1).toNat), a_i (u 17 (i + 2).toNat)] e3) wrap_325 (by decide) hc.1 hc.2 hX
  have e1' : a_m 325 [a_r 18, a_i (u 17 (i + 1).toNat), a_i (u 17 (i + 2).toNat), a_r 1568] (K0 L, u, G a, t) = some (.inl (some (a_i k)), (K0 L, v1, G a', t1)) := e1
  have m1 := M_thr0 (L := L) (u := w') (a := a') (t := t1)
  rw [e3] at m1
  refine ⟨w', a', t1, a_i k, a_i z, v8, ?_, e5, e6, e8, e9, e10⟩
  have n7 : ∀ j, v1 17 j = u 17 j := fun j => by rw [e7]
  by_cases hk : k = 0
  · have hk' : ¬ k ≠ 0 := by omega
    have e4' : w' 1568 0 = z := e4 hk
    simp (disch := first | assumption | omega) only [B_L_law_1902, B_L_law_1919, B_L_law_1937, B_L_law_1943, Option.bind_some, back_v, Option.toList_some, Option.toList_none, List.cons_append, List.nil_append, Nat.reduceAdd, Int.reduceToNat, Int.reduceNeg, upm_eq, upm_r, upm_i, if_pos, if_neg, ite_self, true_or, or_true, true_and, and_true, false_or, or_false, false_and, and_false, wr_id, i10, i01, upr_f, upr_eq, thr58, upm_upr, upr_upr, lc_lt, lc_gt, lc_ge, lc_le, afit1, afit0, afitI, bifit, not_true_eq_false, not_false_eq_true, if_true, if_false, Bool.false_eq_true, reduceCtorEq, k1557, k1558, g1557_2, k17, k18, k1568, w1, w2, w3, w4, w5, w6, w7, n7, e1', e2, m1, e4']
  · have hk' : k ≠ 0 := hk
    simp (disch := first | assumption | omega) only [B_L_law_1902, B_L_law_1919, B_L_law_1937, B_L_law_1943, Option.bind_some, back_v, Option.toList_some, Option.toList_none, List.cons_append, List.nil_append, Nat.reduceAdd, Int.reduceToNat, Int.reduceNeg, upm_eq, upm_r, upm_i, if_pos, if_neg, ite_self, true_or, or_true, true_and, and_true, false_or, or_false, false_and, and_false, wr_id, i10, i01, upr_f, upr_eq, thr58, upm_upr, upr_upr, lc_lt, lc_gt, lc_ge, lc_le, afit1, afit0, afitI, bifit, not_true_eq_false, not_false_eq_true, if_true, if_false, Bool.false_eq_true, reduceCtorEq, k1557, k1558, g1557_2, k17, k18, k1568, w1, w2, w3, w4, w5, w6, w7, n7, e1', e2, m1]
theorem law_28 (H : LH L c i u a) : LN L c i u t (a_X 350 1970 [a_r 17, a_r 18, a_r 1557, a_r 1568, a_r 1569, a_i i, v6, v7, v8] [] (K0 L, u, G a, t)) := by
  obtain ⟨hi, hc, hX, hs⟩ := H
  obtain ⟨w1, w2, w3, w4, w5, w6, w7⟩ := wr7 hi
  obtain ⟨k, z, v1, w', a', t1, e1, e2, e3, e4, e5, e6, e7, e8, e9, e10⟩ := stepW (t := t) (op_wrongIn : OP L 119 261 [a_i (u 17 (i + 1).toNat), a_i (u 17 (i + 2).toNat)] e3) wrap_326 (by decide) hc.1 hc.2 hX
  have e1' : a_m 326 [a_r 18, a_i (u 17 (i + 1).toNat), a_i (u 17 (i + 2).toNat), a_r 1568] (K0 L, u, G a, t) = some (.inl (some (a_i k)), (K0 L, v1, G a', t1)) := e1
  have m1 := M_thr0 (L := L) (u := w') (a := a') (t := t1)
  rw [e3] at m1
  refine ⟨w', a', t1, a_i k, a_i z, v8, ?_, e5, e6, e8, e9, e10⟩
  have n7 : ∀ j, v1 17 j = u 17 j := fun j => by rw [e7]
  by_cases hk : k = 0
  · have hk' : ¬ k ≠ 0 := by omega
    have e4' : w' 1568 0 = z := e4 hk
    simp (disch := first | assumption | omega) only [B_L_law_1970, B_L_law_1987, B_L_law_2005, B_L_law_2011, Option.bind_some, back_v, Option.toList_some, Option.toList_none, List.cons_append, List.nil_append, Nat.reduceAdd, Int.reduceToNat, Int.reduceNeg, upm_eq, upm_r, upm_i, if_pos, if_neg, ite_self, true_or, or_true, true_and, and_true, false_or, or_false, false_and, and_false, wr_id, i10, i01, upr_f, upr_eq, thr58, upm_upr, upr_upr, lc_lt, lc_gt, lc_ge, lc_le, afit1, afit0, afitI, bifit, not_true_eq_false, not_false_eq_true, if_true, if_false, Bool.false_eq_true, reduceCtorEq, k1557, k1558, g1557_2, k17, k18, k1568, w1, w2, w3, w4, w5, w6, w7, n7, e1', e2, m1, e4']
  · have hk' : k ≠ 0 := hk
    simp (disch := first | assumption | omega) only [B_L_law_1970, B_L_law_1987, B_L_law_2005, B_L_law_2011, Option.bind_some, back_v, Option.toList_some, Option.toList_none, List.cons_append, List.nil_append, Nat.reduceAdd, Int.reduceToNat, Int.reduceNeg, upm_eq, upm_r, upm_i, if_pos, if_neg, ite_self, true_or, or_true, true_and, and_true, false_or, or_false, false_and, and_false, wr_id, i10, i01, upr_f, upr_eq, thr58, upm_upr, upr_upr, lc_lt, lc_gt, lc_ge, lc_le, afit1, afit0, afitI, bifit, not_true_eq_false, not_false_eq_true, if_true, if_false, Bool.false_eq_true, reduceCtorEq, k1557, k1558, g1557_2, k17, k18, k1568, w1, w2, w3, w4, w5, w6, w7, n7, e1', e2, m1]
theorem law_29 (H : LH L c i u a) : LN L c i u t (a_X 350 2038 [a_r 17, a_r 18, a_r 1557, a_r 1568, a_r 1569, a_i i, v6, v7, v8] [] (K0 L, u, G a, t)) := by
  obtain ⟨hi, hc, hX, hs⟩ := H
  obtain ⟨w1, w2, w3, w4, w5, w6, w7⟩ := wr7 hi
  obtain ⟨k, z, v1, w', a', t1, e1, e2, e3, e4, e5, e6, e7, e8, e9, e10⟩ := stepW (t := t) (op_quietIn : OP L 120 263 [] e1) wrap_327 (by decide) hc.1 hc.2 hX
  have e1' : a_m 327 [a_r 18, a_r 1568] (K0 L, u, G a, t) = some (.inl (some (a_i k)), (K0 L, v1, G a', t1)) := e1
  have m1 := M_thr0 (L := L) (u := w') (a := a') (t := t1)
  rw [e3] at m1
  refine ⟨w', a', t1, a_i k, a_i z, v8, ?_, e5, e6, e8, e9, e10⟩
  have n7 : ∀ j, v1 17 j = u 17 j := fun j => by rw [e7]
  by_cases hk : k = 0
  · have hk' : ¬ k ≠ 0 := by omega
    have e4' : w' 1568 0 = z := e4 hk
    simp (disch := first | assumption | omega) only [B_L_law_2038, B_L_law_2043, B_L_law_2049, B_L_law_2055, Option.bind_some, back_v, Option.toList_some, Option.toList_none, List.cons_append, List.nil_append, Nat.reduceAdd, Int.reduceToNat, Int.reduceNeg, upm_eq, upm_r, upm_i, if_pos, if_neg, ite_self, true_or, or_true, true_and, and_true, false_or, or_false, false_and, and_false, wr_id, i10, i01, upr_f, upr_eq, thr58, upm_upr, upr_upr, lc_lt, lc_gt, lc_ge, lc_le, afit1, afit0, afitI, bifit, not_true_eq_false, not_false_eq_true, if_true, if_false, Bool.false_eq_true, reduceCtorEq, k1557, k1558, g1557_2, k17, k18, k1568, w1, w2, w3, w4, w5, w6, w7, n7, e1', e2, m1, e4']
  · have hk' : k ≠ 0 := hk
    simp (disch := first | assumption | omega) only [B_L_law_2038, B_L_law_2043, B_L_law_2049, B_L_law_2055, Option.bind_some, back_v, Option.toList_some, Option.toList_none, List.cons_append, List.nil_append, Nat.reduceAdd, Int.reduceToNat, Int.reduceNeg, upm_eq, upm_r, upm_i, if_pos, if_neg, ite_self, true_or, or_true, true_and, and_true, false_or, or_false, false_and, and_false, wr_id, i10, i01, upr_f, upr_eq, thr58, upm_upr, upr_upr, lc_lt, lc_gt, lc_ge, lc_le, afit1, afit0, afitI, bifit, not_true_eq_false, not_false_eq_true, if_true, if_false, Bool.false_eq_true, reduceCtorEq, k1557, k1558, g1557_2, k17, k18, k1568, w1, w2, w3, w4, w5, w6, w7, n7, e1', e2, m1]
theorem law_30 (H : LH L c i u a) : LN L c i u t (a_X 350 2082 [a_r 17, a_r 18, a_r 1557, a_r 1568, a_r 1569, a_i i, v6, v7, v8] [] (K0 L, u, G a, t)) := by
  obtain ⟨hi, hc, hX, hs⟩ := H
  obtain ⟨w1, w2, w3, w4, w5, w6, w7⟩ := wr7 hi
  obtain ⟨k, z, v1, w', a', t1, e1, e2, e3, e4, e5, e6, e7, e8, e9, e10⟩ := stepW (t := t) (op_wholeIn : OP L 121 264 [] e1) wrap_328 (by decide) hc.1 hc.2 hX
  have e1' : a_m 328 [a_r 18, a_r 1568] (K0 L, u, G a, t) = some (.inl (some (a_i k)), (K0 L, v1, G a', t1)) := e1
  have m1 := M_thr0 (L := L) (u := w') (a := a') (t := t1)
  rw [e3] at m1
  refine ⟨w', a', t1, a_i k, a_i z, v8, ?_, e5, e6, e8, e9, e10⟩
  have n7 : ∀ j, v1 17 j = u 17 j := fun j => by rw [e7]
  by_cases hk : k = 0
  · have hk' : ¬ k ≠ 0 := by omega
    have e4' : w' 1568 0 = z := e4 hk
    simp (disch := first | assumption | omega) only [B_L_law_2082, B_L_law_2087, B_L_law_2093, B_L_law_2099, Option.bind_some, back_v, Option.toList_some, Option.toList_none, List.cons_append, List.nil_append, Nat.reduceAdd, Int.reduceToNat, Int.reduceNeg, upm_eq, upm_r, upm_i, if_pos, if_neg, ite_self, true_or, or_true, true_and, and_true, false_or, or_false, false_and, and_false, wr_id, i10, i01, upr_f, upr_eq, thr58, upm_upr, upr_upr, lc_lt, lc_gt, lc_ge, lc_le, afit1, afit0, afitI, bifit, not_true_eq_false, not_false_eq_true, if_true, if_false, Bool.false_eq_true, reduceCtorEq, k1557, k1558, g1557_2, k17, k18, k1568, w1, w2, w3, w4, w5, w6, w7, n7, e1', e2, m1, e4']
  · have hk' : k ≠ 0 := hk
    simp (disch := first | assumption | omega) only [B_L_law_2082, B_L_law_2087, B_L_law_2093, B_L_law_2099, Option.bind_some, back_v, Option.toList_some, Option.toList_none, List.cons_append, List.nil_append, Nat.reduceAdd, Int.reduceToNat, Int.reduceNeg, upm_eq, upm_r, upm_i, if_pos, if_neg, ite_self, true_or, or_true, true_and, and_true, false_or, or_false, false_and, and_false, wr_id, i10, i01, upr_f, upr_eq, thr58, upm_upr, upr_upr, lc_lt, lc_gt, lc_ge, lc_le, afit1, afit0, afitI, bifit, not_true_eq_false, not_false_eq_true, if_true, if_false, Bool.false_eq_true, reduceCtorEq, k1557, k1558, g1557_2, k17, k18, k1568, w1, w2, w3, w4, w5, w6, w7, n7, e1', e2, m1]
theorem law_31 (H : LH L c i u a) : LN L c i u t (a_X 350 2126 [a_r 17, a_r 18, a_r 1557, a_r 1568, a_r 1569, a_i i, v6, v7, v8] [] (K0 L, u, G a, t)) := by
  obtain ⟨hi, hc, hX, hs⟩ := H
  obtain ⟨w1, w2, w3, w4, w5, w6, w7⟩ := wr7 hi
  obtain ⟨k, z, v1, w', a', t1, e1, e2, e3, e4, e5, e6, e7, e8, e9, e10⟩ := stepW (t := t) (op_sameWithout : OP L 122 265 [a_i (u 17 (i + 1).toNat)] e2) wrap_329 (by decide) hc.1 hc.2 hX
  have e1' : a_m 329 [a_r 18, a_i (u 17 (i + 1).toNat), a_r 1568] (K0 L, u, G a, t) = some (.inl (some (a_i k)), (K0 L, v1, G a', t1)) := e1
  have m1 := M_thr0 (L := L) (u := w') (a := a') (t := t1)
  rw [e3] at m1
  refine ⟨w', a', t1, a_i k, a_i z, v8, ?_, e5, e6, e8, e9, e10⟩
  have n7 : ∀ j, v1 17 j = u 17 j := fun j => by rw [e7]
  by_cases hk : k = 0
  · have hk' : ¬ k ≠ 0 := by omega
    have e4' : w' 1568 0 = z := e4 hk
    simp (disch := first | assumption | omega) only [B_L_law_2126, B_L_law_2137, B_L_law_2149, B_L_law_2155, Option.bind_some, back_v, Option.toList_some, Option.toList_none, List.cons_append, List.nil_append, Nat.reduceAdd, Int.reduceToNat, Int.reduceNeg, upm_eq, upm_r, upm_i, if_pos, if_neg, ite_self, true_or, or_true, true_and, and_true, false_or, or_false, false_and, and_false, wr_id, i10, i01, upr_f, upr_eq, thr58, upm_upr, upr_upr, lc_lt, lc_gt, lc_ge, lc_le, afit1, afit0, afitI, bifit, not_true_eq_false, not_false_eq_true, if_true, if_false, Bool.false_eq_true, reduceCtorEq, k1557, k1558, g1557_2, k17, k18, k1568, w1, w2, w3, w4, w5, w6, w7, n7, e1', e2, m1, e4']
  · have hk' : k ≠ 0 := hk
    simp (disch := first | assumption | omega) only [B_L_law_2126, B_L_law_2137, B_L_law_2149, B_L_law_2155, Option.bind_some, back_v, Option.toList_some, Option.toList_none, List.cons_append, List.nil_append, Nat.reduceAdd, Int.reduceToNat, Int.reduceNeg, upm_eq, upm_r, upm_i, if_pos, if_neg, ite_self, true_or, or_true, true_and, and_true, false_or, or_false, false_and, and_false, wr_id, i10, i01, upr_f, upr_eq, thr58, upm_upr, upr_upr, lc_lt, lc_gt, lc_ge, lc_le, afit1, afit0, afitI, bifit, not_true_eq_false, not_false_eq_true, if_true, if_false, Bool.false_eq_true, reduceCtorEq, k1557, k1558, g1557_2, k17, k18, k1568, w1, w2, w3, w4, w5, w6, w7, n7, e1', e2, m1]
theorem law_32 (H : LH L c i u a) : LN L c i u t (a_X 350 2182 [a_r 17, a_r 18, a_r 1557, a_r 1568, a_r 1569, a_i i, v6, v7, v8] [] (K0 L, u, G a, t)) := by
  obtain ⟨hi, hc, hX, hs⟩ := H
  obtain ⟨w1, w2, w3, w4, w5, w6, w7⟩ := wr7 hi
  obtain ⟨k, z, v1, w', a', t1, e1, e2, e3, e4, e5, e6, e7, e8, e9, e10⟩ := stepW (t := t) (op_sameWith : OP L 123 267 [a_i (u 17 (i + 1).toNat), a_i (u 17 (i + 2).toNat)] e3) wrap_330 (by decide) hc.1 hc.2 hX
  have e1' : a_m 330 [a_r 18, a_i (u 17 (i + 1).toNat), a_i (u 17 (i + 2).toNat), a_r 1568] (K0 L, u, G a, t) = some (.inl (some (a_i k)), (K0 L, v1, G a', t1)) := e1
  have m1 := M_thr0 (L := L) (u := w') (a := a') (t := t1)
  rw [e3] at m1
  refine ⟨w', a', t1, a_i k, a_i z, v8, ?_, e5, e6, e8, e9, e10⟩
  have n7 : ∀ j, v1 17 j = u 17 j := fun j => by rw [e7]
  by_cases hk : k = 0
  · have hk' : ¬ k ≠ 0 := by omega
    have e4' : w' 1568 0 = z := e4 hk
    simp (disch := first | assumption | omega) only [B_L_law_2182, B_L_law_2199, B_L_law_2217, B_L_law_2223, Option.bind_some, back_v, Option.toList_some, Option.toList_none, List.cons_append, List.nil_append, Nat.reduceAdd, Int.reduceToNat, Int.reduceNeg, upm_eq, upm_r, upm_i, if_pos, if_neg, ite_self, true_or, or_true, true_and, and_true, false_or, or_false, false_and, and_false, wr_id, i10, i01, upr_f, upr_eq, thr58, upm_upr, upr_upr, lc_lt, lc_gt, lc_ge, lc_le, afit1, afit0, afitI, bifit, not_true_eq_false, not_false_eq_true, if_true, if_false, Bool.false_eq_true, reduceCtorEq, k1557, k1558, g1557_2, k17, k18, k1568, w1, w2, w3, w4, w5, w6, w7, n7, e1', e2, m1, e4']
  · have hk' : k ≠ 0 := hk
    simp (disch := first | assumption | omega) only [B_L_law_2182, B_L_law_2199, B_L_law_2217, B_L_law_2223, Option.bind_some, back_v, Option.toList_some, Option.toList_none, List.cons_append, List.nil_append, Nat.reduceAdd, Int.reduceToNat, Int.reduceNeg, upm_eq, upm_r, upm_i, if_pos, if_neg, ite_self, true_or, or_true, true_and, and_true, false_or, or_false, false_and, and_false, wr_id, i10, i01, upr_f, upr_eq, thr58, upm_upr, upr_upr, lc_lt, lc_gt, lc_ge, lc_le, afit1, afit0, afitI, bifit, not_true_eq_false, not_false_eq_true, if_true, if_false, Bool.false_eq_true, reduceCtorEq, k1557, k1558, g1557_2, k17, k18, k1568, w1, w2, w3, w4, w5, w6, w7, n7, e1', e2, m1]
theorem law_33 (H : LH L c i u a) : LN L c i u t (a_X 350 2250 [a_r 17, a_r 18, a_r 1557, a_r 1568, a_r 1569, a_i i, v6, v7, v8] [] (K0 L, u, G a, t)) := by
  obtain ⟨hi, hc, hX, hs⟩ := H
  obtain ⟨w1, w2, w3, w4, w5, w6, w7⟩ := wr7 hi
  obtain ⟨k, z, v1, w', a', t1, e1, e2, e3, e4, e5, e6, e7, e8, e9, e10⟩ := stepW (t := t) (op_bestPeriod : OP L 124 268 [a_i (u 17 (i + 1).toNat)] e2) wrap_331 (by decide) hc.1 hc.2 hX
  have e1' : a_m 331 [a_r 18, a_i (u 17 (i + 1).toNat), a_r 1568] (K0 L, u, G a, t) = some (.inl (some (a_i k)), (K0 L, v1, G a', t1)) := e1
  have m1 := M_thr0 (L := L) (u := w') (a := a') (t := t1)
  rw [e3] at m1
  refine ⟨w', a', t1, a_i k, a_i z, v8, ?_, e5, e6, e8, e9, e10⟩
  have n7 : ∀ j, v1 17 j = u 17 j := fun j => by rw [e7]
  by_cases hk : k = 0
  · have hk' : ¬ k ≠ 0 := by omega
    have e4' : w' 1568 0 = z := e4 hk
    simp (disch := first | assumption | omega) only [B_L_law_2250, B_L_law_2261, B_L_law_2273, B_L_law_2279, Option.bind_some, back_v, Option.toList_some, Option.toList_none, List.cons_append, List.nil_append, Nat.reduceAdd, Int.reduceToNat, Int.reduceNeg, upm_eq, upm_r, upm_i, if_pos, if_neg, ite_self, true_or, or_true, true_and, and_true, false_or, or_false, false_and, and_false, wr_id, i10, i01, upr_f, upr_eq, thr58, upm_upr, upr_upr, lc_lt, lc_gt, lc_ge, lc_le, afit1, afit0, afitI, bifit, not_true_eq_false, not_false_eq_true, if_true, if_false, Bool.false_eq_true, reduceCtorEq, k1557, k1558, g1557_2, k17, k18, k1568, w1, w2, w3, w4, w5, w6, w7, n7, e1', e2, m1, e4']
  · have hk' : k ≠ 0 := hk
    simp (disch := first | assumption | omega) only [B_L_law_2250, B_L_law_2261, B_L_law_2273, B_L_law_2279, Option.bind_some, back_v, Option.toList_some, Option.toList_none, List.cons_append, List.nil_append, Nat.reduceAdd, Int.reduceToNat, Int.reduceNeg, upm_eq, upm_r, upm_i, if_pos, if_neg, ite_self, true_or, or_true, true_and, and_true, false_or, or_false, false_and, and_false, wr_id, i10, i01, upr_f, upr_eq, thr58, upm_upr, upr_upr, lc_lt, lc_gt, lc_ge, lc_le, afit1, afit0, afitI, bifit, not_true_eq_false, not_false_eq_true, if_true, if_false, Bool.false_eq_true, reduceCtorEq, k1557, k1558, g1557_2, k17, k18, k1568, w1, w2, w3, w4, w5, w6, w7, n7, e1', e2, m1]
theorem law_34 (H : LH L c i u a) : LN L c i u t (a_X 350 2306 [a_r 17, a_r 18, a_r 1557, a_r 1568, a_r 1569, a_i i, v6, v7, v8] [] (K0 L, u, G a, t)) := by
  exact law_share H
theorem law_35 (H : LH L c i u a) : LN L c i u t (a_X 350 2372 [a_r 17, a_r 18, a_r 1557, a_r 1568, a_r 1569, a_i i, v6, v7, v8] [] (K0 L, u, G a, t)) := by
  exact law_mean H
theorem law_36 (H : LH L c i u a) : LN L c i u t (a_X 350 2437 [a_r 17, a_r 18, a_r 1557, a_r 1568, a_r 1569, a_i i, v6, v7, v8] [] (K0 L, u, G a, t)) := by
  obtain ⟨hi, hc, hX, hs⟩ := H
  obtain ⟨w1, w2, w3, w4, w5, w6, w7⟩ := wr7 hi
  obtain ⟨k, z, v1, w', a', t1, e1, e2, e3, e4, e5, e6, e7, e8, e9, e10⟩ := stepW (t := t) (op_writeDay : OP L 127 273 [a_i (u 17 (i + 1).toNat), a_i (u 17 (i + 2).toNat)] e3) wrap_334 (by decide) hc.1 hc.2 hX
  have e1' : a_m 334 [a_r 18, a_i (u 17 (i + 1).toNat), a_i (u 17 (i + 2).toNat), a_r 1568] (K0 L, u, G a, t) = some (.inl (some (a_i k)), (K0 L, v1, G a', t1)) := e1
  have m1 := M_thr0 (L := L) (u := w') (a := a') (t := t1)
  rw [e3] at m1
  refine ⟨w', a', t1, a_i k, a_i z, v8, ?_, e5, e6, e8, e9, e10⟩
  have n7 : ∀ j, v1 17 j = u 17 j := fun j => by rw [e7]
  by_cases hk : k = 0
  · have hk' : ¬ k ≠ 0 := by omega
    have e4' : w' 1568 0 = z := e4 hk
    simp (disch := first | assumption | omega) only [B_L_law_2437, B_L_law_2454, B_L_law_2472, B_L_law_2478, Option.bind_some, back_v, Option.toList_some, Option.toList_none, List.cons_append, List.nil_append, Nat.reduceAdd, Int.reduceToNat, Int.reduceNeg, upm_eq, upm_r, upm_i, if_pos, if_neg, ite_self, true_or, or_true, true_and, and_true, false_or, or_false, false_and, and_false, wr_id, i10, i01, upr_f, upr_eq, thr58, upm_upr, upr_upr, lc_lt, lc_gt, lc_ge, lc_le, afit1, afit0, afitI, bifit, not_true_eq_false, not_false_eq_true, if_true, if_false, Bool.false_eq_true, reduceCtorEq, k1557, k1558, g1557_2, k17, k18, k1568, w1, w2, w3, w4, w5, w6, w7, n7, e1', e2, m1, e4']
  · have hk' : k ≠ 0 := hk
    simp (disch := first | assumption | omega) only [B_L_law_2437, B_L_law_2454, B_L_law_2472, B_L_law_2478, Option.bind_some, back_v, Option.toList_some, Option.toList_none, List.cons_append, List.nil_append, Nat.reduceAdd, Int.reduceToNat, Int.reduceNeg, upm_eq, upm_r, upm_i, if_pos, if_neg, ite_self, true_or, or_true, true_and, and_true, false_or, or_false, false_and, and_false, wr_id, i10, i01, upr_f, upr_eq, thr58, upm_upr, upr_upr, lc_lt, lc_gt, lc_ge, lc_le, afit1, afit0, afitI, bifit, not_true_eq_false, not_false_eq_true, if_true, if_false, Bool.false_eq_true, reduceCtorEq, k1557, k1558, g1557_2, k17, k18, k1568, w1, w2, w3, w4, w5, w6, w7, n7, e1', e2, m1]
theorem law_37 (H : LH L c i u a) : LN L c i u t (a_X 350 2505 [a_r 17, a_r 18, a_r 1557, a_r 1568, a_r 1569, a_i i, v6, v7, v8] [] (K0 L, u, G a, t)) := by
  obtain ⟨hi, hc, hX, hs⟩ := H
  obtain ⟨w1, w2, w3, w4, w5, w6, w7⟩ := wr7 hi
  obtain ⟨k, z, v1, w', a', t1, e1, e2, e3, e4, e5, e6, e7, e8, e9, e10⟩ := stepW (t := t) (op_writeMissing : OP L 128 274 [a_i (u 17 (i + 1).toNat)] e2) wrap_335 (by decide) hc.1 hc.2 hX
  have e1' : a_m 335 [a_r 18, a_i (u 17 (i + 1).toNat), a_r 1568] (K0 L, u, G a, t) = some (.inl (some (a_i k)), (K0 L, v1, G a', t1)) := e1
  have m1 := M_thr0 (L := L) (u := w') (a := a') (t := t1)
  rw [e3] at m1
  refine ⟨w', a', t1, a_i k, a_i z, v8, ?_, e5, e6, e8, e9, e10⟩
  have n7 : ∀ j, v1 17 j = u 17 j := fun j => by rw [e7]
  by_cases hk : k = 0
  · have hk' : ¬ k ≠ 0 := by omega
    have e4' : w' 1568 0 = z := e4 hk
    simp (disch := first | assumption | omega) only [B_L_law_2505, B_L_law_2516, B_L_law_2528, B_L_law_2534, Option.bind_some, back_v, Option.toList_some, Option.toList_none, List.cons_append, List.nil_append, Nat.reduceAdd, Int.reduceToNat, Int.reduceNeg, upm_eq, upm_r, upm_i, if_pos, if_neg, ite_self, true_or, or_true, true_and, and_true, false_or, or_false, false_and, and_false, wr_id, i10, i01, upr_f, upr_eq, thr58, upm_upr, upr_upr, lc_lt, lc_gt, lc_ge, lc_le, afit1, afit0, afitI, bifit, not_true_eq_false, not_false_eq_true, if_true, if_false, Bool.false_eq_true, reduceCtorEq, k1557, k1558, g1557_2, k17, k18, k1568, w1, w2, w3, w4, w5, w6, w7, n7, e1', e2, m1, e4']
  · have hk' : k ≠ 0 := hk
    simp (disch := first | assumption | omega) only [B_L_law_2505, B_L_law_2516, B_L_law_2528, B_L_law_2534, Option.bind_some, back_v, Option.toList_some, Option.toList_none, List.cons_append, List.nil_append, Nat.reduceAdd, Int.reduceToNat, Int.reduceNeg, upm_eq, upm_r, upm_i, if_pos, if_neg, ite_self, true_or, or_true, true_and, and_true, false_or, or_false, false_and, and_false, wr_id, i10, i01, upr_f, upr_eq, thr58, upm_upr, upr_upr, lc_lt, lc_gt, lc_ge, lc_le, afit1, afit0, afitI, bifit, not_true_eq_false, not_false_eq_true, if_true, if_false, Bool.false_eq_true, reduceCtorEq, k1557, k1558, g1557_2, k17, k18, k1568, w1, w2, w3, w4, w5, w6, w7, n7, e1', e2, m1]
theorem law_38 (H : LH L c i u a) : LN L c i u t (a_X 350 2561 [a_r 17, a_r 18, a_r 1557, a_r 1568, a_r 1569, a_i i, v6, v7, v8] [] (K0 L, u, G a, t)) := by
  obtain ⟨hi, hc, hX, hs⟩ := H
  obtain ⟨w1, w2, w3, w4, w5, w6, w7⟩ := wr7 hi
  obtain ⟨k, z, v1, w', a', t1, e1, e2, e3, e4, e5, e6, e7, e8, e9, e10⟩ := stepW (t := t) (op_textByte : OP L 129 275 [a_i (u 17 (i + 1).toNat)] eT) wrap_336 (by decide) hc.1 hc.2 hX
  have e1' : a_m 336 [a_r 18, a_i (u 17 (i + 1).toNat), a_r 1568] (K0 L, u, G a, t) = some (.inl (some (a_i k)), (K0 L, v1, G a', t1)) := e1
  have m1 := M_thr0 (L := L) (u := w') (a := a') (t := t1)
  rw [e3] at m1
  refine ⟨w', a', t1, a_i k, a_i z, v8, ?_, e5, e6, e8, e9, e10⟩
  have n7 : ∀ j, v1 17 j = u 17 j := fun j => by rw [e7]
  by_cases hk : k = 0
  · have hk' : ¬ k ≠ 0 := by omega
    have e4' : w' 1568 0 = z := e4 hk
    simp (disch := first | assumption | omega) only [B_L_law_2561, B_L_law_2572, B_L_law_2584, B_L_law_2590, Option.bind_some, back_v, Option.toList_some, Option.toList_none, List.cons_append, List.nil_append, Nat.reduceAdd, Int.reduceToNat, Int.reduceNeg, upm_eq, upm_r, upm_i, if_pos, if_neg, ite_self, true_or, or_true, true_and, and_true, false_or, or_false, false_and, and_false, wr_id, i10, i01, upr_f, upr_eq, thr58, upm_upr, upr_upr, lc_lt, lc_gt, lc_ge, lc_le, afit1, afit0, afitI, bifit, not_true_eq_false, not_false_eq_true, if_true, if_false, Bool.false_eq_true, reduceCtorEq, k1557, k1558, g1557_2, k17, k18, k1568, w1, w2, w3, w4, w5, w6, w7, n7, e1', e2, m1, e4']
  · have hk' : k ≠ 0 := hk
    simp (disch := first | assumption | omega) only [B_L_law_2561, B_L_law_2572, B_L_law_2584, B_L_law_2590, Option.bind_some, back_v, Option.toList_some, Option.toList_none, List.cons_append, List.nil_append, Nat.reduceAdd, Int.reduceToNat, Int.reduceNeg, upm_eq, upm_r, upm_i, if_pos, if_neg, ite_self, true_or, or_true, true_and, and_true, false_or, or_false, false_and, and_false, wr_id, i10, i01, upr_f, upr_eq, thr58, upm_upr, upr_upr, lc_lt, lc_gt, lc_ge, lc_le, afit1, afit0, afitI, bifit, not_true_eq_false, not_false_eq_true, if_true, if_false, Bool.false_eq_true, reduceCtorEq, k1557, k1558, g1557_2, k17, k18, k1568, w1, w2, w3, w4, w5, w6, w7, n7, e1', e2, m1]
theorem law_39 (H : LH L c i u a) : LN L c i u t (a_X 350 2617 [a_r 17, a_r 18, a_r 1557, a_r 1568, a_r 1569, a_i i, v6, v7, v8] [] (K0 L, u, G a, t)) := by
  obtain ⟨hi, hc, hX, hs⟩ := H
  obtain ⟨w1, w2, w3, w4, w5, w6, w7⟩ := wr7 hi
  obtain ⟨k, z, v1, w', a', t1, e1, e2, e3, e4, e5, e6, e7, e8, e9, e10⟩ := stepW (t := t) (op_correct : OP L 130 281 [a_i (u 17 (i + 1).toNat), a_i (u 17 (i + 2).toNat), a_i (u 17 (i + 3).toNat), a_i (u 17 (i + 4).toNat), a_i (u 17 (i + 5).toNat), a_i (u 17 (i + 6).toNat)] e3) wrap_337 (by decide) hc.1 hc.2 hX
  have e1' : a_m 337 [a_r 18, a_i (u 17 (i + 1).toNat), a_i (u 17 (i + 2).toNat), a_i (u 17 (i + 3).toNat), a_i (u 17 (i + 4).toNat), a_i (u 17 (i + 5).toNat), a_i (u 17 (i + 6).toNat), a_r 1568] (K0 L, u, G a, t) = some (.inl (some (a_i k)), (K0 L, v1, G a', t1)) := e1
  have m1 := M_thr0 (L := L) (u := w') (a := a') (t := t1)
  rw [e3] at m1
  refine ⟨w', a', t1, a_i k, a_i z, v8, ?_, e5, e6, e8, e9, e10⟩
  have n7 : ∀ j, v1 17 j = u 17 j := fun j => by rw [e7]
  by_cases hk : k = 0
  · have hk' : ¬ k ≠ 0 := by omega
    have e4' : w' 1568 0 = z := e4 hk
    simp (disch := first | assumption | omega) only [B_L_law_2617, B_L_law_2659, B_L_law_2702, B_L_law_2708, Option.bind_some, back_v, Option.toList_some, Option.toList_none, List.cons_append, List.nil_append, Nat.reduceAdd, Int.reduceToNat, Int.reduceNeg, upm_eq, upm_r, upm_i, if_pos, if_neg, ite_self, true_or, or_true, true_and, and_true, false_or, or_false, false_and, and_false, wr_id, i10, i01, upr_f, upr_eq, thr58, upm_upr, upr_upr, lc_lt, lc_gt, lc_ge, lc_le, afit1, afit0, afitI, bifit, not_true_eq_false, not_false_eq_true, if_true, if_false, Bool.false_eq_true, reduceCtorEq, k1557, k1558, g1557_2, k17, k18, k1568, w1, w2, w3, w4, w5, w6, w7, n7, e1', e2, m1, e4']
  · have hk' : k ≠ 0 := hk
    simp (disch := first | assumption | omega) only [B_L_law_2617, B_L_law_2659, B_L_law_2702, B_L_law_2708, Option.bind_some, back_v, Option.toList_some, Option.toList_none, List.cons_append, List.nil_append, Nat.reduceAdd, Int.reduceToNat, Int.reduceNeg, upm_eq, upm_r, upm_i, if_pos, if_neg, ite_self, true_or, or_true, true_and, and_true, false_or, or_false, false_and, and_false, wr_id, i10, i01, upr_f, upr_eq, thr58, upm_upr, upr_upr, lc_lt, lc_gt, lc_ge, lc_le, afit1, afit0, afitI, bifit, not_true_eq_false, not_false_eq_true, if_true, if_false, Bool.false_eq_true, reduceCtorEq, k1557, k1558, g1557_2, k17, k18, k1568, w1, w2, w3, w4, w5, w6, w7, n7, e1', e2, m1]
theorem law_40 (H : LH L c i u a) : LN L c i u t (a_X 350 2735 [a_r 17, a_r 18, a_r 1557, a_r 1568, a_r 1569, a_i i, v6, v7, v8] [] (K0 L, u, G a, t)) := by
  obtain ⟨hi, hc, hX, hs⟩ := H
  obtain ⟨w1, w2, w3, w4, w5, w6, w7⟩ := wr7 hi
  obtain ⟨k, z, v1, w', a', t1, e1, e2, e3, e4, e5, e6, e7, e8, e9, e10⟩ := stepW (t := t) (op_cancel : OP L 131 282 [a_i (u 17 (i + 1).toNat), a_i (u 17 (i + 2).toNat)] e3) wrap_338 (by decide) hc.1 hc.2 hX
  have e1' : a_m 338 [a_r 18, a_i (u 17 (i + 1).toNat), a_i (u 17 (i + 2).toNat), a_r 1568] (K0 L, u, G a, t) = some (.inl (some (a_i k)), (K0 L, v1, G a', t1)) := e1
  have m1 := M_thr0 (L := L) (u := w') (a := a') (t := t1)
  rw [e3] at m1
  refine ⟨w', a', t1, a_i k, a_i z, v8, ?_, e5, e6, e8, e9, e10⟩
  have n7 : ∀ j, v1 17 j = u 17 j := fun j => by rw [e7]
  by_cases hk : k = 0
  · have hk' : ¬ k ≠ 0 := by omega
    have e4' : w' 1568 0 = z := e4 hk
    simp (disch := first | assumption | omega) only [B_L_law_2735, B_L_law_2752, B_L_law_2770, B_L_law_2776, Option.bind_some, back_v, Option.toList_some, Option.toList_none, List.cons_append, List.nil_append, Nat.reduceAdd, Int.reduceToNat, Int.reduceNeg, upm_eq, upm_r, upm_i, if_pos, if_neg, ite_self, true_or, or_true, true_and, and_true, false_or, or_false, false_and, and_false, wr_id, i10, i01, upr_f, upr_eq, thr58, upm_upr, upr_upr, lc_lt, lc_gt, lc_ge, lc_le, afit1, afit0, afitI, bifit, not_true_eq_false, not_false_eq_true, if_true, if_false, Bool.false_eq_true, reduceCtorEq, k1557, k1558, g1557_2, k17, k18, k1568, w1, w2, w3, w4, w5, w6, w7, n7, e1', e2, m1, e4']
  · have hk' : k ≠ 0 := hk
    simp (disch := first | assumption | omega) only [B_L_law_2735, B_L_law_2752, B_L_law_2770, B_L_law_2776, Option.bind_some, back_v, Option.toList_some, Option.toList_none, List.cons_append, List.nil_append, Nat.reduceAdd, Int.reduceToNat, Int.reduceNeg, upm_eq, upm_r, upm_i, if_pos, if_neg, ite_self, true_or, or_true, true_and, and_true, false_or, or_false, false_and, and_false, wr_id, i10, i01, upr_f, upr_eq, thr58, upm_upr, upr_upr, lc_lt, lc_gt, lc_ge, lc_le, afit1, afit0, afitI, bifit, not_true_eq_false, not_false_eq_true, if_true, if_false, Bool.false_eq_true, reduceCtorEq, k1557, k1558, g1557_2, k17, k18, k1568, w1, w2, w3, w4, w5, w6, w7, n7, e1', e2, m1]
theorem law_41 (H : LH L c i u a) : LN L c i u t (a_X 350 2803 [a_r 17, a_r 18, a_r 1557, a_r 1568, a_r 1569, a_i i, v6, v7, v8] [] (K0 L, u, G a, t)) := by
  obtain ⟨hi, hc, hX, hs⟩ := H
  obtain ⟨w1, w2, w3, w4, w5, w6, w7⟩ := wr7 hi
  obtain ⟨k, z, v1, w', a', t1, e1, e2, e3, e4, e5, e6, e7, e8, e9, e10⟩ := stepW (t := t) (op_repeat : OP L 132 283 [a_i (u 17 (i + 1).toNat), a_i (u 17 (i + 2).toNat)] eA) wrap_339 (by decide) hc.1 hc.2 hX
  have e1' : a_m 339 [a_r 18, a_i (u 17 (i + 1).toNat), a_i (u 17 (i + 2).toNat), a_r 1568] (K0 L, u, G a, t) = some (.inl (some (a_i k)), (K0 L, v1, G a', t1)) := e1
  have m1 := M_thr0 (L := L) (u := w') (a := a') (t := t1)
  rw [e3] at m1
  refine ⟨w', a', t1, a_i k, a_i z, v8, ?_, e5, e6, e8, e9, e10⟩
  have n7 : ∀ j, v1 17 j = u 17 j := fun j => by rw [e7]
  by_cases hk : k = 0
  · have hk' : ¬ k ≠ 0 := by omega
    have e4' : w' 1568 0 = z := e4 hk
    simp (disch := first | assumption | omega) only [B_L_law_2803, B_L_law_2820, B_L_law_2838, B_L_law_2844, Option.bind_some, back_v, Option.toList_some, Option.toList_none, List.cons_append, List.nil_append, Nat.reduceAdd, Int.reduceToNat, Int.reduceNeg, upm_eq, upm_r, upm_i, if_pos, if_neg, ite_self, true_or, or_true, true_and, and_true, false_or, or_false, false_and, and_false, wr_id, i10, i01, upr_f, upr_eq, thr58, upm_upr, upr_upr, lc_lt, lc_gt, lc_ge, lc_le, afit1, afit0, afitI, bifit, not_true_eq_false, not_false_eq_true, if_true, if_false, Bool.false_eq_true, reduceCtorEq, k1557, k1558, g1557_2, k17, k18, k1568, w1, w2, w3, w4, w5, w6, w7, n7, e1', e2, m1, e4']
  · have hk' : k ≠ 0 := hk
    simp (disch := first | assumption | omega) only [B_L_law_2803, B_L_law_2820, B_L_law_2838, B_L_law_2844, Option.bind_some, back_v, Option.toList_some, Option.toList_none, List.cons_append, List.nil_append, Nat.reduceAdd, Int.reduceToNat, Int.reduceNeg, upm_eq, upm_r, upm_i, if_pos, if_neg, ite_self, true_or, or_true, true_and, and_true, false_or, or_false, false_and, and_false, wr_id, i10, i01, upr_f, upr_eq, thr58, upm_upr, upr_upr, lc_lt, lc_gt, lc_ge, lc_le, afit1, afit0, afitI, bifit, not_true_eq_false, not_false_eq_true, if_true, if_false, Bool.false_eq_true, reduceCtorEq, k1557, k1558, g1557_2, k17, k18, k1568, w1, w2, w3, w4, w5, w6, w7, n7, e1', e2, m1]
theorem law_42 (H : LH L c i u a) : LN L c i u t (a_X 350 2871 [a_r 17, a_r 18, a_r 1557, a_r 1568, a_r 1569, a_i i, v6, v7, v8] [] (K0 L, u, G a, t)) := by
  obtain ⟨hi, hc, hX, hs⟩ := H
  obtain ⟨w1, w2, w3, w4, w5, w6, w7⟩ := wr7 hi
  obtain ⟨k, z, v1, w', a', t1, e1, e2, e3, e4, e5, e6, e7, e8, e9, e10⟩ := stepW (t := t) (op_whole : OP L 133 284 [a_i (u 17 (i + 1).toNat)] eA) wrap_340 (by decide) hc.1 hc.2 hX
  have e1' : a_m 340 [a_r 18, a_i (u 17 (i + 1).toNat), a_r 1568] (K0 L, u, G a, t) = some (.inl (some (a_i k)), (K0 L, v1, G a', t1)) := e1
  have m1 := M_thr0 (L := L) (u := w') (a := a') (t := t1)
  rw [e3] at m1
  refine ⟨w', a', t1, a_i k, a_i z, v8, ?_, e5, e6, e8, e9, e10⟩
  have n7 : ∀ j, v1 17 j = u 17 j := fun j => by rw [e7]
  by_cases hk : k = 0
  · have hk' : ¬ k ≠ 0 := by omega
    have e4' : w' 1568 0 = z := e4 hk
    simp (disch := first | assumption | omega) only [B_L_law_2871, B_L_law_2882, B_L_law_2894, B_L_law_2900, Option.bind_some, back_v, Option.toList_some, Option.toList_none, List.cons_append, List.nil_append, Nat.reduceAdd, Int.reduceToNat, Int.reduceNeg, upm_eq, upm_r, upm_i, if_pos, if_neg, ite_self, true_or, or_true, true_and, and_true, false_or, or_false, false_and, and_false, wr_id, i10, i01, upr_f, upr_eq, thr58, upm_upr, upr_upr, lc_lt, lc_gt, lc_ge, lc_le, afit1, afit0, afitI, bifit, not_true_eq_false, not_false_eq_true, if_true, if_false, Bool.false_eq_true, reduceCtorEq, k1557, k1558, g1557_2, k17, k18, k1568, w1, w2, w3, w4, w5, w6, w7, n7, e1', e2, m1, e4']
  · have hk' : k ≠ 0 := hk
    simp (disch := first | assumption | omega) only [B_L_law_2871, B_L_law_2882, B_L_law_2894, B_L_law_2900, Option.bind_some, back_v, Option.toList_some, Option.toList_none, List.cons_append, List.nil_append, Nat.reduceAdd, Int.reduceToNat, Int.reduceNeg, upm_eq, upm_r, upm_i, if_pos, if_neg, ite_self, true_or, or_true, true_and, and_true, false_or, or_false, false_and, and_false, wr_id, i10, i01, upr_f, upr_eq, thr58, upm_upr, upr_upr, lc_lt, lc_gt, lc_ge, lc_le, afit1, afit0, afitI, bifit, not_true_eq_false, not_false_eq_true, if_true, if_false, Bool.false_eq_true, reduceCtorEq, k1557, k1558, g1557_2, k17, k18, k1568, w1, w2, w3, w4, w5, w6, w7, n7, e1', e2, m1]
theorem law_43 (H : LH L c i u a) : LN L c i u t (a_X 350 2927 [a_r 17, a_r 18, a_r 1557, a_r 1568, a_r 1569, a_i i, v6, v7, v8] [] (K0 L, u, G a, t)) := by
  obtain ⟨hi, hc, hX, hs⟩ := H
  obtain ⟨w1, w2, w3, w4, w5, w6, w7⟩ := wr7 hi
  obtain ⟨k, z, v1, w', a', t1, e1, e2, e3, e4, e5, e6, e7, e8, e9, e10⟩ := stepW (t := t) (op_tick : OP L 134 285 [a_i (u 17 (i + 1).toNat)] eA) wrap_341 (by decide) hc.1 hc.2 hX
  have e1' : a_m 341 [a_r 18, a_i (u 17 (i + 1).toNat), a_r 1568] (K0 L, u, G a, t) = some (.inl (some (a_i k)), (K0 L, v1, G a', t1)) := e1
  have m1 := M_thr0 (L := L) (u := w') (a := a') (t := t1)
  rw [e3] at m1
  refine ⟨w', a', t1, a_i k, a_i z, v8, ?_, e5, e6, e8, e9, e10⟩
  have n7 : ∀ j, v1 17 j = u 17 j := fun j => by rw [e7]
  by_cases hk : k = 0
  · have hk' : ¬ k ≠ 0 := by omega
    have e4' : w' 1568 0 = z := e4 hk
    simp (disch := first | assumption | omega) only [B_L_law_2927, B_L_law_2938, B_L_law_2950, B_L_law_2956, Option.bind_some, back_v, Option.toList_some, Option.toList_none, List.cons_append, List.nil_append, Nat.reduceAdd, Int.reduceToNat, Int.reduceNeg, upm_eq, upm_r, upm_i, if_pos, if_neg, ite_self, true_or, or_true, true_and, and_true, false_or, or_false, false_and, and_false, wr_id, i10, i01, upr_f, upr_eq, thr58, upm_upr, upr_upr, lc_lt, lc_gt, lc_ge, lc_le, afit1, afit0, afitI, bifit, not_true_eq_false, not_false_eq_true, if_true, if_false, Bool.false_eq_true, reduceCtorEq, k1557, k1558, g1557_2, k17, k18, k1568, w1, w2, w3, w4, w5, w6, w7, n7, e1', e2, m1, e4']
  · have hk' : k ≠ 0 := hk
    simp (disch := first | assumption | omega) only [B_L_law_2927, B_L_law_2938, B_L_law_2950, B_L_law_2956, Option.bind_some, back_v, Option.toList_some, Option.toList_none, List.cons_append, List.nil_append, Nat.reduceAdd, Int.reduceToNat, Int.reduceNeg, upm_eq, upm_r, upm_i, if_pos, if_neg, ite_self, true_or, or_true, true_and, and_true, false_or, or_false, false_and, and_false, wr_id, i10, i01, upr_f, upr_eq, thr58, upm_upr, upr_upr, lc_lt, lc_gt, lc_ge, lc_le, afit1, afit0, afitI, bifit, not_true_eq_false, not_false_eq_true, if_true, if_false, Bool.false_eq_true, reduceCtorEq, k1557, k1558, g1557_2, k17, k18, k1568, w1, w2, w3, w4, w5, w6, w7, n7, e1', e2, m1]
theorem law_44 (H : LH L c i u a) : LN L c i u t (a_X 350 2983 [a_r 17, a_r 18, a_r 1557, a_r 1568, a_r 1569, a_i i, v6, v7, v8] [] (K0 L, u, G a, t)) := by
  obtain ⟨hi, hc, hX, hs⟩ := H
  obtain ⟨w1, w2, w3, w4, w5, w6, w7⟩ := wr7 hi
  obtain ⟨k, z, v1, w', a', t1, e1, e2, e3, e4, e5, e6, e7, e8, e9, e10⟩ := stepW (t := t) (op_addGap : OP L 135 286 [a_i (u 17 (i + 1).toNat), a_i (u 17 (i + 2).toNat), a_i (u 17 (i + 3).toNat)] e3) wrap_342 (by decide) hc.1 hc.2 hX
  have e1' : a_m 342 [a_r 18, a_i (u 17 (i + 1).toNat), a_i (u 17 (i + 2).toNat), a_i (u 17 (i + 3).toNat), a_r 1568] (K0 L, u, G a, t) = some (.inl (some (a_i k)), (K0 L, v1, G a', t1)) := e1
  have m1 := M_thr0 (L := L) (u := w') (a := a') (t := t1)
  rw [e3] at m1
  refine ⟨w', a', t1, a_i k, a_i z, v8, ?_, e5, e6, e8, e9, e10⟩
  have n7 : ∀ j, v1 17 j = u 17 j := fun j => by rw [e7]
  by_cases hk : k = 0
  · have hk' : ¬ k ≠ 0 := by omega
    have e4' : w' 1568 0 = z := e4 hk
    simp (disch := first | assumption | omega) only [B_L_law_2983, B_L_law_3006, B_L_law_3030, B_L_law_3036, Option.bind_some, back_v, Option.toList_some, Option.toList_none, List.cons_append, List.nil_append, Nat.reduceAdd, Int.reduceToNat, Int.reduceNeg, upm_eq, upm_r, upm_i, if_pos, if_neg, ite_self, true_or, or_true, true_and, and_true, false_or, or_false, false_and, and_false, wr_id, i10, i01, upr_f, upr_eq, thr58, upm_upr, upr_upr, lc_lt, lc_gt, lc_ge, lc_le, afit1, afit0, afitI, bifit, not_true_eq_false, not_false_eq_true, if_true, if_false, Bool.false_eq_true, reduceCtorEq, k1557, k1558, g1557_2, k17, k18, k1568, w1, w2, w3, w4, w5, w6, w7, n7, e1', e2, m1, e4']
  · have hk' : k ≠ 0 := hk
    simp (disch := first | assumption | omega) only [B_L_law_2983, B_L_law_3006, B_L_law_3030, B_L_law_3036, Option.bind_some, back_v, Option.toList_some, Option.toList_none, List.cons_append, List.nil_append, Nat.reduceAdd, Int.reduceToNat, Int.reduceNeg, upm_eq, upm_r, upm_i, if_pos, if_neg, ite_self, true_or, or_true, true_and, and_true, false_or, or_false, false_and, and_false, wr_id, i10, i01, upr_f, upr_eq, thr58, upm_upr, upr_upr, lc_lt, lc_gt, lc_ge, lc_le, afit1, afit0, afitI, bifit, not_true_eq_false, not_false_eq_true, if_true, if_false, Bool.false_eq_true, reduceCtorEq, k1557, k1558, g1557_2, k17, k18, k1568, w1, w2, w3, w4, w5, w6, w7, n7, e1', e2, m1]
theorem law_45 (H : LH L c i u a) : LN L c i u t (a_X 350 3063 [a_r 17, a_r 18, a_r 1557, a_r 1568, a_r 1569, a_i i, v6, v7, v8] [] (K0 L, u, G a, t)) := by
  obtain ⟨hi, hc, hX, hs⟩ := H
  obtain ⟨w1, w2, w3, w4, w5, w6, w7⟩ := wr7 hi
  obtain ⟨k, z, v1, w', a', t1, e1, e2, e3, e4, e5, e6, e7, e8, e9, e10⟩ := stepW (t := t) (op_dropGap : OP L 136 287 [a_i (u 17 (i + 1).toNat), a_i (u 17 (i + 2).toNat)] e2) wrap_343 (by decide) hc.1 hc.2 hX
  have e1' : a_m 343 [a_r 18, a_i (u 17 (i + 1).toNat), a_i (u 17 (i + 2).toNat), a_r 1568] (K0 L, u, G a, t) = some (.inl (some (a_i k)), (K0 L, v1, G a', t1)) := e1
  have m1 := M_thr0 (L := L) (u := w') (a := a') (t := t1)
  rw [e3] at m1
  refine ⟨w', a', t1, a_i k, a_i z, v8, ?_, e5, e6, e8, e9, e10⟩
  have n7 : ∀ j, v1 17 j = u 17 j := fun j => by rw [e7]
  by_cases hk : k = 0
  · have hk' : ¬ k ≠ 0 := by omega
    have e4' : w' 1568 0 = z := e4 hk
    simp (disch := first | assumption | omega) only [B_L_law_3063, B_L_law_3080, B_L_law_3098, B_L_law_3104, Option.bind_some, back_v, Option.toList_some, Option.toList_none, List.cons_append, List.nil_append, Nat.reduceAdd, Int.reduceToNat, Int.reduceNeg, upm_eq, upm_r, upm_i, if_pos, if_neg, ite_self, true_or, or_true, true_and, and_true, false_or, or_false, false_and, and_false, wr_id, i10, i01, upr_f, upr_eq, thr58, upm_upr, upr_upr, lc_lt, lc_gt, lc_ge, lc_le, afit1, afit0, afitI, bifit, not_true_eq_false, not_false_eq_true, if_true, if_false, Bool.false_eq_true, reduceCtorEq, k1557, k1558, g1557_2, k17, k18, k1568, w1, w2, w3, w4, w5, w6, w7, n7, e1', e2, m1, e4']
  · have hk' : k ≠ 0 := hk
    simp (disch := first | assumption | omega) only [B_L_law_3063, B_L_law_3080, B_L_law_3098, B_L_law_3104, Option.bind_some, back_v, Option.toList_some, Option.toList_none, List.cons_append, List.nil_append, Nat.reduceAdd, Int.reduceToNat, Int.reduceNeg, upm_eq, upm_r, upm_i, if_pos, if_neg, ite_self, true_or, or_true, true_and, and_true, false_or, or_false, false_and, and_false, wr_id, i10, i01, upr_f, upr_eq, thr58, upm_upr, upr_upr, lc_lt, lc_gt, lc_ge, lc_le, afit1, afit0, afitI, bifit, not_true_eq_false, not_false_eq_true, if_true, if_false, Bool.false_eq_true, reduceCtorEq, k1557, k1558, g1557_2, k17, k18, k1568, w1, w2, w3, w4, w5, w6, w7, n7, e1', e2, m1]
theorem law_46 (H : LH L c i u a) : LN L c i u t (a_X 350 3131 [a_r 17, a_r 18, a_r 1557, a_r 1568, a_r 1569, a_i i, v6, v7, v8] [] (K0 L, u, G a, t)) := by
  obtain ⟨hi, hc, hX, hs⟩ := H
  obtain ⟨w1, w2, w3, w4, w5, w6, w7⟩ := wr7 hi
  obtain ⟨k, z, v1, w', a', t1, e1, e2, e3, e4, e5, e6, e7, e8, e9, e10⟩ := stepW (t := t) (op_setDelay : OP L 137 288 [a_i (u 17 (i + 1).toNat), a_i (u 17 (i + 2).toNat)] e3) wrap_344 (by decide) hc.1 hc.2 hX
  have e1' : a_m 344 [a_r 18, a_i (u 17 (i + 1).toNat), a_i (u 17 (i + 2).toNat), a_r 1568] (K0 L, u, G a, t) = some (.inl (some (a_i k)), (K0 L, v1, G a', t1)) := e1
  have m1 := M_thr0 (L := L) (u := w') (a := a') (t := t1)
  rw [e3] at m1
  refine ⟨w', a', t1, a_i k, a_i z, v8, ?_, e5, e6, e8, e9, e10⟩
  have n7 : ∀ j, v1 17 j = u 17 j := fun j => by rw [e7]
  by_cases hk : k = 0
  · have hk' : ¬ k ≠ 0 := by omega
    have e4' : w' 1568 0 = z := e4 hk
    simp (disch := first | assumption | omega) only [B_L_law_3131, B_L_law_3148, B_L_law_3166, B_L_law_3172, Option.bind_some, back_v, Option.toList_some, Option.toList_none, List.cons_append, List.nil_append, Nat.reduceAdd, Int.reduceToNat, Int.reduceNeg, upm_eq, upm_r, upm_i, if_pos, if_neg, ite_self, true_or, or_true, true_and, and_true, false_or, or_false, false_and, and_false, wr_id, i10, i01, upr_f, upr_eq, thr58, upm_upr, upr_upr, lc_lt, lc_gt, lc_ge, lc_le, afit1, afit0, afitI, bifit, not_true_eq_false, not_false_eq_true, if_true, if_false, Bool.false_eq_true, reduceCtorEq, k1557, k1558, g1557_2, k17, k18, k1568, w1, w2, w3, w4, w5, w6, w7, n7, e1', e2, m1, e4']
  · have hk' : k ≠ 0 := hk
    simp (disch := first | assumption | omega) only [B_L_law_3131, B_L_law_3148, B_L_law_3166, B_L_law_3172, Option.bind_some, back_v, Option.toList_some, Option.toList_none, List.cons_append, List.nil_append, Nat.reduceAdd, Int.reduceToNat, Int.reduceNeg, upm_eq, upm_r, upm_i, if_pos, if_neg, ite_self, true_or, or_true, true_and, and_true, false_or, or_false, false_and, and_false, wr_id, i10, i01, upr_f, upr_eq, thr58, upm_upr, upr_upr, lc_lt, lc_gt, lc_ge, lc_le, afit1, afit0, afitI, bifit, not_true_eq_false, not_false_eq_true, if_true, if_false, Bool.false_eq_true, reduceCtorEq, k1557, k1558, g1557_2, k17, k18, k1568, w1, w2, w3, w4, w5, w6, w7, n7, e1', e2, m1]
theorem law_47 (H : LH L c i u a) : LN L c i u t (a_X 350 3199 [a_r 17, a_r 18, a_r 1557, a_r 1568, a_r 1569, a_i i, v6, v7, v8] [] (K0 L, u, G a, t)) := by
  obtain ⟨hi, hc, hX, hs⟩ := H
  obtain ⟨w1, w2, w3, w4, w5, w6, w7⟩ := wr7 hi
  obtain ⟨k, z, v1, w', a', t1, e1, e2, e3, e4, e5, e6, e7, e8, e9, e10⟩ := stepW (t := t) (op_setPeriod : OP L 138 289 [a_i (u 17 (i + 1).toNat)] eA) wrap_345 (by decide) hc.1 hc.2 hX
  have e1' : a_m 345 [a_r 18, a_i (u 17 (i + 1).toNat), a_r 1568] (K0 L, u, G a, t) = some (.inl (some (a_i k)), (K0 L, v1, G a', t1)) := e1
  have m1 := M_thr0 (L := L) (u := w') (a := a') (t := t1)
  rw [e3] at m1
  refine ⟨w', a', t1, a_i k, a_i z, v8, ?_, e5, e6, e8, e9, e10⟩
  have n7 : ∀ j, v1 17 j = u 17 j := fun j => by rw [e7]
  by_cases hk : k = 0
  · have hk' : ¬ k ≠ 0 := by omega
    have e4' : w' 1568 0 = z := e4 hk
    simp (disch := first | assumption | omega) only [B_L_law_3199, B_L_law_3210, B_L_law_3222, B_L_law_3228, Option.bind_some, back_v, Option.toList_some, Option.toList_none, List.cons_append, List.nil_append, Nat.reduceAdd, Int.reduceToNat, Int.reduceNeg, upm_eq, upm_r, upm_i, if_pos, if_neg, ite_self, true_or, or_true, true_and, and_true, false_or, or_false, false_and, and_false, wr_id, i10, i01, upr_f, upr_eq, thr58, upm_upr, upr_upr, lc_lt, lc_gt, lc_ge, lc_le, afit1, afit0, afitI, bifit, not_true_eq_false, not_false_eq_true, if_true, if_false, Bool.false_eq_true, reduceCtorEq, k1557, k1558, g1557_2, k17, k18, k1568, w1, w2, w3, w4, w5, w6, w7, n7, e1', e2, m1, e4']
  · have hk' : k ≠ 0 := hk
    simp (disch := first | assumption | omega) only [B_L_law_3199, B_L_law_3210, B_L_law_3222, B_L_law_3228, Option.bind_some, back_v, Option.toList_some, Option.toList_none, List.cons_append, List.nil_append, Nat.reduceAdd, Int.reduceToNat, Int.reduceNeg, upm_eq, upm_r, upm_i, if_pos, if_neg, ite_self, true_or, or_true, true_and, and_true, false_or, or_false, false_and, and_false, wr_id, i10, i01, upr_f, upr_eq, thr58, upm_upr, upr_upr, lc_lt, lc_gt, lc_ge, lc_le, afit1, afit0, afitI, bifit, not_true_eq_false, not_false_eq_true, if_true, if_false, Bool.false_eq_true, reduceCtorEq, k1557, k1558, g1557_2, k17, k18, k1568, w1, w2, w3, w4, w5, w6, w7, n7, e1', e2, m1]
theorem law_48 (H : LH L c i u a) : LN L c i u t (a_X 350 3255 [a_r 17, a_r 18, a_r 1557, a_r 1568, a_r 1569, a_i i, v6, v7, v8] [] (K0 L, u, G a, t)) := by
  obtain ⟨hi, hc, hX, hs⟩ := H
  obtain ⟨w1, w2, w3, w4, w5, w6, w7⟩ := wr7 hi
  obtain ⟨k, z, v1, w', a', t1, e1, e2, e3, e4, e5, e6, e7, e8, e9, e10⟩ := stepW (t := t) (op_fetch : OP L 139 290 [a_i (u 17 (i + 1).toNat)] e2) wrap_346 (by decide) hc.1 hc.2 hX
  have e1' : a_m 346 [a_r 18, a_i (u 17 (i + 1).toNat), a_r 1568] (K0 L, u, G a, t) = some (.inl (some (a_i k)), (K0 L, v1, G a', t1)) := e1
  have m1 := M_thr0 (L := L) (u := w') (a := a') (t := t1)
  rw [e3] at m1
  refine ⟨w', a', t1, a_i k, a_i z, v8, ?_, e5, e6, e8, e9, e10⟩
  have n7 : ∀ j, v1 17 j = u 17 j := fun j => by rw [e7]
  by_cases hk : k = 0
  · have hk' : ¬ k ≠ 0 := by omega
    have e4' : w' 1568 0 = z := e4 hk
    simp (disch := first | assumption | omega) only [B_L_law_3255, B_L_law_3266, B_L_law_3278, B_L_law_3284, Option.bind_some, back_v, Option.toList_some, Option.toList_none, List.cons_append, List.nil_append, Nat.reduceAdd, Int.reduceToNat, Int.reduceNeg, upm_eq, upm_r, upm_i, if_pos, if_neg, ite_self, true_or, or_true, true_and, and_true, false_or, or_false, false_and, and_false, wr_id, i10, i01, upr_f, upr_eq, thr58, upm_upr, upr_upr, lc_lt, lc_gt, lc_ge, lc_le, afit1, afit0, afitI, bifit, not_true_eq_false, not_false_eq_true, if_true, if_false, Bool.false_eq_true, reduceCtorEq, k1557, k1558, g1557_2, k17, k18, k1568, w1, w2, w3, w4, w5, w6, w7, n7, e1', e2, m1, e4']
  · have hk' : k ≠ 0 := hk
    simp (disch := first | assumption | omega) only [B_L_law_3255, B_L_law_3266, B_L_law_3278, B_L_law_3284, Option.bind_some, back_v, Option.toList_some, Option.toList_none, List.cons_append, List.nil_append, Nat.reduceAdd, Int.reduceToNat, Int.reduceNeg, upm_eq, upm_r, upm_i, if_pos, if_neg, ite_self, true_or, or_true, true_and, and_true, false_or, or_false, false_and, and_false, wr_id, i10, i01, upr_f, upr_eq, thr58, upm_upr, upr_upr, lc_lt, lc_gt, lc_ge, lc_le, afit1, afit0, afitI, bifit, not_true_eq_false, not_false_eq_true, if_true, if_false, Bool.false_eq_true, reduceCtorEq, k1557, k1558, g1557_2, k17, k18, k1568, w1, w2, w3, w4, w5, w6, w7, n7, e1', e2, m1]
theorem law_49 (H : LH L c i u a) : LN L c i u t (a_X 350 3311 [a_r 17, a_r 18, a_r 1557, a_r 1568, a_r 1569, a_i i, v6, v7, v8] [] (K0 L, u, G a, t)) := by
  obtain ⟨hi, hc, hX, hs⟩ := H
  obtain ⟨w1, w2, w3, w4, w5, w6, w7⟩ := wr7 hi
  obtain ⟨k, z, v1, w', a', t1, e1, e2, e3, e4, e5, e6, e7, e8, e9, e10⟩ := stepW (t := t) (op_undo : OP L 140 291 [] e1) wrap_347 (by decide) hc.1 hc.2 hX
  have e1' : a_m 347 [a_r 18, a_r 1568] (K0 L, u, G a, t) = some (.inl (some (a_i k)), (K0 L, v1, G a', t1)) := e1
  have m1 := M_thr0 (L := L) (u := w') (a := a') (t := t1)
  rw [e3] at m1
  refine ⟨w', a', t1, a_i k, a_i z, v8, ?_, e5, e6, e8, e9, e10⟩
  have n7 : ∀ j, v1 17 j = u 17 j := fun j => by rw [e7]
  by_cases hk : k = 0
  · have hk' : ¬ k ≠ 0 := by omega
    have e4' : w' 1568 0 = z := e4 hk
    simp (disch := first | assumption | omega) only [B_L_law_3311, B_L_law_3316, B_L_law_3322, B_L_law_3328, Option.bind_some, back_v, Option.toList_some, Option.toList_none, List.cons_append, List.nil_append, Nat.reduceAdd, Int.reduceToNat, Int.reduceNeg, upm_eq, upm_r, upm_i, if_pos, if_neg, ite_self, true_or, or_true, true_and, and_true, false_or, or_false, false_and, and_false, wr_id, i10, i01, upr_f, upr_eq, thr58, upm_upr, upr_upr, lc_lt, lc_gt, lc_ge, lc_le, afit1, afit0, afitI, bifit, not_true_eq_false, not_false_eq_true, if_true, if_false, Bool.false_eq_true, reduceCtorEq, k1557, k1558, g1557_2, k17, k18, k1568, w1, w2, w3, w4, w5, w6, w7, n7, e1', e2, m1, e4']
  · have hk' : k ≠ 0 := hk
    simp (disch := first | assumption | omega) only [B_L_law_3311, B_L_law_3316, B_L_law_3322, B_L_law_3328, Option.bind_some, back_v, Option.toList_some, Option.toList_none, List.cons_append, List.nil_append, Nat.reduceAdd, Int.reduceToNat, Int.reduceNeg, upm_eq, upm_r, upm_i, if_pos, if_neg, ite_self, true_or, or_true, true_and, and_true, false_or, or_false, false_and, and_false, wr_id, i10, i01, upr_f, upr_eq, thr58, upm_upr, upr_upr, lc_lt, lc_gt, lc_ge, lc_le, afit1, afit0, afitI, bifit, not_true_eq_false, not_false_eq_true, if_true, if_false, Bool.false_eq_true, reduceCtorEq, k1557, k1558, g1557_2, k17, k18, k1568, w1, w2, w3, w4, w5, w6, w7, n7, e1', e2, m1]
theorem law_50 (H : LH L c i u a) : LN L c i u t (a_X 350 3355 [a_r 17, a_r 18, a_r 1557, a_r 1568, a_r 1569, a_i i, v6, v7, v8] [] (K0 L, u, G a, t)) := by
  obtain ⟨hi, hc, hX, hs⟩ := H
  obtain ⟨w1, w2, w3, w4, w5, w6, w7⟩ := wr7 hi
  obtain ⟨z, v1, w', a', e1, e2, e5, e6, e7⟩ := stepD (t := t) (op_undoable : OP L 141 292 [] []) hc.1 hc.2 hX
  refine ⟨w', a', t, v6, v7, v8, ?_, e5, e6, rfl, by omega, by omega⟩
  have n7 : ∀ j, v1 17 j = u 17 j := fun j => by rw [e7]
  simp (disch := first | assumption | omega) only [B_L_law_3355, B_L_law_3359, B_L_law_3363, Option.bind_some, back_v, Option.toList_some, Option.toList_none, List.cons_append, List.nil_append, Nat.reduceAdd, Int.reduceToNat, Int.reduceNeg, upm_eq, upm_r, upm_i, if_pos, if_neg, ite_self, true_or, or_true, true_and, and_true, false_or, or_false, false_and, and_false, wr_id, i10, i01, upr_f, upr_eq, thr58, upm_upr, upr_upr, lc_lt, lc_gt, lc_ge, lc_le, afit1, afit0, afitI, bifit, not_true_eq_false, not_false_eq_true, if_true, if_false, Bool.false_eq_true, reduceCtorEq, k1557, k1558, g1557_2, k17, k18, w1, w2, w3, w4, w5, w6, w7, n7, e1, e2]
theorem law_51 (H : LH L c i u a) : LN L c i u t (a_X 350 3368 [a_r 17, a_r 18, a_r 1557, a_r 1568, a_r 1569, a_i i, v6, v7, v8] [] (K0 L, u, G a, t)) := by
  obtain ⟨hi, hc, hX, hs⟩ := H
  obtain ⟨w1, w2, w3, w4, w5, w6, w7⟩ := wr7 hi
  obtain ⟨k, z, v1, w', a', t1, e1, e2, e3, e4, e5, e6, e7, e8, e9, e10⟩ := stepW (t := t) (op_save : OP L 142 293 [a_i (u 17 (i + 1).toNat)] e2) wrap_348 (by decide) hc.1 hc.2 hX
  have e1' : a_m 348 [a_r 18, a_i (u 17 (i + 1).toNat), a_r 1568] (K0 L, u, G a, t) = some (.inl (some (a_i k)), (K0 L, v1, G a', t1)) := e1
  have m1 := M_thr0 (L := L) (u := w') (a := a') (t := t1)
  rw [e3] at m1
  refine ⟨w', a', t1, a_i k, a_i z, v8, ?_, e5, e6, e8, e9, e10⟩
  have n7 : ∀ j, v1 17 j = u 17 j := fun j => by rw [e7]
  by_cases hk : k = 0
  · have hk' : ¬ k ≠ 0 := by omega
    have e4' : w' 1568 0 = z := e4 hk
    simp (disch := first | assumption | omega) only [B_L_law_3368, B_L_law_3379, B_L_law_3391, B_L_law_3397, Option.bind_some, back_v, Option.toList_some, Option.toList_none, List.cons_append, List.nil_append, Nat.reduceAdd, Int.reduceToNat, Int.reduceNeg, upm_eq, upm_r, upm_i, if_pos, if_neg, ite_self, true_or, or_true, true_and, and_true, false_or, or_false, false_and, and_false, wr_id, i10, i01, upr_f, upr_eq, thr58, upm_upr, upr_upr, lc_lt, lc_gt, lc_ge, lc_le, afit1, afit0, afitI, bifit, not_true_eq_false, not_false_eq_true, if_true, if_false, Bool.false_eq_true, reduceCtorEq, k1557, k1558, g1557_2, k17, k18, k1568, w1, w2, w3, w4, w5, w6, w7, n7, e1', e2, m1, e4']
  · have hk' : k ≠ 0 := hk
    simp (disch := first | assumption | omega) only [B_L_law_3368, B_L_law_3379, B_L_law_3391, B_L_law_3397, Option.bind_some, back_v, Option.toList_some, Option.toList_none, List.cons_append, List.nil_append, Nat.reduceAdd, Int.reduceToNat, Int.reduceNeg, upm_eq, upm_r, upm_i, if_pos, if_neg, ite_self, true_or, or_true, true_and, and_true, false_or, or_false, false_and, and_false, wr_id, i10, i01, upr_f, upr_eq, thr58, upm_upr, upr_upr, lc_lt, lc_gt, lc_ge, lc_le, afit1, afit0, afitI, bifit, not_true_eq_false, not_false_eq_true, if_true, if_false, Bool.false_eq_true, reduceCtorEq, k1557, k1558, g1557_2, k17, k18, k1568, w1, w2, w3, w4, w5, w6, w7, n7, e1', e2, m1]
theorem law_52 (H : LH L c i u a) : LN L c i u t (a_X 350 3424 [a_r 17, a_r 18, a_r 1557, a_r 1568, a_r 1569, a_i i, v6, v7, v8] [] (K0 L, u, G a, t)) := by
  obtain ⟨hi, hc, hX, hs⟩ := H
  obtain ⟨w1, w2, w3, w4, w5, w6, w7⟩ := wr7 hi
  obtain ⟨k, z, v1, w', a', t1, e1, e2, e3, e4, e5, e6, e7, e8, e9, e10⟩ := stepW (t := t) (op_restore : OP L 143 294 [a_i (u 17 (i + 1).toNat)] eR) wrap_349 (by decide) hc.1 hc.2 hX
  have e1' : a_m 349 [a_r 18, a_i (u 17 (i + 1).toNat), a_r 1568] (K0 L, u, G a, t) = some (.inl (some (a_i k)), (K0 L, v1, G a', t1)) := e1
  have m1 := M_thr0 (L := L) (u := w') (a := a') (t := t1)
  rw [e3] at m1
  refine ⟨w', a', t1, a_i k, a_i z, v8, ?_, e5, e6, e8, e9, e10⟩
  have n7 : ∀ j, v1 17 j = u 17 j := fun j => by rw [e7]
  by_cases hk : k = 0
  · have hk' : ¬ k ≠ 0 := by omega
    have e4' : w' 1568 0 = z := e4 hk
    simp (disch := first | assumption | omega) only [B_L_law_3424, B_L_law_3435, B_L_law_3447, B_L_law_3453, Option.bind_some, back_v, Option.toList_some, Option.toList_none, List.cons_append, List.nil_append, Nat.reduceAdd, Int.reduceToNat, Int.reduceNeg, upm_eq, upm_r, upm_i, if_pos, if_neg, ite_self, true_or, or_true, true_and, and_true, false_or, or_false, false_and, and_false, wr_id, i10, i01, upr_f, upr_eq, thr58, upm_upr, upr_upr, lc_lt, lc_gt, lc_ge, lc_le, afit1, afit0, afitI, bifit, not_true_eq_false, not_false_eq_true, if_true, if_false, Bool.false_eq_true, reduceCtorEq, k1557, k1558, g1557_2, k17, k18, k1568, w1, w2, w3, w4, w5, w6, w7, n7, e1', e2, m1, e4']
  · have hk' : k ≠ 0 := hk
    simp (disch := first | assumption | omega) only [B_L_law_3424, B_L_law_3435, B_L_law_3447, B_L_law_3453, Option.bind_some, back_v, Option.toList_some, Option.toList_none, List.cons_append, List.nil_append, Nat.reduceAdd, Int.reduceToNat, Int.reduceNeg, upm_eq, upm_r, upm_i, if_pos, if_neg, ite_self, true_or, or_true, true_and, and_true, false_or, or_false, false_and, and_false, wr_id, i10, i01, upr_f, upr_eq, thr58, upm_upr, upr_upr, lc_lt, lc_gt, lc_ge, lc_le, afit1, afit0, afitI, bifit, not_true_eq_false, not_false_eq_true, if_true, if_false, Bool.false_eq_true, reduceCtorEq, k1557, k1558, g1557_2, k17, k18, k1568, w1, w2, w3, w4, w5, w6, w7, n7, e1', e2, m1]
theorem law_default (H : LH L c i u a) : LN L c i u t (a_X 350 3480 [a_r 17, a_r 18, a_r 1557, a_r 1568, a_r 1569, a_i i, v6, v7, v8] [] (K0 L, u, G a, t)) := by
  obtain ⟨hi, hc, hX, hs⟩ := H
  obtain ⟨w1, w2, w3, w4, w5, w6, w7⟩ := wr7 hi
  refine ⟨u, a, t, v6, v7, v8, ?_, XX_up hX, rfl, rfl, by omega, by omega⟩
  rw [B_L_law_3480, w7]
theorem law_step (H : LH L c i u a) : LN L c i u t (a_X 350 28 [a_r 17, a_r 18, a_r 1557, a_r 1568, a_r 1569, a_i i, v6, v7, v8] [] (K0 L, u, G a, t)) := by
  have hi := H.1
  have wl : wr ((L : Int) - 7) = (L : Int) - 7 := wr_id (by omega) (by omega)
  have hb := B_L_law_28 (k := K0 L) (u := u) (g := G a) (t := t) (r0 := 17) (r1 := 18) (r2 := 1557) (r3 := 1568) (r4 := 1569) (x5 := i) (v6 := v6) (v7 := v7) (v8 := v8)
  have g1 : 20 ≤ (K0 L 17).1 ∧ (K0 L 17).1 ≠ 25 := show (20 : Nat) ≤ 24 ∧ (24 : Nat) ≠ 25 by decide
  have g2 : ¬ i > wr (((K0 L 17).2 : Int) - 7) := show ¬ i > wr ((L : Int) - 7) by omega
  have g3 : ((K0 L 17).1 = 20 ∨ (K0 L 17).1 = 24) ∧ 0 ≤ i ∧ i < ((K0 L 17).2 : Int) := ⟨.inr rfl, by omega, show i < (L : Int) by omega⟩
  rw [if_pos g1, if_neg g2, if_pos g3] at hb
  rw [hb]
  by_cases q0 : zand (u 17 i.toNat) 63 = 0
  · rw [if_pos q0]; exact law_0 H
  rw [if_neg q0]
  by_cases q1 : zand (u 17 i.toNat) 63 = 1
  · rw [if_pos q1]; exact law_1 H
  rw [if_neg q1]
  by_cases q2 : zand (u 17 i.toNat) 63 = 2
  · rw [if_pos q2]; exact law_2 H
  rw [if_neg q2]
  by_cases q3 : zand (u 17 i.toNat) 63 = 3
  · rw [if_pos q3]; exact law_3 H
  rw [if_neg q3]
  by_cases q4 : zand (u 17 i.toNat) 63 = 4
  · rw [if_pos q4]; exact law_4 H
  rw [if_neg q4]
  by_cases q5 : zand (u 17 i.toNat) 63 = 5
  · rw [if_pos q5]; exact law_5 H
  rw [if_neg q5]
  by_cases q6 : zand (u 17 i.toNat) 63 = 6
  · rw [if_pos q6]; exact law_6 H
  rw [if_neg q6]
  by_cases q7 : zand (u 17 i.toNat) 63 = 7
  · rw [if_pos q7]; exact law_7 H
  rw [if_neg q7]
  by_cases q8 : zand (u 17 i.toNat) 63 = 8
  · rw [if_pos q8]; exact law_8 H
  rw [if_neg q8]
  by_cases q9 : zand (u 17 i.toNat) 63 = 9
  · rw [if_pos q9]; exact law_9 H
  rw [if_neg q9]
  by_cases q10 : zand (u 17 i.toNat) 63 = 10
  · rw [if_pos q10]; exact law_10 H
  rw [if_neg q10]
  by_cases q11 : zand (u 17 i.toNat) 63 = 11
  · rw [if_pos q11]; exact law_11 H
  rw [if_neg q11]
  by_cases q12 : zand (u 17 i.toNat) 63 = 12
  · rw [if_pos q12]; exact law_12 H
  rw [if_neg q12]
  by_cases q13 : zand (u 17 i.toNat) 63 = 13
  · rw [if_pos q13]; exact law_13 H
  rw [if_neg q13]
  by_cases q14 : zand (u 17 i.toNat) 63 = 14
  · rw [if_pos q14]; exact law_14 H
  rw [if_neg q14]
  by_cases q15 : zand (u 17 i.toNat) 63 = 15
  · rw [if_pos q15]; exact law_15 H
  rw [if_neg q15]
  by_cases q16 : zand (u 17 i.toNat) 63 = 16
  · rw [if_pos q16]; exact law_16 H
  rw [if_neg q16]
  by_cases q17 : zand (u 17 i.toNat) 63 = 17
  · rw [if_pos q17]; exact law_17 H
  rw [if_neg q17]
  by_cases q18 : zand (u 17 i.toNat) 63 = 18
  · rw [if_pos q18]; exact law_18 H
  rw [if_neg q18]
  by_cases q19 : zand (u 17 i.toNat) 63 = 19
  · rw [if_pos q19]; exact law_19 H
  rw [if_neg q19]
  by_cases q20 : zand (u 17 i.toNat) 63 = 20
  · rw [if_pos q20]; exact law_20 H
  rw [if_neg q20]
  by_cases q21 : zand (u 17 i.toNat) 63 = 21
  · rw [if_pos q21]; exact law_21 H
  rw [if_neg q21]
  by_cases q22 : zand (u 17 i.toNat) 63 = 22
  · rw [if_pos q22]; exact law_22 H
  rw [if_neg q22]
  by_cases q23 : zand (u 17 i.toNat) 63 = 23
  · rw [if_pos q23]; exact law_23 H
  rw [if_neg q23]
  by_cases q24 : zand (u 17 i.toNat) 63 = 24
  · rw [if_pos q24]; exact law_24 H
  rw [if_neg q24]
  by_cases q25 : zand (u 17 i.toNat) 63 = 25
  · rw [if_pos q25]; exact law_25 H
  rw [if_neg q25]
  by_cases q26 : zand (u 17 i.toNat) 63 = 26
  · rw [if_pos q26]; exact law_26 H
  rw [if_neg q26]
  by_cases q27 : zand (u 17 i.toNat) 63 = 27
  · rw [if_pos q27]; exact law_27 H
  rw [if_neg q27]
  by_cases q28 : zand (u 17 i.toNat) 63 = 28
  · rw [if_pos q28]; exact law_28 H
  rw [if_neg q28]
  by_cases q29 : zand (u 17 i.toNat) 63 = 29
  · rw [if_pos q29]; exact law_29 H
  rw [if_neg q29]
  by_cases q30 : zand (u 17 i.toNat) 63 = 30
  · rw [if_pos q30]; exact law_30 H
  rw [if_neg q30]
  by_cases q31 : zand (u 17 i.toNat) 63 = 31
  · rw [if_pos q31]; exact law_31 H
  rw [if_neg q31]
  by_cases q32 : zand (u 17 i.toNat) 63 = 32
  · rw [if_pos q32]; exact law_32 H
  rw [if_neg q32]
  by_cases q33 : zand (u 17 i.toNat) 63 = 33
  · rw [if_pos q33]; exact law_33 H
  rw [if_neg q33]
  by_cases q34 : zand (u 17 i.toNat) 63 = 34
  · rw [if_pos q34]; exact law_34 H
  rw [if_neg q34]
  by_cases q35 : zand (u 17 i.toNat) 63 = 35
  · rw [if_pos q35]; exact law_35 H
  rw [if_neg q35]
  by_cases q36 : zand (u 17 i.toNat) 63 = 36
  · rw [if_pos q36]; exact law_36 H
  rw [if_neg q36]
  by_cases q37 : zand (u 17 i.toNat) 63 = 37
  · rw [if_pos q37]; exact law_37 H
  rw [if_neg q37]
  by_cases q38 : zand (u 17 i.toNat) 63 = 38
  · rw [if_pos q38]; exact law_38 H
  rw [if_neg q38]
  by_cases q39 : zand (u 17 i.toNat) 63 = 39
  · rw [if_pos q39]; exact law_39 H
  rw [if_neg q39]
  by_cases q40 : zand (u 17 i.toNat) 63 = 40
  · rw [if_pos q40]; exact law_40 H
  rw [if_neg q40]
  by_cases q41 : zand (u 17 i.toNat) 63 = 41
  · rw [if_pos q41]; exact law_41 H
  rw [if_neg q41]
  by_cases q42 : zand (u 17 i.toNat) 63 = 42
  · rw [if_pos q42]; exact law_42 H
  rw [if_neg q42]
  by_cases q43 : zand (u 17 i.toNat) 63 = 43
  · rw [if_pos q43]; exact law_43 H
  rw [if_neg q43]
  by_cases q44 : zand (u 17 i.toNat) 63 = 44
  · rw [if_pos q44]; exact law_44 H
  rw [if_neg q44]
  by_cases q45 : zand (u 17 i.toNat) 63 = 45
  · rw [if_pos q45]; exact law_45 H
  rw [if_neg q45]
  by_cases q46 : zand (u 17 i.toNat) 63 = 46
  · rw [if_pos q46]; exact law_46 H
  rw [if_neg q46]
  by_cases q47 : zand (u 17 i.toNat) 63 = 47
  · rw [if_pos q47]; exact law_47 H
  rw [if_neg q47]
  by_cases q48 : zand (u 17 i.toNat) 63 = 48
  · rw [if_pos q48]; exact law_48 H
  rw [if_neg q48]
  by_cases q49 : zand (u 17 i.toNat) 63 = 49
  · rw [if_pos q49]; exact law_49 H
  rw [if_neg q49]
  by_cases q50 : zand (u 17 i.toNat) 63 = 50
  · rw [if_pos q50]; exact law_50 H
  rw [if_neg q50]
  by_cases q51 : zand (u 17 i.toNat) 63 = 51
  · rw [if_pos q51]; exact law_51 H
  rw [if_neg q51]
  by_cases q52 : zand (u 17 i.toNat) 63 = 52
  · rw [if_pos q52]; exact law_52 H
  rw [if_neg q52]
  exact law_default H
end LAW
theorem law_loop {L : Nat} (hL : L ≤ 3584) : ∀ (d : Nat) (i c : Int) (u : Nat → Nat → Int) (a : Nat → Nat → Nat) (t : Nat × Nat × Nat) (v6 v7 v8 : AV), 0 ≤ i → i ≤ L → (L : Int) ≤ i + 7 * d + 6 → 0 ≤ c → 7 * c ≤ i → XX c u u a → (∀ j, i32 (u 17 j)) → ∃ σ1 : AS, a_X 350 28 [a_r 17, a_r 18, a_r 1557, a_r 1568, a_r 1569, a_i i, v6, v7, v8] [] (K0 L, u, G a, t) = some (.inl (some (a_i 1)), σ1) ∧ σ1.2.2.2.2.1 ≤ t.2.1 + d ∧ σ1.2.2.2.2.2 ≤ t.2.2 + 6 * d := by
  intro d
  induction d with
  | zero =>
    intro i c u a t v6 v7 v8 i0 iL hd c0 c7 hX hs
    have wl : wr ((L : Int) - 7) = (L : Int) - 7 := wr_id (by omega) (by omega)
    have hb := B_L_law_28 (k := K0 L) (u := u) (g := G a) (t := t) (r0 := 17) (r1 := 18) (r2 := 1557) (r3 := 1568) (r4 := 1569) (x5 := i) (v6 := v6) (v7 := v7) (v8 := v8)
    have g1 : 20 ≤ (K0 L 17).1 ∧ (K0 L 17).1 ≠ 25 := show (20 : Nat) ≤ 24 ∧ (24 : Nat) ≠ 25 by decide
    have g2 : i > wr (((K0 L 17).2 : Int) - 7) := show i > wr ((L : Int) - 7) by omega
    rw [if_pos g1, if_pos g2] at hb
    exact ⟨_, hb, Nat.le_refl _, Nat.le_refl _⟩
  | succ d ih =>
    intro i c u a t v6 v7 v8 i0 iL hd c0 c7 hX hs
    have wl : wr ((L : Int) - 7) = (L : Int) - 7 := wr_id (by omega) (by omega)
    by_cases hx : i > (L : Int) - 7
    · have hb := B_L_law_28 (k := K0 L) (u := u) (g := G a) (t := t) (r0 := 17) (r1 := 18) (r2 := 1557) (r3 := 1568) (r4 := 1569) (x5 := i) (v6 := v6) (v7 := v7) (v8 := v8)
      have g1 : 20 ≤ (K0 L 17).1 ∧ (K0 L 17).1 ≠ 25 := show (20 : Nat) ≤ 24 ∧ (24 : Nat) ≠ 25 by decide
      have g2 : i > wr (((K0 L 17).2 : Int) - 7) := show i > wr ((L : Int) - 7) by omega
      rw [if_pos g1, if_pos g2] at hb
      exact ⟨_, hb, Nat.le_add_right _ _, Nat.le_add_right _ _⟩
    · obtain ⟨u', a', t', y6, y7, y8, e1, e2, e3, e4, e5, e6⟩ := law_step (L := L) (c := c) (i := i) (u := u) (a := a) (t := t) (v6 := v6) (v7 := v7) (v8 := v8) ⟨⟨i0, by omega, by omega⟩, ⟨c0, by omega⟩, hX, hs⟩
      obtain ⟨σ1, g1, g2, g3⟩ := ih (i + 7) (c + 1) u' a' t' y6 y7 y8 (by omega) (by omega) (by omega) (by omega) (by omega) e2 (by rw [e3]; exact hs)
      exact ⟨σ1, e1.trans g1, by omega, by omega⟩
