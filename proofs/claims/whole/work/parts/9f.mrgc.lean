/-! ===== merged stops in the class ===== -/
def ahR (v : Nat → Nat → Int) (r q : Int) : Bool := if v 25 r.toNat = v 25 q.toNat then decide (v 23 r.toNat < v 23 q.toNat) else decide (v 25 r.toNat < v 25 q.toNat)
def lxR (v : Nat → Nat → Int) (r q : Int) : Prop := v 25 r.toNat < v 25 q.toNat ∨ (v 25 r.toNat = v 25 q.toNat ∧ v 23 r.toNat ≤ v 23 q.toNat)
theorem ahR_t {v : Nat → Nat → Int} {r q : Int} (h : ahR v r q = true) : lxR v r q := by
  unfold ahR at h
  unfold lxR
  split at h
  · have := of_decide_eq_true h; omega
  · have := of_decide_eq_true h; omega
theorem ahR_f {v : Nat → Nat → Int} {r q : Int} (h : ahR v r q = false) : lxR v q r := by
  unfold ahR at h
  unfold lxR
  split at h
  · have := of_decide_eq_false h; omega
  · have := of_decide_eq_false h; omega
theorem lxR_trans {v : Nat → Nat → Int} {r q p : Int} (h : lxR v r q) (h2 : lxR v q p) : lxR v r p := by
  unfold lxR at *
  omega
theorem ahR_congr {v v' : Nat → Nat → Int} {r q : Int} (h3 : v' 23 = v 23) (h5 : v' 25 = v 25) : ahR v' r q = ahR v r q := by
  unfold ahR; rw [h3, h5]
theorem ins_perm {α : Type} {a a' : Nat → α} {r : α} {i : Nat} : ∀ n, i ≤ n → (∀ j, j < i → a' j = a j) → a' i = r → (∀ j, i < j → j ≤ n → a' j = a (j - 1)) → ((List.range (n + 1)).map a').Perm (r :: (List.range n).map a) := by
  intro n
  induction n with
  | zero =>
    intro hi h1 h2 h3
    have : i = 0 := by omega
    subst this
    simp [h2]
  | succ n ih =>
    intro hi h1 h2 h3
    rw [List.range_succ, List.map_append, List.map_cons, List.map_nil]
    by_cases hn : i = n + 1
    · subst hn
      rw [h2]
      have : (List.range (n + 1)).map a' = (List.range (n + 1)).map a := List.map_congr_left fun j hj => h1 j (by rw [List.mem_range] at hj; exact hj)
      rw [this]
      exact List.perm_append_singleton _ _
    · have hp := ih (by omega) h1 h2 (fun j j1 j2 => h3 j j1 (by omega))
      rw [h3 (n + 1) (by omega) (by omega), Nat.add_sub_cancel, List.range_succ (n := n), List.map_append, List.map_cons, List.map_nil]
      have h9 := hp.append_right [a n]
      rw [List.range_succ] at h9
      simpa using h9
section MGC
variable {L : Nat} {a : Nat → Nat → Nat} {t : Nat × Nat × Nat}
theorem C_mAhead {v : Nat → Nat → Int} {r q : Int} (hr : 0 ≤ r ∧ r < 111) (hq : 0 ≤ q ∧ q < 111) : a_m 25 [a_r 1295, a_r 22, a_i r, a_i q] (K0 L, v, G a, t) = some (.inl (some (a_i (bi (ahR v r q)))), (K0 L, v, G a, t)) := by
  have r1 : r < ((111 : Nat) : Int) := by omega
  have q1 : q < ((111 : Nat) : Int) := by omega
  unfold ahR
  by_cases h1 : v 25 r.toNat = v 25 q.toNat
  · rw [if_pos h1]
    by_cases h2 : v 23 r.toNat < v 23 q.toNat
    · have h2' : ¬ v 23 r.toNat ≥ v 23 q.toNat := by omega
      rw [decide_eq_true h2, bi_t]
      simp (disch := first | assumption | omega) only [kq21, kq22, kq23, kq24, kq25, kq26, kq27, kq28, kq29, kq30, kq31, kq32, kq123, gq21_0, gq21_1, gq21_2, gq21_3, gq22_0, gq22_1, gq22_2, gq22_3, gq22_4, gq22_5, gq22_6, gq31_0, gq123_j, gq32_j, kq124_l, kq125_l, kq126_l, kq127_l, gq124_2, gq124_3, gq124_4, kq33_p, kq34_p, kq35_p, gq33_6, gq33_7, E_X3_isAhead, B_X3_isAhead_0, Option.bind_some, back_v, Option.toList_some, Option.toList_none, List.cons_append, List.nil_append, Nat.reduceAdd, Int.reduceToNat, Int.reduceNeg, upm_eq, upm_r, upm_i, if_pos, if_neg, ite_self, true_or, or_true, true_and, and_true, false_or, or_false, false_and, and_false, wr_id, i10, i01, upr_f, upr_eq, thr58, upm_upr, upr_upr, lc_lt, lc_gt, lc_ge, lc_le, afit1, afit0, afitI, bifit, not_true_eq_false, not_false_eq_true, if_true, if_false, Bool.false_eq_true, reduceCtorEq, k1557, k1558, g1557_2, h1, h2']
    · have h2' : v 23 r.toNat ≥ v 23 q.toNat := by omega
      rw [decide_eq_false h2, bi_f]
      simp (disch := first | assumption | omega) only [kq21, kq22, kq23, kq24, kq25, kq26, kq27, kq28, kq29, kq30, kq31, kq32, kq123, gq21_0, gq21_1, gq21_2, gq21_3, gq22_0, gq22_1, gq22_2, gq22_3, gq22_4, gq22_5, gq22_6, gq31_0, gq123_j, gq32_j, kq124_l, kq125_l, kq126_l, kq127_l, gq124_2, gq124_3, gq124_4, kq33_p, kq34_p, kq35_p, gq33_6, gq33_7, E_X3_isAhead, B_X3_isAhead_0, Option.bind_some, back_v, Option.toList_some, Option.toList_none, List.cons_append, List.nil_append, Nat.reduceAdd, Int.reduceToNat, Int.reduceNeg, upm_eq, upm_r, upm_i, if_pos, if_neg, ite_self, true_or, or_true, true_and, and_true, false_or, or_false, false_and, and_false, wr_id, i10, i01, upr_f, upr_eq, thr58, upm_upr, upr_upr, lc_lt, lc_gt, lc_ge, lc_le, afit1, afit0, afitI, bifit, not_true_eq_false, not_false_eq_true, if_true, if_false, Bool.false_eq_true, reduceCtorEq, k1557, k1558, g1557_2, h1, h2']
  · rw [if_neg h1]
    by_cases h2 : v 25 r.toNat < v 25 q.toNat
    · have h2' : ¬ v 25 r.toNat ≥ v 25 q.toNat := by omega
      rw [decide_eq_true h2, bi_t]
      simp (disch := first | assumption | omega) only [kq21, kq22, kq23, kq24, kq25, kq26, kq27, kq28, kq29, kq30, kq31, kq32, kq123, gq21_0, gq21_1, gq21_2, gq21_3, gq22_0, gq22_1, gq22_2, gq22_3, gq22_4, gq22_5, gq22_6, gq31_0, gq123_j, gq32_j, kq124_l, kq125_l, kq126_l, kq127_l, gq124_2, gq124_3, gq124_4, kq33_p, kq34_p, kq35_p, gq33_6, gq33_7, E_X3_isAhead, B_X3_isAhead_0, Option.bind_some, back_v, Option.toList_some, Option.toList_none, List.cons_append, List.nil_append, Nat.reduceAdd, Int.reduceToNat, Int.reduceNeg, upm_eq, upm_r, upm_i, if_pos, if_neg, ite_self, true_or, or_true, true_and, and_true, false_or, or_false, false_and, and_false, wr_id, i10, i01, upr_f, upr_eq, thr58, upm_upr, upr_upr, lc_lt, lc_gt, lc_ge, lc_le, afit1, afit0, afitI, bifit, not_true_eq_false, not_false_eq_true, if_true, if_false, Bool.false_eq_true, reduceCtorEq, k1557, k1558, g1557_2, h1, h2']
    · have h2' : v 25 r.toNat ≥ v 25 q.toNat := by omega
      rw [decide_eq_false h2, bi_f]
      simp (disch := first | assumption | omega) only [kq21, kq22, kq23, kq24, kq25, kq26, kq27, kq28, kq29, kq30, kq31, kq32, kq123, gq21_0, gq21_1, gq21_2, gq21_3, gq22_0, gq22_1, gq22_2, gq22_3, gq22_4, gq22_5, gq22_6, gq31_0, gq123_j, gq32_j, kq124_l, kq125_l, kq126_l, kq127_l, gq124_2, gq124_3, gq124_4, kq33_p, kq34_p, kq35_p, gq33_6, gq33_7, E_X3_isAhead, B_X3_isAhead_0, Option.bind_some, back_v, Option.toList_some, Option.toList_none, List.cons_append, List.nil_append, Nat.reduceAdd, Int.reduceToNat, Int.reduceNeg, upm_eq, upm_r, upm_i, if_pos, if_neg, ite_self, true_or, or_true, true_and, and_true, false_or, or_false, false_and, and_false, wr_id, i10, i01, upr_f, upr_eq, thr58, upm_upr, upr_upr, lc_lt, lc_gt, lc_ge, lc_le, afit1, afit0, afitI, bifit, not_true_eq_false, not_false_eq_true, if_true, if_false, Bool.false_eq_true, reduceCtorEq, k1557, k1558, g1557_2, h1, h2']
theorem C_insRow_loop {r : Int} {n : Nat} (hr : 0 ≤ r ∧ r < 111) (hn : n ≤ 11) : ∀ (d : Nat) (v : Nat → Nat → Int), d ≤ n → v 1295 6 = n → (∀ j, j < n → 0 ≤ v 1300 j ∧ v 1300 j < 111) →
    ∃ v' i, i ≤ d ∧ a_X 24 5 [a_r 1295, a_r 22, a_i r, a_i (d : Int)] [] (K0 L, v, G a, t) = some (.inl none, (K0 L, v', G a, t)) ∧ (∀ q, q ≠ 1295 → q ≠ 1300 → v' q = v q) ∧ (∀ j, j ≠ 6 → v' 1295 j = v 1295 j) ∧ v' 1295 6 = n + 1 ∧ (∀ j, v' 1300 j = if j < i then v 1300 j else if j = i then r else if j ≤ d then v 1300 (j - 1) else v 1300 j) ∧ (i = 0 ∨ ahR v r (v 1300 (i - 1)) = false) ∧ (∀ j, i ≤ j → j < d → ahR v r (v 1300 j) = true) := by
  intro d
  induction d with
  | zero =>
    intro v hd h6 hb
    refine ⟨upm (upm v 1300 0 r) 1295 6 ((n : Int) + 1), 0, Nat.le_refl _, ?_, fun q q1 q2 => by rw [upm_rf q1, upm_rf q2], fun j hj => by rw [upm_i hj, upm_rf (by decide)], upm_eq, fun j => ?_, .inl rfl, fun j _ hj => absurd hj (Nat.not_lt_zero _)⟩
    · rw [B_X3_insertRow_5]
      simp (disch := first | assumption | omega) only [k1295, k1296, k1297, k1298, k1299, k1300, g1295_0, g1295_1, g1295_2, g1295_3, g1295_5, B_X3_insertRow_0, B_X3_insertRow_23, Option.bind_some, back_v, Option.toList_some, Option.toList_none, List.cons_append, List.nil_append, Nat.reduceAdd, Int.reduceToNat, Int.reduceNeg, upm_eq, upm_r, upm_i, if_pos, if_neg, ite_self, true_or, or_true, true_and, and_true, false_or, or_false, false_and, and_false, wr_id, i10, i01, upr_f, upr_eq, thr58, upm_upr, upr_upr, lc_lt, lc_gt, lc_ge, lc_le, afit1, afit0, afitI, bifit, not_true_eq_false, not_false_eq_true, if_true, if_false, Bool.false_eq_true, reduceCtorEq, k1557, k1558, g1557_2, h6, Int.natCast_zero, Int.reduceToNat]
    · rw [upm_rf (by decide), if_neg (Nat.not_lt_zero _)]
      by_cases hj : j = 0
      · subst hj; rw [if_pos rfl, upm_eq]
      · rw [if_neg hj, if_neg (by omega), upm_i hj]
  | succ d ih =>
    intro v hd h6 hb
    have hd1 : ¬ ((d + 1 : Nat) : Int) ≤ 0 := by omega
    have e1 : ((d + 1 : Nat) : Int) - 1 = (d : Int) := by omega
    have e2 : ((d + 1 : Nat) : Int) + (-1) = (d : Int) := by omega
    have tn : ((d + 1 : Nat) : Int).toNat = d + 1 := by omega
    have tn2 : (d : Int).toNat = d := by omega
    have hq := hb d (by omega)
    have pa := C_mAhead (L := L) (a := a) (t := t) (v := v) hr hq
    have d0 : 0 ≤ (d : Int) := by omega
    have d00 : 0 ≤ ((d + 1 : Nat) : Int) := by omega
    have d12 : (d : Int) < ((12 : Nat) : Int) := by omega
    have d13 : ((d + 1 : Nat) : Int) < ((12 : Nat) : Int) := by omega
    cases ha : ahR v r (v 1300 d) with
    | false =>
      rw [ha, bi_f] at pa
      refine ⟨upm (upm v 1300 (d + 1) r) 1295 6 ((n : Int) + 1), d + 1, Nat.le_refl _, ?_, fun q q1 q2 => by rw [upm_rf q1, upm_rf q2], fun j hj => by rw [upm_i hj, upm_rf (by decide)], upm_eq, fun j => ?_, .inr ha, fun j j1 j2 => by omega⟩
      · rw [B_X3_insertRow_5]
        simp (disch := first | assumption | omega) only [k1295, k1296, k1297, k1298, k1299, k1300, g1295_0, g1295_1, g1295_2, g1295_3, g1295_5, B_X3_insertRow_0, B_X3_insertRow_23, Option.bind_some, back_v, Option.toList_some, Option.toList_none, List.cons_append, List.nil_append, Nat.reduceAdd, Int.reduceToNat, Int.reduceNeg, upm_eq, upm_r, upm_i, if_pos, if_neg, ite_self, true_or, or_true, true_and, and_true, false_or, or_false, false_and, and_false, wr_id, i10, i01, upr_f, upr_eq, thr58, upm_upr, upr_upr, lc_lt, lc_gt, lc_ge, lc_le, afit1, afit0, afitI, bifit, not_true_eq_false, not_false_eq_true, if_true, if_false, Bool.false_eq_true, reduceCtorEq, k1557, k1558, g1557_2, h6, hd1, e1, tn, tn2, pa]
      · rw [upm_rf (by decide)]
        by_cases hj : j = d + 1
        · subst hj; rw [if_neg (Nat.lt_irrefl _), if_pos rfl, upm_eq]
        · rw [upm_i hj]
          by_cases hj2 : j < d + 1
          · rw [if_pos hj2]
          · rw [if_neg hj2, if_neg hj, if_neg (by omega)]
    | true =>
      rw [ha, bi_t] at pa
      obtain ⟨v', i, i0, g0, g1, g2, g3, g4, g5, g6⟩ := ih (upm v 1300 (d + 1) (v 1300 d)) (by omega) (by rw [upm_rf (by decide)]; exact h6) (fun j hj => by
        by_cases hj1 : j = d + 1
        · subst hj1; rw [upm_eq]; exact hq
        · rw [upm_i hj1]; exact hb j hj)
      have hc : ∀ q, ahR (upm v 1300 (d + 1) (v 1300 d)) r q = ahR v r q := fun q => ahR_congr (upm_rf (by decide)) (upm_rf (by decide))
      refine ⟨v', i, by omega, ?_, fun q q1 q2 => by rw [g1 q q1 q2, upm_rf q2], fun j hj => by rw [g2 j hj, upm_rf (by decide)], g3, fun j => ?_, ?_, fun j j1 j2 => ?_⟩
      · rw [← g0]
        have one : ¬ (1 : Int) = 0 := by decide
        rw [B_X3_insertRow_5]
        simp (disch := first | assumption | omega) only [k1295, k1296, k1297, k1298, k1299, k1300, g1295_0, g1295_1, g1295_2, g1295_3, g1295_5, B_X3_insertRow_0, B_X3_insertRow_23, Option.bind_some, back_v, Option.toList_some, Option.toList_none, List.cons_append, List.nil_append, Nat.reduceAdd, Int.reduceToNat, Int.reduceNeg, upm_eq, upm_r, upm_i, if_pos, if_neg, ite_self, true_or, or_true, true_and, and_true, false_or, or_false, false_and, and_false, wr_id, i10, i01, upr_f, upr_eq, thr58, upm_upr, upr_upr, lc_lt, lc_gt, lc_ge, lc_le, afit1, afit0, afitI, bifit, not_true_eq_false, not_false_eq_true, if_true, if_false, Bool.false_eq_true, reduceCtorEq, k1557, k1558, g1557_2, h6, hd1, e1, e2, tn, tn2, pa, one]
      · rw [g4 j]
        by_cases h1 : j < i
        · rw [if_pos h1, if_pos h1, upm_i (by omega)]
        · rw [if_neg h1, if_neg h1]
          by_cases h2 : j = i
          · rw [if_pos h2, if_pos h2]
          · rw [if_neg h2, if_neg h2]
            by_cases h3 : j ≤ d
            · rw [if_pos h3, if_pos (by omega), upm_i (by omega)]
            · rw [if_neg h3]
              by_cases h4 : j = d + 1
              · subst h4; rw [if_pos (by omega), upm_eq, Nat.add_sub_cancel]
              · rw [if_neg (by omega), upm_i h4]
      · rcases g5 with g5 | g5
        · exact .inl g5
        · right
          rwa [hc, upm_i (by omega)] at g5
      · by_cases hj : j < d
        · have := g6 j j1 hj
          rwa [hc, upm_i (by omega)] at this
        · have : j = d := by omega
          subst this; exact ha
end MGC
