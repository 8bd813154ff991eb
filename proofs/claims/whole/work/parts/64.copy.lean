/-! ===== the class: a radio becomes another ===== -/
section CP
variable {L : Nat} {a : Nat → Nat → Nat} {t : Nat × Nat × Nat} {R Q : Nat}
def cpT (u : Nat → Nat → Int) (R Q n : Nat) : Nat → Nat → Int :=
  upr (upr (upr (upr (upr (upr (upr (upm u (R + 1) 7 (u (Q + 1) 7)) (R + 2) (a_cpy (u (Q + 2)) (u (R + 2)) 0 0 (12 + n))) (R + 3) (a_cpy (u (Q + 3)) (u (R + 3)) 0 0 (12 + n))) (R + 4) (a_cpy (u (Q + 4)) (u (R + 4)) 0 0 (12 + n))) (R + 5) (a_cpy (u (Q + 5)) (u (R + 5)) 0 0 (12 + n)))
    (R + 6) (a_cpy (u (Q + 6)) (u (R + 6)) 0 0 (1 + n))) (R + 7) (a_cpy (u (Q + 7)) (u (R + 7)) 0 0 (1 + n))) (R + 8) (a_cpy (u (Q + 8)) (u (R + 8)) 0 0 (1 + n))
theorem C_copyTold {u : Nat → Nat → Int} {n : Nat} (hR : isRad R) (hQ : isRad Q) (hd : R + 126 < Q ∨ Q + 126 < R) (hn : n ≤ 99) (hl : u (Q + 1) 7 = n) : a_m 79 [a_r (R + 1), a_r (Q + 1)] (K0 L, u, G a, t) = some (.inl none, (K0 L, cpT u R Q n, G a, t)) := by
  have e1 : (12 + (n : Int)).toNat = 12 + n := by omega
  have e2 : (1 + (n : Int)).toNat = 1 + n := by omega
  simp (disch := first | assumption | omega) only [kR1, kR2, kR3, kR4, kR5, kR6, kR7, kR8, gR1_0, gR1_1, gR1_2, gR1_3, gR1_4, gR1_5, gR1_6, E_X8_copyFrom, B_X8_copyFrom_0, B_X8_copyFrom_111, Option.bind_some, back_v, Option.toList_some, Option.toList_none, List.cons_append, List.nil_append, Nat.reduceAdd, Int.reduceToNat, Int.reduceNeg, upm_eq, upm_r, upm_i, if_pos, if_neg, ite_self, true_or, or_true, true_and, and_true, false_or, or_false, false_and, and_false, wr_id, i10, i01, upr_f, upr_eq, thr58, upm_upr, upr_upr, lc_lt, lc_gt, lc_ge, lc_le, afit1, afit0, afitI, bifit, not_true_eq_false, not_false_eq_true, if_true, if_false, Bool.false_eq_true, reduceCtorEq, k1557, k1558, g1557_2, upr_rf, upm_rf, hl, e1, e2, cpT]
def cpS (u : Nat → Nat → Int) (S S' : Nat) : Nat → Nat → Int :=
  upr (upr (upm (upm (upm (upm (upm (upm u S 0 (u S' 0)) S 1 (u S' 1)) S 2 (u S' 2)) S 3 (u S' 3)) S 4 (u S' 4)) S 5 (u S' 5)) (S + 1) (a_cpy (u (S' + 1)) (u (S + 1)) 0 0 6)) (S + 2) (a_cpy (u (S' + 2)) (u (S + 2)) 0 0 12)
theorem C_copySignal {u : Nat → Nat → Int} {p q : Nat} (hR : isRad R) (hQ : isRad Q) (hd : R + 126 < Q ∨ Q + 126 < R) (hp : p < 30) (hq : q < 30) : a_m 68 [a_r (R + 12 + 3 * p), a_r (Q + 12 + 3 * q)] (K0 L, u, G a, t) = some (.inl none, (K0 L, cpS u (R + 12 + 3 * p) (Q + 12 + 3 * q), G a, t)) := by
  have e1 : R + 12 + 3 * p + 1 = R + 13 + 3 * p := by omega
  have e2 : R + 12 + 3 * p + 2 = R + 14 + 3 * p := by omega
  have e3 : Q + 12 + 3 * q + 1 = Q + 13 + 3 * q := by omega
  have e4 : Q + 12 + 3 * q + 2 = Q + 14 + 3 * q := by omega
  simp (disch := first | assumption | omega) only [kRs0, kRs1, kRs2, gRs_6, gRs_7, E_X6_copyFrom, B_X6_copyFrom_0, Option.bind_some, back_v, Option.toList_some, Option.toList_none, List.cons_append, List.nil_append, Nat.reduceAdd, Int.reduceToNat, Int.reduceNeg, upm_eq, upm_r, upm_i, if_pos, if_neg, ite_self, true_or, or_true, true_and, and_true, false_or, or_false, false_and, and_false, wr_id, i10, i01, upr_f, upr_eq, thr58, upm_upr, upr_upr, lc_lt, lc_gt, lc_ge, lc_le, afit1, afit0, afitI, bifit, not_true_eq_false, not_false_eq_true, if_true, if_false, Bool.false_eq_true, reduceCtorEq, k1557, k1558, g1557_2, upr_rf, upm_rf, cpS, e1, e2, e3, e4]
def cpL (u : Nat → Nat → Int) (B B' : Nat) : Nat → Nat → Int :=
  upm (upm (upm (upm (upm (upr (upr (upr (upm (upm u B 0 (u B' 0)) B 1 (u B' 1)) (B + 1) (a_cpy (u (B' + 1)) (u (B + 1)) 0 0 4)) (B + 2) (a_cpy (u (B' + 2)) (u (B + 2)) 0 0 4)) (B + 3) (a_cpy (u (B' + 3)) (u (B + 3)) 0 0 12)) B 5 (u B' 5)) B 6 (u B' 6)) B 7 (u B' 7)) B 8 (u B' 8)) B 9 (u B' 9)
theorem C_copyListener {u : Nat → Nat → Int} {n : Nat} (hR : isRad R) (hQ : isRad Q) (hd : R + 126 < Q ∨ Q + 126 < R) (hn : n < 6) : a_m 15 [a_r (R + 103 + 4 * n), a_r (Q + 103 + 4 * n)] (K0 L, u, G a, t) = some (.inl none, (K0 L, cpL u (R + 103 + 4 * n) (Q + 103 + 4 * n), G a, t)) := by
  have e1 : R + 103 + 4 * n + 1 = R + 104 + 4 * n := by omega
  have e2 : R + 103 + 4 * n + 2 = R + 105 + 4 * n := by omega
  have e3 : R + 103 + 4 * n + 3 = R + 106 + 4 * n := by omega
  have e4 : Q + 103 + 4 * n + 1 = Q + 104 + 4 * n := by omega
  have e5 : Q + 103 + 4 * n + 2 = Q + 105 + 4 * n := by omega
  have e6 : Q + 103 + 4 * n + 3 = Q + 106 + 4 * n := by omega
  simp (disch := first | assumption | omega) only [kRl0, kRl1, kRl2, kRl3, gRl_2, gRl_3, gRl_4, E_X2_copyFrom, B_X2_copyFrom_0, Option.bind_some, back_v, Option.toList_some, Option.toList_none, List.cons_append, List.nil_append, Nat.reduceAdd, Int.reduceToNat, Int.reduceNeg, upm_eq, upm_r, upm_i, if_pos, if_neg, ite_self, true_or, or_true, true_and, and_true, false_or, or_false, false_and, and_false, wr_id, i10, i01, upr_f, upr_eq, thr58, upm_upr, upr_upr, lc_lt, lc_gt, lc_ge, lc_le, afit1, afit0, afitI, bifit, not_true_eq_false, not_false_eq_true, if_true, if_false, Bool.false_eq_true, reduceCtorEq, k1557, k1558, g1557_2, upr_rf, upm_rf, cpL, e1, e2, e3, e4, e5, e6]
/-- a signal as it was in the other radio -/
def sgE (u' : Nat → Nat → Int) (S : Nat) (u : Nat → Nat → Int) (S' : Nat) : Prop := (∀ j, j < 6 → u' S j = u S' j) ∧ (∀ j, j < 6 → u' (S + 1) j = u (S' + 1) j) ∧ ∀ j, j < 12 → u' (S + 2) j = u (S' + 2) j
theorem cpS_E {u : Nat → Nat → Int} {S S' : Nat} (hd : S + 2 < S' ∨ S' + 2 < S) : sgE (cpS u S S') S u S' := by
  refine ⟨fun j hj => ?_, fun j hj => ?_, fun j hj => ?_⟩
  · unfold cpS
    rw [upr_r (by omega), upr_r (by omega)]
    have : j = 0 ∨ j = 1 ∨ j = 2 ∨ j = 3 ∨ j = 4 ∨ j = 5 := by omega
    rcases this with rfl | rfl | rfl | rfl | rfl | rfl <;> simp [upm]
  · unfold cpS
    rw [upr_r (by omega), upr_eq, cpy_in (by omega) (by omega)]; congr 1; omega
  · unfold cpS
    rw [upr_eq, cpy_in (by omega) (by omega)]; congr 1; omega
theorem cpS_out {u : Nat → Nat → Int} {S S' q : Nat} (h : q < S ∨ S + 2 < q) : cpS u S S' q = u q := by
  unfold cpS
  rw [upr_rf (by omega), upr_rf (by omega), upm_rf (by omega), upm_rf (by omega), upm_rf (by omega), upm_rf (by omega), upm_rf (by omega), upm_rf (by omega)]
theorem C_copyAir_loop {n : Nat} (hR : isRad R) (hQ : isRad Q) (hd : R + 126 < Q ∨ Q + 126 < R) (hn : n ≤ 30) (hA : okA (a R)) (hB : okA (a Q)) : ∀ (d i : Nat) (u : Nat → Nat → Int), i + d = n → u (R + 10) 1 = n →
    ∃ u', a_X 1 10 [a_r (R + 10), a_r (Q + 10), a_i (i : Int)] [] (K0 L, u, G a, t) = some (.inl none, (K0 L, u', G a, t)) ∧ (∀ q, (q < R + 12 ∨ R + 102 ≤ q) → u' q = u q) ∧ (∀ p, p < i → u' (R + 12 + 3 * a R p) = u (R + 12 + 3 * a R p) ∧ u' (R + 12 + 3 * a R p + 1) = u (R + 12 + 3 * a R p + 1) ∧ u' (R + 12 + 3 * a R p + 2) = u (R + 12 + 3 * a R p + 2)) ∧ ∀ p, i ≤ p → p < n → sgE u' (R + 12 + 3 * a R p) u (Q + 12 + 3 * a Q p) := by
  intro d
  induction d with
  | zero =>
    intro i u hi hs
    refine ⟨u, ?_, fun _ _ => rfl, fun _ _ => ⟨rfl, rfl, rfl⟩, fun p h1 h2 => by omega⟩
    rw [B_X0_copyFrom_10]
    simp (disch := first | assumption | omega) only [kR0, kR9, kR10, kR11, kR102, gR0_0, gR0_1, gR0_2, gR0_3, gR10_0, gR11, gR102, B_X0_copyFrom_0, B_X0_copyFrom_33, Option.bind_some, back_v, Option.toList_some, Option.toList_none, List.cons_append, List.nil_append, Nat.reduceAdd, Int.reduceToNat, Int.reduceNeg, upm_eq, upm_r, upm_i, if_pos, if_neg, ite_self, true_or, or_true, true_and, and_true, false_or, or_false, false_and, and_false, wr_id, i10, i01, upr_f, upr_eq, thr58, upm_upr, upr_upr, lc_lt, lc_gt, lc_ge, lc_le, afit1, afit0, afitI, bifit, not_true_eq_false, not_false_eq_true, if_true, if_false, Bool.false_eq_true, reduceCtorEq, k1557, k1558, g1557_2, hs]
  | succ d ih =>
    intro i u hi hs
    have hi30 : i < 30 := by omega
    have hp := hA.1 i hi30
    have hq := hB.1 i hi30
    have hc := C_copySignal (L := L) (u := u) (a := a) (t := t) hR hQ hd hp hq
    obtain ⟨u', g1, g2, g3, g4⟩ := ih (i + 1) (cpS u (R + 12 + 3 * a R i) (Q + 12 + 3 * a Q i)) (by omega) (by rw [cpS_out (by omega)]; exact hs)
    have hidx : ((i + 1 : Nat) : Int) = (i : Int) + 1 := by omega
    refine ⟨u', ?_, fun q hq2 => ?_, fun p hpi => ?_, fun p h1 h2 => ?_⟩
    · rw [← g1, hidx]
      rw [B_X0_copyFrom_10]
      simp (disch := first | assumption | omega) only [kR0, kR9, kR10, kR11, kR102, gR0_0, gR0_1, gR0_2, gR0_3, gR10_0, gR11, gR102, kRs0, kRs1, kRs2, gRs_6, gRs_7, B_X0_copyFrom_0, B_X0_copyFrom_33, Option.bind_some, back_v, Option.toList_some, Option.toList_none, List.cons_append, List.nil_append, Nat.reduceAdd, Int.reduceToNat, Int.reduceNeg, upm_eq, upm_r, upm_i, if_pos, if_neg, ite_self, true_or, or_true, true_and, and_true, false_or, or_false, false_and, and_false, wr_id, i10, i01, upr_f, upr_eq, thr58, upm_upr, upr_upr, lc_lt, lc_gt, lc_ge, lc_le, afit1, afit0, afitI, bifit, not_true_eq_false, not_false_eq_true, if_true, if_false, Bool.false_eq_true, reduceCtorEq, k1557, k1558, g1557_2, hs, Int.toNat_natCast, hc]
    · rw [g2 q hq2, cpS_out (by omega)]
    · have hpp := hA.1 p (by omega)
      have hne : a R p ≠ a R i := fun h9 => by have := hA.2 p i (by omega) hi30 h9; omega
      obtain ⟨k1, k2, k3⟩ := g3 p (by omega)
      rw [k1, k2, k3]
      exact ⟨cpS_out (by omega), cpS_out (by omega), cpS_out (by omega)⟩
    · by_cases hpi : p = i
      · subst hpi
        obtain ⟨k1, k2, k3⟩ := g3 p (by omega)
        obtain ⟨e1, e2, e3⟩ := cpS_E (u := u) (S := R + 12 + 3 * a R p) (S' := Q + 12 + 3 * a Q p) (by omega)
        refine ⟨fun j hj => ?_, fun j hj => ?_, fun j hj => ?_⟩
        · rw [k1]; exact e1 j hj
        · rw [k2]; exact e2 j hj
        · rw [k3]; exact e3 j hj
      · have hqp := hB.1 p (by omega)
        obtain ⟨e1, e2, e3⟩ := g4 p (by omega) h2
        refine ⟨fun j hj => ?_, fun j hj => ?_, fun j hj => ?_⟩
        · rw [e1 j hj, cpS_out (by omega)]
        · rw [e2 j hj, cpS_out (by omega)]
        · rw [e3 j hj, cpS_out (by omega)]
/-- a listener as it was in the other radio -/
def liE (u' : Nat → Nat → Int) (B : Nat) (u : Nat → Nat → Int) (B' : Nat) : Prop := (∀ j, j < 2 ∨ (5 ≤ j ∧ j < 10) → u' B j = u B' j) ∧ (∀ j, j < 4 → u' (B + 1) j = u (B' + 1) j) ∧ (∀ j, j < 4 → u' (B + 2) j = u (B' + 2) j) ∧ ∀ j, j < 12 → u' (B + 3) j = u (B' + 3) j
theorem cpL_E {u : Nat → Nat → Int} {B B' : Nat} : liE (cpL u B B') B u B' := by
  refine ⟨fun j hj => ?_, fun j hj => ?_, fun j hj => ?_, fun j hj => ?_⟩
  · unfold cpL
    have : j = 0 ∨ j = 1 ∨ j = 5 ∨ j = 6 ∨ j = 7 ∨ j = 8 ∨ j = 9 := by omega
    rcases this with rfl | rfl | rfl | rfl | rfl | rfl | rfl <;> simp [upm, upr]
  · unfold cpL
    rw [upm_r (by omega), upm_r (by omega), upm_r (by omega), upm_r (by omega), upm_r (by omega), upr_r (by omega), upr_r (by omega), upr_eq, cpy_in (by omega) (by omega)]; congr 1; omega
  · unfold cpL
    rw [upm_r (by omega), upm_r (by omega), upm_r (by omega), upm_r (by omega), upm_r (by omega), upr_r (by omega), upr_eq, cpy_in (by omega) (by omega)]; congr 1; omega
  · unfold cpL
    rw [upm_r (by omega), upm_r (by omega), upm_r (by omega), upm_r (by omega), upm_r (by omega), upr_eq, cpy_in (by omega) (by omega)]; congr 1; omega
theorem cpL_out {u : Nat → Nat → Int} {B B' q : Nat} (h : q < B ∨ B + 3 < q) : cpL u B B' q = u q := by
  unfold cpL
  rw [upm_rf (by omega), upm_rf (by omega), upm_rf (by omega), upm_rf (by omega), upm_rf (by omega), upr_rf (by omega), upr_rf (by omega), upr_rf (by omega), upm_rf (by omega), upm_rf (by omega)]
theorem C_copyLis_loop {n : Nat} (hR : isRad R) (hQ : isRad Q) (hd : R + 126 < Q ∨ Q + 126 < R) (hn : n ≤ 6) : ∀ (d i : Nat) (u : Nat → Nat → Int), i + d = n → u R 4 = n →
    ∃ u', a_X 29 47 [a_r R, a_r Q, a_i (i : Int)] [] (K0 L, u, G a, t) = some (.inl none, (K0 L, u', G a, t)) ∧ (∀ q, q ≠ R → (q < R + 103 ∨ R + 127 ≤ q) → u' q = u q) ∧ (∀ j, j < 5 → u' R j = u R j) ∧ (∀ j, 5 ≤ j → j < 9 → u' R j = u Q j) ∧ (∀ l, l < i → ∀ x, x < 4 → u' (R + 103 + 4 * l + x) = u (R + 103 + 4 * l + x)) ∧ ∀ l, i ≤ l → l < n → liE u' (R + 103 + 4 * l) u (Q + 103 + 4 * l) := by
  intro d
  induction d with
  | zero =>
    intro i u hi hs
    refine ⟨upm (upm (upm (upm u R 5 (u Q 5)) R 6 (u Q 6)) R 7 (u Q 7)) R 8 (u Q 8), ?_, fun q h1 h2 => ?_, fun j hj => ?_, fun j h1 h2 => ?_, fun l hl x hx => ?_, fun l h1 h2 => by omega⟩
    · rw [B_X4_copyFrom_47]
      simp (disch := first | assumption | omega) only [kR0, kR9, kR10, kR11, kR102, gR0_0, gR0_1, gR0_2, gR0_3, gR10_0, gR11, gR102, B_X4_copyFrom_0, B_X4_copyFrom_11, B_X4_copyFrom_37, B_X4_copyFrom_70, Option.bind_some, back_v, Option.toList_some, Option.toList_none, List.cons_append, List.nil_append, Nat.reduceAdd, Int.reduceToNat, Int.reduceNeg, upm_eq, upm_r, upm_i, if_pos, if_neg, ite_self, true_or, or_true, true_and, and_true, false_or, or_false, false_and, and_false, wr_id, i10, i01, upr_f, upr_eq, thr58, upm_upr, upr_upr, lc_lt, lc_gt, lc_ge, lc_le, afit1, afit0, afitI, bifit, not_true_eq_false, not_false_eq_true, if_true, if_false, Bool.false_eq_true, reduceCtorEq, k1557, k1558, g1557_2, hs]
    · rw [upm_rf h1, upm_rf h1, upm_rf h1, upm_rf h1]
    · rw [upm_i (by omega), upm_i (by omega), upm_i (by omega), upm_i (by omega)]
    · have : j = 5 ∨ j = 6 ∨ j = 7 ∨ j = 8 := by omega
      rcases this with rfl | rfl | rfl | rfl <;> simp [upm]
    · rw [upm_rf (by omega), upm_rf (by omega), upm_rf (by omega), upm_rf (by omega)]
  | succ d ih =>
    intro i u hi hs
    have hi6 : i < 6 := by omega
    have hc := C_copyListener (L := L) (u := u) (a := a) (t := t) hR hQ hd hi6
    obtain ⟨u', g1, g2, g3, g4, g5, g6⟩ := ih (i + 1) (cpL u (R + 103 + 4 * i) (Q + 103 + 4 * i)) (by omega) (by rw [cpL_out (by omega)]; exact hs)
    have hidx : ((i + 1 : Nat) : Int) = (i : Int) + 1 := by omega
    refine ⟨u', ?_, fun q h1 h2 => ?_, fun j hj => ?_, fun j h1 h2 => ?_, fun l hl x hx => ?_, fun l h1 h2 => ?_⟩
    · rw [← g1, hidx]
      rw [B_X4_copyFrom_47]
      simp (disch := first | assumption | omega) only [kR0, kR9, kR10, kR11, kR102, gR0_0, gR0_1, gR0_2, gR0_3, gR10_0, gR11, gR102, kRl0, kRl1, kRl2, kRl3, gRl_2, gRl_3, gRl_4, B_X4_copyFrom_0, B_X4_copyFrom_11, B_X4_copyFrom_37, B_X4_copyFrom_70, Option.bind_some, back_v, Option.toList_some, Option.toList_none, List.cons_append, List.nil_append, Nat.reduceAdd, Int.reduceToNat, Int.reduceNeg, upm_eq, upm_r, upm_i, if_pos, if_neg, ite_self, true_or, or_true, true_and, and_true, false_or, or_false, false_and, and_false, wr_id, i10, i01, upr_f, upr_eq, thr58, upm_upr, upr_upr, lc_lt, lc_gt, lc_ge, lc_le, afit1, afit0, afitI, bifit, not_true_eq_false, not_false_eq_true, if_true, if_false, Bool.false_eq_true, reduceCtorEq, k1557, k1558, g1557_2, hs, Int.toNat_natCast, hc]
    · rw [g2 q h1 h2, cpL_out (by omega)]
    · rw [g3 j hj, cpL_out (by omega)]
    · rw [g4 j h1 h2, cpL_out (by omega)]
    · rw [g5 l (by omega) x hx, cpL_out (by omega)]
    · by_cases hli : l = i
      · subst hli
        obtain ⟨e1, e2, e3, e4⟩ := cpL_E (u := u) (B := R + 103 + 4 * l) (B' := Q + 103 + 4 * l)
        have k := g5 l (by omega)
        refine ⟨fun j hj => ?_, fun j hj => ?_, fun j hj => ?_, fun j hj => ?_⟩
        · have := k 0 (by decide); rw [Nat.add_zero] at this; rw [this]; exact e1 j hj
        · rw [k 1 (by decide)]; exact e2 j hj
        · rw [k 2 (by decide)]; exact e3 j hj
        · rw [k 3 (by decide)]; exact e4 j hj
      · obtain ⟨e1, e2, e3, e4⟩ := g6 l (by omega) h2
        refine ⟨fun j hj => ?_, fun j hj => ?_, fun j hj => ?_, fun j hj => ?_⟩
        · rw [e1 j hj, cpL_out (by omega)]
        · rw [e2 j hj, cpL_out (by omega)]
        · rw [e3 j hj, cpL_out (by omega)]
        · rw [e4 j hj, cpL_out (by omega)]
/-- what the copy has of the other one -/
def raE (u' : Nat → Nat → Int) (R : Nat) (b' : Nat → Nat) (u : Nat → Nat → Int) (Q : Nat) (b : Nat → Nat) (n2 n3 n4 : Nat) : Prop :=
  (∀ j, 4 ≤ j → j < 9 → u' R j = u Q j) ∧ u' (R + 1) 7 = u (Q + 1) 7 ∧ (∀ c, 2 ≤ c → c ≤ 5 → ∀ j, j < 12 + n2 → u' (R + c) j = u (Q + c) j) ∧ (∀ c, 6 ≤ c → c ≤ 8 → ∀ j, j < 1 + n2 → u' (R + c) j = u (Q + c) j) ∧ (∀ j, j < 12 → u' (R + 9) j = u (Q + 9) j) ∧ u' (R + 10) 1 = u (Q + 10) 1 ∧ (∀ p, p < n4 → sgE u' (R + 12 + 3 * b' p) u (Q + 12 + 3 * b p)) ∧ ∀ l, l < n3 → liE u' (R + 103 + 4 * l) u (Q + 103 + 4 * l)
theorem C_copyRadio {u : Nat → Nat → Int} {n2 n3 n4 : Nat} (hR : isRad R) (hQ : isRad Q) (hne : R ≠ Q) (h2 : n2 ≤ 99) (h3 : n3 ≤ 6) (h4 : n4 ≤ 30) (e2 : u (Q + 1) 7 = n2) (e3 : u Q 4 = n3) (e4 : u (Q + 10) 1 = n4) (hA : okA (a R)) (hB : okA (a Q)) :
    ∃ u', a_m 29 [a_r R, a_r Q] (K0 L, u, G a, t) = some (.inl none, (K0 L, u', G a, t)) ∧ outR R u u' ∧ raE u' R (a R) u Q (a Q) n2 n3 n4 := by
  have hd : R + 126 < Q ∨ Q + 126 < R := by
    rcases isRad_two hR hQ with h | h | h
    · exact absurd h hne
    · exact .inl h
    · exact .inr h
  have hT := C_copyTold (L := L) (u := u) (a := a) (t := t) hR hQ hd h2 e2
  generalize hu1 : cpT u R Q n2 = u1 at hT
  have k1 : ∀ q, (q < R + 1 ∨ R + 9 ≤ q) → u1 q = u q := fun q hq => by
    rw [← hu1]; unfold cpT
    rw [upr_rf (by omega), upr_rf (by omega), upr_rf (by omega), upr_rf (by omega), upr_rf (by omega), upr_rf (by omega), upr_rf (by omega), upm_rf (by omega)]
  generalize hu2 : upm (upr u1 (R + 9) (a_cpy (u1 (Q + 9)) (u1 (R + 9)) 0 0 12)) (R + 10) 1 (u1 (Q + 10) 1) = u2
  have k2 : ∀ q, (q < R + 1 ∨ R + 11 ≤ q) → u2 q = u q := fun q hq => by
    rw [← hu2, upm_rf (by omega), upr_rf (by omega), k1 q (by omega)]
  obtain ⟨u3, g1, g2, g3, g4⟩ := C_copyAir_loop (L := L) (a := a) (t := t) (n := n4) hR hQ hd h4 hA hB n4 0 u2 (by omega) (by rw [← hu2, upm_eq, k1 _ (by omega)]; exact e4)
  obtain ⟨u4, j1, j2, j3, j4, j5, j6⟩ := C_copyLis_loop (L := L) (a := a) (t := t) (n := n3) hR hQ hd h3 n3 0 (upm u3 R 4 n3) (by omega) (by rw [upm_eq])
  have k3 : ∀ q, (q < R + 1 ∨ R + 102 ≤ q) → u3 q = u q := fun q hq => by rw [g2 q (by omega), k2 q (by omega)]
  have hair : a_m 1 [a_r (R + 10), a_r (Q + 10)] (K0 L, upr u1 (R + 9) (a_cpy (u1 (Q + 9)) (u1 (R + 9)) 0 0 12), G a, t) = some (.inl none, (K0 L, u3, G a, t)) := by
    rw [← g1, ← hu2]
    simp (disch := first | assumption | omega) only [kR0, kR9, kR10, kR11, kR102, gR0_0, gR0_1, gR0_2, gR0_3, gR10_0, gR11, gR102, E_X0_copyFrom, B_X0_copyFrom_0, B_X0_copyFrom_33, Option.bind_some, back_v, Option.toList_some, Option.toList_none, List.cons_append, List.nil_append, Nat.reduceAdd, Int.reduceToNat, Int.reduceNeg, upm_eq, upm_r, upm_i, if_pos, if_neg, ite_self, true_or, or_true, true_and, and_true, false_or, or_false, false_and, and_false, wr_id, i10, i01, upr_f, upr_eq, thr58, upm_upr, upr_upr, lc_lt, lc_gt, lc_ge, lc_le, afit1, afit0, afitI, bifit, not_true_eq_false, not_false_eq_true, if_true, if_false, Bool.false_eq_true, reduceCtorEq, k1557, k1558, g1557_2, upr_rf]
    rfl
  have e30 : u3 Q 4 = n3 := by rw [k3 Q (by omega)]; exact e3
  refine ⟨u4, ?_, fun q hq => ?_, fun j h5 h9 => ?_, ?_, fun c c2 c5 j hj => ?_, fun c c6 c8 j hj => ?_, fun j hj => ?_, ?_, fun p hp => ?_, fun l hl => ?_⟩
  · rw [← j1]
    simp (disch := first | assumption | omega) only [kR0, kR9, kR10, kR11, kR102, gR0_0, gR0_1, gR0_2, gR0_3, gR10_0, gR11, gR102, kR1, kR2, kR3, kR4, kR5, kR6, kR7, kR8, gR1_0, gR1_1, gR1_2, gR1_3, gR1_4, gR1_5, gR1_6, E_X4_copyFrom, B_X4_copyFrom_0, B_X4_copyFrom_11, B_X4_copyFrom_37, B_X4_copyFrom_70, Option.bind_some, back_v, Option.toList_some, Option.toList_none, List.cons_append, List.nil_append, Nat.reduceAdd, Int.reduceToNat, Int.reduceNeg, upm_eq, upm_r, upm_i, if_pos, if_neg, ite_self, true_or, or_true, true_and, and_true, false_or, or_false, false_and, and_false, wr_id, i10, i01, upr_f, upr_eq, thr58, upm_upr, upr_upr, lc_lt, lc_gt, lc_ge, lc_le, afit1, afit0, afitI, bifit, not_true_eq_false, not_false_eq_true, if_true, if_false, Bool.false_eq_true, reduceCtorEq, k1557, k1558, g1557_2, hT, hair, upr_rf, e30]
    rfl
  · rw [j2 q (by omega) (by omega), upm_rf (by omega), k3 q (by omega)]
  · by_cases hj4 : j = 4
    · subst hj4; rw [j3 4 (by omega), upm_eq, e3]
    · rw [j4 j (by omega) h9, upm_r (by omega), k3 Q (by omega)]
  · rw [j2 _ (by omega) (by omega), upm_r (by omega), g2 _ (by omega), ← hu2, upm_r (by omega), upr_r (by omega), ← hu1]
    unfold cpT
    rw [upr_r (by omega), upr_r (by omega), upr_r (by omega), upr_r (by omega), upr_r (by omega), upr_r (by omega), upr_r (by omega), upm_eq]
  · rw [j2 _ (by omega) (by omega), upm_r (by omega), g2 _ (by omega), ← hu2, upm_r (by omega), upr_r (by omega), ← hu1]
    unfold cpT
    have : c = 2 ∨ c = 3 ∨ c = 4 ∨ c = 5 := by omega
    rcases this with rfl | rfl | rfl | rfl
    · rw [upr_r (by omega), upr_r (by omega), upr_r (by omega), upr_r (by omega), upr_r (by omega), upr_r (by omega), upr_eq, cpy_in (by omega) (by omega)]; congr 1; omega
    · rw [upr_r (by omega), upr_r (by omega), upr_r (by omega), upr_r (by omega), upr_r (by omega), upr_eq, cpy_in (by omega) (by omega)]; congr 1; omega
    · rw [upr_r (by omega), upr_r (by omega), upr_r (by omega), upr_r (by omega), upr_eq, cpy_in (by omega) (by omega)]; congr 1; omega
    · rw [upr_r (by omega), upr_r (by omega), upr_r (by omega), upr_eq, cpy_in (by omega) (by omega)]; congr 1; omega
  · rw [j2 _ (by omega) (by omega), upm_r (by omega), g2 _ (by omega), ← hu2, upm_r (by omega), upr_r (by omega), ← hu1]
    unfold cpT
    have : c = 6 ∨ c = 7 ∨ c = 8 := by omega
    rcases this with rfl | rfl | rfl
    · rw [upr_r (by omega), upr_r (by omega), upr_eq, cpy_in (by omega) (by omega)]; congr 1; omega
    · rw [upr_r (by omega), upr_eq, cpy_in (by omega) (by omega)]; congr 1; omega
    · rw [upr_eq, cpy_in (by omega) (by omega)]; congr 1; omega
  · rw [j2 _ (by omega) (by omega), upm_r (by omega), g2 _ (by omega), ← hu2, upm_r (by omega), upr_eq, cpy_in (by omega) (by omega), k1 _ (by omega)]; congr 1; omega
  · rw [j2 _ (by omega) (by omega), upm_r (by omega), g2 _ (by omega), ← hu2, upm_eq, k1 _ (by omega)]
  · have hp1 := hA.1 p (by omega)
    have hp2 := hB.1 p (by omega)
    obtain ⟨f1, f2, f3⟩ := g4 p (by omega) hp
    refine ⟨fun j hj => ?_, fun j hj => ?_, fun j hj => ?_⟩
    · rw [j2 _ (by omega) (by omega), upm_r (by omega), f1 j hj, k2 _ (by omega)]
    · rw [j2 _ (by omega) (by omega), upm_r (by omega), f2 j hj, k2 _ (by omega)]
    · rw [j2 _ (by omega) (by omega), upm_r (by omega), f3 j hj, k2 _ (by omega)]
  · obtain ⟨f1, f2, f3, f4⟩ := j6 l (by omega) hl
    refine ⟨fun j hj => ?_, fun j hj => ?_, fun j hj => ?_, fun j hj => ?_⟩
    · rw [f1 j hj, upm_r (by omega), k3 _ (by omega)]
    · rw [f2 j hj, upm_r (by omega), k3 _ (by omega)]
    · rw [f3 j hj, upm_r (by omega), k3 _ (by omega)]
    · rw [f4 j hj, upm_r (by omega), k3 _ (by omega)]
end CP
