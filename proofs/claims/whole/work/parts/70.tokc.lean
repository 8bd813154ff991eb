/-! ===== tokens: the class ===== -/
section TKC
variable {L : Nat} {a : Nat → Nat → Nat} {t : Nat × Nat × Nat}
/-- the class's fields of the token -/
def cTk (u u' : Nat → Nat → Int) : Prop := (∀ q, q ≠ 19 → u' q = u q) ∧ ∀ j, j ≠ 5 → j ≠ 6 → j ≠ 7 → j ≠ 8 → u' 19 j = u 19 j
theorem cTk.refl {u : Nat → Nat → Int} : cTk u u := ⟨fun _ _ => rfl, fun _ _ _ _ _ => rfl⟩
theorem cTk.trans {u v w : Nat → Nat → Int} (h : cTk u v) (h2 : cTk v w) : cTk u w := ⟨fun q hq => (h2.1 q hq).trans (h.1 q hq), fun j a b c d => (h2.2 j a b c d).trans (h.2 j a b c d)⟩
theorem cTk_up {u : Nat → Nat → Int} {j : Nat} {x : Int} (hj : j = 5 ∨ j = 6 ∨ j = 7 ∨ j = 8) : cTk u (upm u 19 j x) := ⟨fun q hq => upm_rf hq, fun i a b c d => upm_i (by omega)⟩
/-- what stands behind the blanks: the place in the method after the start is set -/
theorem C_tok_blank {N : Int} {B : Nat → Int} : ∀ (d : Nat) (p : Int) (u : Nat → Nat → Int), u 19 4 = N → u 20 = B → byOK u N B → 0 ≤ p → p ≤ N → N - p ≤ d → u 19 5 = p →
    a_X 64 0 [a_r 19] [] (K0 L, u, G a, t) = (if rnF isBl B N d p < N then (a_m 65 [a_i (B (rnF isBl B N d p).toNat)] (K0 L, upm (upm (upm u 19 5 (rnF isBl B N d p)) 19 7 (rnF isBl B N d p)) 19 8 0, G a, t)).bind (a_back 64 79 3 [a_r 19] []) else some (.inl none, (K0 L, upm (upm (upm (upm u 19 5 (rnF isBl B N d p)) 19 7 (rnF isBl B N d p)) 19 8 0) 19 6 0, G a, t))) := by
  intro d
  induction d with
  | zero =>
    intro p u hN hB hb h0 h1 hd hp
    obtain ⟨b1, b2, b3⟩ := hb
    rw [rnF, if_neg (by omega)]
    have e : upm u 19 5 p = u := by rw [← hp]; exact upm_self_f
    rw [e]
    rw [B_X5_advance_0]
    simp (disch := first | assumption | omega) only [k19, k20, g19_0, B_X5_advance_82, B_X5_advance_30, B_X5_advance_162, B_X5_advance_108, B_X5_advance_188, Option.bind_some, back_v, Option.toList_some, Option.toList_none, List.cons_append, List.nil_append, Nat.reduceAdd, Int.reduceToNat, Int.reduceNeg, upm_eq, upm_r, upm_i, if_pos, if_neg, ite_self, true_or, or_true, true_and, and_true, false_or, or_false, false_and, and_false, wr_id, i10, i01, upr_f, upr_eq, thr58, upm_upr, upr_upr, lc_lt, lc_gt, lc_ge, lc_le, afit1, afit0, afitI, bifit, not_true_eq_false, not_false_eq_true, if_true, if_false, Bool.false_eq_true, reduceCtorEq, k1557, k1558, g1557_2, hp, hN, hB]
  | succ d ih =>
    intro p u hN hB hb h0 h1 hd hp
    have hb' := hb
    obtain ⟨b1, b2, b3⟩ := hb
    by_cases hc : p < N ∧ isBl (B p.toNat) = true
    · rw [rnF, if_pos hc]
      have h32 : B p.toNat = 32 := of_decide_eq_true hc.2
      have := ih (p + 1) (upm u 19 5 (p + 1)) (by rw [upm_i (by decide)]; exact hN) (by rw [upm_rf (by decide)]; exact hB) hb' (by omega) (by omega) (by omega) upm_eq
      rw [upm_upm] at this
      rw [← this]
      have hlt := hc.1
      rw [B_X5_advance_0]
      simp (disch := first | assumption | omega) only [k19, k20, g19_0, B_X5_advance_82, B_X5_advance_30, B_X5_advance_162, B_X5_advance_108, B_X5_advance_188, Option.bind_some, back_v, Option.toList_some, Option.toList_none, List.cons_append, List.nil_append, Nat.reduceAdd, Int.reduceToNat, Int.reduceNeg, upm_eq, upm_r, upm_i, if_pos, if_neg, ite_self, true_or, or_true, true_and, and_true, false_or, or_false, false_and, and_false, wr_id, i10, i01, upr_f, upr_eq, thr58, upm_upr, upr_upr, lc_lt, lc_gt, lc_ge, lc_le, afit1, afit0, afitI, bifit, not_true_eq_false, not_false_eq_true, if_true, if_false, Bool.false_eq_true, reduceCtorEq, k1557, k1558, g1557_2, hp, hN, hB, h32]
    · rw [rnF, if_neg hc]
      have e : upm u 19 5 p = u := by rw [← hp]; exact upm_self_f
      rw [e]
      by_cases h : p < N
      · have hne : B p.toNat ≠ 32 := by intro h9; exact hc ⟨h, by unfold isBl; simp [h9]⟩
        rw [if_pos h]
        rw [B_X5_advance_0]
        simp (disch := first | assumption | omega) only [k19, k20, g19_0, B_X5_advance_82, B_X5_advance_30, B_X5_advance_162, B_X5_advance_108, B_X5_advance_188, Option.bind_some, back_v, Option.toList_some, Option.toList_none, List.cons_append, List.nil_append, Nat.reduceAdd, Int.reduceToNat, Int.reduceNeg, upm_eq, upm_r, upm_i, if_pos, if_neg, ite_self, true_or, or_true, true_and, and_true, false_or, or_false, false_and, and_false, wr_id, i10, i01, upr_f, upr_eq, thr58, upm_upr, upr_upr, lc_lt, lc_gt, lc_ge, lc_le, afit1, afit0, afitI, bifit, not_true_eq_false, not_false_eq_true, if_true, if_false, Bool.false_eq_true, reduceCtorEq, k1557, k1558, g1557_2, hp, hN, hB, hne]
      · rw [if_neg h]
        rw [B_X5_advance_0]
        simp (disch := first | assumption | omega) only [k19, k20, g19_0, B_X5_advance_82, B_X5_advance_30, B_X5_advance_162, B_X5_advance_108, B_X5_advance_188, Option.bind_some, back_v, Option.toList_some, Option.toList_none, List.cons_append, List.nil_append, Nat.reduceAdd, Int.reduceToNat, Int.reduceNeg, upm_eq, upm_r, upm_i, if_pos, if_neg, ite_self, true_or, or_true, true_and, and_true, false_or, or_false, false_and, and_false, wr_id, i10, i01, upr_f, upr_eq, thr58, upm_upr, upr_upr, lc_lt, lc_gt, lc_ge, lc_le, afit1, afit0, afitI, bifit, not_true_eq_false, not_false_eq_true, if_true, if_false, Bool.false_eq_true, reduceCtorEq, k1557, k1558, g1557_2, hp, hN, hB]
theorem C_tok_word {N f : Int} {B : Nat → Int} (hf : 0 ≤ f) : ∀ (d : Nat) (p : Int) (u : Nat → Nat → Int), u 19 4 = N → u 20 = B → byOK u N B → f ≤ p → p ≤ N → N - p ≤ d → u 19 5 = p → u 19 7 = f →
    a_X 64 85 [a_r 19] [] (K0 L, u, G a, t) = some (.inl none, (K0 L, upm (upm u 19 5 (rnF isSm B N d p)) 19 6 (if rnF isSm B N d p - f ≤ 6 then 1 else 4), G a, t)) := by
  intro d
  induction d with
  | zero =>
    intro p u hN hB hb h0 h1 hd hp hff
    obtain ⟨b1, b2, b3⟩ := hb
    rw [rnF]
    have e : upm u 19 5 p = u := by rw [← hp]; exact upm_self_f
    rw [e]
    rw [B_X5_advance_85]
    by_cases h6 : p - f ≤ 6
    · simp (disch := first | assumption | omega) only [k19, k20, g19_0, B_X5_advance_82, B_X5_advance_30, B_X5_advance_162, B_X5_advance_108, B_X5_advance_188, Option.bind_some, back_v, Option.toList_some, Option.toList_none, List.cons_append, List.nil_append, Nat.reduceAdd, Int.reduceToNat, Int.reduceNeg, upm_eq, upm_r, upm_i, if_pos, if_neg, ite_self, true_or, or_true, true_and, and_true, false_or, or_false, false_and, and_false, wr_id, i10, i01, upr_f, upr_eq, thr58, upm_upr, upr_upr, lc_lt, lc_gt, lc_ge, lc_le, afit1, afit0, afitI, bifit, not_true_eq_false, not_false_eq_true, if_true, if_false, Bool.false_eq_true, reduceCtorEq, k1557, k1558, g1557_2, hp, hff, hN]
    · simp (disch := first | assumption | omega) only [k19, k20, g19_0, B_X5_advance_82, B_X5_advance_30, B_X5_advance_162, B_X5_advance_108, B_X5_advance_188, Option.bind_some, back_v, Option.toList_some, Option.toList_none, List.cons_append, List.nil_append, Nat.reduceAdd, Int.reduceToNat, Int.reduceNeg, upm_eq, upm_r, upm_i, if_pos, if_neg, ite_self, true_or, or_true, true_and, and_true, false_or, or_false, false_and, and_false, wr_id, i10, i01, upr_f, upr_eq, thr58, upm_upr, upr_upr, lc_lt, lc_gt, lc_ge, lc_le, afit1, afit0, afitI, bifit, not_true_eq_false, not_false_eq_true, if_true, if_false, Bool.false_eq_true, reduceCtorEq, k1557, k1558, g1557_2, hp, hff, hN]
  | succ d ih =>
    intro p u hN hB hb h0 h1 hd hp hff
    have hb' := hb
    obtain ⟨b1, b2, b3⟩ := hb
    by_cases hc : p < N ∧ isSm (B p.toNat) = true
    · rw [rnF, if_pos hc]
      have := ih (p + 1) (upm u 19 5 (p + 1)) (by rw [upm_i (by decide)]; exact hN) (by rw [upm_rf (by decide)]; exact hB) hb' (by omega) (by omega) (by omega) upm_eq (by rw [upm_i (by decide)]; exact hff)
      rw [upm_upm] at this
      rw [← this]
      have hc1 := hc.1
      have hc2 := hc.2
      rw [B_X5_advance_85]
      simp (disch := first | assumption | omega) only [k19, k20, g19_0, B_X5_advance_82, B_X5_advance_30, B_X5_advance_162, B_X5_advance_108, B_X5_advance_188, Option.bind_some, back_v, Option.toList_some, Option.toList_none, List.cons_append, List.nil_append, Nat.reduceAdd, Int.reduceToNat, Int.reduceNeg, upm_eq, upm_r, upm_i, if_pos, if_neg, ite_self, true_or, or_true, true_and, and_true, false_or, or_false, false_and, and_false, wr_id, i10, i01, upr_f, upr_eq, thr58, upm_upr, upr_upr, lc_lt, lc_gt, lc_ge, lc_le, afit1, afit0, afitI, bifit, not_true_eq_false, not_false_eq_true, if_true, if_false, Bool.false_eq_true, reduceCtorEq, k1557, k1558, g1557_2, hp, hN, hB, inB_cC, hc2, bi_t]
    · rw [rnF, if_neg hc]
      have e : upm u 19 5 p = u := by rw [← hp]; exact upm_self_f
      rw [e]
      by_cases h : p < N
      · have hne : isSm (B p.toNat) = false := by
          cases h9 : isSm (B p.toNat) with
          | false => rfl
          | true => exact absurd ⟨h, h9⟩ hc
        rw [B_X5_advance_85]
        by_cases h6 : p - f ≤ 6
        · simp (disch := first | assumption | omega) only [k19, k20, g19_0, B_X5_advance_82, B_X5_advance_30, B_X5_advance_162, B_X5_advance_108, B_X5_advance_188, Option.bind_some, back_v, Option.toList_some, Option.toList_none, List.cons_append, List.nil_append, Nat.reduceAdd, Int.reduceToNat, Int.reduceNeg, upm_eq, upm_r, upm_i, if_pos, if_neg, ite_self, true_or, or_true, true_and, and_true, false_or, or_false, false_and, and_false, wr_id, i10, i01, upr_f, upr_eq, thr58, upm_upr, upr_upr, lc_lt, lc_gt, lc_ge, lc_le, afit1, afit0, afitI, bifit, not_true_eq_false, not_false_eq_true, if_true, if_false, Bool.false_eq_true, reduceCtorEq, k1557, k1558, g1557_2, hp, hff, hN, hB, inB_cC, hne, bi_f]
        · simp (disch := first | assumption | omega) only [k19, k20, g19_0, B_X5_advance_82, B_X5_advance_30, B_X5_advance_162, B_X5_advance_108, B_X5_advance_188, Option.bind_some, back_v, Option.toList_some, Option.toList_none, List.cons_append, List.nil_append, Nat.reduceAdd, Int.reduceToNat, Int.reduceNeg, upm_eq, upm_r, upm_i, if_pos, if_neg, ite_self, true_or, or_true, true_and, and_true, false_or, or_false, false_and, and_false, wr_id, i10, i01, upr_f, upr_eq, thr58, upm_upr, upr_upr, lc_lt, lc_gt, lc_ge, lc_le, afit1, afit0, afitI, bifit, not_true_eq_false, not_false_eq_true, if_true, if_false, Bool.false_eq_true, reduceCtorEq, k1557, k1558, g1557_2, hp, hff, hN, hB, inB_cC, hne, bi_f]
      · rw [B_X5_advance_85]
        by_cases h6 : p - f ≤ 6
        · simp (disch := first | assumption | omega) only [k19, k20, g19_0, B_X5_advance_82, B_X5_advance_30, B_X5_advance_162, B_X5_advance_108, B_X5_advance_188, Option.bind_some, back_v, Option.toList_some, Option.toList_none, List.cons_append, List.nil_append, Nat.reduceAdd, Int.reduceToNat, Int.reduceNeg, upm_eq, upm_r, upm_i, if_pos, if_neg, ite_self, true_or, or_true, true_and, and_true, false_or, or_false, false_and, and_false, wr_id, i10, i01, upr_f, upr_eq, thr58, upm_upr, upr_upr, lc_lt, lc_gt, lc_ge, lc_le, afit1, afit0, afitI, bifit, not_true_eq_false, not_false_eq_true, if_true, if_false, Bool.false_eq_true, reduceCtorEq, k1557, k1558, g1557_2, hp, hff, hN]
        · simp (disch := first | assumption | omega) only [k19, k20, g19_0, B_X5_advance_82, B_X5_advance_30, B_X5_advance_162, B_X5_advance_108, B_X5_advance_188, Option.bind_some, back_v, Option.toList_some, Option.toList_none, List.cons_append, List.nil_append, Nat.reduceAdd, Int.reduceToNat, Int.reduceNeg, upm_eq, upm_r, upm_i, if_pos, if_neg, ite_self, true_or, or_true, true_and, and_true, false_or, or_false, false_and, and_false, wr_id, i10, i01, upr_f, upr_eq, thr58, upm_upr, upr_upr, lc_lt, lc_gt, lc_ge, lc_le, afit1, afit0, afitI, bifit, not_true_eq_false, not_false_eq_true, if_true, if_false, Bool.false_eq_true, reduceCtorEq, k1557, k1558, g1557_2, hp, hff, hN]
theorem C_tok_num {N f : Int} {B : Nat → Int} (hf : 0 ≤ f) : ∀ (d : Nat) (p : Int) (u : Nat → Nat → Int), u 19 4 = N → u 20 = B → byOK u N B → f ≤ p → p ≤ N → N - p ≤ d → u 19 5 = p → u 19 7 = f → (p - f ≤ 4 → 0 ≤ u 19 8 ∧ u 19 8 < 10 ^ (p - f).toNat) →
    ∃ z, a_X 64 165 [a_r 19] [] (K0 L, u, G a, t) = some (.inl none, (K0 L, upm (upm (upm u 19 8 z) 19 5 (rnF isDg B N d p)) 19 6 (if rnF isDg B N d p - f ≤ 4 then 2 else 4), G a, t)) ∧ (rnF isDg B N d p - f ≤ 4 → z = valF B (rnF isDg B N d p - p).toNat p (u 19 8)) := by
  intro d
  induction d with
  | zero =>
    intro p u hN hB hb h0 h1 hd hp hff hv
    obtain ⟨b1, b2, b3⟩ := hb
    rw [rnF]
    refine ⟨u 19 8, ?_, fun _ => by rw [Int.sub_self]; rfl⟩
    rw [upm_self_f]
    have e : upm u 19 5 p = u := by rw [← hp]; exact upm_self_f
    rw [e]
    rw [B_X5_advance_165]
    by_cases h6 : p - f ≤ 4
    · simp (disch := first | assumption | omega) only [k19, k20, g19_0, B_X5_advance_82, B_X5_advance_30, B_X5_advance_162, B_X5_advance_108, B_X5_advance_188, Option.bind_some, back_v, Option.toList_some, Option.toList_none, List.cons_append, List.nil_append, Nat.reduceAdd, Int.reduceToNat, Int.reduceNeg, upm_eq, upm_r, upm_i, if_pos, if_neg, ite_self, true_or, or_true, true_and, and_true, false_or, or_false, false_and, and_false, wr_id, i10, i01, upr_f, upr_eq, thr58, upm_upr, upr_upr, lc_lt, lc_gt, lc_ge, lc_le, afit1, afit0, afitI, bifit, not_true_eq_false, not_false_eq_true, if_true, if_false, Bool.false_eq_true, reduceCtorEq, k1557, k1558, g1557_2, hp, hff, hN]
    · simp (disch := first | assumption | omega) only [k19, k20, g19_0, B_X5_advance_82, B_X5_advance_30, B_X5_advance_162, B_X5_advance_108, B_X5_advance_188, Option.bind_some, back_v, Option.toList_some, Option.toList_none, List.cons_append, List.nil_append, Nat.reduceAdd, Int.reduceToNat, Int.reduceNeg, upm_eq, upm_r, upm_i, if_pos, if_neg, ite_self, true_or, or_true, true_and, and_true, false_or, or_false, false_and, and_false, wr_id, i10, i01, upr_f, upr_eq, thr58, upm_upr, upr_upr, lc_lt, lc_gt, lc_ge, lc_le, afit1, afit0, afitI, bifit, not_true_eq_false, not_false_eq_true, if_true, if_false, Bool.false_eq_true, reduceCtorEq, k1557, k1558, g1557_2, hp, hff, hN]
  | succ d ih =>
    intro p u hN hB hb h0 h1 hd hp hff hv
    have hb' := hb
    obtain ⟨b1, b2, b3⟩ := hb
    by_cases hc : p < N ∧ isDg (B p.toNat) = true
    · rw [rnF, if_pos hc]
      have hdg := inB_iff.mp hc.2
      have hc1 := hc.1
      have hc2 := hc.2
      have e : ∀ z w y, upm (upm (upm (upm u 19 8 w) 19 5 (p + 1)) 19 8 z) 19 5 y = upm (upm u 19 8 z) 19 5 y := by
        intro z w y; funext q j; unfold upm
        by_cases h1 : q = 19 ∧ j = 5
        · simp [h1]
        · by_cases h2 : q = 19 ∧ j = 8 <;> simp [h1, h2]
      have hX : ∀ w, wr (wr (wr (u 19 8 * 10) + B p.toNat) - 48) = w → a_X 64 165 [a_r 19] [] (K0 L, u, G a, t) = a_X 64 165 [a_r 19] [] (K0 L, upm (upm u 19 8 w) 19 5 (p + 1), G a, t) := by
        intro w hw
        have hw2 : wr (p + 1) = p + 1 := wr_id (by omega) (by omega)
        rw [B_X5_advance_165]
        simp (disch := first | assumption | omega) only [B_X5_advance_188, Option.bind_some, back_v, Option.toList_some, List.cons_append, List.nil_append, Nat.reduceAdd, upm_eq, upm_r, upm_i, if_pos, if_neg, true_or, true_and, bi0, k19, k20, g19_0, hp, hN, hB, inB_dC, hc2, bi_t, i10, if_false, if_true, and_true, hw, hw2]
      by_cases h4 : p - f < 4
      · have hv1 := hv (by omega)
        have hpow : (10 : Int) ^ (p - f).toNat ≤ 1000 := by
          have : (p - f).toNat = 0 ∨ (p - f).toNat = 1 ∨ (p - f).toNat = 2 ∨ (p - f).toNat = 3 := by omega
          rcases this with h | h | h | h <;> rw [h] <;> decide
        obtain ⟨z, g1, g2⟩ := ih (p + 1) (upm (upm u 19 8 (10 * u 19 8 + B p.toNat - 48)) 19 5 (p + 1)) (by rw [upm_i (by decide), upm_i (by decide)]; exact hN) (by rw [upm_rf (by decide), upm_rf (by decide)]; exact hB) hb' (by omega) (by omega) (by omega) upm_eq (by rw [upm_i (by decide), upm_i (by decide)]; exact hff) (fun h5 => by
          rw [upm_i (by decide), upm_eq, show (p + 1 - f).toNat = (p - f).toNat + 1 from by omega, Int.pow_succ]; omega)
        refine ⟨z, ?_, fun h5 => ?_⟩
        · rw [e] at g1
          rw [← g1]
          exact hX _ (by rw [wr_id (z := u 19 8 * 10) (by omega) (by omega), wr_id (z := u 19 8 * 10 + B p.toNat) (by omega) (by omega), wr_id (by omega) (by omega)]; omega)
        · rw [g2 h5, upm_i (by decide), upm_eq]
          have hr := (rn_rng (P := isDg) (B := B) (N := N) d (p + 1) (by omega)).1
          rw [show (rnF isDg B N d (p + 1) - p).toNat = (rnF isDg B N d (p + 1) - (p + 1)).toNat + 1 from by omega]
          rfl
      · obtain ⟨z, g1, g2⟩ := ih (p + 1) (upm (upm u 19 8 (wr (wr (wr (u 19 8 * 10) + B p.toNat) - 48))) 19 5 (p + 1)) (by rw [upm_i (by decide), upm_i (by decide)]; exact hN) (by rw [upm_rf (by decide), upm_rf (by decide)]; exact hB) hb' (by omega) (by omega) (by omega) upm_eq (by rw [upm_i (by decide), upm_i (by decide)]; exact hff) (fun h5 => by omega)
        have hr := (rn_rng (P := isDg) (B := B) (N := N) d (p + 1) (by omega)).1
        refine ⟨z, ?_, fun h5 => by omega⟩
        rw [e] at g1
        rw [← g1]
        exact hX _ rfl
    · rw [rnF, if_neg hc]
      refine ⟨u 19 8, ?_, fun _ => by rw [Int.sub_self]; rfl⟩
      rw [upm_self_f]
      have e : upm u 19 5 p = u := by rw [← hp]; exact upm_self_f
      rw [e]
      by_cases h : p < N
      · have hne : isDg (B p.toNat) = false := by
          cases h9 : isDg (B p.toNat) with
          | false => rfl
          | true => exact absurd ⟨h, h9⟩ hc
        rw [B_X5_advance_165]
        by_cases h6 : p - f ≤ 4
        · simp (disch := first | assumption | omega) only [k19, k20, g19_0, B_X5_advance_82, B_X5_advance_30, B_X5_advance_162, B_X5_advance_108, B_X5_advance_188, Option.bind_some, back_v, Option.toList_some, Option.toList_none, List.cons_append, List.nil_append, Nat.reduceAdd, Int.reduceToNat, Int.reduceNeg, upm_eq, upm_r, upm_i, if_pos, if_neg, ite_self, true_or, or_true, true_and, and_true, false_or, or_false, false_and, and_false, wr_id, i10, i01, upr_f, upr_eq, thr58, upm_upr, upr_upr, lc_lt, lc_gt, lc_ge, lc_le, afit1, afit0, afitI, bifit, not_true_eq_false, not_false_eq_true, if_true, if_false, Bool.false_eq_true, reduceCtorEq, k1557, k1558, g1557_2, hp, hff, hN, hB, inB_dC, hne, bi_f]
        · simp (disch := first | assumption | omega) only [k19, k20, g19_0, B_X5_advance_82, B_X5_advance_30, B_X5_advance_162, B_X5_advance_108, B_X5_advance_188, Option.bind_some, back_v, Option.toList_some, Option.toList_none, List.cons_append, List.nil_append, Nat.reduceAdd, Int.reduceToNat, Int.reduceNeg, upm_eq, upm_r, upm_i, if_pos, if_neg, ite_self, true_or, or_true, true_and, and_true, false_or, or_false, false_and, and_false, wr_id, i10, i01, upr_f, upr_eq, thr58, upm_upr, upr_upr, lc_lt, lc_gt, lc_ge, lc_le, afit1, afit0, afitI, bifit, not_true_eq_false, not_false_eq_true, if_true, if_false, Bool.false_eq_true, reduceCtorEq, k1557, k1558, g1557_2, hp, hff, hN, hB, inB_dC, hne, bi_f]
      · rw [B_X5_advance_165]
        by_cases h6 : p - f ≤ 4
        · simp (disch := first | assumption | omega) only [k19, k20, g19_0, B_X5_advance_82, B_X5_advance_30, B_X5_advance_162, B_X5_advance_108, B_X5_advance_188, Option.bind_some, back_v, Option.toList_some, Option.toList_none, List.cons_append, List.nil_append, Nat.reduceAdd, Int.reduceToNat, Int.reduceNeg, upm_eq, upm_r, upm_i, if_pos, if_neg, ite_self, true_or, or_true, true_and, and_true, false_or, or_false, false_and, and_false, wr_id, i10, i01, upr_f, upr_eq, thr58, upm_upr, upr_upr, lc_lt, lc_gt, lc_ge, lc_le, afit1, afit0, afitI, bifit, not_true_eq_false, not_false_eq_true, if_true, if_false, Bool.false_eq_true, reduceCtorEq, k1557, k1558, g1557_2, hp, hff, hN]
        · simp (disch := first | assumption | omega) only [k19, k20, g19_0, B_X5_advance_82, B_X5_advance_30, B_X5_advance_162, B_X5_advance_108, B_X5_advance_188, Option.bind_some, back_v, Option.toList_some, Option.toList_none, List.cons_append, List.nil_append, Nat.reduceAdd, Int.reduceToNat, Int.reduceNeg, upm_eq, upm_r, upm_i, if_pos, if_neg, ite_self, true_or, or_true, true_and, and_true, false_or, or_false, false_and, and_false, wr_id, i10, i01, upr_f, upr_eq, thr58, upm_upr, upr_upr, lc_lt, lc_gt, lc_ge, lc_le, afit1, afit0, afitI, bifit, not_true_eq_false, not_false_eq_true, if_true, if_false, Bool.false_eq_true, reduceCtorEq, k1557, k1558, g1557_2, hp, hff, hN]
theorem C_advance {u : Nat → Nat → Int} {N p : Int} {B : Nat → Int} (hN : u 19 4 = N) (hB : u 20 = B) (hb : byOK u N B) (h0 : 0 ≤ p) (h1 : p ≤ N) (hp : u 19 5 = p) :
    ∃ u', a_m 64 [a_r 19] (K0 L, u, G a, t) = some (.inl none, (K0 L, u', G a, t)) ∧ cTk u u' ∧ u' 19 7 = tokF B N p ∧ u' 19 5 = tokE B N (tokF B N p) ∧ u' 19 6 = tokS B N (tokF B N p) ∧ (tokS B N (tokF B N p) = 2 → u' 19 8 = tokV B N (tokF B N p)) := by
  have hE : a_m 64 [a_r 19] (K0 L, u, G a, t) = a_X 64 0 [a_r 19] [] (K0 L, u, G a, t) := E_X5_advance
  have hbl := C_tok_blank (L := L) (a := a) (t := t) (N - p).toNat p u hN hB hb h0 h1 (by omega) hp
  have hfr := tokF_rng (B := B) h1
  have e1 : rnF isBl B N (N - p).toNat p = tokF B N p := rfl
  rw [e1] at hbl
  rw [hE, hbl]
  generalize hf : tokF B N p = f at *
  generalize hw : upm (upm (upm u 19 5 f) 19 7 f) 19 8 0 = w
  have w5 : w 19 5 = f := by rw [← hw, upm_i (by decide), upm_i (by decide), upm_eq]
  have w7 : w 19 7 = f := by rw [← hw, upm_i (by decide), upm_eq]
  have w8 : w 19 8 = 0 := by rw [← hw, upm_eq]
  have w4 : w 19 4 = N := by rw [← hw, upm_i (by decide), upm_i (by decide), upm_i (by decide)]; exact hN
  have wB : w 20 = B := by rw [← hw, upm_rf (by decide), upm_rf (by decide), upm_rf (by decide)]; exact hB
  have wk : cTk u w := by rw [← hw]; exact ((cTk_up (.inl rfl)).trans (cTk_up (.inr (.inr (.inl rfl))))).trans (cTk_up (.inr (.inr (.inr rfl))))
  have hb' := hb
  obtain ⟨b1, b2, b3⟩ := hb
  by_cases hNf : N ≤ f
  · rw [if_neg (by omega)]
    refine ⟨upm w 19 6 0, rfl, wk.trans (cTk_up (.inr (.inl rfl))), ?_, ?_, ?_, ?_⟩
    · rw [upm_i (by decide)]; exact w7
    · rw [upm_i (by decide), w5, tokE, if_pos hNf]
    · rw [upm_eq, tokS, if_pos hNf]
    · rw [tokS, if_pos hNf]; intro h; cases h
  · rw [if_pos (by omega)]
    have hBf := b3 f.toNat
    have hlt : f < N := by omega
    have hE' : tokE B N f = if isSm (B f.toNat) = true then rnF isSm B N (N - f).toNat f else if isDg (B f.toNat) = true then rnF isDg B N (N - f).toNat f else f + 1 := by unfold tokE; rw [if_neg hNf]
    have hS' : tokS B N f = if isSm (B f.toNat) = true then (if tokE B N f - f ≤ 6 then 1 else 4) else if isDg (B f.toNat) = true then (if tokE B N f - f ≤ 4 then 2 else 4) else if B f.toNat = 59 then 3 else 4 := by unfold tokS; rw [if_neg hNf]
    cases h2 : isSm (B f.toNat) with
    | true =>
      rw [h2, if_pos rfl] at hE' hS'
      have hwd := C_tok_word (L := L) (a := a) (t := t) (f := f) (by omega) (N - f).toNat f w w4 wB hb' (Int.le_refl _) hfr.2 (by omega) w5 w7
      rw [← hE', ← hS'] at hwd
      refine ⟨upm (upm w 19 5 (tokE B N f)) 19 6 (tokS B N f), ?_, (wk.trans (cTk_up (.inl rfl))).trans (cTk_up (.inr (.inl rfl))), ?_, ?_, ?_, ?_⟩
      · rw [← hwd]
        simp (disch := first | assumption | omega) only [B_X5_advance_82, B_X5_advance_30, B_X5_advance_162, B_X5_advance_108, B_X5_advance_188, Option.bind_some, back_v, Option.toList_some, Option.toList_none, List.cons_append, List.nil_append, Nat.reduceAdd, Int.reduceToNat, Int.reduceNeg, upm_eq, upm_r, upm_i, if_pos, if_neg, ite_self, true_or, or_true, true_and, and_true, false_or, or_false, false_and, and_false, wr_id, i10, i01, upr_f, upr_eq, thr58, upm_upr, upr_upr, lc_lt, lc_gt, lc_ge, lc_le, afit1, afit0, afitI, bifit, not_true_eq_false, not_false_eq_true, if_true, if_false, Bool.false_eq_true, reduceCtorEq, k1557, k1558, g1557_2, inB_cC, h2, bi_t]
      · rw [upm_i (by decide), upm_i (by decide)]; exact w7
      · rw [upm_i (by decide), upm_eq]
      · rw [upm_eq]
      · intro h9; rw [hS'] at h9; split at h9 <;> cases h9
    | false =>
      rw [h2, if_neg (by decide)] at hE' hS'
      cases h3 : isDg (B f.toNat) with
      | true =>
        rw [h3, if_pos rfl] at hE' hS'
        obtain ⟨z, g1, g2⟩ := C_tok_num (L := L) (a := a) (t := t) (f := f) (by omega) (N - f).toNat f w w4 wB hb' (Int.le_refl _) hfr.2 (by omega) w5 w7 (fun _ => by rw [w8, Int.sub_self]; decide)
        rw [← hE'] at g1 g2
        rw [← hS'] at g1
        refine ⟨upm (upm (upm w 19 8 z) 19 5 (tokE B N f)) 19 6 (tokS B N f), ?_, ((wk.trans (cTk_up (.inr (.inr (.inr rfl))))).trans (cTk_up (.inl rfl))).trans (cTk_up (.inr (.inl rfl))), ?_, ?_, ?_, ?_⟩
        · rw [← g1]
          simp (disch := first | assumption | omega) only [k19, k20, g19_0, B_X5_advance_82, B_X5_advance_30, B_X5_advance_162, B_X5_advance_108, B_X5_advance_188, Option.bind_some, back_v, Option.toList_some, Option.toList_none, List.cons_append, List.nil_append, Nat.reduceAdd, Int.reduceToNat, Int.reduceNeg, upm_eq, upm_r, upm_i, if_pos, if_neg, ite_self, true_or, or_true, true_and, and_true, false_or, or_false, false_and, and_false, wr_id, i10, i01, upr_f, upr_eq, thr58, upm_upr, upr_upr, lc_lt, lc_gt, lc_ge, lc_le, afit1, afit0, afitI, bifit, not_true_eq_false, not_false_eq_true, if_true, if_false, Bool.false_eq_true, reduceCtorEq, k1557, k1558, g1557_2, inB_cC, inB_dC, h2, h3, bi_t, bi_f, w5, wB]
        · rw [upm_i (by decide), upm_i (by decide), upm_i (by decide)]; exact w7
        · rw [upm_i (by decide), upm_eq]
        · rw [upm_eq]
        · intro h9
          rw [hS'] at h9
          have h10 : tokE B N f - f ≤ 4 := by
            refine Classical.byContradiction fun h11 => ?_
            rw [if_neg h11] at h9; cases h9
          rw [upm_i (by decide), upm_i (by decide), upm_eq, g2 h10, w8]; rfl
      | false =>
        rw [h3, if_neg (by decide)] at hE' hS'
        refine ⟨upm (upm w 19 6 (if B f.toNat = 59 then 3 else 4)) 19 5 (f + 1), ?_, (wk.trans (cTk_up (.inr (.inl rfl)))).trans (cTk_up (.inl rfl)), ?_, ?_, ?_, ?_⟩
        · by_cases h5 : B f.toNat = 59
          · have hsm : isSm 59 = false := rfl
            have hdg : isDg 59 = false := rfl
            simp (disch := first | assumption | omega) only [k19, k20, g19_0, B_X5_advance_82, B_X5_advance_30, B_X5_advance_162, B_X5_advance_108, B_X5_advance_188, Option.bind_some, back_v, Option.toList_some, Option.toList_none, List.cons_append, List.nil_append, Nat.reduceAdd, Int.reduceToNat, Int.reduceNeg, upm_eq, upm_r, upm_i, if_pos, if_neg, ite_self, true_or, or_true, true_and, and_true, false_or, or_false, false_and, and_false, wr_id, i10, i01, upr_f, upr_eq, thr58, upm_upr, upr_upr, lc_lt, lc_gt, lc_ge, lc_le, afit1, afit0, afitI, bifit, not_true_eq_false, not_false_eq_true, if_true, if_false, Bool.false_eq_true, reduceCtorEq, k1557, k1558, g1557_2, inB_cC, inB_dC, h5, hsm, hdg, bi_f, w5, wB]
          · simp (disch := first | assumption | omega) only [k19, k20, g19_0, B_X5_advance_82, B_X5_advance_30, B_X5_advance_162, B_X5_advance_108, B_X5_advance_188, Option.bind_some, back_v, Option.toList_some, Option.toList_none, List.cons_append, List.nil_append, Nat.reduceAdd, Int.reduceToNat, Int.reduceNeg, upm_eq, upm_r, upm_i, if_pos, if_neg, ite_self, true_or, or_true, true_and, and_true, false_or, or_false, false_and, and_false, wr_id, i10, i01, upr_f, upr_eq, thr58, upm_upr, upr_upr, lc_lt, lc_gt, lc_ge, lc_le, afit1, afit0, afitI, bifit, not_true_eq_false, not_false_eq_true, if_true, if_false, Bool.false_eq_true, reduceCtorEq, k1557, k1558, g1557_2, inB_cC, inB_dC, h2, h3, h5, bi_f, w5, wB]
        · rw [upm_i (by decide), upm_i (by decide)]; exact w7
        · rw [upm_eq, hE']
        · rw [upm_i (by decide), upm_eq, hS']
        · intro h9; rw [hS'] at h9; split at h9 <;> cases h9
end TKC
