/-! ===== a whole description, on both sides at once ===== -/
section PAR
variable {L R : Nat} {a : Nat → Nat → Nat} {t : Nat × Nat × Nat}
theorem M_wipe0 : ∀ (d : Nat) (x : Int) (w : Nat → Nat → Int) (y2 y3 : AV), 0 ≤ x → x + d = 3280 → ∃ w', a_X 190 2 [a_r 1557, a_i x, y2, y3] [] (K0 L, w, G a, t) = a_X 190 24 [a_r 1557, a_i (-1), y2, y3] [] (K0 L, w', G a, t) ∧ (∀ q, q ≠ 1558 → w' q = w q) ∧ (∀ j : Nat, (j : Int) < x → w' 1558 j = w 1558 j) ∧ (∀ j : Nat, x ≤ j → j < 3280 → w' 1558 j = 0) ∧ ∀ j : Nat, 3280 ≤ j → w' 1558 j = w 1558 j := by
  intro d
  induction d with
  | zero =>
    intro x w y2 y3 x0 hx
    refine ⟨w, ?_, fun _ _ => rfl, fun _ _ => rfl, fun j j0 j1 => by omega, fun _ _ => rfl⟩
    rw [B_X11_reads_2]
    simp (disch := first | assumption | omega) only [B_X11_reads_0, B_X11_reads_83, B_X11_reads_95, B_X11_reads_99, B_X11_reads_54, B_X11_reads_111, B_X11_reads_197, B_X11_reads_131, B_X11_reads_137, B_X11_reads_153, B_X11_reads_144, B_X11_reads_168, B_X11_reads_160, Option.bind_some, back_v, Option.toList_some, Option.toList_none, List.cons_append, List.nil_append, Nat.reduceAdd, Int.reduceToNat, Int.reduceNeg, upm_eq, upm_r, upm_i, if_pos, if_neg, ite_self, true_or, or_true, true_and, and_true, false_or, or_false, false_and, and_false, wr_id, i10, i01, upr_f, upr_eq, thr58, upm_upr, upr_upr, lc_lt, lc_gt, lc_ge, lc_le, afit1, afit0, afitI, bifit, not_true_eq_false, not_false_eq_true, if_true, if_false, Bool.false_eq_true, reduceCtorEq, k1557, k1558, g1557_2]
  | succ d ih =>
    intro x w y2 y3 x0 hx
    obtain ⟨w', e0, e1, e2, e3, e4⟩ := ih (x + 1) (upm w 1558 x.toNat 0) y2 y3 (by omega) (by omega)
    refine ⟨w', ?_, fun q hq => ?_, fun j hj => ?_, fun j j0 j1 => ?_, fun j j0 => ?_⟩
    · rw [← e0]
      rw [B_X11_reads_2]
      simp (disch := first | assumption | omega) only [B_X11_reads_0, B_X11_reads_83, B_X11_reads_95, B_X11_reads_99, B_X11_reads_54, B_X11_reads_111, B_X11_reads_197, B_X11_reads_131, B_X11_reads_137, B_X11_reads_153, B_X11_reads_144, B_X11_reads_168, B_X11_reads_160, Option.bind_some, back_v, Option.toList_some, Option.toList_none, List.cons_append, List.nil_append, Nat.reduceAdd, Int.reduceToNat, Int.reduceNeg, upm_eq, upm_r, upm_i, if_pos, if_neg, ite_self, true_or, or_true, true_and, and_true, false_or, or_false, false_and, and_false, wr_id, i10, i01, upr_f, upr_eq, thr58, upm_upr, upr_upr, lc_lt, lc_gt, lc_ge, lc_le, afit1, afit0, afitI, bifit, not_true_eq_false, not_false_eq_true, if_true, if_false, Bool.false_eq_true, reduceCtorEq, k1557, k1558, g1557_2]
    · rw [e1 q hq, upm_rf hq]
    · rw [e2 j (by omega), upm_i (by omega)]
    · by_cases hj : (j : Int) = x
      · rw [e2 j (by omega), show j = x.toNat from by omega, upm_eq]
      · exact e3 j (by omega) j1
    · rw [e4 j j0, upm_i (by omega)]
theorem M_wipe1 {l k : Int} (hl : -1 ≤ l ∧ l ≤ 5) (hk : 0 ≤ k ∧ k < 12) : ∀ (d : Nat) (z : Int) (w : Nat → Nat → Int), 0 ≤ z → z + d = 4 → ∃ w', a_X 190 40 [a_r 1557, a_i l, a_i k, a_i z] [] (K0 L, w, G a, t) = a_X 190 32 [a_r 1557, a_i l, a_i (k + 1), a_i 4] [] (K0 L, w', G a, t) ∧ (∀ q, q ≠ 1558 → w' q = w q) ∧ ∀ j : Nat, w' 1558 j = if 16 + 60 * (l + 1) + 5 * k + z ≤ j ∧ (j : Int) < 16 + 60 * (l + 1) + 5 * k + 4 then -1 else w 1558 j := by
  intro d
  have hsl := fun w => M_slotOf (u := w) (g := G a) (t := t) (k := K0 L) hl hk
  induction d with
  | zero =>
    intro z w z0 hz
    refine ⟨w, ?_, fun _ _ => rfl, fun j => by rw [if_neg (by omega)]⟩
    have z4 : z = 4 := by omega
    subst z4
    rw [B_X11_reads_40]
    simp (disch := first | assumption | omega) only [B_X11_reads_0, B_X11_reads_83, B_X11_reads_95, B_X11_reads_99, B_X11_reads_54, B_X11_reads_111, B_X11_reads_197, B_X11_reads_131, B_X11_reads_137, B_X11_reads_153, B_X11_reads_144, B_X11_reads_168, B_X11_reads_160, Option.bind_some, back_v, Option.toList_some, Option.toList_none, List.cons_append, List.nil_append, Nat.reduceAdd, Int.reduceToNat, Int.reduceNeg, upm_eq, upm_r, upm_i, if_pos, if_neg, ite_self, true_or, or_true, true_and, and_true, false_or, or_false, false_and, and_false, wr_id, i10, i01, upr_f, upr_eq, thr58, upm_upr, upr_upr, lc_lt, lc_gt, lc_ge, lc_le, afit1, afit0, afitI, bifit, not_true_eq_false, not_false_eq_true, if_true, if_false, Bool.false_eq_true, reduceCtorEq, k1557, k1558, g1557_2]
  | succ d ih =>
    intro z w z0 hz
    obtain ⟨w', e0, e1, e2⟩ := ih (z + 1) (upm w 1558 (16 + 60 * (l + 1) + 5 * k + z).toNat (-1)) (by omega) (by omega)
    refine ⟨w', ?_, fun q hq => by rw [e1 q hq, upm_rf hq], fun j => ?_⟩
    · rw [← e0]
      rw [B_X11_reads_40]
      simp (disch := first | assumption | omega) only [B_X11_reads_0, B_X11_reads_83, B_X11_reads_95, B_X11_reads_99, B_X11_reads_54, B_X11_reads_111, B_X11_reads_197, B_X11_reads_131, B_X11_reads_137, B_X11_reads_153, B_X11_reads_144, B_X11_reads_168, B_X11_reads_160, Option.bind_some, back_v, Option.toList_some, Option.toList_none, List.cons_append, List.nil_append, Nat.reduceAdd, Int.reduceToNat, Int.reduceNeg, upm_eq, upm_r, upm_i, if_pos, if_neg, ite_self, true_or, or_true, true_and, and_true, false_or, or_false, false_and, and_false, wr_id, i10, i01, upr_f, upr_eq, thr58, upm_upr, upr_upr, lc_lt, lc_gt, lc_ge, lc_le, afit1, afit0, afitI, bifit, not_true_eq_false, not_false_eq_true, if_true, if_false, Bool.false_eq_true, reduceCtorEq, k1557, k1558, g1557_2, hsl]
    · rw [e2 j]
      by_cases h1 : 16 + 60 * (l + 1) + 5 * k + (z + 1) ≤ j ∧ (j : Int) < 16 + 60 * (l + 1) + 5 * k + 4
      · rw [if_pos h1, if_pos (by omega)]
      · rw [if_neg h1]
        by_cases h2 : (j : Int) = 16 + 60 * (l + 1) + 5 * k + z
        · rw [if_pos (by omega), show j = (16 + 60 * (l + 1) + 5 * k + z).toNat from by omega, upm_eq]
        · rw [if_neg (by omega), upm_i (by omega)]
theorem M_wipe2 {l : Int} (hl : -1 ≤ l ∧ l ≤ 5) : ∀ (d : Nat) (k : Int) (w : Nat → Nat → Int) (y : AV), 0 ≤ k → k + d = 12 → ∃ w' y', a_X 190 32 [a_r 1557, a_i l, a_i k, y] [] (K0 L, w, G a, t) = a_X 190 24 [a_r 1557, a_i (l + 1), a_i 12, y'] [] (K0 L, w', G a, t) ∧ (∀ q, q ≠ 1558 → w' q = w q) ∧ (∀ i z, k ≤ i → i < 12 → 0 ≤ z → z < 4 → w' 1558 (16 + 60 * (l + 1) + 5 * i + z).toNat = -1) ∧ ∀ j : Nat, (∀ i z, k ≤ i → i < 12 → 0 ≤ z → z < 4 → (j : Int) ≠ 16 + 60 * (l + 1) + 5 * i + z) → w' 1558 j = w 1558 j := by
  intro d
  induction d with
  | zero =>
    intro k w y k0 hk
    refine ⟨w, y, ?_, fun _ _ => rfl, fun i z i0 i1 _ _ => by omega, fun _ _ => rfl⟩
    have k12 : k = 12 := by omega
    subst k12
    rw [B_X11_reads_32]
    simp (disch := first | assumption | omega) only [B_X11_reads_0, B_X11_reads_83, B_X11_reads_95, B_X11_reads_99, B_X11_reads_54, B_X11_reads_111, B_X11_reads_197, B_X11_reads_131, B_X11_reads_137, B_X11_reads_153, B_X11_reads_144, B_X11_reads_168, B_X11_reads_160, Option.bind_some, back_v, Option.toList_some, Option.toList_none, List.cons_append, List.nil_append, Nat.reduceAdd, Int.reduceToNat, Int.reduceNeg, upm_eq, upm_r, upm_i, if_pos, if_neg, ite_self, true_or, or_true, true_and, and_true, false_or, or_false, false_and, and_false, wr_id, i10, i01, upr_f, upr_eq, thr58, upm_upr, upr_upr, lc_lt, lc_gt, lc_ge, lc_le, afit1, afit0, afitI, bifit, not_true_eq_false, not_false_eq_true, if_true, if_false, Bool.false_eq_true, reduceCtorEq, k1557, k1558, g1557_2]
  | succ d ih =>
    intro k w y k0 hk
    obtain ⟨w1, a0, a1, a2⟩ := M_wipe1 (L := L) (a := a) (t := t) (k := k) hl ⟨k0, by omega⟩ 4 0 w (by decide) (by decide)
    obtain ⟨w', y', e0, e1, e2, e3⟩ := ih (k + 1) w1 (a_i 4) (by omega) (by omega)
    refine ⟨w', y', ?_, fun q hq => by rw [e1 q hq, a1 q hq], fun i z i0 i1 z0 z1 => ?_, fun j hj => ?_⟩
    · rw [← e0, ← a0]
      rw [B_X11_reads_32]
      simp (disch := first | assumption | omega) only [B_X11_reads_0, B_X11_reads_83, B_X11_reads_95, B_X11_reads_99, B_X11_reads_54, B_X11_reads_111, B_X11_reads_197, B_X11_reads_131, B_X11_reads_137, B_X11_reads_153, B_X11_reads_144, B_X11_reads_168, B_X11_reads_160, Option.bind_some, back_v, Option.toList_some, Option.toList_none, List.cons_append, List.nil_append, Nat.reduceAdd, Int.reduceToNat, Int.reduceNeg, upm_eq, upm_r, upm_i, if_pos, if_neg, ite_self, true_or, or_true, true_and, and_true, false_or, or_false, false_and, and_false, wr_id, i10, i01, upr_f, upr_eq, thr58, upm_upr, upr_upr, lc_lt, lc_gt, lc_ge, lc_le, afit1, afit0, afitI, bifit, not_true_eq_false, not_false_eq_true, if_true, if_false, Bool.false_eq_true, reduceCtorEq, k1557, k1558, g1557_2]
    · by_cases h : i = k
      · rw [e3 _ (fun i' z' _ _ _ _ => by omega), a2, if_pos (by omega)]
      · exact e2 i z (by omega) i1 z0 z1
    · rw [e3 j (fun i z i0 i1 z0 z1 => hj i z (by omega) i1 z0 z1), a2, if_neg]
      intro h
      exact hj k (j - (16 + 60 * (l + 1) + 5 * k)) (Int.le_refl _) (by omega) (by omega) (by omega) (by omega)
theorem M_wipe3 : ∀ (d : Nat) (l : Int) (w : Nat → Nat → Int) (y y2 : AV), -1 ≤ l → l + d = 6 → ∃ w' y' y2', a_X 190 24 [a_r 1557, a_i l, y, y2] [] (K0 L, w, G a, t) = a_X 190 24 [a_r 1557, a_i 6, y', y2'] [] (K0 L, w', G a, t) ∧ (∀ q, q ≠ 1558 → w' q = w q) ∧ (∀ m i z, l ≤ m → m ≤ 5 → 0 ≤ i → i < 12 → 0 ≤ z → z < 4 → w' 1558 (16 + 60 * (m + 1) + 5 * i + z).toNat = -1) ∧ ∀ j : Nat, (∀ m i z, l ≤ m → m ≤ 5 → 0 ≤ i → i < 12 → 0 ≤ z → z < 4 → (j : Int) ≠ 16 + 60 * (m + 1) + 5 * i + z) → w' 1558 j = w 1558 j := by
  intro d
  induction d with
  | zero =>
    intro l w y y2 l0 hl
    have l6 : l = 6 := by omega
    subst l6
    exact ⟨w, y, y2, rfl, fun _ _ => rfl, fun m i z i0 i1 => by omega, fun _ _ => rfl⟩
  | succ d ih =>
    intro l w y y2 l0 hl
    obtain ⟨w1, y1, a0, a1, a2, a3⟩ := M_wipe2 (L := L) (a := a) (t := t) (l := l) ⟨l0, by omega⟩ 12 0 w y2 (by decide) (by decide)
    obtain ⟨w', y', y2', e0, e1, e2, e3⟩ := ih (l + 1) w1 (a_i 12) y1 (by omega) (by omega)
    refine ⟨w', y', y2', ?_, fun q hq => by rw [e1 q hq, a1 q hq], fun m i z m0 m1 i0 i1 z0 z1 => ?_, fun j hj => ?_⟩
    · rw [← e0, ← a0]
      rw [B_X11_reads_24]
      simp (disch := first | assumption | omega) only [B_X11_reads_0, B_X11_reads_83, B_X11_reads_95, B_X11_reads_99, B_X11_reads_54, B_X11_reads_111, B_X11_reads_197, B_X11_reads_131, B_X11_reads_137, B_X11_reads_153, B_X11_reads_144, B_X11_reads_168, B_X11_reads_160, Option.bind_some, back_v, Option.toList_some, Option.toList_none, List.cons_append, List.nil_append, Nat.reduceAdd, Int.reduceToNat, Int.reduceNeg, upm_eq, upm_r, upm_i, if_pos, if_neg, ite_self, true_or, or_true, true_and, and_true, false_or, or_false, false_and, and_false, wr_id, i10, i01, upr_f, upr_eq, thr58, upm_upr, upr_upr, lc_lt, lc_gt, lc_ge, lc_le, afit1, afit0, afitI, bifit, not_true_eq_false, not_false_eq_true, if_true, if_false, Bool.false_eq_true, reduceCtorEq, k1557, k1558, g1557_2]
    · by_cases h : m = l
      · rw [e3 _ (fun m' i' z' _ _ _ _ _ _ => by omega), h, a2 i z i0 i1 z0 z1]
      · exact e2 m i z (by omega) m1 i0 i1 z0 z1
    · rw [e3 j (fun m i z m0 m1 i0 i1 z0 z1 => hj m i z (by omega) m1 i0 i1 z0 z1), a3 j (fun i z i0 i1 z0 z1 => hj l i z (Int.le_refl _) (by omega) i0 i1 z0 z1)]
/-- the reference's row before its first line -/
theorem M_wipe {w : Nat → Nat → Int} (h0 : hi0 (w 1558)) : ∃ w' y y2, a_m 190 [a_r 1557] (K0 L, w, G a, t) = a_X 190 24 [a_r 1557, a_i 6, y, y2] [] (K0 L, w', G a, t) ∧ (∀ q, q ≠ 1558 → w' q = w q) ∧ (∀ j, j < 16 → w' 1558 j = 0) ∧ (∀ j, 436 ≤ j → w' 1558 j = 0) ∧ ∀ l k, -1 ≤ l → l ≤ 5 → 0 ≤ k → k < 12 → mOf (w' 1558) l k 4 = 0 ∧ ∀ z, 0 ≤ z → z < 4 → mOf (w' 1558) l k z = -1 := by
  obtain ⟨w1, a0, a1, _, a2, a3⟩ := M_wipe0 (L := L) (a := a) (t := t) 3280 0 w (a_x false) (a_x false) (by decide) (by decide)
  obtain ⟨w', y, y2, e0, e1, e2, e3⟩ := M_wipe3 (L := L) (a := a) (t := t) 7 (-1) w1 (a_x false) (a_x false) (by decide) (by decide)
  have hz : ∀ j, w1 1558 j = 0 := fun j => by
    by_cases hj : j < 3280
    · exact a2 j (by omega) hj
    · rw [a3 j (by omega)]; exact h0 j (by omega)
  refine ⟨w', y, y2, ?_, fun q hq => by rw [e1 q hq, a1 q hq], fun j hj => ?_, fun j hj => ?_, fun l k l0 l1 k0 k1 => ⟨?_, fun z z0 z1 => ?_⟩⟩
  · rw [← e0, ← a0]
    simp (disch := first | assumption | omega) only [E_X11_reads, B_X11_reads_0, B_X11_reads_83, B_X11_reads_95, B_X11_reads_99, B_X11_reads_54, B_X11_reads_111, B_X11_reads_197, B_X11_reads_131, B_X11_reads_137, B_X11_reads_153, B_X11_reads_144, B_X11_reads_168, B_X11_reads_160, Option.bind_some, back_v, Option.toList_some, Option.toList_none, List.cons_append, List.nil_append, Nat.reduceAdd, Int.reduceToNat, Int.reduceNeg, upm_eq, upm_r, upm_i, if_pos, if_neg, ite_self, true_or, or_true, true_and, and_true, false_or, or_false, false_and, and_false, wr_id, i10, i01, upr_f, upr_eq, thr58, upm_upr, upr_upr, lc_lt, lc_gt, lc_ge, lc_le, afit1, afit0, afitI, bifit, not_true_eq_false, not_false_eq_true, if_true, if_false, Bool.false_eq_true, reduceCtorEq, k1557, k1558, g1557_2]
  · rw [e3 j (fun m i z _ _ _ _ _ _ => by omega)]; exact hz j
  · rw [e3 j (fun m i z _ _ _ _ _ _ => by omega)]; exact hz j
  · rw [mOf, e3 _ (fun m i z _ _ _ _ _ _ => by omega)]; exact hz _
  · rw [mOf]; exact e2 l k z l0 l1 k0 k1 z0 z1
end PAR
