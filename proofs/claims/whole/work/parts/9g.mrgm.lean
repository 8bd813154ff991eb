/-! ===== merged stops in the reference ===== -/
section MGM
variable {L : Nat} {a : Nat → Nat → Nat} {t : Nat × Nat × Nat}
theorem M_comesAhead {w : Nat → Nat → Int} {p b : Int} {i : Nat} (hi : i < 12) : a_m 229 [a_r 1557, a_i p, a_i b, a_i (i : Int)] (K0 L, w, G a, t) = some (.inl (some (a_i (bi (decide (b < w 1564 i ∨ (b = w 1564 i ∧ p < w 1563 i)))))), (K0 L, w, G a, t)) := by
  have i0 : (0 : Int) ≤ (i : Int) := by omega
  have i12 : (i : Int) < ((12 : Nat) : Int) := by omega
  have tn : (i : Int).toNat = i := by omega
  by_cases h1 : b < w 1564 i
  · rw [decide_eq_true (by omega), bi_t]
    simp (disch := first | assumption | omega) only [k1559, k1560, k1561, k1562, k1563, k1564, k1565, k1566, k1567, g1557_3, g1557_5, g1557_6, g1557_17, g1557_18, g1557_19, g1557_20, g1557_21, g1557_23, E_X11_comesAhead, B_X11_comesAhead_0, Option.bind_some, back_v, Option.toList_some, Option.toList_none, List.cons_append, List.nil_append, Nat.reduceAdd, Int.reduceToNat, Int.reduceNeg, upm_eq, upm_r, upm_i, if_pos, if_neg, ite_self, true_or, or_true, true_and, and_true, false_or, or_false, false_and, and_false, wr_id, i10, i01, upr_f, upr_eq, thr58, upm_upr, upr_upr, lc_lt, lc_gt, lc_ge, lc_le, afit1, afit0, afitI, bifit, not_true_eq_false, not_false_eq_true, if_true, if_false, Bool.false_eq_true, reduceCtorEq, k1557, k1558, g1557_2, tn, h1]
  · by_cases h2 : b ≠ w 1564 i
    · rw [decide_eq_false (by omega), bi_f]
      simp (disch := first | assumption | omega) only [k1559, k1560, k1561, k1562, k1563, k1564, k1565, k1566, k1567, g1557_3, g1557_5, g1557_6, g1557_17, g1557_18, g1557_19, g1557_20, g1557_21, g1557_23, E_X11_comesAhead, B_X11_comesAhead_0, Option.bind_some, back_v, Option.toList_some, Option.toList_none, List.cons_append, List.nil_append, Nat.reduceAdd, Int.reduceToNat, Int.reduceNeg, upm_eq, upm_r, upm_i, if_pos, if_neg, ite_self, true_or, or_true, true_and, and_true, false_or, or_false, false_and, and_false, wr_id, i10, i01, upr_f, upr_eq, thr58, upm_upr, upr_upr, lc_lt, lc_gt, lc_ge, lc_le, afit1, afit0, afitI, bifit, not_true_eq_false, not_false_eq_true, if_true, if_false, Bool.false_eq_true, reduceCtorEq, k1557, k1558, g1557_2, tn, h1, h2]
    · by_cases h3 : p ≥ w 1563 i
      · rw [decide_eq_false (by omega), bi_f]
        simp (disch := first | assumption | omega) only [k1559, k1560, k1561, k1562, k1563, k1564, k1565, k1566, k1567, g1557_3, g1557_5, g1557_6, g1557_17, g1557_18, g1557_19, g1557_20, g1557_21, g1557_23, E_X11_comesAhead, B_X11_comesAhead_0, Option.bind_some, back_v, Option.toList_some, Option.toList_none, List.cons_append, List.nil_append, Nat.reduceAdd, Int.reduceToNat, Int.reduceNeg, upm_eq, upm_r, upm_i, if_pos, if_neg, ite_self, true_or, or_true, true_and, and_true, false_or, or_false, false_and, and_false, wr_id, i10, i01, upr_f, upr_eq, thr58, upm_upr, upr_upr, lc_lt, lc_gt, lc_ge, lc_le, afit1, afit0, afitI, bifit, not_true_eq_false, not_false_eq_true, if_true, if_false, Bool.false_eq_true, reduceCtorEq, k1557, k1558, g1557_2, tn, h1, h2, h3]
      · rw [decide_eq_true (by omega), bi_t]
        simp (disch := first | assumption | omega) only [k1559, k1560, k1561, k1562, k1563, k1564, k1565, k1566, k1567, g1557_3, g1557_5, g1557_6, g1557_17, g1557_18, g1557_19, g1557_20, g1557_21, g1557_23, E_X11_comesAhead, B_X11_comesAhead_0, Option.bind_some, back_v, Option.toList_some, Option.toList_none, List.cons_append, List.nil_append, Nat.reduceAdd, Int.reduceToNat, Int.reduceNeg, upm_eq, upm_r, upm_i, if_pos, if_neg, ite_self, true_or, or_true, true_and, and_true, false_or, or_false, false_and, and_false, wr_id, i10, i01, upr_f, upr_eq, thr58, upm_upr, upr_upr, lc_lt, lc_gt, lc_ge, lc_le, afit1, afit0, afitI, bifit, not_true_eq_false, not_false_eq_true, if_true, if_false, Bool.false_eq_true, reduceCtorEq, k1557, k1558, g1557_2, tn, h1, h2, h3]
def mgF (w w' : Nat → Nat → Int) : Prop := (∀ q, q ≠ 1557 → (q < 1563 ∨ 1566 < q) → w' q = w q) ∧ ∀ j, j ≠ 22 → w' 1557 j = w 1557 j
theorem mgF.refl {w : Nat → Nat → Int} : mgF w w := ⟨fun _ _ _ => rfl, fun _ _ => rfl⟩
theorem mgF.trans {w w' w'' : Nat → Nat → Int} (h : mgF w w') (h2 : mgF w' w'') : mgF w w'' := ⟨fun q q1 q2 => (h2.1 q q1 q2).trans (h.1 q q1 q2), fun j hj => (h2.2 j hj).trans (h.2 j hj)⟩
theorem M_drops_loop {n i : Nat} (hn : n ≤ 12) : ∀ (d x : Nat) (w : Nat → Nat → Int), x + d + 1 = n → w 1557 22 = n →
    ∃ w', a_X 230 2 [a_r 1557, a_i (i : Int), a_i (x : Int)] [] (K0 L, w, G a, t) = some (.inl none, (K0 L, w', G a, t)) ∧ mgF w w' ∧ w' 1557 22 = (n : Int) - 1 ∧ ∀ j, (w' 1563 j = if x ≤ j ∧ j + 1 < n then w 1563 (j + 1) else w 1563 j) ∧ (w' 1564 j = if x ≤ j ∧ j + 1 < n then w 1564 (j + 1) else w 1564 j) ∧ (w' 1565 j = if x ≤ j ∧ j + 1 < n then w 1565 (j + 1) else w 1565 j) ∧ (w' 1566 j = if x ≤ j ∧ j + 1 < n then w 1566 (j + 1) else w 1566 j) := by
  intro d
  induction d with
  | zero =>
    intro x w hx h22
    have hge : (x : Int) + 1 ≥ (n : Int) := by omega
    refine ⟨upm w 1557 22 ((n : Int) - 1), ?_, ⟨fun q q1 _ => upm_rf q1, fun j hj => upm_i hj⟩, upm_eq, fun j => ?_⟩
    · rw [B_X11_drops_2]
      simp (disch := first | assumption | omega) only [k1559, k1560, k1561, k1562, k1563, k1564, k1565, k1566, k1567, g1557_3, g1557_5, g1557_6, g1557_17, g1557_18, g1557_19, g1557_20, g1557_21, g1557_23, B_X11_drops_0, Option.bind_some, back_v, Option.toList_some, Option.toList_none, List.cons_append, List.nil_append, Nat.reduceAdd, Int.reduceToNat, Int.reduceNeg, upm_eq, upm_r, upm_i, if_pos, if_neg, ite_self, true_or, or_true, true_and, and_true, false_or, or_false, false_and, and_false, wr_id, i10, i01, upr_f, upr_eq, thr58, upm_upr, upr_upr, lc_lt, lc_gt, lc_ge, lc_le, afit1, afit0, afitI, bifit, not_true_eq_false, not_false_eq_true, if_true, if_false, Bool.false_eq_true, reduceCtorEq, k1557, k1558, g1557_2, h22, hge]
    · rw [if_neg (by omega), if_neg (by omega), if_neg (by omega), if_neg (by omega), upm_rf (by decide), upm_rf (by decide), upm_rf (by decide), upm_rf (by decide)]
      exact ⟨rfl, rfl, rfl, rfl⟩
  | succ d ih =>
    intro x w hx h22
    have z1 : (x : Int) + 1 = ((x + 1 : Nat) : Int) := by omega
    have hge : ¬ ((x + 1 : Nat) : Int) ≥ (n : Int) := by omega
    have x0 : (0 : Int) ≤ (x : Int) := by omega
    have x12 : (x : Int) < ((12 : Nat) : Int) := by omega
    have y0 : (0 : Int) ≤ ((x + 1 : Nat) : Int) := by omega
    have y12 : ((x + 1 : Nat) : Int) < ((12 : Nat) : Int) := by omega
    have tn : (x : Int).toNat = x := by omega
    have tn1 : ((x + 1 : Nat) : Int).toNat = x + 1 := by omega
    obtain ⟨w', g0, g1, g2, g3⟩ := ih (x + 1) (upm (upm (upm (upm w 1563 x (w 1563 (x + 1))) 1564 x (w 1564 (x + 1))) 1565 x (w 1565 (x + 1))) 1566 x (w 1566 (x + 1))) (by omega) (by rw [upm_rf (by decide), upm_rf (by decide), upm_rf (by decide), upm_rf (by decide)]; exact h22)
    refine ⟨w', ?_, ⟨fun q q1 q2 => by rw [g1.1 q q1 q2, upm_rf (by omega), upm_rf (by omega), upm_rf (by omega), upm_rf (by omega)], fun j hj => by rw [g1.2 j hj, upm_rf (by decide), upm_rf (by decide), upm_rf (by decide), upm_rf (by decide)]⟩, g2, fun j => ?_⟩
    · rw [← g0]
      rw [B_X11_drops_2]
      simp (disch := first | assumption | omega) only [k1559, k1560, k1561, k1562, k1563, k1564, k1565, k1566, k1567, g1557_3, g1557_5, g1557_6, g1557_17, g1557_18, g1557_19, g1557_20, g1557_21, g1557_23, B_X11_drops_0, Option.bind_some, back_v, Option.toList_some, Option.toList_none, List.cons_append, List.nil_append, Nat.reduceAdd, Int.reduceToNat, Int.reduceNeg, upm_eq, upm_r, upm_i, if_pos, if_neg, ite_self, true_or, or_true, true_and, and_true, false_or, or_false, false_and, and_false, wr_id, i10, i01, upr_f, upr_eq, thr58, upm_upr, upr_upr, lc_lt, lc_gt, lc_ge, lc_le, afit1, afit0, afitI, bifit, not_true_eq_false, not_false_eq_true, if_true, if_false, Bool.false_eq_true, reduceCtorEq, k1557, k1558, g1557_2, z1, h22, hge, tn, tn1, upm_rf]
    · obtain ⟨k1, k2, k3, k4⟩ := g3 j
      rw [k1, k2, k3, k4]
      simp (disch := decide) only [upm_r]
      by_cases h1 : x + 1 ≤ j ∧ j + 1 < n
      · simp (disch := omega) only [if_pos, upm_i, and_self]
      · by_cases h2 : j = x
        · subst h2
          simp (disch := omega) only [if_pos, if_neg, upm_eq, and_self]
        · simp (disch := omega) only [if_neg, upm_i, and_self]
theorem M_drops {n i : Nat} {w : Nat → Nat → Int} (hn : n ≤ 12) (hi : i < n) (h22 : w 1557 22 = n) : ∃ w', a_m 230 [a_r 1557, a_i (i : Int)] (K0 L, w, G a, t) = some (.inl none, (K0 L, w', G a, t)) ∧ mgF w w' ∧ w' 1557 22 = ((n - 1 : Nat) : Int) ∧ ∀ j, j < n - 1 → w' 1563 j = drpF (w 1563) i j ∧ w' 1564 j = drpF (w 1564) i j ∧ w' 1565 j = drpF (w 1565) i j ∧ w' 1566 j = drpF (w 1566) i j := by
  obtain ⟨w', g0, g1, g2, g3⟩ := M_drops_loop (L := L) (a := a) (t := t) (i := i) hn (n - 1 - i) i w (by omega) h22
  refine ⟨w', ?_, g1, by rw [g2]; omega, fun j hj => ?_⟩
  · rw [← g0]
    simp (disch := first | assumption | omega) only [E_X11_drops, B_X11_drops_0, Option.bind_some, back_v, Option.toList_some, Option.toList_none, List.cons_append, List.nil_append, Nat.reduceAdd, Int.reduceToNat, Int.reduceNeg, upm_eq, upm_r, upm_i, if_pos, if_neg, ite_self, true_or, or_true, true_and, and_true, false_or, or_false, false_and, and_false, wr_id, i10, i01, upr_f, upr_eq, thr58, upm_upr, upr_upr, lc_lt, lc_gt, lc_ge, lc_le, afit1, afit0, afitI, bifit, not_true_eq_false, not_false_eq_true, if_true, if_false, Bool.false_eq_true, reduceCtorEq, k1557, k1558, g1557_2]
  · obtain ⟨k1, k2, k3, k4⟩ := g3 j
    rw [k1, k2, k3, k4]
    by_cases h1 : j < i
    · rw [drpF_lt h1, drpF_lt h1, drpF_lt h1, drpF_lt h1, if_neg (by omega), if_neg (by omega), if_neg (by omega), if_neg (by omega)]
      exact ⟨rfl, rfl, rfl, rfl⟩
    · rw [drpF_ge h1, drpF_ge h1, drpF_ge h1, drpF_ge h1, if_pos (by omega), if_pos (by omega), if_pos (by omega), if_pos (by omega)]
      exact ⟨rfl, rfl, rfl, rfl⟩
/-- what is being put takes up all that it meets -/
theorem M_puts_up {p f tt : Int} {M' : List (Int × Int × Int)} {v8 : AV} (hlen : M'.length ≤ 12) : ∀ (μ n y : Nat) (w : Nat → Nat → Int) (b e c : Int) (M1 M2 : List (Int × Int × Int)), 13 * n + y ≤ μ → y ≤ n → n ≤ 11 → w 1557 22 = n → cnn M2 n (w 1563) (w 1564) (w 1565) (w 1566) → lse M1 p b e c → M'.Perm (M1 ++ M2) → (∀ j, y ≤ j → j < n → w 1563 j = p → w 1565 j < b ∨ e < w 1564 j) →
    ∃ w' n' b' e' c' M1' M2', a_X 231 17 [a_r 1557, a_i p, a_i f, a_i tt, a_i b, a_i e, a_i c, a_i ((y : Int) - 1), v8] [] (K0 L, w, G a, t) = a_X 231 118 [a_r 1557, a_i p, a_i f, a_i tt, a_i b', a_i e', a_i c', a_i 0, v8] [] (K0 L, w', G a, t) ∧ mgF w w' ∧ n' ≤ n ∧ w' 1557 22 = (n' : Nat) ∧ cnn M2' n' (w' 1563) (w' 1564) (w' 1565) (w' 1566) ∧ lse M1' p b' e' c' ∧ M'.Perm (M1' ++ M2') ∧ (∀ j, j < n' → w' 1563 j = p → w' 1565 j < b' ∨ e' < w' 1564 j) := by
  intro μ
  induction μ with
  | zero =>
    intro n y w b e c M1 M2 hμ hy hn h22 hc hl hp ht
    have : y = 0 := by omega
    subst this
    refine ⟨w, n, b, e, c, M1, M2, ?_, mgF.refl, Nat.le_refl _, h22, hc, hl, hp, fun j hj => ht j (Nat.zero_le _) hj⟩
    have : ((0 : Nat) : Int) - 1 < 0 := by decide
    rw [B_X11_puts_17]
    simp (disch := first | assumption | omega) only [B_X11_puts_0, B_X11_puts_103, B_X11_puts_136, B_X11_puts_207, Option.bind_some, back_v, Option.toList_some, Option.toList_none, List.cons_append, List.nil_append, Nat.reduceAdd, Int.reduceToNat, Int.reduceNeg, upm_eq, upm_r, upm_i, if_pos, if_neg, ite_self, true_or, or_true, true_and, and_true, false_or, or_false, false_and, and_false, wr_id, i10, i01, upr_f, upr_eq, thr58, upm_upr, upr_upr, lc_lt, lc_gt, lc_ge, lc_le, afit1, afit0, afitI, bifit, not_true_eq_false, not_false_eq_true, if_true, if_false, Bool.false_eq_true, reduceCtorEq, k1557, k1558, g1557_2, this]
  | succ μ ih =>
    intro n y w b e c M1 M2 hμ hy hn h22 hc hl hp ht
    by_cases hy0 : y = 0
    · subst hy0
      refine ⟨w, n, b, e, c, M1, M2, ?_, mgF.refl, Nat.le_refl _, h22, hc, hl, hp, fun j hj => ht j (Nat.zero_le _) hj⟩
      have : ((0 : Nat) : Int) - 1 < 0 := by decide
      rw [B_X11_puts_17]
      simp (disch := first | assumption | omega) only [B_X11_puts_0, B_X11_puts_103, B_X11_puts_136, B_X11_puts_207, Option.bind_some, back_v, Option.toList_some, Option.toList_none, List.cons_append, List.nil_append, Nat.reduceAdd, Int.reduceToNat, Int.reduceNeg, upm_eq, upm_r, upm_i, if_pos, if_neg, ite_self, true_or, or_true, true_and, and_true, false_or, or_false, false_and, and_false, wr_id, i10, i01, upr_f, upr_eq, thr58, upm_upr, upr_upr, lc_lt, lc_gt, lc_ge, lc_le, afit1, afit0, afitI, bifit, not_true_eq_false, not_false_eq_true, if_true, if_false, Bool.false_eq_true, reduceCtorEq, k1557, k1558, g1557_2, this]
    · obtain ⟨x, rfl⟩ : ∃ x, y = x + 1 := ⟨y - 1, by omega⟩
      have ex : ((x + 1 : Nat) : Int) - 1 = (x : Int) := by omega
      have x0 : (0 : Int) ≤ (x : Int) := by omega
      have x0' : ¬ (x : Int) < 0 := by omega
      have x12 : (x : Int) < ((12 : Nat) : Int) := by omega
      have tn : (x : Int).toNat = x := by omega
      have z1 : (x : Int) + (-1) = (x : Int) - 1 := by omega
      rw [ex]
      have hxn : x < n := by omega
      by_cases h1 : w 1563 x = p ∧ w 1564 x ≤ e ∧ b ≤ w 1565 x
      · obtain ⟨h1, h2, h3⟩ := h1
        have hj := lse_join hc hxn hl h1 h2 h3
        have hd := cnn_drop hc hxn
        obtain ⟨w1, g0, g1, g2, g3⟩ := M_drops (L := L) (a := a) (t := t) (by omega) hxn h22
        have hd' := cnn_congr hd (fun j hj => (g3 j hj).1) (fun j hj => (g3 j hj).2.1) (fun j hj => (g3 j hj).2.2.1) (fun j hj => (g3 j hj).2.2.2)
        have hp' : M'.Perm ((M1 ++ M2.filter (wI (w 1563 x) (w 1564 x) (w 1565 x))) ++ M2.filter (fun m => !wI (w 1563 x) (w 1564 x) (w 1565 x) m)) := by
          refine hp.trans ?_
          rw [List.append_assoc]
          exact (List.Perm.append_left M1 (List.filter_append_perm _ M2)).symm
        have hN := hc.2.2.2.2.1 x hxn
        have hcl := List.countP_le_length (p := wI (w 1563 x) (w 1564 x) (w 1565 x)) (l := M2)
        have hl2 := hp.length_eq
        rw [List.length_append] at hl2
        have hcc := hl.2.2.2
        obtain ⟨w2, n', b', e', c', M1', M2', k0, k1, k2, k3, k4, k5, k6, k7⟩ := ih (n - 1) (n - 1) w1 (min b (w 1564 x)) (max e (w 1565 x)) (c + w 1566 x) _ _ (by omega) (Nat.le_refl _) (by omega) g2 hd' hj hp' (fun j j1 j2 => by omega)
        refine ⟨w2, n', b', e', c', M1', M2', ?_, g1.trans k1, by omega, k3, k4, k5, k6, k7⟩
        rw [← k0]
        have h1' : ¬ w 1563 x ≠ p := fun h => h h1
        have h2' : ¬ w 1564 x > e := by omega
        have h3' : ¬ b > w 1565 x := by omega
        have z3 : ((n - 1 : Nat) : Int) + (-1) = ((n - 1 : Nat) : Int) - 1 := by omega
        rw [B_X11_puts_17]
        simp (disch := first | assumption | omega) only [k1559, k1560, k1561, k1562, k1563, k1564, k1565, k1566, k1567, g1557_3, g1557_5, g1557_6, g1557_17, g1557_18, g1557_19, g1557_20, g1557_21, g1557_23, B_X11_puts_0, B_X11_puts_103, B_X11_puts_136, B_X11_puts_207, Option.bind_some, back_v, Option.toList_some, Option.toList_none, List.cons_append, List.nil_append, Nat.reduceAdd, Int.reduceToNat, Int.reduceNeg, upm_eq, upm_r, upm_i, if_pos, if_neg, ite_self, true_or, or_true, true_and, and_true, false_or, or_false, false_and, and_false, wr_id, i10, i01, upr_f, upr_eq, thr58, upm_upr, upr_upr, lc_lt, lc_gt, lc_ge, lc_le, afit1, afit0, afitI, bifit, not_true_eq_false, not_false_eq_true, if_true, if_false, Bool.false_eq_true, reduceCtorEq, k1557, k1558, g1557_2, x0', tn, h1', h2', h3', g0, g2, z3]
      · obtain ⟨w2, n', b', e', c', M1', M2', k0, k⟩ := ih n x w b e c M1 M2 (by omega) (by omega) hn h22 hc hl hp (fun j j1 j2 hpj => by
          by_cases hjx : j = x
          · subst hjx; omega
          · exact ht j (by omega) j2 hpj)
        refine ⟨w2, n', b', e', c', M1', M2', ?_, k⟩
        rw [← k0]
        by_cases h2 : w 1563 x ≠ p
        · rw [B_X11_puts_17]
          simp (disch := first | assumption | omega) only [k1559, k1560, k1561, k1562, k1563, k1564, k1565, k1566, k1567, g1557_3, g1557_5, g1557_6, g1557_17, g1557_18, g1557_19, g1557_20, g1557_21, g1557_23, B_X11_puts_0, B_X11_puts_103, B_X11_puts_136, B_X11_puts_207, Option.bind_some, back_v, Option.toList_some, Option.toList_none, List.cons_append, List.nil_append, Nat.reduceAdd, Int.reduceToNat, Int.reduceNeg, upm_eq, upm_r, upm_i, if_pos, if_neg, ite_self, true_or, or_true, true_and, and_true, false_or, or_false, false_and, and_false, wr_id, i10, i01, upr_f, upr_eq, thr58, upm_upr, upr_upr, lc_lt, lc_gt, lc_ge, lc_le, afit1, afit0, afitI, bifit, not_true_eq_false, not_false_eq_true, if_true, if_false, Bool.false_eq_true, reduceCtorEq, k1557, k1558, g1557_2, x0', tn, h2, z1]
        · by_cases h3 : w 1564 x > e
          · rw [B_X11_puts_17]
            simp (disch := first | assumption | omega) only [k1559, k1560, k1561, k1562, k1563, k1564, k1565, k1566, k1567, g1557_3, g1557_5, g1557_6, g1557_17, g1557_18, g1557_19, g1557_20, g1557_21, g1557_23, B_X11_puts_0, B_X11_puts_103, B_X11_puts_136, B_X11_puts_207, Option.bind_some, back_v, Option.toList_some, Option.toList_none, List.cons_append, List.nil_append, Nat.reduceAdd, Int.reduceToNat, Int.reduceNeg, upm_eq, upm_r, upm_i, if_pos, if_neg, ite_self, true_or, or_true, true_and, and_true, false_or, or_false, false_and, and_false, wr_id, i10, i01, upr_f, upr_eq, thr58, upm_upr, upr_upr, lc_lt, lc_gt, lc_ge, lc_le, afit1, afit0, afitI, bifit, not_true_eq_false, not_false_eq_true, if_true, if_false, Bool.false_eq_true, reduceCtorEq, k1557, k1558, g1557_2, x0', tn, h2, h3, z1]
          · have h4 : b > w 1565 x := by omega
            rw [B_X11_puts_17]
            simp (disch := first | assumption | omega) only [k1559, k1560, k1561, k1562, k1563, k1564, k1565, k1566, k1567, g1557_3, g1557_5, g1557_6, g1557_17, g1557_18, g1557_19, g1557_20, g1557_21, g1557_23, B_X11_puts_0, B_X11_puts_103, B_X11_puts_136, B_X11_puts_207, Option.bind_some, back_v, Option.toList_some, Option.toList_none, List.cons_append, List.nil_append, Nat.reduceAdd, Int.reduceToNat, Int.reduceNeg, upm_eq, upm_r, upm_i, if_pos, if_neg, ite_self, true_or, or_true, true_and, and_true, false_or, or_false, false_and, and_false, wr_id, i10, i01, upr_f, upr_eq, thr58, upm_upr, upr_upr, lc_lt, lc_gt, lc_ge, lc_le, afit1, afit0, afitI, bifit, not_true_eq_false, not_false_eq_true, if_true, if_false, Bool.false_eq_true, reduceCtorEq, k1557, k1558, g1557_2, x0', tn, h2, h3, h4, z1]
theorem M_puts_pos {p f tt b e c : Int} {n : Nat} {w : Nat → Nat → Int} (hn : n ≤ 11) (h22 : w 1557 22 = n) : ∀ (d i : Nat) (v8 : AV), i + d = n → (∀ j, j < i → ¬ (b < w 1564 j ∨ (b = w 1564 j ∧ p < w 1563 j))) →
    ∃ k, k ≤ n ∧ a_X 231 118 [a_r 1557, a_i p, a_i f, a_i tt, a_i b, a_i e, a_i c, a_i (i : Int), v8] [] (K0 L, w, G a, t) = a_X 231 151 [a_r 1557, a_i p, a_i f, a_i tt, a_i b, a_i e, a_i c, a_i (k : Int), a_i (n : Int)] [] (K0 L, w, G a, t) ∧ (∀ j, j < k → ¬ (b < w 1564 j ∨ (b = w 1564 j ∧ p < w 1563 j))) ∧ (k < n → (b < w 1564 k ∨ (b = w 1564 k ∧ p < w 1563 k))) := by
  intro d
  induction d with
  | zero =>
    intro i v8 hi hlo
    refine ⟨i, by omega, ?_, hlo, fun h => by omega⟩
    have hge : (i : Int) ≥ (n : Int) := by omega
    rw [B_X11_puts_118]
    simp (disch := first | assumption | omega) only [B_X11_puts_0, B_X11_puts_103, B_X11_puts_136, B_X11_puts_207, Option.bind_some, back_v, Option.toList_some, Option.toList_none, List.cons_append, List.nil_append, Nat.reduceAdd, Int.reduceToNat, Int.reduceNeg, upm_eq, upm_r, upm_i, if_pos, if_neg, ite_self, true_or, or_true, true_and, and_true, false_or, or_false, false_and, and_false, wr_id, i10, i01, upr_f, upr_eq, thr58, upm_upr, upr_upr, lc_lt, lc_gt, lc_ge, lc_le, afit1, afit0, afitI, bifit, not_true_eq_false, not_false_eq_true, if_true, if_false, Bool.false_eq_true, reduceCtorEq, k1557, k1558, g1557_2, h22, hge]
  | succ d ih =>
    intro i v8 hi hlo
    have hge : ¬ (i : Int) ≥ (n : Int) := by omega
    have pa := M_comesAhead (L := L) (a := a) (t := t) (w := w) (p := p) (b := b) (i := i) (by omega)
    by_cases h1 : b < w 1564 i ∨ (b = w 1564 i ∧ p < w 1563 i)
    · rw [decide_eq_true h1, bi_t] at pa
      refine ⟨i, by omega, ?_, hlo, fun _ => h1⟩
      have one : (1 : Int) ≠ 0 := by decide
      rw [B_X11_puts_118]
      simp (disch := first | assumption | omega) only [B_X11_puts_0, B_X11_puts_103, B_X11_puts_136, B_X11_puts_207, Option.bind_some, back_v, Option.toList_some, Option.toList_none, List.cons_append, List.nil_append, Nat.reduceAdd, Int.reduceToNat, Int.reduceNeg, upm_eq, upm_r, upm_i, if_pos, if_neg, ite_self, true_or, or_true, true_and, and_true, false_or, or_false, false_and, and_false, wr_id, i10, i01, upr_f, upr_eq, thr58, upm_upr, upr_upr, lc_lt, lc_gt, lc_ge, lc_le, afit1, afit0, afitI, bifit, not_true_eq_false, not_false_eq_true, if_true, if_false, Bool.false_eq_true, reduceCtorEq, k1557, k1558, g1557_2, h22, hge, pa, one]
    · rw [decide_eq_false h1, bi_f] at pa
      obtain ⟨k, k1, k2, k3, k4⟩ := ih (i + 1) v8 (by omega) (fun j hj => by
        by_cases hji : j = i
        · rw [hji]; exact h1
        · exact hlo j (by omega))
      refine ⟨k, k1, ?_, k3, k4⟩
      rw [← k2]
      have z1 : (i : Int) + 1 = ((i + 1 : Nat) : Int) := by omega
      have zz : ¬ (0 : Int) ≠ 0 := by decide
      rw [B_X11_puts_118]
      simp (disch := first | assumption | omega) only [B_X11_puts_0, B_X11_puts_103, B_X11_puts_136, B_X11_puts_207, Option.bind_some, back_v, Option.toList_some, Option.toList_none, List.cons_append, List.nil_append, Nat.reduceAdd, Int.reduceToNat, Int.reduceNeg, upm_eq, upm_r, upm_i, if_pos, if_neg, ite_self, true_or, or_true, true_and, and_true, false_or, or_false, false_and, and_false, wr_id, i10, i01, upr_f, upr_eq, thr58, upm_upr, upr_upr, lc_lt, lc_gt, lc_ge, lc_le, afit1, afit0, afitI, bifit, not_true_eq_false, not_false_eq_true, if_true, if_false, Bool.false_eq_true, reduceCtorEq, k1557, k1558, g1557_2, h22, hge, pa, zz, z1]
theorem M_puts_in {p f tt b e c : Int} {n k : Nat} (hn : n ≤ 11) (hk : k ≤ n) : ∀ (d y : Nat) (w : Nat → Nat → Int), k + d = y → y ≤ n → w 1557 22 = n →
    ∃ w', a_X 231 151 [a_r 1557, a_i p, a_i f, a_i tt, a_i b, a_i e, a_i c, a_i (k : Int), a_i (y : Int)] [] (K0 L, w, G a, t) = some (.inl none, (K0 L, w', G a, t)) ∧ mgF w w' ∧ w' 1557 22 = ((n + 1 : Nat) : Int) ∧ ∀ j, (w' 1563 j = if j < k then w 1563 j else if j = k then p else if j ≤ y then w 1563 (j - 1) else w 1563 j) ∧ (w' 1564 j = if j < k then w 1564 j else if j = k then b else if j ≤ y then w 1564 (j - 1) else w 1564 j) ∧ (w' 1565 j = if j < k then w 1565 j else if j = k then e else if j ≤ y then w 1565 (j - 1) else w 1565 j) ∧ (w' 1566 j = if j < k then w 1566 j else if j = k then c else if j ≤ y then w 1566 (j - 1) else w 1566 j) := by
  intro d
  induction d with
  | zero =>
    intro y w hy hyn h22
    have : y = k := by omega
    subst this
    have y0 : (0 : Int) ≤ (y : Int) := by omega
    have y12 : (y : Int) < ((12 : Nat) : Int) := by omega
    have tn : (y : Int).toNat = y := by omega
    have hle : (y : Int) ≤ (y : Int) := Int.le_refl _
    have z : (n : Int) + 1 = ((n + 1 : Nat) : Int) := by omega
    refine ⟨upm (upm (upm (upm (upm w 1563 y p) 1564 y b) 1565 y e) 1566 y c) 1557 22 ((n + 1 : Nat) : Int), ?_, ⟨fun q q1 q2 => by rw [upm_rf q1, upm_rf (by omega), upm_rf (by omega), upm_rf (by omega), upm_rf (by omega)], fun j hj => by rw [upm_i hj, upm_rf (by decide), upm_rf (by decide), upm_rf (by decide), upm_rf (by decide)]⟩, upm_eq, fun j => ?_⟩
    · rw [B_X11_puts_151]
      simp (disch := first | assumption | omega) only [k1559, k1560, k1561, k1562, k1563, k1564, k1565, k1566, k1567, g1557_3, g1557_5, g1557_6, g1557_17, g1557_18, g1557_19, g1557_20, g1557_21, g1557_23, B_X11_puts_0, B_X11_puts_103, B_X11_puts_136, B_X11_puts_207, Option.bind_some, back_v, Option.toList_some, Option.toList_none, List.cons_append, List.nil_append, Nat.reduceAdd, Int.reduceToNat, Int.reduceNeg, upm_eq, upm_r, upm_i, if_pos, if_neg, ite_self, true_or, or_true, true_and, and_true, false_or, or_false, false_and, and_false, wr_id, i10, i01, upr_f, upr_eq, thr58, upm_upr, upr_upr, lc_lt, lc_gt, lc_ge, lc_le, afit1, afit0, afitI, bifit, not_true_eq_false, not_false_eq_true, if_true, if_false, Bool.false_eq_true, reduceCtorEq, k1557, k1558, g1557_2, hle, tn, h22, z]
    · simp (disch := decide) only [upm_r]
      by_cases h1 : j = y
      · subst h1
        exact ⟨by rw [upm_eq, if_neg (Nat.lt_irrefl _), if_pos rfl], by rw [upm_eq, if_neg (Nat.lt_irrefl _), if_pos rfl], by rw [upm_eq, if_neg (Nat.lt_irrefl _), if_pos rfl], by rw [upm_eq, if_neg (Nat.lt_irrefl _), if_pos rfl]⟩
      · by_cases h2 : j < y
        · simp (disch := omega) only [if_pos, upm_i, and_self]
        · simp (disch := omega) only [if_neg, upm_i, and_self]
  | succ d ih =>
    intro y w hy hyn h22
    obtain ⟨x, rfl⟩ : ∃ x, y = x + 1 := ⟨y - 1, by omega⟩
    have z1 : ((x + 1 : Nat) : Int) - 1 = (x : Int) := by omega
    have z2 : ((x + 1 : Nat) : Int) + (-1) = (x : Int) := by omega
    have hle : ¬ ((x + 1 : Nat) : Int) ≤ (k : Int) := by omega
    have x0 : (0 : Int) ≤ (x : Int) := by omega
    have x12 : (x : Int) < ((12 : Nat) : Int) := by omega
    have y0 : (0 : Int) ≤ ((x + 1 : Nat) : Int) := by omega
    have y12 : ((x + 1 : Nat) : Int) < ((12 : Nat) : Int) := by omega
    have tn : (x : Int).toNat = x := by omega
    have tn1 : ((x + 1 : Nat) : Int).toNat = x + 1 := by omega
    obtain ⟨w', g0, g1, g2, g3⟩ := ih x (upm (upm (upm (upm w 1563 (x + 1) (w 1563 x)) 1564 (x + 1) (w 1564 x)) 1565 (x + 1) (w 1565 x)) 1566 (x + 1) (w 1566 x)) (by omega) (by omega) (by rw [upm_rf (by decide), upm_rf (by decide), upm_rf (by decide), upm_rf (by decide)]; exact h22)
    refine ⟨w', ?_, ⟨fun q q1 q2 => by rw [g1.1 q q1 q2, upm_rf (by omega), upm_rf (by omega), upm_rf (by omega), upm_rf (by omega)], fun j hj => by rw [g1.2 j hj, upm_rf (by decide), upm_rf (by decide), upm_rf (by decide), upm_rf (by decide)]⟩, g2, fun j => ?_⟩
    · rw [← g0]
      rw [B_X11_puts_151]
      simp (disch := first | assumption | omega) only [k1559, k1560, k1561, k1562, k1563, k1564, k1565, k1566, k1567, g1557_3, g1557_5, g1557_6, g1557_17, g1557_18, g1557_19, g1557_20, g1557_21, g1557_23, B_X11_puts_0, B_X11_puts_103, B_X11_puts_136, B_X11_puts_207, Option.bind_some, back_v, Option.toList_some, Option.toList_none, List.cons_append, List.nil_append, Nat.reduceAdd, Int.reduceToNat, Int.reduceNeg, upm_eq, upm_r, upm_i, if_pos, if_neg, ite_self, true_or, or_true, true_and, and_true, false_or, or_false, false_and, and_false, wr_id, i10, i01, upr_f, upr_eq, thr58, upm_upr, upr_upr, lc_lt, lc_gt, lc_ge, lc_le, afit1, afit0, afitI, bifit, not_true_eq_false, not_false_eq_true, if_true, if_false, Bool.false_eq_true, reduceCtorEq, k1557, k1558, g1557_2, z1, z2, hle, tn, tn1, upm_rf]
    · obtain ⟨k1, k2, k3, k4⟩ := g3 j
      rw [k1, k2, k3, k4]
      simp (disch := decide) only [upm_r]
      by_cases h1 : j < k
      · simp (disch := omega) only [if_pos, upm_i, and_self]
      · by_cases h2 : j = k
        · simp (disch := omega) only [if_pos, if_neg, and_self]
        · by_cases h3 : j ≤ x
          · simp (disch := omega) only [if_pos, if_neg, upm_i, and_self]
          · by_cases h4 : j = x + 1
            · subst h4
              simp (disch := omega) only [if_pos, if_neg, upm_eq, Nat.add_sub_cancel, and_self]
            · simp (disch := omega) only [if_neg, upm_i, and_self]
theorem M_puts {p f tt : Int} {n : Nat} {w : Nat → Nat → Int} {M : List (Int × Int × Int)} (hn : n ≤ 11) (h22 : w 1557 22 = n) (hc : cnn M n (w 1563) (w 1564) (w 1565) (w 1566)) (hft : f < tt) (hlen : M.length ≤ 11) : ∃ w' n', a_m 231 [a_r 1557, a_i p, a_i f, a_i tt] (K0 L, w, G a, t) = some (.inl none, (K0 L, w', G a, t)) ∧ mgF w w' ∧ n' ≤ n + 1 ∧ w' 1557 22 = (n' : Nat) ∧ cnn ((p, f, tt) :: M) n' (w' 1563) (w' 1564) (w' 1565) (w' 1566) := by
  obtain ⟨w1, n1, b, e, c, M1, M2, g0, g1, g2, g3, g4, g5, g6, g7⟩ := M_puts_up (L := L) (a := a) (t := t) (p := p) (f := f) (tt := tt) (M' := (p, f, tt) :: M) (v8 := a_x false) (by rw [List.length_cons]; omega) (13 * n + n) n n w f tt 1 [(p, f, tt)] M (Nat.le_refl _) (Nat.le_refl _) hn h22 hc (lse_one hft) (List.Perm.refl _) (fun j j1 j2 => by omega)
  obtain ⟨k, k0, k1, k2, k3⟩ := M_puts_pos (L := L) (a := a) (t := t) (p := p) (f := f) (tt := tt) (b := b) (e := e) (c := c) (n := n1) (w := w1) (by omega) g3 n1 0 (a_x false) (by omega) (fun j hj => absurd hj (Nat.not_lt_zero _))
  obtain ⟨w2, h0, h1, h2, h3⟩ := M_puts_in (L := L) (a := a) (t := t) (p := p) (f := f) (tt := tt) (b := b) (e := e) (c := c) (n := n1) (k := k) (by omega) k0 (n1 - k) n1 w1 (by omega) (Nat.le_refl _) g3
  have hins := cnn_ins (i := k) g4 k0 g5 g7 (fun j hj => by have := k2 j hj; omega) (fun j j1 j2 => by
    have h9 := k3 (by omega)
    by_cases hjk : j = k
    · subst hjk; omega
    · have := (g4.1 k j (by omega) j2).1
      omega)
  refine ⟨w2, n1 + 1, ?_, g1.trans h1, by omega, h2, cnn_congr (cnn_perm hins g6) (fun j hj => ?_) (fun j hj => ?_) (fun j hj => ?_) (fun j hj => ?_)⟩
  · rw [Int.natCast_zero] at k1
    rw [← h0, ← k1, ← g0]
    simp (disch := first | assumption | omega) only [E_X11_puts, B_X11_puts_0, B_X11_puts_103, B_X11_puts_136, B_X11_puts_207, Option.bind_some, back_v, Option.toList_some, Option.toList_none, List.cons_append, List.nil_append, Nat.reduceAdd, Int.reduceToNat, Int.reduceNeg, upm_eq, upm_r, upm_i, if_pos, if_neg, ite_self, true_or, or_true, true_and, and_true, false_or, or_false, false_and, and_false, wr_id, i10, i01, upr_f, upr_eq, thr58, upm_upr, upr_upr, lc_lt, lc_gt, lc_ge, lc_le, afit1, afit0, afitI, bifit, not_true_eq_false, not_false_eq_true, if_true, if_false, Bool.false_eq_true, reduceCtorEq, k1557, k1558, g1557_2, h22]
  · rw [(h3 j).1]; unfold insF
    by_cases a1 : j < k
    · rw [if_pos a1, if_pos a1]
    · rw [if_neg a1, if_neg a1]
      by_cases a2 : j = k
      · rw [if_pos a2, if_pos a2]
      · rw [if_neg a2, if_neg a2, if_pos (by omega)]
  · rw [(h3 j).2.1]; unfold insF
    by_cases a1 : j < k
    · rw [if_pos a1, if_pos a1]
    · rw [if_neg a1, if_neg a1]
      by_cases a2 : j = k
      · rw [if_pos a2, if_pos a2]
      · rw [if_neg a2, if_neg a2, if_pos (by omega)]
  · rw [(h3 j).2.2.1]; unfold insF
    by_cases a1 : j < k
    · rw [if_pos a1, if_pos a1]
    · rw [if_neg a1, if_neg a1]
      by_cases a2 : j = k
      · rw [if_pos a2, if_pos a2]
      · rw [if_neg a2, if_neg a2, if_pos (by omega)]
  · rw [(h3 j).2.2.2]; unfold insF
    by_cases a1 : j < k
    · rw [if_pos a1, if_pos a1]
    · rw [if_neg a1, if_neg a1]
      by_cases a2 : j = k
      · rw [if_pos a2, if_pos a2]
      · rw [if_neg a2, if_neg a2, if_pos (by omega)]
theorem M_merges_loop {l day : Int} {s : Nat → Int} (hl : -1 ≤ l ∧ l ≤ 5) (hd : 0 ≤ day) (hf : ∀ k : Int, 0 ≤ k → k < 12 → (mOf s l k 0 = -1 → mOf s l k 1 = -1) ∧ (mOf s l k 1 = day → mOf s l k 2 < mOf s l k 3)) : ∀ (d x n : Nat) (w : Nat → Nat → Int), x + d = 12 → n ≤ x → w 1558 = s → w 1557 22 = n → cnn (SLs (mOf s l) day x) n (w 1563) (w 1564) (w 1565) (w 1566) →
    ∃ w' n', a_X 232 7 [a_r 1557, a_i l, a_i day, a_i (x : Int)] [] (K0 L, w, G a, t) = some (.inl none, (K0 L, w', G a, t)) ∧ mgF w w' ∧ n' ≤ 12 ∧ w' 1557 22 = (n' : Nat) ∧ cnn (SLs (mOf s l) day 12) n' (w' 1563) (w' 1564) (w' 1565) (w' 1566) := by
  intro d
  induction d with
  | zero =>
    intro x n w hx hn h58 h22 hc
    have : x = 12 := by omega
    subst this
    refine ⟨w, n, ?_, mgF.refl, hn, h22, hc⟩
    have h12 : ((12 : Nat) : Int) ≥ 12 := by decide
    rw [B_X11_merges_7]
    simp (disch := first | assumption | omega) only [B_X11_merges_0, B_X11_merges_19, B_X11_merges_29, B_X11_merges_41, B_X11_merges_48, B_X11_merges_55, B_X11_merges_58, Option.bind_some, back_v, Option.toList_some, Option.toList_none, List.cons_append, List.nil_append, Nat.reduceAdd, Int.reduceToNat, Int.reduceNeg, upm_eq, upm_r, upm_i, if_pos, if_neg, ite_self, true_or, or_true, true_and, and_true, false_or, or_false, false_and, and_false, wr_id, i10, i01, upr_f, upr_eq, thr58, upm_upr, upr_upr, lc_lt, lc_gt, lc_ge, lc_le, afit1, afit0, afitI, bifit, not_true_eq_false, not_false_eq_true, if_true, if_false, Bool.false_eq_true, reduceCtorEq, k1557, k1558, g1557_2, h12]
  | succ d ih =>
    intro x n w hx hn h58 h22 hc
    obtain ⟨f1, f2⟩ := hf (x : Int) (by omega) (by omega)
    have hx12 : ¬ (x : Int) ≥ 12 := by omega
    have z1 : (x : Int) + 1 = ((x + 1 : Nat) : Int) := by omega
    have pf := M_isFree (L := L) (u := w) (a := a) (t := t) (l := l) (k := (x : Int)) hl (by omega)
    rw [h58] at pf
    have po := fun (j : Int) (h : 0 ≤ j ∧ j < 5) => M_of (L := L) (u := w) (a := a) (t := t) (l := l) (k := (x : Int)) (w := j) hl (by omega) h
    rw [h58] at po
    have p0 := po 0 (by decide)
    have p1 := po 1 (by decide)
    have p2 := po 2 (by decide)
    have p3 := po 3 (by decide)
    have one : (1 : Int) ≠ 0 := by decide
    have zz : ¬ (0 : Int) ≠ 0 := by decide
    by_cases hday : mOf s l (x : Int) 1 = day
    · have hfr : ¬ mOf s l (x : Int) 0 = -1 := fun h => by have := f1 h; omega
      rw [decide_eq_false hfr, bi_f] at pf
      have hlen := SLs_len (f := mOf s l) (d := day) x
      obtain ⟨w1, n1, g0, g1, g2, g3, g4⟩ := M_puts (L := L) (a := a) (t := t) (p := mOf s l (x : Int) 0) (by omega) h22 hc (f2 hday) (by omega)
      obtain ⟨w2, n2, k0, k1, k2⟩ := ih (x + 1) n1 w1 (by omega) (by omega) (by rw [g1.1 1558 (by decide) (by decide)]; exact h58) g3 (by rw [SLs, if_pos hday]; exact g4)
      refine ⟨w2, n2, ?_, g1.trans k1, k2⟩
      rw [← k0]
      have hd' : ¬ mOf s l (x : Int) 1 ≠ day := fun h => h hday
      rw [B_X11_merges_7]
      simp (disch := first | assumption | omega) only [B_X11_merges_0, B_X11_merges_19, B_X11_merges_29, B_X11_merges_41, B_X11_merges_48, B_X11_merges_55, B_X11_merges_58, Option.bind_some, back_v, Option.toList_some, Option.toList_none, List.cons_append, List.nil_append, Nat.reduceAdd, Int.reduceToNat, Int.reduceNeg, upm_eq, upm_r, upm_i, if_pos, if_neg, ite_self, true_or, or_true, true_and, and_true, false_or, or_false, false_and, and_false, wr_id, i10, i01, upr_f, upr_eq, thr58, upm_upr, upr_upr, lc_lt, lc_gt, lc_ge, lc_le, afit1, afit0, afitI, bifit, not_true_eq_false, not_false_eq_true, if_true, if_false, Bool.false_eq_true, reduceCtorEq, k1557, k1558, g1557_2, hx12, pf, p0, p1, p2, p3, zz, hd', g0, z1]
    · obtain ⟨w2, n2, k0, k1, k2⟩ := ih (x + 1) n w (by omega) (by omega) h58 h22 (by rw [SLs, if_neg hday]; exact hc)
      refine ⟨w2, n2, ?_, k1, k2⟩
      rw [← k0]
      by_cases hfr : mOf s l (x : Int) 0 = -1
      · rw [decide_eq_true hfr, bi_t] at pf
        rw [B_X11_merges_7]
        simp (disch := first | assumption | omega) only [B_X11_merges_0, B_X11_merges_19, B_X11_merges_29, B_X11_merges_41, B_X11_merges_48, B_X11_merges_55, B_X11_merges_58, Option.bind_some, back_v, Option.toList_some, Option.toList_none, List.cons_append, List.nil_append, Nat.reduceAdd, Int.reduceToNat, Int.reduceNeg, upm_eq, upm_r, upm_i, if_pos, if_neg, ite_self, true_or, or_true, true_and, and_true, false_or, or_false, false_and, and_false, wr_id, i10, i01, upr_f, upr_eq, thr58, upm_upr, upr_upr, lc_lt, lc_gt, lc_ge, lc_le, afit1, afit0, afitI, bifit, not_true_eq_false, not_false_eq_true, if_true, if_false, Bool.false_eq_true, reduceCtorEq, k1557, k1558, g1557_2, hx12, pf, one, z1]
      · rw [decide_eq_false hfr, bi_f] at pf
        have hd' : mOf s l (x : Int) 1 ≠ day := hday
        rw [B_X11_merges_7]
        simp (disch := first | assumption | omega) only [B_X11_merges_0, B_X11_merges_19, B_X11_merges_29, B_X11_merges_41, B_X11_merges_48, B_X11_merges_55, B_X11_merges_58, Option.bind_some, back_v, Option.toList_some, Option.toList_none, List.cons_append, List.nil_append, Nat.reduceAdd, Int.reduceToNat, Int.reduceNeg, upm_eq, upm_r, upm_i, if_pos, if_neg, ite_self, true_or, or_true, true_and, and_true, false_or, or_false, false_and, and_false, wr_id, i10, i01, upr_f, upr_eq, thr58, upm_upr, upr_upr, lc_lt, lc_gt, lc_ge, lc_le, afit1, afit0, afitI, bifit, not_true_eq_false, not_false_eq_true, if_true, if_false, Bool.false_eq_true, reduceCtorEq, k1557, k1558, g1557_2, hx12, pf, p1, zz, hd', z1]
theorem M_merges {l day : Int} {w : Nat → Nat → Int} (hl : -1 ≤ l ∧ l ≤ 5) (hd : 0 ≤ day) (hf : ∀ k : Int, 0 ≤ k → k < 12 → (mOf (w 1558) l k 0 = -1 → mOf (w 1558) l k 1 = -1) ∧ (mOf (w 1558) l k 1 = day → mOf (w 1558) l k 2 < mOf (w 1558) l k 3)) : ∃ w' n', a_m 232 [a_r 1557, a_i l, a_i day] (K0 L, w, G a, t) = some (.inl none, (K0 L, w', G a, t)) ∧ mgF w w' ∧ n' ≤ 12 ∧ w' 1557 22 = (n' : Nat) ∧ cnn (SLs (mOf (w 1558) l) day 12) n' (w' 1563) (w' 1564) (w' 1565) (w' 1566) := by
  obtain ⟨w', n', g0, g1, g2⟩ := M_merges_loop (L := L) (a := a) (t := t) hl hd hf 12 0 0 (upm w 1557 22 0) (by decide) (Nat.le_refl _) (upm_rf (by decide)) upm_eq cnn_nil
  refine ⟨w', n', ?_, ⟨fun q q1 q2 => by rw [g1.1 q q1 q2, upm_rf q1], fun j hj => by rw [g1.2 j hj, upm_i hj]⟩, g2⟩
  rw [Int.natCast_zero] at g0
  rw [← g0]
  simp (disch := first | assumption | omega) only [E_X11_merges, B_X11_merges_0, B_X11_merges_19, B_X11_merges_29, B_X11_merges_41, B_X11_merges_48, B_X11_merges_55, B_X11_merges_58, Option.bind_some, back_v, Option.toList_some, Option.toList_none, List.cons_append, List.nil_append, Nat.reduceAdd, Int.reduceToNat, Int.reduceNeg, upm_eq, upm_r, upm_i, if_pos, if_neg, ite_self, true_or, or_true, true_and, and_true, false_or, or_false, false_and, and_false, wr_id, i10, i01, upr_f, upr_eq, thr58, upm_upr, upr_upr, lc_lt, lc_gt, lc_ge, lc_le, afit1, afit0, afitI, bifit, not_true_eq_false, not_false_eq_true, if_true, if_false, Bool.false_eq_true, reduceCtorEq, k1557, k1558, g1557_2]
end MGM
