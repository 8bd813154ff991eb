/-! ===== merged stops in the class ===== -/
def ahR (v : Nat → Nat → Int) (r q : Int) : Bool := if v 25 r.toNat = v 25 q.toNat then decide (v 23 r.toNat < v 23 q.toNat) else decide (v 25 r.toNat < v 25 q.toNat)
def lxR (v : Nat → Nat → Int) (r q : Int) : Prop := v 25 r.toNat < v 25 q.toNat ∨ (v 25 r.toNat = v 25 q.toNat ∧ v 23 r.toNat ≤ v 23 q.toNat)
theorem ahR_t {v : Nat → Nat → Int} {r q : Int} (h : ahR v r q = true) : lxR v r q := by
  unfold ahR at h
  unfold lxR
  split at h
  · have := of_decide_eq_true h; omega
  · have := of_decide_eq_true h; omega
theorem ahR_f {v : Nat → Nat → Int} {r q : Int} (h : ahR v r q = false) : lxR v q r := by
  unfold ahR at h
  unfold lxR
  split at h
  · have := of_decide_eq_false h; omega
  · have := of_decide_eq_false h; omega
theorem lxR_trans {v : Nat → Nat → Int} {r q p : Int} (h : lxR v r q) (h2 : lxR v q p) : lxR v r p := by
  unfold lxR at *
  omega
theorem ahR_congr {v v' : Nat → Nat → Int} {r q : Int} (h3 : v' 23 = v 23) (h5 : v' 25 = v 25) : ahR v' r q = ahR v r q := by
  unfold ahR; rw [h3, h5]
theorem ins_perm {α : Type} {a a' : Nat → α} {r : α} {i : Nat} : ∀ n, i ≤ n → (∀ j, j < i → a' j = a j) → a' i = r → (∀ j, i < j → j ≤ n → a' j = a (j - 1)) → ((List.range (n + 1)).map a').Perm (r :: (List.range n).map a) := by
  intro n
  induction n with
  | zero =>
    intro hi h1 h2 h3
    have : i = 0 := by omega
    subst this
    simp [h2]
  | succ n ih =>
    intro hi h1 h2 h3
    rw [List.range_succ, List.map_append, List.map_cons, List.map_nil]
    by_cases hn : i = n + 1
    · subst hn
      rw [h2]
      have : (List.range (n + 1)).map a' = (List.range (n + 1)).map a := List.map_congr_left fun j hj => h1 j (by rw [List.mem_range] at hj; exact hj)
      rw [this]
      exact List.perm_append_singleton _ _
    · have hp := ih (by omega) h1 h2 (fun j j1 j2 => h3 j j1 (by omega))
      rw [h3 (n + 1) (by omega) (by omega), Nat.add_sub_cancel, List.range_succ (n := n), List.map_append, List.map_cons, List.map_nil]
      have h9 := hp.append_right [a n]
      rw [List.range_succ] at h9
      simpa using h9
section MGC
variable {L : Nat} {a : Nat → Nat → Nat} {t : Nat × Nat × Nat}
theorem C_mAhead {v : Nat → Nat → Int} {r q : Int} (hr : 0 ≤ r ∧ r < 111) (hq : 0 ≤ q ∧ q < 111) : a_m 25 [a_r 1295, a_r 22, a_i r, a_i q] (K0 L, v, G a, t) = some (.inl (some (a_i (bi (ahR v r q)))), (K0 L, v, G a, t)) := by
  have r1 : r < ((111 : Nat) : Int) := by omega
  have q1 : q < ((111 : Nat) : Int) := by omega
  unfold ahR
  by_cases h1 : v 25 r.toNat = v 25 q.toNat
  · rw [if_pos h1]
    by_cases h2 : v 23 r.toNat < v 23 q.toNat
    · have h2' : ¬ v 23 r.toNat ≥ v 23 q.toNat := by omega
      rw [decide_eq_true h2, bi_t]
      simp (disch := first | assumption | omega) only [kq21, kq22, kq23, kq24, kq25, kq26, kq27, kq28, kq29, kq30, kq31, kq32, kq123, gq21_0, gq21_1, gq21_2, gq21_3, gq22_0, gq22_1, gq22_2, gq22_3, gq22_4, gq22_5, gq22_6, gq31_0, gq123_j, gq32_j, kq124_l, kq125_l, kq126_l, kq127_l, gq124_2, gq124_3, gq124_4, kq33_p, kq34_p, kq35_p, gq33_6, gq33_7, E_X3_isAhead, B_X3_isAhead_0, Option.bind_some, back_v, Option.toList_some, Option.toList_none, List.cons_append, List.nil_append, Nat.reduceAdd, Int.reduceToNat, Int.reduceNeg, upm_eq, upm_r, upm_i, if_pos, if_neg, ite_self, true_or, or_true, true_and, and_true, false_or, or_false, false_and, and_false, wr_id, i10, i01, upr_f, upr_eq, thr58, upm_upr, upr_upr, lc_lt, lc_gt, lc_ge, lc_le, afit1, afit0, afitI, bifit, not_true_eq_false, not_false_eq_true, if_true, if_false, Bool.false_eq_true, reduceCtorEq, k1557, k1558, g1557_2, h1, h2']
    · have h2' : v 23 r.toNat ≥ v 23 q.toNat := by omega
      rw [decide_eq_false h2, bi_f]
      simp (disch := first | assumption | omega) only [kq21, kq22, kq23, kq24, kq25, kq26, kq27, kq28, kq29, kq30, kq31, kq32, kq123, gq21_0, gq21_1, gq21_2, gq21_3, gq22_0, gq22_1, gq22_2, gq22_3, gq22_4, gq22_5, gq22_6, gq31_0, gq123_j, gq32_j, kq124_l, kq125_l, kq126_l, kq127_l, gq124_2, gq124_3, gq124_4, kq33_p, kq34_p, kq35_p, gq33_6, gq33_7, E_X3_isAhead, B_X3_isAhead_0, Option.bind_some, back_v, Option.toList_some, Option.toList_none, List.cons_append, List.nil_append, Nat.reduceAdd, Int.reduceToNat, Int.reduceNeg, upm_eq, upm_r, upm_i, if_pos, if_neg, ite_self, true_or, or_true, true_and, and_true, false_or, or_false, false_and, and_false, wr_id, i10, i01, upr_f, upr_eq, thr58, upm_upr, upr_upr, lc_lt, lc_gt, lc_ge, lc_le, afit1, afit0, afitI, bifit, not_true_eq_false, not_false_eq_true, if_true, if_false, Bool.false_eq_true, reduceCtorEq, k1557, k1558, g1557_2, h1, h2']
  · rw [if_neg h1]
    by_cases h2 : v 25 r.toNat < v 25 q.toNat
    · have h2' : ¬ v 25 r.toNat ≥ v 25 q.toNat := by omega
      rw [decide_eq_true h2, bi_t]
      simp (disch := first | assumption | omega) only [kq21, kq22, kq23, kq24, kq25, kq26, kq27, kq28, kq29, kq30, kq31, kq32, kq123, gq21_0, gq21_1, gq21_2, gq21_3, gq22_0, gq22_1, gq22_2, gq22_3, gq22_4, gq22_5, gq22_6, gq31_0, gq123_j, gq32_j, kq124_l, kq125_l, kq126_l, kq127_l, gq124_2, gq124_3, gq124_4, kq33_p, kq34_p, kq35_p, gq33_6, gq33_7, E_X3_isAhead, B_X3_isAhead_0, Option.bind_some, back_v, Option.toList_some, Option.toList_none, List.cons_append, List.nil_append, Nat.reduceAdd, Int.reduceToNat, Int.reduceNeg, upm_eq, upm_r, upm_i, if_pos, if_neg, ite_self, true_or, or_true, true_and, and_true, false_or, or_false, false_and, and_false, wr_id, i10, i01, upr_f, upr_eq, thr58, upm_upr, upr_upr, lc_lt, lc_gt, lc_ge, lc_le, afit1, afit0, afitI, bifit, not_true_eq_false, not_false_eq_true, if_true, if_false, Bool.false_eq_true, reduceCtorEq, k1557, k1558, g1557_2, h1, h2']
    · have h2' : v 25 r.toNat ≥ v 25 q.toNat := by omega
      rw [decide_eq_false h2, bi_f]
      simp (disch := first | assumption | omega) only [kq21, kq22, kq23, kq24, kq25, kq26, kq27, kq28, kq29, kq30, kq31, kq32, kq123, gq21_0, gq21_1, gq21_2, gq21_3, gq22_0, gq22_1, gq22_2, gq22_3, gq22_4, gq22_5, gq22_6, gq31_0, gq123_j, gq32_j, kq124_l, kq125_l, kq126_l, kq127_l, gq124_2, gq124_3, gq124_4, kq33_p, kq34_p, kq35_p, gq33_6, gq33_7, E_X3_isAhead, B_X3_isAhead_0, Option.bind_some, back_v, Option.toList_some, Option.toList_none, List.cons_append, List.nil_append, Nat.reduceAdd, Int.reduceToNat, Int.reduceNeg, upm_eq, upm_r, upm_i, if_pos, if_neg, ite_self, true_or, or_true, true_and, and_true, false_or, or_false, false_and, and_false, wr_id, i10, i01, upr_f, upr_eq, thr58, upm_upr, upr_upr, lc_lt, lc_gt, lc_ge, lc_le, afit1, afit0, afitI, bifit, not_true_eq_false, not_false_eq_true, if_true, if_false, Bool.false_eq_true, reduceCtorEq, k1557, k1558, g1557_2, h1, h2']
theorem C_insRow_loop {r : Int} {n : Nat} (hr : 0 ≤ r ∧ r < 111) (hn : n ≤ 11) : ∀ (d : Nat) (v : Nat → Nat → Int), d ≤ n → v 1295 6 = n → (∀ j, j < n → 0 ≤ v 1300 j ∧ v 1300 j < 111) →
    ∃ v' i, i ≤ d ∧ a_X 24 5 [a_r 1295, a_r 22, a_i r, a_i (d : Int)] [] (K0 L, v, G a, t) = some (.inl none, (K0 L, v', G a, t)) ∧ (∀ q, q ≠ 1295 → q ≠ 1300 → v' q = v q) ∧ (∀ j, j ≠ 6 → v' 1295 j = v 1295 j) ∧ v' 1295 6 = n + 1 ∧ (∀ j, v' 1300 j = if j < i then v 1300 j else if j = i then r else if j ≤ d then v 1300 (j - 1) else v 1300 j) ∧ (i = 0 ∨ ahR v r (v 1300 (i - 1)) = false) ∧ (∀ j, i ≤ j → j < d → ahR v r (v 1300 j) = true) := by
  intro d
  induction d with
  | zero =>
    intro v hd h6 hb
    have z : wr ((n : Int) + 1) = n + 1 := wr_id (by omega) (by omega)
    refine ⟨upm (upm v 1300 0 r) 1295 6 ((n : Int) + 1), 0, Nat.le_refl _, ?_, fun q q1 q2 => by rw [upm_rf q1, upm_rf q2], fun j hj => by rw [upm_i hj, upm_rf (by decide)], upm_eq, fun j => ?_, .inl rfl, fun j _ hj => absurd hj (Nat.not_lt_zero _)⟩
    · rw [B_X3_insertRow_5]
      simp (disch := first | assumption | omega) only [k1295, k1296, k1297, k1298, k1299, k1300, g1295_0, g1295_1, g1295_2, g1295_3, g1295_5, B_X3_insertRow_0, B_X3_insertRow_23, Option.bind_some, back_v, Option.toList_some, Option.toList_none, List.cons_append, List.nil_append, Nat.reduceAdd, Int.reduceToNat, Int.reduceNeg, upm_eq, upm_r, upm_i, if_pos, if_neg, ite_self, true_or, or_true, true_and, and_true, false_or, or_false, false_and, and_false, wr_id, i10, i01, upr_f, upr_eq, thr58, upm_upr, upr_upr, lc_lt, lc_gt, lc_ge, lc_le, afit1, afit0, afitI, bifit, not_true_eq_false, not_false_eq_true, if_true, if_false, Bool.false_eq_true, reduceCtorEq, k1557, k1558, g1557_2, h6, z, Int.natCast_zero, Int.reduceToNat]
      rfl
    · rw [upm_rf (by decide), if_neg (Nat.not_lt_zero _)]
      by_cases hj : j = 0
      · subst hj; rw [if_pos rfl, upm_eq]
      · rw [if_neg hj, if_neg (by omega), upm_i hj]
  | succ d ih =>
    intro v hd h6 hb
    have hd1 : ¬ ((d + 1 : Nat) : Int) ≤ 0 := by omega
    have e1 : wr (((d + 1 : Nat) : Int) - 1) = (d : Int) := by rw [wr_id (by omega) (by omega)]; omega
    have e2 : wr (((d + 1 : Nat) : Int) + (-1)) = (d : Int) := by rw [wr_id (by omega) (by omega)]; omega
    have tn : ((d + 1 : Nat) : Int).toNat = d + 1 := by omega
    have tn2 : (d : Int).toNat = d := by omega
    have hq := hb d (by omega)
    have pa := C_mAhead (L := L) (a := a) (t := t) (v := v) hr hq
    have z : wr ((n : Int) + 1) = n + 1 := wr_id (by omega) (by omega)
    have d0 : 0 ≤ (d : Int) := by omega
    have d00 : 0 ≤ ((d + 1 : Nat) : Int) := by omega
    have d12 : (d : Int) < ((12 : Nat) : Int) := by omega
    have d13 : ((d + 1 : Nat) : Int) < ((12 : Nat) : Int) := by omega
    cases ha : ahR v r (v 1300 d) with
    | false =>
      rw [ha, bi_f] at pa
      refine ⟨upm (upm v 1300 (d + 1) r) 1295 6 ((n : Int) + 1), d + 1, Nat.le_refl _, ?_, fun q q1 q2 => by rw [upm_rf q1, upm_rf q2], fun j hj => by rw [upm_i hj, upm_rf (by decide)], upm_eq, fun j => ?_, .inr ha, fun j j1 j2 => by omega⟩
      · rw [B_X3_insertRow_5]
        simp (disch := first | assumption | omega) only [k1295, k1296, k1297, k1298, k1299, k1300, g1295_0, g1295_1, g1295_2, g1295_3, g1295_5, B_X3_insertRow_0, B_X3_insertRow_23, Option.bind_some, back_v, Option.toList_some, Option.toList_none, List.cons_append, List.nil_append, Nat.reduceAdd, Int.reduceToNat, Int.reduceNeg, upm_eq, upm_r, upm_i, if_pos, if_neg, ite_self, true_or, or_true, true_and, and_true, false_or, or_false, false_and, and_false, wr_id, i10, i01, upr_f, upr_eq, thr58, upm_upr, upr_upr, lc_lt, lc_gt, lc_ge, lc_le, afit1, afit0, afitI, bifit, not_true_eq_false, not_false_eq_true, if_true, if_false, Bool.false_eq_true, reduceCtorEq, k1557, k1558, g1557_2, h6, z, hd1, e1, tn, tn2, pa]
      · rw [upm_rf (by decide)]
        by_cases hj : j = d + 1
        · subst hj; rw [if_neg (Nat.lt_irrefl _), if_pos rfl, upm_eq]
        · rw [upm_i hj]
          by_cases hj2 : j < d + 1
          · rw [if_pos hj2]
          · rw [if_neg hj2, if_neg hj, if_neg (by omega)]
    | true =>
      rw [ha, bi_t] at pa
      obtain ⟨v', i, i0, g0, g1, g2, g3, g4, g5, g6⟩ := ih (upm v 1300 (d + 1) (v 1300 d)) (by omega) (by rw [upm_rf (by decide)]; exact h6) (fun j hj => by
        by_cases hj1 : j = d + 1
        · subst hj1; rw [upm_eq]; exact hq
        · rw [upm_i hj1]; exact hb j hj)
      have hc : ∀ q, ahR (upm v 1300 (d + 1) (v 1300 d)) r q = ahR v r q := fun q => ahR_congr (upm_rf (by decide)) (upm_rf (by decide))
      refine ⟨v', i, by omega, ?_, fun q q1 q2 => by rw [g1 q q1 q2, upm_rf q2], fun j hj => by rw [g2 j hj, upm_rf (by decide)], g3, fun j => ?_, ?_, fun j j1 j2 => ?_⟩
      · rw [← g0]
        have one : ¬ (1 : Int) = 0 := by decide
        rw [B_X3_insertRow_5]
        simp (disch := first | assumption | omega) only [k1295, k1296, k1297, k1298, k1299, k1300, g1295_0, g1295_1, g1295_2, g1295_3, g1295_5, B_X3_insertRow_0, B_X3_insertRow_23, Option.bind_some, back_v, Option.toList_some, Option.toList_none, List.cons_append, List.nil_append, Nat.reduceAdd, Int.reduceToNat, Int.reduceNeg, upm_eq, upm_r, upm_i, if_pos, if_neg, ite_self, true_or, or_true, true_and, and_true, false_or, or_false, false_and, and_false, wr_id, i10, i01, upr_f, upr_eq, thr58, upm_upr, upr_upr, lc_lt, lc_gt, lc_ge, lc_le, afit1, afit0, afitI, bifit, not_true_eq_false, not_false_eq_true, if_true, if_false, Bool.false_eq_true, reduceCtorEq, k1557, k1558, g1557_2, h6, z, hd1, e1, e2, tn, tn2, pa, one]
      · rw [g4 j]
        by_cases h1 : j < i
        · rw [if_pos h1, if_pos h1, upm_i (by omega)]
        · rw [if_neg h1, if_neg h1]
          by_cases h2 : j = i
          · rw [if_pos h2, if_pos h2]
          · rw [if_neg h2, if_neg h2]
            by_cases h3 : j ≤ d
            · rw [if_pos h3, if_pos (by omega), upm_i (by omega)]
            · rw [if_neg h3]
              by_cases h4 : j = d + 1
              · subst h4; rw [if_pos (by omega), upm_eq, Nat.add_sub_cancel]
              · rw [if_neg (by omega), upm_i h4]
      · rcases g5 with g5 | g5
        · exact .inl g5
        · right
          rwa [hc, upm_i (by omega)] at g5
      · by_cases hj : j < d
        · have := g6 j j1 hj
          rwa [hc, upm_i (by omega)] at this
        · have : j = d := by omega
          subst this; exact ha
def ivR (v : Nat → Nat → Int) (r : Int) : Int × Int × Int := (v 23 r.toNat, v 25 r.toNat, v 26 r.toNat)
def rwI (v : Nat → Nat → Int) (n : Nat) (M : List (Int × Int × Int)) : Prop :=
  v 1295 6 = n ∧ (∀ j, j < n → (0 ≤ v 1300 j ∧ v 1300 j < 111) ∧ v 25 (v 1300 j).toNat < v 26 (v 1300 j).toNat) ∧ (∀ i j, i < j → j < n → lxR v (v 1300 i) (v 1300 j)) ∧ ((List.range n).map (fun j => ivR v (v 1300 j))).Perm M
theorem C_insertRow {v : Nat → Nat → Int} {n : Nat} {r : Int} {M : List (Int × Int × Int)} (h : rwI v n M) (hn : n ≤ 11) (hr : 0 ≤ r ∧ r < 111) (hft : v 25 r.toNat < v 26 r.toNat) : ∃ v', a_m 24 [a_r 1295, a_r 22, a_i r] (K0 L, v, G a, t) = some (.inl none, (K0 L, v', G a, t)) ∧ (∀ q, q ≠ 1295 → q ≠ 1300 → v' q = v q) ∧ (∀ j, j ≠ 6 → v' 1295 j = v 1295 j) ∧ rwI v' (n + 1) (ivR v r :: M) := by
  obtain ⟨h1, h2, h3, h4⟩ := h
  obtain ⟨v', i, i0, g0, g1, g2, g3, g4, g5, g6⟩ := C_insRow_loop (L := L) (a := a) (t := t) hr hn n v (Nat.le_refl _) h1 (fun j hj => (h2 j hj).1)
  have e23 : v' 23 = v 23 := g1 _ (by decide) (by decide)
  have e25 : v' 25 = v 25 := g1 _ (by decide) (by decide)
  have e26 : v' 26 = v 26 := g1 _ (by decide) (by decide)
  have elx : ∀ x y, lxR v' x y ↔ lxR v x y := fun x y => by unfold lxR; rw [e23, e25]
  have eiv : ∀ x, ivR v' x = ivR v x := fun x => by unfold ivR; rw [e23, e25, e26]
  have blt : ∀ j, j < i → v' 1300 j = v 1300 j := fun j hj => by rw [g4, if_pos hj]
  have beq : v' 1300 i = r := by rw [g4, if_neg (Nat.lt_irrefl _), if_pos rfl]
  have bgt : ∀ j, i < j → j ≤ n → v' 1300 j = v 1300 (j - 1) := fun j hj hj2 => by rw [g4, if_neg (by omega), if_neg (by omega), if_pos hj2]
  have lo : ∀ j, j < i → lxR v (v 1300 j) r := fun j hj => by
    rcases g5 with g5 | g5
    · omega
    · have h9 := ahR_f g5
      by_cases hj2 : j = i - 1
      · rw [hj2]; exact h9
      · exact lxR_trans (h3 j (i - 1) (by omega) (by omega)) h9
  have hi : ∀ j, i ≤ j → j < n → lxR v r (v 1300 j) := fun j j1 j2 => ahR_t (g6 j j1 j2)
  refine ⟨v', ?_, g1, g2, by rw [g3]; omega, fun j hj => ?_, fun x y hxy hy => ?_, ?_⟩
  · rw [← g0]
    simp (disch := first | assumption | omega) only [k1295, k1296, k1297, k1298, k1299, k1300, g1295_0, g1295_1, g1295_2, g1295_3, g1295_5, E_X3_insertRow, B_X3_insertRow_0, B_X3_insertRow_23, Option.bind_some, back_v, Option.toList_some, Option.toList_none, List.cons_append, List.nil_append, Nat.reduceAdd, Int.reduceToNat, Int.reduceNeg, upm_eq, upm_r, upm_i, if_pos, if_neg, ite_self, true_or, or_true, true_and, and_true, false_or, or_false, false_and, and_false, wr_id, i10, i01, upr_f, upr_eq, thr58, upm_upr, upr_upr, lc_lt, lc_gt, lc_ge, lc_le, afit1, afit0, afitI, bifit, not_true_eq_false, not_false_eq_true, if_true, if_false, Bool.false_eq_true, reduceCtorEq, k1557, k1558, g1557_2, h1]
  · rw [e25, e26]
    rcases Nat.lt_trichotomy j i with hh | hh | hh
    · rw [blt j hh]; exact h2 j (by omega)
    · subst hh; rw [beq]; exact ⟨hr, hft⟩
    · rw [bgt j hh (by omega)]; exact h2 (j - 1) (by omega)
  · rw [elx]
    rcases Nat.lt_trichotomy x i with hx | hx | hx
    · rw [blt x hx]
      rcases Nat.lt_trichotomy y i with hh | hh | hh
      · rw [blt y hh]; exact h3 x y hxy (by omega)
      · subst hh; rw [beq]; exact lo x hx
      · rw [bgt y hh (by omega)]
        by_cases hxy2 : x < y - 1
        · exact h3 x (y - 1) hxy2 (by omega)
        · omega
    · subst hx
      rw [beq, bgt y hxy (by omega)]
      exact hi (y - 1) (by omega) (by omega)
    · rw [bgt x hx (by omega), bgt y (by omega) (by omega)]
      exact h3 (x - 1) (y - 1) (by omega) (by omega)
  · have := ins_perm (a := fun j => ivR v (v 1300 j)) (a' := fun j => ivR v' (v' 1300 j)) (r := ivR v r) (i := i) n i0 (fun j hj => by show ivR v' _ = ivR v _; rw [eiv, blt j hj]) (by show ivR v' _ = ivR v _; rw [eiv, beq]) (fun j j1 j2 => by show ivR v' _ = ivR v _; rw [eiv, bgt j j1 j2])
    exact this.trans (h4.cons _)
/-- what the list at q tells of its slots -/
def mgH (v : Nat → Nat → Int) (q : Nat) (f : Int → Int → Int) (d : Int) : Prop := ∀ k : Int, 0 ≤ k → k < 12 → (0 ≤ v q k.toNat ∧ v q k.toNat ≤ 99) ∧ v 23 (rowI k (v q k.toNat)).toNat = f k 0 ∧ v 24 (rowI k (v q k.toNat)).toNat = f k 1 ∧ v 25 (rowI k (v q k.toNat)).toNat = f k 2 ∧ v 26 (rowI k (v q k.toNat)).toNat = f k 3 ∧ (f k 1 = d → f k 2 < f k 3)
theorem C_coll_loop {q : Nat} {f : Int → Int → Int} {day : Int} (hq : q < 148) (kq : K0 L q = (20, 12)) : ∀ (d : Nat) (x : Nat) (v : Nat → Nat → Int) (n : Nat) (z : AV), x + d = 12 → mgH v q f day → rwI v n (SLs f day x) → n ≤ x →
    ∃ v' n' z', a_X 23 8 [a_r 1295, a_r 22, a_r q, a_i day, a_i (x : Int), z] [] (K0 L, v, G a, t) = a_X 23 59 [a_r 1295, a_r 22, a_r q, a_i day, a_i 0, z'] [] (K0 L, upm v' 1295 4 0, G a, t) ∧ (∀ q, q ≠ 1295 → q ≠ 1300 → v' q = v q) ∧ n' ≤ 12 ∧ rwI v' n' (SLs f day 12) := by
  intro d
  induction d with
  | zero =>
    intro x v n z hx hm hr hn
    have : x = 12 := by omega
    subst this
    refine ⟨v, n, z, ?_, fun _ _ _ => rfl, hn, hr⟩
    have h12 : ((12 : Nat) : Int) ≥ 12 := by decide
    rw [B_X3_collect_8]
    simp (disch := first | assumption | omega) only [B_X3_collect_0, B_X3_collect_25, B_X3_collect_80, B_X3_collect_45, Option.bind_some, back_v, Option.toList_some, Option.toList_none, List.cons_append, List.nil_append, Nat.reduceAdd, Int.reduceToNat, Int.reduceNeg, upm_eq, upm_r, upm_i, if_pos, if_neg, ite_self, true_or, or_true, true_and, and_true, false_or, or_false, false_and, and_false, wr_id, i10, i01, upr_f, upr_eq, thr58, upm_upr, upr_upr, lc_lt, lc_gt, lc_ge, lc_le, afit1, afit0, afitI, bifit, not_true_eq_false, not_false_eq_true, if_true, if_false, Bool.false_eq_true, reduceCtorEq, k1557, k1558, g1557_2, h12]
  | succ d ih =>
    intro x v n z hx hm hr hn
    obtain ⟨m1, m2, m3, m4, m5, m6⟩ := hm (x : Int) (by omega) (by omega)
    have hx12 : ¬ (x : Int) ≥ 12 := by omega
    have x0 : (0 : Int) ≤ (x : Int) := by omega
    have x12 : (x : Int) < ((12 : Nat) : Int) := by omega
    have z1 : wr ((x : Int) + 1) = ((x + 1 : Nat) : Int) := by rw [wr_id (by omega) (by omega)]; omega
    have pr := C_rowOf (u := v) (t := t) (kk := K0 L) (g := G a) (r := 22) (k := (x : Int)) m1
    have rr : 0 ≤ rowI (x : Int) (v q (x : Int).toNat) ∧ rowI (x : Int) (v q (x : Int).toNat) < 111 := by unfold rowI; split <;> omega
    have r1 : rowI (x : Int) (v q (x : Int).toNat) < ((111 : Nat) : Int) := by omega
    by_cases hd : f (x : Int) 1 = day
    · obtain ⟨v1, g0, g1, g2, g3⟩ := C_insertRow (L := L) (a := a) (t := t) (r := rowI (x : Int) (v q (x : Int).toNat)) hr (by omega) rr (by rw [m4, m5]; exact m6 hd)
      have hm1 : mgH v1 q f day := fun k k0 k1 => by
        rw [g1 q (by omega) (by omega), g1 23 (by decide) (by decide), g1 24 (by decide) (by decide), g1 25 (by decide) (by decide), g1 26 (by decide) (by decide)]
        exact hm k k0 k1
      have hr1 : rwI v1 (n + 1) (SLs f day (x + 1)) := by
        rw [SLs, if_pos hd]
        unfold ivR at g3
        rw [m2, m4, m5] at g3
        exact g3
      obtain ⟨v', n', z', e0, e1, e2, e3⟩ := ih (x + 1) v1 (n + 1) (a_i (rowI (x : Int) (v q (x : Int).toNat))) (by omega) hm1 hr1 (by omega)
      refine ⟨v', n', z', ?_, fun q q1 q2 => by rw [e1 q q1 q2, g1 q q1 q2], e2, e3⟩
      rw [← e0]
      have hne : ¬ v 24 (rowI (x : Int) (v q (x : Int).toNat)).toNat ≠ day := by rw [m3]; exact fun h => h hd
      rw [B_X3_collect_8]
      simp (disch := first | assumption | omega) only [kq21, kq22, kq23, kq24, kq25, kq26, kq27, kq28, kq29, kq30, kq31, kq32, kq123, gq21_0, gq21_1, gq21_2, gq21_3, gq22_0, gq22_1, gq22_2, gq22_3, gq22_4, gq22_5, gq22_6, gq31_0, gq123_j, gq32_j, kq124_l, kq125_l, kq126_l, kq127_l, gq124_2, gq124_3, gq124_4, kq33_p, kq34_p, kq35_p, gq33_6, gq33_7, B_X3_collect_0, B_X3_collect_25, B_X3_collect_80, B_X3_collect_45, Option.bind_some, back_v, Option.toList_some, Option.toList_none, List.cons_append, List.nil_append, Nat.reduceAdd, Int.reduceToNat, Int.reduceNeg, upm_eq, upm_r, upm_i, if_pos, if_neg, ite_self, true_or, or_true, true_and, and_true, false_or, or_false, false_and, and_false, wr_id, i10, i01, upr_f, upr_eq, thr58, upm_upr, upr_upr, lc_lt, lc_gt, lc_ge, lc_le, afit1, afit0, afitI, bifit, not_true_eq_false, not_false_eq_true, if_true, if_false, Bool.false_eq_true, reduceCtorEq, k1557, k1558, g1557_2, hx12, kq, pr, hne, g0, z1]
    · have hr1 : rwI v n (SLs f day (x + 1)) := by rw [SLs, if_neg hd]; exact hr
      obtain ⟨v', n', z', e0, e1, e2, e3⟩ := ih (x + 1) v n (a_i (rowI (x : Int) (v q (x : Int).toNat))) (by omega) hm hr1 (by omega)
      refine ⟨v', n', z', ?_, e1, e2, e3⟩
      rw [← e0]
      have hne : v 24 (rowI (x : Int) (v q (x : Int).toNat)).toNat ≠ day := by rw [m3]; exact hd
      rw [B_X3_collect_8]
      simp (disch := first | assumption | omega) only [kq21, kq22, kq23, kq24, kq25, kq26, kq27, kq28, kq29, kq30, kq31, kq32, kq123, gq21_0, gq21_1, gq21_2, gq21_3, gq22_0, gq22_1, gq22_2, gq22_3, gq22_4, gq22_5, gq22_6, gq31_0, gq123_j, gq32_j, kq124_l, kq125_l, kq126_l, kq127_l, gq124_2, gq124_3, gq124_4, kq33_p, kq34_p, kq35_p, gq33_6, gq33_7, B_X3_collect_0, B_X3_collect_25, B_X3_collect_80, B_X3_collect_45, Option.bind_some, back_v, Option.toList_some, Option.toList_none, List.cons_append, List.nil_append, Nat.reduceAdd, Int.reduceToNat, Int.reduceNeg, upm_eq, upm_r, upm_i, if_pos, if_neg, ite_self, true_or, or_true, true_and, and_true, false_or, or_false, false_and, and_false, wr_id, i10, i01, upr_f, upr_eq, thr58, upm_upr, upr_upr, lc_lt, lc_gt, lc_ge, lc_le, afit1, afit0, afitI, bifit, not_true_eq_false, not_false_eq_true, if_true, if_false, Bool.false_eq_true, reduceCtorEq, k1557, k1558, g1557_2, hx12, kq, pr, hne, z1]
/-- the next row joins the stop that it touches, or stands behind all -/
theorem C_join_loop {v : Nat → Nat → Int} {n : Nat} {r : Int} {M : List (Int × Int × Int)} (hc : cnn M n (v 1296) (v 1297) (v 1298) (v 1299)) (h4 : v 1295 4 = n) (hn : n ≤ 11) (hr : 0 ≤ r ∧ r < 111) (hft : v 25 r.toNat < v 26 r.toNat) (ho : ∀ j, j < n → v 1297 j < v 25 r.toNat ∨ (v 1297 j = v 25 r.toNat ∧ v 1296 j ≤ v 23 r.toNat)) (hlen : M.length ≤ 11) : ∀ (d x : Nat), x + d = n → (∀ j, j < x → v 1296 j = v 23 r.toNat → v 1298 j < v 25 r.toNat) →
    ∃ v' n', a_X 26 2 [a_r 1295, a_r 22, a_i r, a_i (x : Int)] [] (K0 L, v, G a, t) = some (.inl none, (K0 L, v', G a, t)) ∧ (∀ q, (q < 1295 ∨ 1299 < q) → v' q = v q) ∧ (∀ j, j ≠ 4 → v' 1295 j = v 1295 j) ∧ v' 1295 4 = (n' : Nat) ∧ n' ≤ n + 1 ∧ cnn (ivR v r :: M) n' (v' 1296) (v' 1297) (v' 1298) (v' 1299) ∧ (∀ j, j < n' → v' 1297 j < v 25 r.toNat ∨ (v' 1297 j = v 25 r.toNat ∧ v' 1296 j ≤ v 23 r.toNat)) := by
  have r1 : r < ((111 : Nat) : Int) := by omega
  intro d
  induction d with
  | zero =>
    intro x hx hno
    have hxn : x = n := by omega
    subst hxn
    have z : wr ((x : Int) + 1) = x + 1 := wr_id (by omega) (by omega)
    have n0 : (0 : Int) ≤ (x : Int) := by omega
    have n12 : (x : Int) < ((12 : Nat) : Int) := by omega
    have tn : (x : Int).toNat = x := by omega
    have hx : (x : Int) ≥ (x : Int) := Int.le_refl _
    have hlast : ∀ {f : Nat → Int} {y : Int} {j : Nat}, j < x + 1 → insF f x y j = up1 f x y j := fun {f y j} hj => by
      rcases Nat.lt_or_ge j x with hh | hh
      · rw [insF_lt hh, up1_ne (by omega)]
      · have : j = x := by omega
        subst this; rw [insF_eq, up1_eq]
    have hcc := cnn_ins (i := x) hc (Nat.le_refl _) (lse_one (p := v 23 r.toNat) hft) (fun j hj hp => .inl (hno j hj hp)) ho (fun j j1 j2 => by omega)
    refine ⟨upm (upm (upm (upm (upm v 1296 x (v 23 r.toNat)) 1297 x (v 25 r.toNat)) 1298 x (v 26 r.toNat)) 1299 x 1) 1295 4 ((x : Int) + 1), x + 1, ?_, fun q hq => by rw [upm_rf (by omega), upm_rf (by omega), upm_rf (by omega), upm_rf (by omega), upm_rf (by omega)], fun j hj => by rw [upm_i hj, upm_rf (by decide), upm_rf (by decide), upm_rf (by decide), upm_rf (by decide)], by rw [upm_eq]; omega, Nat.le_refl _, ?_, fun j hj => ?_⟩
    · rw [B_X3_join_2]
      simp (disch := first | assumption | omega) only [k1295, k1296, k1297, k1298, k1299, k1300, g1295_0, g1295_1, g1295_2, g1295_3, g1295_5, kq21, kq22, kq23, kq24, kq25, kq26, kq27, kq28, kq29, kq30, kq31, kq32, kq123, gq21_0, gq21_1, gq21_2, gq21_3, gq22_0, gq22_1, gq22_2, gq22_3, gq22_4, gq22_5, gq22_6, gq31_0, gq123_j, gq32_j, kq124_l, kq125_l, kq126_l, kq127_l, gq124_2, gq124_3, gq124_4, kq33_p, kq34_p, kq35_p, gq33_6, gq33_7, B_X3_join_0, B_X3_join_35, Option.bind_some, back_v, Option.toList_some, Option.toList_none, List.cons_append, List.nil_append, Nat.reduceAdd, Int.reduceToNat, Int.reduceNeg, upm_eq, upm_r, upm_i, if_pos, if_neg, ite_self, true_or, or_true, true_and, and_true, false_or, or_false, false_and, and_false, wr_id, i10, i01, upr_f, upr_eq, thr58, upm_upr, upr_upr, lc_lt, lc_gt, lc_ge, lc_le, afit1, afit0, afitI, bifit, not_true_eq_false, not_false_eq_true, if_true, if_false, Bool.false_eq_true, reduceCtorEq, k1557, k1558, g1557_2, h4, hx, tn, z]
    · refine cnn_congr hcc (fun j hj => ?_) (fun j hj => ?_) (fun j hj => ?_) (fun j hj => ?_)
      · rw [upm_rf (by decide), upm_rf (by decide), upm_rf (by decide), upm_rf (by decide), upm_row, hlast hj]
      · rw [upm_rf (by decide), upm_rf (by decide), upm_rf (by decide), upm_row, upm_rf (by decide), hlast hj]
      · rw [upm_rf (by decide), upm_rf (by decide), upm_row, upm_rf (by decide), upm_rf (by decide), hlast hj]
      · rw [upm_rf (by decide), upm_row, upm_rf (by decide), upm_rf (by decide), upm_rf (by decide), hlast hj]
    · rw [upm_rf (by decide), upm_rf (by decide), upm_rf (by decide), upm_row, upm_rf (by decide), upm_rf (by decide), upm_rf (by decide), upm_rf (by decide), upm_rf (by decide), upm_row]
      by_cases hj2 : j = x
      · subst hj2; rw [up1_eq, up1_eq]; exact .inr ⟨rfl, Int.le_refl _⟩
      · rw [up1_ne hj2, up1_ne hj2]; exact ho j (by omega)
  | succ d ih =>
    intro x hx hno
    have z1 : wr ((x : Int) + 1) = ((x + 1 : Nat) : Int) := by rw [wr_id (by omega) (by omega)]; omega
    have n0 : (0 : Int) ≤ (x : Int) := by omega
    have n12 : (x : Int) < ((12 : Nat) : Int) := by omega
    have tn : (x : Int).toNat = x := by omega
    have hxn : ¬ (x : Int) ≥ (n : Int) := by omega
    by_cases hp : v 1296 x = v 23 r.toNat
    · by_cases ht : v 1298 x < v 25 r.toNat
      · obtain ⟨v', n', g⟩ := ih (x + 1) (by omega) (fun j hj hpj => by
          by_cases hjx : j = x
          · rw [hjx]; exact ht
          · exact hno j (by omega) hpj)
        refine ⟨v', n', ?_, g.2⟩
        rw [← g.1]
        have hp' : ¬ v 1296 x ≠ v 23 r.toNat := fun h => h hp
        rw [B_X3_join_2]
        simp (disch := first | assumption | omega) only [k1295, k1296, k1297, k1298, k1299, k1300, g1295_0, g1295_1, g1295_2, g1295_3, g1295_5, kq21, kq22, kq23, kq24, kq25, kq26, kq27, kq28, kq29, kq30, kq31, kq32, kq123, gq21_0, gq21_1, gq21_2, gq21_3, gq22_0, gq22_1, gq22_2, gq22_3, gq22_4, gq22_5, gq22_6, gq31_0, gq123_j, gq32_j, kq124_l, kq125_l, kq126_l, kq127_l, gq124_2, gq124_3, gq124_4, kq33_p, kq34_p, kq35_p, gq33_6, gq33_7, B_X3_join_0, B_X3_join_35, Option.bind_some, back_v, Option.toList_some, Option.toList_none, List.cons_append, List.nil_append, Nat.reduceAdd, Int.reduceToNat, Int.reduceNeg, upm_eq, upm_r, upm_i, if_pos, if_neg, ite_self, true_or, or_true, true_and, and_true, false_or, or_false, false_and, and_false, wr_id, i10, i01, upr_f, upr_eq, thr58, upm_upr, upr_upr, lc_lt, lc_gt, lc_ge, lc_le, afit1, afit0, afitI, bifit, not_true_eq_false, not_false_eq_true, if_true, if_false, Bool.false_eq_true, reduceCtorEq, k1557, k1558, g1557_2, h4, hxn, tn, hp', ht, z1]
      · have hxl : x < n := by omega
        have ob := ho x hxl
        have hl := lse_join (M1 := [(v 23 r.toNat, v 25 r.toNat, v 26 r.toNat)]) hc hxl (lse_one (p := v 23 r.toNat) hft) hp (by omega) (by omega)
        rw [show min (v 25 r.toNat) (v 1297 x) = v 1297 x from by omega] at hl
        have hdr := cnn_drop hc hxl
        have hbe := hc.2.1 x hxl
        have hcc := cnn_ins (i := x) hdr (by omega) hl (fun j hj hpj => by
          by_cases hjx : j < x
          · rw [drpF_lt hjx] at hpj ⊢
            have := (hc.1 j x hjx hxl).2 (by omega)
            exact .inl this
          · rw [drpF_ge hjx] at hpj
            have h1 := (hc.1 x (j + 1) (by omega) (by omega)).2 (by omega)
            have h2 := ho (j + 1) (by omega)
            omega) (fun j hj => by
          rw [drpF_lt hj, drpF_lt hj]
          have := (hc.1 j x hj hxl).1
          omega) (fun j j1 j2 => by
          rw [drpF_ge (by omega), drpF_ge (by omega)]
          have := (hc.1 x (j + 1) (by omega) (by omega)).1
          omega)
        rw [show n - 1 + 1 = n from by omega] at hcc
        have hN := hc.2.2.2.2.1 x hxl
        have hcl := List.countP_le_length (p := wI (v 1296 x) (v 1297 x) (v 1298 x)) (l := M)
        have z : wr (v 1299 x + 1) = v 1299 x + 1 := wr_id (by omega) (by omega)
        have hdi : ∀ {f : Nat → Int} {y : Int} {j : Nat}, insF (drpF f x) x y j = up1 f x y j := fun {f y j} => by
          rcases Nat.lt_trichotomy j x with hh | hh | hh
          · rw [insF_lt hh, drpF_lt hh, up1_ne (by omega)]
          · subst hh; rw [insF_eq, up1_eq]
          · rw [insF_gt hh, drpF_ge (by omega), up1_ne (by omega), Nat.sub_add_cancel (by omega)]
        have hperm : (ivR v r :: M).Perm (([(v 23 r.toNat, v 25 r.toNat, v 26 r.toNat)] ++ M.filter (wI (v 1296 x) (v 1297 x) (v 1298 x))) ++ M.filter (fun m => !wI (v 1296 x) (v 1297 x) (v 1298 x) m)) := by
          rw [List.append_assoc]
          exact (List.Perm.cons _ (List.filter_append_perm _ M)).symm
        refine ⟨upm (upm v 1298 x (max (v 1298 x) (v 26 r.toNat))) 1299 x (v 1299 x + 1), n, ?_, fun q hq => by rw [upm_rf (by omega), upm_rf (by omega)], fun j hj => by rw [upm_rf (by decide), upm_rf (by decide)], by rw [upm_rf (by decide), upm_rf (by decide)]; exact h4, by omega, ?_, fun j hj => ?_⟩
        · have hp' : ¬ v 1296 x ≠ v 23 r.toNat := fun h => h hp
          rw [B_X3_join_2]
          simp (disch := first | assumption | omega) only [k1295, k1296, k1297, k1298, k1299, k1300, g1295_0, g1295_1, g1295_2, g1295_3, g1295_5, kq21, kq22, kq23, kq24, kq25, kq26, kq27, kq28, kq29, kq30, kq31, kq32, kq123, gq21_0, gq21_1, gq21_2, gq21_3, gq22_0, gq22_1, gq22_2, gq22_3, gq22_4, gq22_5, gq22_6, gq31_0, gq123_j, gq32_j, kq124_l, kq125_l, kq126_l, kq127_l, gq124_2, gq124_3, gq124_4, kq33_p, kq34_p, kq35_p, gq33_6, gq33_7, B_X3_join_0, B_X3_join_35, Option.bind_some, back_v, Option.toList_some, Option.toList_none, List.cons_append, List.nil_append, Nat.reduceAdd, Int.reduceToNat, Int.reduceNeg, upm_eq, upm_r, upm_i, if_pos, if_neg, ite_self, true_or, or_true, true_and, and_true, false_or, or_false, false_and, and_false, wr_id, i10, i01, upr_f, upr_eq, thr58, upm_upr, upr_upr, lc_lt, lc_gt, lc_ge, lc_le, afit1, afit0, afitI, bifit, not_true_eq_false, not_false_eq_true, if_true, if_false, Bool.false_eq_true, reduceCtorEq, k1557, k1558, g1557_2, h4, hxn, tn, hp', ht, z]
        · refine cnn_congr (cnn_perm hcc hperm) (fun j hj => ?_) (fun j hj => ?_) (fun j hj => ?_) (fun j hj => ?_)
          · rw [upm_rf (by decide), upm_rf (by decide), hdi]
            by_cases hjx : j = x
            · subst hjx; rw [up1_eq]; exact hp
            · rw [up1_ne hjx]
          · rw [upm_rf (by decide), upm_rf (by decide), hdi]
            by_cases hjx : j = x
            · subst hjx; rw [up1_eq]
            · rw [up1_ne hjx]
          · rw [upm_rf (by decide), upm_row, hdi, Int.max_comm]
          · rw [upm_row, upm_rf (by decide), hdi, Int.add_comm]
        · rw [upm_rf (by decide), upm_rf (by decide), upm_rf (by decide), upm_rf (by decide)]
          exact ho j hj
    · obtain ⟨v', n', g⟩ := ih (x + 1) (by omega) (fun j hj hpj => by
        by_cases hjx : j = x
        · rw [hjx] at hpj; exact absurd hpj hp
        · exact hno j (by omega) hpj)
      refine ⟨v', n', ?_, g.2⟩
      rw [← g.1]
      rw [B_X3_join_2]
      simp (disch := first | assumption | omega) only [k1295, k1296, k1297, k1298, k1299, k1300, g1295_0, g1295_1, g1295_2, g1295_3, g1295_5, kq21, kq22, kq23, kq24, kq25, kq26, kq27, kq28, kq29, kq30, kq31, kq32, kq123, gq21_0, gq21_1, gq21_2, gq21_3, gq22_0, gq22_1, gq22_2, gq22_3, gq22_4, gq22_5, gq22_6, gq31_0, gq123_j, gq32_j, kq124_l, kq125_l, kq126_l, kq127_l, gq124_2, gq124_3, gq124_4, kq33_p, kq34_p, kq35_p, gq33_6, gq33_7, B_X3_join_0, B_X3_join_35, Option.bind_some, back_v, Option.toList_some, Option.toList_none, List.cons_append, List.nil_append, Nat.reduceAdd, Int.reduceToNat, Int.reduceNeg, upm_eq, upm_r, upm_i, if_pos, if_neg, ite_self, true_or, or_true, true_and, and_true, false_or, or_false, false_and, and_false, wr_id, i10, i01, upr_f, upr_eq, thr58, upm_upr, upr_upr, lc_lt, lc_gt, lc_ge, lc_le, afit1, afit0, afitI, bifit, not_true_eq_false, not_false_eq_true, if_true, if_false, Bool.false_eq_true, reduceCtorEq, k1557, k1558, g1557_2, h4, hxn, tn, hp, z1]
theorem C_join {v : Nat → Nat → Int} {n : Nat} {r : Int} {M : List (Int × Int × Int)} (hc : cnn M n (v 1296) (v 1297) (v 1298) (v 1299)) (h4 : v 1295 4 = n) (hn : n ≤ 11) (hr : 0 ≤ r ∧ r < 111) (hft : v 25 r.toNat < v 26 r.toNat) (ho : ∀ j, j < n → v 1297 j < v 25 r.toNat ∨ (v 1297 j = v 25 r.toNat ∧ v 1296 j ≤ v 23 r.toNat)) (hlen : M.length ≤ 11) : ∃ v' n', a_m 26 [a_r 1295, a_r 22, a_i r] (K0 L, v, G a, t) = some (.inl none, (K0 L, v', G a, t)) ∧ (∀ q, (q < 1295 ∨ 1299 < q) → v' q = v q) ∧ (∀ j, j ≠ 4 → v' 1295 j = v 1295 j) ∧ v' 1295 4 = (n' : Nat) ∧ n' ≤ n + 1 ∧ cnn (ivR v r :: M) n' (v' 1296) (v' 1297) (v' 1298) (v' 1299) ∧ (∀ j, j < n' → v' 1297 j < v 25 r.toNat ∨ (v' 1297 j = v 25 r.toNat ∧ v' 1296 j ≤ v 23 r.toNat)) := by
  obtain ⟨v', n', g⟩ := C_join_loop (L := L) (a := a) (t := t) hc h4 hn hr hft ho hlen n 0 (by omega) (fun j hj => absurd hj (Nat.not_lt_zero _))
  refine ⟨v', n', ?_, g.2⟩
  have h := g.1
  rw [Int.natCast_zero] at h
  rw [← h]
  simp (disch := first | assumption | omega) only [E_X3_join, B_X3_join_0, B_X3_join_35, Option.bind_some, back_v, Option.toList_some, Option.toList_none, List.cons_append, List.nil_append, Nat.reduceAdd, Int.reduceToNat, Int.reduceNeg, upm_eq, upm_r, upm_i, if_pos, if_neg, ite_self, true_or, or_true, true_and, and_true, false_or, or_false, false_and, and_false, wr_id, i10, i01, upr_f, upr_eq, thr58, upm_upr, upr_upr, lc_lt, lc_gt, lc_ge, lc_le, afit1, afit0, afitI, bifit, not_true_eq_false, not_false_eq_true, if_true, if_false, Bool.false_eq_true, reduceCtorEq, k1557, k1558, g1557_2]
theorem C_joins_loop {q nr : Nat} {day : Int} {z : AV} {v0 : Nat → Nat → Int} {M0 : List (Int × Int × Int)} (h0 : rwI v0 nr M0) (hnr : nr ≤ 12) : ∀ (d i : Nat) (v : Nat → Nat → Int) (n : Nat), i + d = nr → (∀ q, (q < 1295 ∨ 1299 < q) → v q = v0 q) → (∀ j, j ≠ 4 → v 1295 j = v0 1295 j) → v 1295 4 = n → n ≤ i → cnn ((List.range i).map (fun j => ivR v0 (v0 1300 j))) n (v 1296) (v 1297) (v 1298) (v 1299) → (∀ j k, j < n → i ≤ k → k < nr → v 1297 j < v0 25 (v0 1300 k).toNat ∨ (v 1297 j = v0 25 (v0 1300 k).toNat ∧ v 1296 j ≤ v0 23 (v0 1300 k).toNat)) →
    ∃ v' n', a_X 23 59 [a_r 1295, a_r 22, a_r q, a_i day, a_i (i : Int), z] [] (K0 L, v, G a, t) = some (.inl none, (K0 L, v', G a, t)) ∧ (∀ q, (q < 1295 ∨ 1299 < q) → v' q = v0 q) ∧ v' 1295 4 = (n' : Nat) ∧ n' ≤ nr ∧ cnn M0 n' (v' 1296) (v' 1297) (v' 1298) (v' 1299) := by
  obtain ⟨r1, r2, r3, r4⟩ := h0
  intro d
  induction d with
  | zero =>
    intro i v n hi hv hj h4 hn hc ho
    have hin : i = nr := by omega
    subst hin
    refine ⟨v, n, ?_, hv, h4, hn, cnn_perm hc r4.symm⟩
    have e6 : v 1295 6 = (i : Int) := by rw [hj 6 (by decide)]; exact r1
    have hx : (i : Int) ≥ (i : Int) := Int.le_refl _
    rw [B_X3_collect_59]
    simp (disch := first | assumption | omega) only [B_X3_collect_0, B_X3_collect_25, B_X3_collect_80, B_X3_collect_45, Option.bind_some, back_v, Option.toList_some, Option.toList_none, List.cons_append, List.nil_append, Nat.reduceAdd, Int.reduceToNat, Int.reduceNeg, upm_eq, upm_r, upm_i, if_pos, if_neg, ite_self, true_or, or_true, true_and, and_true, false_or, or_false, false_and, and_false, wr_id, i10, i01, upr_f, upr_eq, thr58, upm_upr, upr_upr, lc_lt, lc_gt, lc_ge, lc_le, afit1, afit0, afitI, bifit, not_true_eq_false, not_false_eq_true, if_true, if_false, Bool.false_eq_true, reduceCtorEq, k1557, k1558, g1557_2, e6, hx]
  | succ d ih =>
    intro i v n hi hv hj h4 hn hc ho
    obtain ⟨rb, rf⟩ := r2 i (by omega)
    have e23 := hv 23 (by decide)
    have e25 := hv 25 (by decide)
    have e26 := hv 26 (by decide)
    have e00 := hv 1300 (by decide)
    have eiv : ∀ x, ivR v x = ivR v0 x := fun x => by unfold ivR; rw [e23, e25, e26]
    obtain ⟨v', n', g0, g1, g2, g3, g4, g5, g6⟩ := C_join (L := L) (a := a) (t := t) (r := v0 1300 i) hc h4 (by omega) rb (by rw [e25, e26]; exact rf) (fun j hj => by rw [e25, e23]; exact ho j i hj (by omega) (by omega)) (by rw [List.length_map, List.length_range]; omega)
    rw [eiv] at g5
    rw [e25, e23] at g6
    have hp : ((List.range (i + 1)).map (fun j => ivR v0 (v0 1300 j))).Perm (ivR v0 (v0 1300 i) :: (List.range i).map (fun j => ivR v0 (v0 1300 j))) := by
      rw [List.range_succ, List.map_append, List.map_cons, List.map_nil]
      exact List.perm_append_singleton _ _
    obtain ⟨v2, n2, k0, k1, k2, k3, k4⟩ := ih (i + 1) v' n' (by omega) (fun q hq => by rw [g1 q hq, hv q hq]) (fun j hj' => by rw [g2 j hj', hj j hj']) g3 (by omega) (cnn_perm g5 hp) (fun j k hj hk hk2 => by
      have h1 := g6 j hj
      have h2 := r3 i k (by omega) hk2
      unfold lxR at h2
      omega)
    refine ⟨v2, n2, ?_, k1, k2, k3, k4⟩
    rw [← k0]
    have e6 : v 1295 6 = (nr : Int) := by rw [hj 6 (by decide)]; exact r1
    have hx : ¬ (i : Int) ≥ (nr : Int) := by omega
    have z1 : wr ((i : Int) + 1) = ((i + 1 : Nat) : Int) := by rw [wr_id (by omega) (by omega)]; omega
    have i0 : (0 : Int) ≤ (i : Int) := by omega
    have i12 : (i : Int) < ((12 : Nat) : Int) := by omega
    have tn : (i : Int).toNat = i := by omega
    rw [B_X3_collect_59]
    simp (disch := first | assumption | omega) only [k1295, k1296, k1297, k1298, k1299, k1300, g1295_0, g1295_1, g1295_2, g1295_3, g1295_5, B_X3_collect_0, B_X3_collect_25, B_X3_collect_80, B_X3_collect_45, Option.bind_some, back_v, Option.toList_some, Option.toList_none, List.cons_append, List.nil_append, Nat.reduceAdd, Int.reduceToNat, Int.reduceNeg, upm_eq, upm_r, upm_i, if_pos, if_neg, ite_self, true_or, or_true, true_and, and_true, false_or, or_false, false_and, and_false, wr_id, i10, i01, upr_f, upr_eq, thr58, upm_upr, upr_upr, lc_lt, lc_gt, lc_ge, lc_le, afit1, afit0, afitI, bifit, not_true_eq_false, not_false_eq_true, if_true, if_false, Bool.false_eq_true, reduceCtorEq, k1557, k1558, g1557_2, e6, hx, e00, tn, g0, z1]
theorem C_collect {q : Nat} {f : Int → Int → Int} {day : Int} {v : Nat → Nat → Int} (hq : q < 148) (kq : K0 L q = (20, 12)) (hm : mgH v q f day) : ∃ v' n, a_m 23 [a_r 1295, a_r 22, a_r q, a_i day] (K0 L, v, G a, t) = some (.inl none, (K0 L, v', G a, t)) ∧ (∀ q, (q < 1295 ∨ 1300 < q) → v' q = v q) ∧ v' 1295 4 = (n : Nat) ∧ n ≤ 12 ∧ cnn (SLs f day 12) n (v' 1296) (v' 1297) (v' 1298) (v' 1299) := by
  obtain ⟨v1, n1, z1, e0, e1, e2, e3⟩ := C_coll_loop (L := L) (a := a) (t := t) (f := f) (day := day) hq kq 12 0 (upm v 1295 6 0) 0 (a_x false) (by decide) (fun k k0 k1 => by
    rw [upm_rf (by omega), upm_rf (by decide), upm_rf (by decide), upm_rf (by decide), upm_rf (by decide)]
    exact hm k k0 k1) ⟨upm_eq, fun j hj => absurd hj (Nat.not_lt_zero _), fun i j _ hj => absurd hj (Nat.not_lt_zero _), List.Perm.refl _⟩ (Nat.le_refl _)
  have e3' : rwI (upm v1 1295 4 0) n1 (SLs f day 12) := by
    obtain ⟨r1, r2, r3, r4⟩ := e3
    unfold rwI lxR ivR
    rw [upm_i (by decide), upm_rf (by decide), upm_rf (by decide), upm_rf (by decide), upm_rf (by decide)]
    exact ⟨r1, r2, r3, r4⟩
  obtain ⟨v2, n2, k0, k1, k2, k3, k4⟩ := C_joins_loop (L := L) (a := a) (t := t) (q := q) (day := day) (z := z1) e3' e2 n1 0 (upm v1 1295 4 0) 0 (by omega) (fun _ _ => rfl) (fun _ _ => rfl) upm_eq (Nat.le_refl _) cnn_nil (fun j k hj => absurd hj (Nat.not_lt_zero _))
  refine ⟨v2, n2, ?_, fun q hq => ?_, k2, by omega, k4⟩
  · rw [Int.natCast_zero] at k0 e0
    rw [← k0, ← e0]
    simp (disch := first | assumption | omega) only [k1295, k1296, k1297, k1298, k1299, k1300, g1295_0, g1295_1, g1295_2, g1295_3, g1295_5, E_X3_collect, B_X3_collect_0, B_X3_collect_25, B_X3_collect_80, B_X3_collect_45, Option.bind_some, back_v, Option.toList_some, Option.toList_none, List.cons_append, List.nil_append, Nat.reduceAdd, Int.reduceToNat, Int.reduceNeg, upm_eq, upm_r, upm_i, if_pos, if_neg, ite_self, true_or, or_true, true_and, and_true, false_or, or_false, false_and, and_false, wr_id, i10, i01, upr_f, upr_eq, thr58, upm_upr, upr_upr, lc_lt, lc_gt, lc_ge, lc_le, afit1, afit0, afitI, bifit, not_true_eq_false, not_false_eq_true, if_true, if_false, Bool.false_eq_true, reduceCtorEq, k1557, k1558, g1557_2]
  · rw [k1 q (by omega), upm_rf (by omega), e1 q (by omega) (by omega), upm_rf (by omega)]
end MGC
