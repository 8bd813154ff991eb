/-! ===== the class: something goes on the air ===== -/
def ahB (u : Nat → Nat → Int) (S S' : Nat) : Bool := decide (u S 0 < u S' 0) || (decide (u S 0 = u S' 0) && (!decide (u S 1 = -1) && decide (u S' 1 = -1)))
/-- a place is made for one more -/
def shA (b : Nat → Nat) (q n p0 : Nat) : Nat → Nat := fun j => if j < q then b j else if j = q then p0 else if j ≤ n then b (j - 1) else b j
section C4
variable {L : Nat} {u : Nat → Nat → Int} {a : Nat → Nat → Nat} {t : Nat × Nat × Nat} {R p : Nat}
theorem C_isAhead {r S S' : Nat} (hS : K0 L S = (7, 0)) (hS' : K0 L S' = (7, 0)) : a_m 4 [a_r r, a_r S, a_r S'] (K0 L, u, G a, t) = some (.inl (some (a_i (bi (ahB u S S')))), (K0 L, u, G a, t)) := by
  unfold ahB
  by_cases h1 : u S 0 = u S' 0
  · by_cases h2 : u S 1 = -1
    · simp (disch := first | assumption | omega) only [E_X0_isAhead, B_X0_isAhead_0, B_X0_isAhead_32, B_X0_isAhead_39, Option.bind_some, back_v, Option.toList_some, Option.toList_none, List.cons_append, List.nil_append, Nat.reduceAdd, Int.reduceToNat, Int.reduceNeg, upm_eq, upm_r, upm_i, if_pos, if_neg, ite_self, true_or, or_true, true_and, and_true, false_or, or_false, false_and, and_false, wr_id, i10, i01, upr_f, upr_eq, thr58, upm_upr, upr_upr, lc_lt, lc_gt, lc_ge, lc_le, afit1, afit0, afitI, bifit, not_true_eq_false, not_false_eq_true, if_true, if_false, Bool.false_eq_true, reduceCtorEq, k1557, k1558, g1557_2, C_isWhole hS, C_isWhole hS', hS, hS', h1, h2, decide_true, bi_t, Bool.not_true, Bool.false_and, Bool.and_false, Int.lt_irrefl, decide_false, Bool.or_false, bi_f]
    · by_cases h3 : u S' 1 = -1
      · simp (disch := first | assumption | omega) only [E_X0_isAhead, B_X0_isAhead_0, B_X0_isAhead_32, B_X0_isAhead_39, Option.bind_some, back_v, Option.toList_some, Option.toList_none, List.cons_append, List.nil_append, Nat.reduceAdd, Int.reduceToNat, Int.reduceNeg, upm_eq, upm_r, upm_i, if_pos, if_neg, ite_self, true_or, or_true, true_and, and_true, false_or, or_false, false_and, and_false, wr_id, i10, i01, upr_f, upr_eq, thr58, upm_upr, upr_upr, lc_lt, lc_gt, lc_ge, lc_le, afit1, afit0, afitI, bifit, not_true_eq_false, not_false_eq_true, if_true, if_false, Bool.false_eq_true, reduceCtorEq, k1557, k1558, g1557_2, C_isWhole hS, C_isWhole hS', hS, hS', h1, h2, h3, decide_true, bi_t, Bool.not_false, Bool.true_and, Int.lt_irrefl, decide_false, Bool.or_true, bi_f]
      · simp (disch := first | assumption | omega) only [E_X0_isAhead, B_X0_isAhead_0, B_X0_isAhead_32, B_X0_isAhead_39, Option.bind_some, back_v, Option.toList_some, Option.toList_none, List.cons_append, List.nil_append, Nat.reduceAdd, Int.reduceToNat, Int.reduceNeg, upm_eq, upm_r, upm_i, if_pos, if_neg, ite_self, true_or, or_true, true_and, and_true, false_or, or_false, false_and, and_false, wr_id, i10, i01, upr_f, upr_eq, thr58, upm_upr, upr_upr, lc_lt, lc_gt, lc_ge, lc_le, afit1, afit0, afitI, bifit, not_true_eq_false, not_false_eq_true, if_true, if_false, Bool.false_eq_true, reduceCtorEq, k1557, k1558, g1557_2, C_isWhole hS, C_isWhole hS', hS, hS', h1, h2, h3, decide_true, bi_t, Bool.not_false, Bool.true_and, Int.lt_irrefl, decide_false, Bool.or_false, bi_f]
  · by_cases h2 : u S 0 < u S' 0
    · simp (disch := first | assumption | omega) only [E_X0_isAhead, B_X0_isAhead_0, B_X0_isAhead_32, B_X0_isAhead_39, Option.bind_some, back_v, Option.toList_some, Option.toList_none, List.cons_append, List.nil_append, Nat.reduceAdd, Int.reduceToNat, Int.reduceNeg, upm_eq, upm_r, upm_i, if_pos, if_neg, ite_self, true_or, or_true, true_and, and_true, false_or, or_false, false_and, and_false, wr_id, i10, i01, upr_f, upr_eq, thr58, upm_upr, upr_upr, lc_lt, lc_gt, lc_ge, lc_le, afit1, afit0, afitI, bifit, not_true_eq_false, not_false_eq_true, if_true, if_false, Bool.false_eq_true, reduceCtorEq, k1557, k1558, g1557_2, hS, hS', h1, h2, decide_true, Bool.true_or, bi_t]
    · simp (disch := first | assumption | omega) only [E_X0_isAhead, B_X0_isAhead_0, B_X0_isAhead_32, B_X0_isAhead_39, Option.bind_some, back_v, Option.toList_some, Option.toList_none, List.cons_append, List.nil_append, Nat.reduceAdd, Int.reduceToNat, Int.reduceNeg, upm_eq, upm_r, upm_i, if_pos, if_neg, ite_self, true_or, or_true, true_and, and_true, false_or, or_false, false_and, and_false, wr_id, i10, i01, upr_f, upr_eq, thr58, upm_upr, upr_upr, lc_lt, lc_gt, lc_ge, lc_le, afit1, afit0, afitI, bifit, not_true_eq_false, not_false_eq_true, if_true, if_false, Bool.false_eq_true, reduceCtorEq, k1557, k1558, g1557_2, hS, hS', h1, h2, decide_false, Bool.false_and, Bool.or_false, bi_f]
theorem C_insert_loop {b : Nat → Nat} {n p0 : Nat} {x1 x2 : Int} (hR : isRad R) (hn : n < 30) (hp0 : p0 < 30) (hb : ∀ j, j < 30 → b j < 30) (hsz : u (R + 10) 1 = n) : ∀ (at_ : Nat) (a : Nat → Nat → Nat), at_ ≤ n → (∀ j, a R j = if j ≤ at_ then b j else if j ≤ n then b (j - 1) else b j) → (∀ j, at_ ≤ j → j < n → ahB u (R + 12 + 3 * p0) (R + 12 + 3 * b j) = true) →
    ∃ q a', q ≤ at_ ∧ a_X 3 26 [a_r (R + 10), a_i x1, a_i x2, a_r (R + 12 + 3 * p0), a_i (at_ : Int)] [] (K0 L, u, G a, t) = some (.inl (some (a_r (R + 12 + 3 * p0))), (K0 L, upm u (R + 10) 1 ((n : Int) + 1), G a', t)) ∧ (∀ Q, Q ≠ R → a' Q = a Q) ∧ a' R = shA b q n p0 ∧ (∀ j, q ≤ j → j < n → ahB u (R + 12 + 3 * p0) (R + 12 + 3 * b j) = true) ∧ (∀ j, j + 1 = q → ahB u (R + 12 + 3 * p0) (R + 12 + 3 * b j) = false) := by
  intro at_
  induction at_ with
  | zero =>
    intro a h0 ha hah
    refine ⟨0, upm a R 0 p0, Nat.le_refl _, ?_, fun Q hQ => upm_rf hQ, ?_, hah, fun j hj => by omega⟩
    · have hk := kRs0 (L := L) hR hp0
      rw [B_X0_insert_26]
      simp (disch := first | assumption | omega) only [kR0, kR9, kR10, kR11, kR102, gR0_0, gR0_1, gR0_2, gR0_3, gR10_0, gR11, gR102, B_X0_insert_0, B_X0_insert_45, Option.bind_some, back_v, Option.toList_some, Option.toList_none, List.cons_append, List.nil_append, Nat.reduceAdd, Int.reduceToNat, Int.reduceNeg, upm_eq, upm_r, upm_i, if_pos, if_neg, ite_self, true_or, or_true, true_and, and_true, false_or, or_false, false_and, and_false, wr_id, i10, i01, upr_f, upr_eq, thr58, upm_upr, upr_upr, lc_lt, lc_gt, lc_ge, lc_le, afit1, afit0, afitI, bifit, not_true_eq_false, not_false_eq_true, if_true, if_false, Bool.false_eq_true, reduceCtorEq, k1557, k1558, g1557_2, hk, Int.toNat_natCast, G_upm, hsz]
    · funext j
      rw [upm_row]; unfold up1 shA
      by_cases hj : j = 0
      · subst hj; simp
      · rw [if_neg hj, if_neg (by omega), if_neg hj, ha, if_neg (by omega)]
  | succ at_ ih =>
    intro a h0 ha hah
    have hk := kRs0 (L := L) hR hp0
    have hat : a R at_ = b at_ := by rw [ha, if_pos (by omega)]
    have hbt := hb at_ (by omega)
    have hk2 := kRs0 (L := L) hR hbt
    have hia := C_isAhead (L := L) (u := u) (a := a) (t := t) (r := R + 10) hk hk2
    have hidx : ((at_ + 1 : Nat) : Int) - 1 = (at_ : Int) := by omega
    cases hc : ahB u (R + 12 + 3 * p0) (R + 12 + 3 * b at_) with
    | true =>
      rw [hc] at hia
      obtain ⟨q, a', g0, g1, g2, g3, g4, g5⟩ := ih (upm a R (at_ + 1) (b at_)) (by omega) (fun j => by
          rw [upm_row]; unfold up1
          by_cases hj : j = at_ + 1
          · subst hj; rw [if_pos rfl, if_neg (by omega), if_pos (by omega), Nat.add_sub_cancel]
          · rw [if_neg hj, ha]
            by_cases hj2 : j ≤ at_
            · rw [if_pos (by omega), if_pos hj2]
            · rw [if_neg (by omega), if_neg hj2]) (fun j hj hj2 => by
          by_cases h9 : j = at_
          · subst h9; exact hc
          · exact hah j (by omega) hj2)
      refine ⟨q, a', by omega, ?_, fun Q hQ => by rw [g2 Q hQ, upm_rf hQ], g3, g4, g5⟩
      rw [← g1]
      rw [B_X0_insert_26]
      simp (disch := first | assumption | omega) only [kR0, kR9, kR10, kR11, kR102, gR0_0, gR0_1, gR0_2, gR0_3, gR10_0, gR11, gR102, kRs0, kRs1, kRs2, gRs_6, gRs_7, B_X0_insert_0, B_X0_insert_45, Option.bind_some, back_v, Option.toList_some, Option.toList_none, List.cons_append, List.nil_append, Nat.reduceAdd, Int.reduceToNat, Int.reduceNeg, upm_eq, upm_r, upm_i, if_pos, if_neg, ite_self, true_or, or_true, true_and, and_true, false_or, or_false, false_and, and_false, wr_id, i10, i01, upr_f, upr_eq, thr58, upm_upr, upr_upr, lc_lt, lc_gt, lc_ge, lc_le, afit1, afit0, afitI, bifit, not_true_eq_false, not_false_eq_true, if_true, if_false, Bool.false_eq_true, reduceCtorEq, k1557, k1558, g1557_2, hidx, hk, hk2, hat, Int.toNat_natCast, hia, bi_t, G_upm]
      rw [show ((at_ + 1 : Nat) : Int) + -1 = (at_ : Int) from by omega]
    | false =>
      rw [hc] at hia
      refine ⟨at_ + 1, upm a R (at_ + 1) p0, Nat.le_refl _, ?_, fun Q hQ => upm_rf hQ, ?_, hah, fun j hj => by
        have : j = at_ := by omega
        subst this; exact hc⟩
      · rw [B_X0_insert_26]
        simp (disch := first | assumption | omega) only [kR0, kR9, kR10, kR11, kR102, gR0_0, gR0_1, gR0_2, gR0_3, gR10_0, gR11, gR102, kRs0, kRs1, kRs2, gRs_6, gRs_7, B_X0_insert_0, B_X0_insert_45, Option.bind_some, back_v, Option.toList_some, Option.toList_none, List.cons_append, List.nil_append, Nat.reduceAdd, Int.reduceToNat, Int.reduceNeg, upm_eq, upm_r, upm_i, if_pos, if_neg, ite_self, true_or, or_true, true_and, and_true, false_or, or_false, false_and, and_false, wr_id, i10, i01, upr_f, upr_eq, thr58, upm_upr, upr_upr, lc_lt, lc_gt, lc_ge, lc_le, afit1, afit0, afitI, bifit, not_true_eq_false, not_false_eq_true, if_true, if_false, Bool.false_eq_true, reduceCtorEq, k1557, k1558, g1557_2, hidx, hk, hk2, hat, Int.toNat_natCast, hia, bi_f, G_upm, hsz]
      · funext j
        rw [upm_row]; unfold up1 shA
        by_cases hj : j = at_ + 1
        · subst hj; rw [if_pos rfl, if_neg (by omega), if_pos rfl]
        · rw [if_neg hj, ha]
          by_cases hj2 : j < at_ + 1
          · rw [if_pos (by omega), if_pos hj2]
          · rw [if_neg (by omega), if_neg hj2, if_neg hj]
theorem C_insert {x1 x2 : Int} {n : Nat} (hR : isRad R) (hn : n < 30) (hb : ∀ j, j < 30 → a R j < 30) (hsz : u (R + 10) 1 = n) :
    ∃ q a', q ≤ n ∧ a_m 3 [a_r (R + 10), a_i x1, a_i x2] (K0 L, u, G a, t) = some (.inl (some (a_r (R + 12 + 3 * a R n))), (K0 L, upm (upm (upm u (R + 12 + 3 * a R n) 0 x1) (R + 12 + 3 * a R n) 1 x2) (R + 10) 1 ((n : Int) + 1), G a', t)) ∧ (∀ Q, Q ≠ R → a' Q = a Q) ∧ a' R = shA (a R) q n (a R n) ∧ (∀ j, q ≤ j → j < n → ahB (upm (upm u (R + 12 + 3 * a R n) 0 x1) (R + 12 + 3 * a R n) 1 x2) (R + 12 + 3 * a R n) (R + 12 + 3 * a R j) = true) ∧ (∀ j, j + 1 = q → ahB (upm (upm u (R + 12 + 3 * a R n) 0 x1) (R + 12 + 3 * a R n) 1 x2) (R + 12 + 3 * a R n) (R + 12 + 3 * a R j) = false) := by
  have hp0 := hb n hn
  have hk := kRs0 (L := L) hR hp0
  obtain ⟨q, a', g0, g1, g2, g3, g4, g5⟩ := C_insert_loop (L := L) (u := upm (upm u (R + 12 + 3 * a R n) 0 x1) (R + 12 + 3 * a R n) 1 x2) (t := t) (x1 := x1) (x2 := x2) (n := n) hR hn hp0 hb (by rw [upm_r (by omega), upm_r (by omega)]; exact hsz) n a (Nat.le_refl _) (fun j => by
    by_cases hj : j ≤ n
    · rw [if_pos hj]
    · rw [if_neg hj, if_neg hj]) (fun j h1 h2 => by omega)
  refine ⟨q, a', g0, ?_, g2, g3, g4, g5⟩
  rw [← g1]
  simp (disch := first | assumption | omega) only [kR0, kR9, kR10, kR11, kR102, gR0_0, gR0_1, gR0_2, gR0_3, gR10_0, gR11, gR102, E_X0_insert, B_X0_insert_0, B_X0_insert_45, Option.bind_some, back_v, Option.toList_some, Option.toList_none, List.cons_append, List.nil_append, Nat.reduceAdd, Int.reduceToNat, Int.reduceNeg, upm_eq, upm_r, upm_i, if_pos, if_neg, ite_self, true_or, or_true, true_and, and_true, false_or, or_false, false_and, and_false, wr_id, i10, i01, upr_f, upr_eq, thr58, upm_upr, upr_upr, lc_lt, lc_gt, lc_ge, lc_le, afit1, afit0, afitI, bifit, not_true_eq_false, not_false_eq_true, if_true, if_false, Bool.false_eq_true, reduceCtorEq, k1557, k1558, g1557_2, hk, hsz, Int.toNat_natCast]
/-- what a correction or a whole list is told to whom by when -/
theorem C_send_loop {len T : Int} {D : Int → Int} {nl : Int} (hR : isRad R) (hp : p < 30) (hnl : 0 ≤ nl ∧ nl ≤ 6) : ∀ (d : Nat) (x : Int) (u : Nat → Nat → Int), 0 ≤ x → x + d = nl → u R 4 = nl → u R 6 = T → (∀ l, 0 ≤ l → l < nl → wr (wr (T + len) + u (R + 103 + 4 * l.toNat) 0) = D l) →
    ∃ u', a_X 35 11 [a_r R, a_r (R + 12 + 3 * p), a_i len, a_i x] [] (K0 L, u, G a, t) = some (.inl none, (K0 L, u', G a, t)) ∧ (∀ q, q ≠ R + 12 + 3 * p → q ≠ R + 13 + 3 * p → u' q = u q) ∧ (∀ j, j ≠ 4 → j ≠ 5 → u' (R + 12 + 3 * p) j = u (R + 12 + 3 * p) j) ∧ u' (R + 12 + 3 * p) 4 = minW d x (u (R + 12 + 3 * p) 4) D ∧ u' (R + 12 + 3 * p) 5 = maxW d x (u (R + 12 + 3 * p) 5) D ∧ (∀ l, 0 ≤ l → l < x → u' (R + 13 + 3 * p) l.toNat = u (R + 13 + 3 * p) l.toNat) ∧ (∀ l, x ≤ l → l < nl → u' (R + 13 + 3 * p) l.toNat = D l) := by
  intro d
  induction d with
  | zero =>
    intro x u h0 h hu4 hu6 hD
    refine ⟨u, ?_, fun _ _ _ => rfl, fun _ _ _ => rfl, rfl, rfl, fun _ _ _ => rfl, fun l h1 h2 => by omega⟩
    rw [B_X4_send_11]
    simp (disch := first | assumption | omega) only [kR0, kR9, kR10, kR11, kR102, gR0_0, gR0_1, gR0_2, gR0_3, gR10_0, gR11, gR102, B_X4_send_0, B_X4_send_9, B_X4_send_40, Option.bind_some, back_v, Option.toList_some, Option.toList_none, List.cons_append, List.nil_append, Nat.reduceAdd, Int.reduceToNat, Int.reduceNeg, upm_eq, upm_r, upm_i, if_pos, if_neg, ite_self, true_or, or_true, true_and, and_true, false_or, or_false, false_and, and_false, wr_id, i10, i01, upr_f, upr_eq, thr58, upm_upr, upr_upr, lc_lt, lc_gt, lc_ge, lc_le, afit1, afit0, afitI, bifit, not_true_eq_false, not_false_eq_true, if_true, if_false, Bool.false_eq_true, reduceCtorEq, k1557, k1558, g1557_2, hu4]
  | succ d ih =>
    intro x u h0 h hu4 hu6 hD
    have hD1 := hD x h0 (by omega)
    have hx6 : x.toNat < 6 := by omega
    obtain ⟨u', g1, g2, g3, g4, g5, g6, g7⟩ := ih (x + 1) (upm (upm (upm u (R + 13 + 3 * p) x.toNat (D x)) (R + 12 + 3 * p) 4 (min (u (R + 12 + 3 * p) 4) (D x))) (R + 12 + 3 * p) 5 (max (u (R + 12 + 3 * p) 5) (D x))) (by omega) (by omega) (by rw [upm_r (by omega), upm_r (by omega), upm_r (by omega)]; exact hu4) (by rw [upm_r (by omega), upm_r (by omega), upm_r (by omega)]; exact hu6) (fun l h1 h2 => by rw [upm_r (by omega), upm_r (by omega), upm_r (by omega)]; exact hD l h1 h2)
    refine ⟨u', ?_, fun q q1 q2 => ?_, fun j j1 j2 => ?_, ?_, ?_, fun l l0 l1 => ?_, fun l l0 l1 => ?_⟩
    · rw [← g1]
      rw [B_X4_send_11]
      simp (disch := first | assumption | omega) only [kR0, kR9, kR10, kR11, kR102, gR0_0, gR0_1, gR0_2, gR0_3, gR10_0, gR11, gR102, kRl0, kRl1, kRl2, kRl3, gRl_2, gRl_3, gRl_4, kRs0, kRs1, kRs2, gRs_6, gRs_7, B_X4_send_0, B_X4_send_9, B_X4_send_40, Option.bind_some, back_v, Option.toList_some, Option.toList_none, List.cons_append, List.nil_append, Nat.reduceAdd, Int.reduceToNat, Int.reduceNeg, upm_eq, upm_r, upm_i, if_pos, if_neg, ite_self, true_or, or_true, true_and, and_true, false_or, or_false, false_and, and_false, wr_id, i10, i01, upr_f, upr_eq, thr58, upm_upr, upr_upr, lc_lt, lc_gt, lc_ge, lc_le, afit1, afit0, afitI, bifit, not_true_eq_false, not_false_eq_true, if_true, if_false, Bool.false_eq_true, reduceCtorEq, k1557, k1558, g1557_2, hu4, hu6, hD1, E_X6_setDue, B_X6_setDue_0]
    · rw [g2 q q1 q2, upm_rf q1, upm_rf q1, upm_rf q2]
    · rw [g3 j j1 j2, upm_i j2, upm_i j1, upm_r (by omega)]
    · rw [g4, upm_i (by decide), upm_eq]; rfl
    · rw [g5, upm_eq]; rfl
    · rw [g6 l l0 (by omega), upm_r (by omega), upm_r (by omega), upm_i (by omega)]
    · by_cases hl : l = x
      · subst hl; rw [g6 l (by omega) (by omega), upm_r (by omega), upm_r (by omega), upm_eq]
      · exact g7 l (by omega) l1
theorem C_send {len T nl : Int} {D : Int → Int} (hR : isRad R) (hp : p < 30) (hnl : 0 ≤ nl ∧ nl ≤ 6) (hT : 0 ≤ T ∧ T ≤ 20000) (hlen : 0 ≤ len ∧ len ≤ 20) (hu4 : u R 4 = nl) (hu6 : u R 6 = T) (hD : ∀ l, 0 ≤ l → l < nl → (0 ≤ u (R + 103 + 4 * l.toNat) 0 ∧ u (R + 103 + 4 * l.toNat) 0 ≤ 9) ∧ D l = T + len + u (R + 103 + 4 * l.toNat) 0) :
    ∃ u', a_m 35 [a_r R, a_r (R + 12 + 3 * p), a_i len] (K0 L, u, G a, t) = some (.inl none, (K0 L, u', G a, t)) ∧ (∀ q, q ≠ R + 12 + 3 * p → q ≠ R + 13 + 3 * p → u' q = u q) ∧ u' (R + 12 + 3 * p) 0 = u (R + 12 + 3 * p) 0 ∧ u' (R + 12 + 3 * p) 1 = u (R + 12 + 3 * p) 1 ∧ u' (R + 12 + 3 * p) 2 = T ∧ u' (R + 12 + 3 * p) 3 = len ∧ u' (R + 12 + 3 * p) 4 = minW nl.toNat 0 (T + 29) D ∧ u' (R + 12 + 3 * p) 5 = maxW nl.toNat 0 T D ∧ (∀ l, 0 ≤ l → l < nl → u' (R + 13 + 3 * p) l.toNat = D l) := by
  have hk := kRs0 (L := L) hR hp
  obtain ⟨u', g1, g2, g3, g4, g5, g6, g7⟩ := C_send_loop (L := L) (a := a) (t := t) (len := len) (T := T) (D := D) hR hp hnl nl.toNat 0 (upm (upm (upm (upm u (R + 12 + 3 * p) 2 T) (R + 12 + 3 * p) 3 len) (R + 12 + 3 * p) 4 (T + 29)) (R + 12 + 3 * p) 5 T) (by decide) (by omega) (by rw [upm_r (by omega), upm_r (by omega), upm_r (by omega), upm_r (by omega)]; exact hu4) (by rw [upm_r (by omega), upm_r (by omega), upm_r (by omega), upm_r (by omega)]; exact hu6) (fun l h1 h2 => by
    obtain ⟨q1, q2⟩ := hD l h1 h2
    rw [upm_r (by omega), upm_r (by omega), upm_r (by omega), upm_r (by omega), q2, wr_id (z := T + len) (by omega) (by omega), wr_id (by omega) (by omega)])
  refine ⟨u', ?_, fun q q1 q2 => ?_, ?_, ?_, ?_, ?_, ?_, ?_, fun l l0 l1 => g7 l l0 l1⟩
  · rw [← g1]
    simp (disch := first | assumption | omega) only [kR0, kR9, kR10, kR11, kR102, gR0_0, gR0_1, gR0_2, gR0_3, gR10_0, gR11, gR102, kRs0, kRs1, kRs2, gRs_6, gRs_7, E_X4_send, B_X4_send_0, B_X4_send_9, B_X4_send_40, Option.bind_some, back_v, Option.toList_some, Option.toList_none, List.cons_append, List.nil_append, Nat.reduceAdd, Int.reduceToNat, Int.reduceNeg, upm_eq, upm_r, upm_i, if_pos, if_neg, ite_self, true_or, or_true, true_and, and_true, false_or, or_false, false_and, and_false, wr_id, i10, i01, upr_f, upr_eq, thr58, upm_upr, upr_upr, lc_lt, lc_gt, lc_ge, lc_le, afit1, afit0, afitI, bifit, not_true_eq_false, not_false_eq_true, if_true, if_false, Bool.false_eq_true, reduceCtorEq, k1557, k1558, g1557_2, hu6, E_X6_begin, B_X6_begin_0]
    rw [show T + 20 + 9 = T + 29 from by omega]
  · rw [g2 q q1 q2, upm_rf q1, upm_rf q1, upm_rf q1, upm_rf q1]
  · rw [g3 0 (by decide) (by decide), upm_i (by decide), upm_i (by decide), upm_i (by decide), upm_i (by decide)]
  · rw [g3 1 (by decide) (by decide), upm_i (by decide), upm_i (by decide), upm_i (by decide), upm_i (by decide)]
  · rw [g3 2 (by decide) (by decide), upm_i (by decide), upm_i (by decide), upm_i (by decide), upm_eq]
  · rw [g3 3 (by decide) (by decide), upm_i (by decide), upm_i (by decide), upm_eq]
  · rw [g4, upm_i (by decide), upm_eq]
  · rw [g5, upm_eq]
end C4
