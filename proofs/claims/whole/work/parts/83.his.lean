/-! ===== what is kept for undoing ===== -/
/-- a radio of the class at R stands for a row of the reference -/
def RS (c : Int) (v : Nat → Nat → Int) (a : Nat → Nat → Nat) (R : Nat) (s : Nat → Int) : Prop := Rel (vw v R) (a R) s ∧ MI c s ∧ frs s ∧ hi0 s ∧ i32 (s 5) ∧ s 1 ≤ 9999
theorem RS_out {c : Int} {v v' : Nat → Nat → Int} {a : Nat → Nat → Nat} {R : Nat} {s : Nat → Int} (h : RS c v a R s) (hv : ∀ q, R ≤ q → q < R + 127 → v' q = v q) : RS c v' a R s := by
  unfold RS at *
  rw [vw_congr (fun c hc => hv _ (by omega) (by omega))]
  exact h
/-- the radio that keeps what was i steps after the first of n, when the next goes to p -/
def ringR (p n i : Int) : Nat := 277 + 127 * ((p - n + i) % 8).toNat
theorem ringR_rad {p n i : Int} : isRad (ringR p n i) ∧ 277 ≤ ringR p n i ∧ ringR p n i + 127 ≤ 1293 := by
  unfold ringR isRad
  have h1 : 0 ≤ (p - n + i) % 8 ∧ (p - n + i) % 8 < 8 := by omega
  generalize (p - n + i) % 8 = z at *
  refine ⟨.inr (.inr (.inl ⟨by omega, by omega, by omega⟩)), by omega, by omega⟩
def hisX (c : Int) (v w : Nat → Nat → Int) (a : Nat → Nat → Nat) : Prop := v 275 2 = w 1557 4 ∧ (0 ≤ w 1557 4 ∧ w 1557 4 ≤ 8) ∧ (0 ≤ v 275 1 ∧ v 275 1 < 8) ∧ ∀ i : Nat, (i : Int) < w 1557 4 → RS c v a (ringR (v 275 1) (w 1557 4) i) (slc (w 1559) i)
theorem upr_row2 {α : Type} {f : Nat → Nat → α} {r : Nat} {x : Nat → α} : upr f r x r = x := by funext i; exact upr_eq
section HIS
variable {L : Nat} {a : Nat → Nat → Nat} {t : Nat × Nat × Nat}
theorem M_shift : ∀ (d : Nat) (x : Int) (w : Nat → Nat → Int), 0 ≤ x → x + d = 22960 → ∃ w', a_X 276 11 [a_r 1557, a_i x] [] (K0 L, w, G a, t) = a_X 276 11 [a_r 1557, a_i 22960] [] (K0 L, w', G a, t) ∧ (∀ q, q ≠ 1559 → w' q = w q) ∧ ∀ j : Nat, w' 1559 j = if x ≤ j ∧ (j : Int) < 22960 then w 1559 (j + 3280) else w 1559 j := by
  intro d
  induction d with
  | zero =>
    intro x w x0 hx
    have : x = 22960 := by omega
    subst this
    exact ⟨w, rfl, fun _ _ => rfl, fun j => by rw [if_neg (by omega)]⟩
  | succ d ih =>
    intro x w x0 hx
    obtain ⟨w', e0, e1, e2⟩ := ih (x + 1) (upm w 1559 x.toNat (w 1559 (x + 3280).toNat)) (by omega) (by omega)
    refine ⟨w', ?_, fun q hq => by rw [e1 q hq, upm_rf hq], fun j => ?_⟩
    · rw [← e0]
      rw [B_X11_keepsAll_11]
      simp (disch := first | assumption | omega) only [k1559, k1560, k1561, k1562, k1563, k1564, k1565, k1566, k1567, g1557_3, g1557_5, g1557_6, g1557_17, g1557_18, g1557_19, g1557_20, g1557_21, g1557_23, B_X11_keepsAll_0, B_X11_keepsAll_72, Option.bind_some, back_v, Option.toList_some, Option.toList_none, List.cons_append, List.nil_append, Nat.reduceAdd, Int.reduceToNat, Int.reduceNeg, upm_eq, upm_r, upm_i, if_pos, if_neg, ite_self, true_or, or_true, true_and, and_true, false_or, or_false, false_and, and_false, wr_id, i10, i01, upr_f, upr_eq, thr58, upm_upr, upr_upr, lc_lt, lc_gt, lc_ge, lc_le, afit1, afit0, afitI, bifit, not_true_eq_false, not_false_eq_true, if_true, if_false, Bool.false_eq_true, reduceCtorEq, k1557, k1558, g1557_2]
    · rw [e2 j]
      by_cases h1 : x + 1 ≤ j ∧ (j : Int) < 22960
      · rw [if_pos h1, if_pos (by omega), upm_i (by omega)]
      · rw [if_neg h1]
        by_cases h2 : (j : Int) = x
        · rw [if_pos (by omega), show j = x.toNat from by omega, upm_eq]; congr 1; omega
        · rw [if_neg (by omega), upm_i (by omega)]
/-- the slices after keeping the row once more -/
theorem M_keepsAll {w : Nat → Nat → Int} {n : Int} (h4 : w 1557 4 = n) (hn : 0 ≤ n ∧ n ≤ 8) (h0 : hi0 (w 1558)) : ∃ w', a_m 276 [a_r 1557] (K0 L, w, G a, t) = some (.inl none, (K0 L, w', G a, t)) ∧ (∀ q, q ≠ 1557 → q ≠ 1559 → w' q = w q) ∧ (∀ j, j ≠ 4 → w' 1557 j = w 1557 j) ∧ w' 1557 4 = min (n + 1) 8 ∧ (∀ i : Nat, 8 ≤ i → slc (w' 1559) i = slc (w 1559) i) ∧ ∀ i : Nat, (i : Int) < min (n + 1) 8 → slc (w' 1559) i = if (i : Int) + 1 = min (n + 1) 8 then w 1558 else slc (w 1559) (if n = 8 then i + 1 else i) := by
  by_cases h8 : n = 8
  · obtain ⟨w1, e0, e1, e2⟩ := M_shift (L := L) (a := a) (t := t) 22960 0 w (by decide) (by decide)
    have hcp := M_copies (L := L) (a := a) (t := t) (u := upm w1 1557 4 7) (r := 1558) (q := 1559) (f := 0) (g := 3280 * 7) k1558 k1559 (by decide) (by decide) (by decide)
    rw [upm_rf (by decide), upm_rf (by decide), show (0 : Int).toNat = 0 from rfl, show (3280 * 7 : Int).toNat = 3280 * 7 from rfl, e1 1558 (by decide), show (3280 * 7 : Int) = 22960 from rfl] at hcp
    have n8 : ¬ w 1557 4 ≠ 8 := by omega
    have w14 : w1 1557 4 = 8 := by rw [e1 1557 (by decide)]; omega
    refine ⟨upm (upr (upm w1 1557 4 7) 1559 (a_cpy (w 1558) (w1 1559) 0 (3280 * 7) 3280)) 1557 4 8, ?_, fun q q1 q2 => ?_, fun j hj => ?_, ?_, fun i hi => ?_, fun i hi => ?_⟩
    · simp (disch := first | assumption | omega) only [k1559, k1560, k1561, k1562, k1563, k1564, k1565, k1566, k1567, g1557_3, g1557_5, g1557_6, g1557_17, g1557_18, g1557_19, g1557_20, g1557_21, g1557_23, E_X11_keepsAll, B_X11_keepsAll_0, B_X11_keepsAll_72, Option.bind_some, back_v, Option.toList_some, Option.toList_none, List.cons_append, List.nil_append, Nat.reduceAdd, Int.reduceToNat, Int.reduceNeg, upm_eq, upm_r, upm_i, if_pos, if_neg, ite_self, true_or, or_true, true_and, and_true, false_or, or_false, false_and, and_false, wr_id, i10, i01, upr_f, upr_eq, thr58, upm_upr, upr_upr, lc_lt, lc_gt, lc_ge, lc_le, afit1, afit0, afitI, bifit, not_true_eq_false, not_false_eq_true, if_true, if_false, Bool.false_eq_true, reduceCtorEq, k1557, k1558, g1557_2, n8, e0]
      rw [B_X11_keepsAll_11]
      simp (disch := first | assumption | omega) only [k1559, k1560, k1561, k1562, k1563, k1564, k1565, k1566, k1567, g1557_3, g1557_5, g1557_6, g1557_17, g1557_18, g1557_19, g1557_20, g1557_21, g1557_23, B_X11_keepsAll_0, B_X11_keepsAll_72, Option.bind_some, back_v, Option.toList_some, Option.toList_none, List.cons_append, List.nil_append, Nat.reduceAdd, Int.reduceToNat, Int.reduceNeg, upm_eq, upm_r, upm_i, if_pos, if_neg, ite_self, true_or, or_true, true_and, and_true, false_or, or_false, false_and, and_false, wr_id, i10, i01, upr_f, upr_eq, thr58, upm_upr, upr_upr, lc_lt, lc_gt, lc_ge, lc_le, afit1, afit0, afitI, bifit, not_true_eq_false, not_false_eq_true, if_true, if_false, Bool.false_eq_true, reduceCtorEq, k1557, k1558, g1557_2, w14, hcp, upr_rf, Int.reduceMul, Int.reduceAdd, Int.reduceSub]
    · rw [upm_rf q1, upr_rf q2, upm_rf q1, e1 q q2]
    · rw [upm_i hj, upr_rf (by decide), upm_i hj, e1 1557 (by decide)]
    · rw [upm_eq]; omega
    · rw [upm_rf (by decide), upr_row2, slc_other (by omega)]
      funext j
      simp only [slc]
      by_cases hj : j < 3280
      · rw [if_pos hj, if_pos hj, e2, if_neg (by omega)]
      · rw [if_neg hj, if_neg hj]
    · rw [upm_rf (by decide), upr_row2]
      by_cases hi7 : i = 7
      · rw [if_pos (by omega), hi7, slc_put h0]
      · rw [if_neg (by omega), if_pos h8, slc_other hi7]
        funext j
        simp only [slc]
        by_cases hj : j < 3280
        · rw [if_pos hj, if_pos hj, e2, if_pos (by omega)]; congr 1; omega
        · rw [if_neg hj, if_neg hj]
  · have hcp := M_copies (L := L) (a := a) (t := t) (u := w) (r := 1558) (q := 1559) (f := 0) (g := 3280 * n) k1558 k1559 (by decide) (by decide) (by omega)
    rw [show (0 : Int).toNat = 0 from rfl, show (3280 * n).toNat = 3280 * n.toNat from by omega] at hcp
    have n8 : n ≠ 8 := h8
    refine ⟨upm (upr w 1559 (a_cpy (w 1558) (w 1559) 0 (3280 * n.toNat) 3280)) 1557 4 (n + 1), ?_, fun q q1 q2 => ?_, fun j hj => ?_, ?_, fun i hi => ?_, fun i hi => ?_⟩
    · have hz : 0 + n = n := by omega
      simp (disch := first | assumption | omega) only [k1559, k1560, k1561, k1562, k1563, k1564, k1565, k1566, k1567, g1557_3, g1557_5, g1557_6, g1557_17, g1557_18, g1557_19, g1557_20, g1557_21, g1557_23, E_X11_keepsAll, B_X11_keepsAll_0, B_X11_keepsAll_72, Option.bind_some, back_v, Option.toList_some, Option.toList_none, List.cons_append, List.nil_append, Nat.reduceAdd, Int.reduceToNat, Int.reduceNeg, upm_eq, upm_r, upm_i, if_pos, if_neg, ite_self, true_or, or_true, true_and, and_true, false_or, or_false, false_and, and_false, wr_id, i10, i01, upr_f, upr_eq, thr58, upm_upr, upr_upr, lc_lt, lc_gt, lc_ge, lc_le, afit1, afit0, afitI, bifit, not_true_eq_false, not_false_eq_true, if_true, if_false, Bool.false_eq_true, reduceCtorEq, k1557, k1558, g1557_2, h4, n8, hz, hcp, upr_rf]
    · rw [upm_rf q1, upr_rf q2]
    · rw [upm_i hj, upr_rf (by decide)]
    · rw [upm_eq]; omega
    · rw [upm_rf (by decide), upr_row2, slc_other (by omega)]
    · rw [upm_rf (by decide), upr_row2]
      by_cases hi7 : i = n.toNat
      · rw [if_pos (by omega), hi7, slc_put h0]
      · rw [if_neg (by omega), if_neg h8, slc_other hi7]
theorem C_keep {c : Int} {v : Nat → Nat → Int} {s : Nat → Int} {p n : Int} (h1 : v 275 1 = p) (hp : 0 ≤ p ∧ p < 8) (h2 : v 275 2 = n) (hn : 0 ≤ n ∧ n ≤ 8) (hS : RS c v a 21 s) (hA : ∀ R, isRad R → okA (a R)) : ∃ v', a_m 11 [a_r 275, a_r 21] (K0 L, v, G a, t) = some (.inl none, (K0 L, v', G a, t)) ∧ (∀ q, q ≠ 275 → (q < 277 + 127 * p.toNat ∨ 277 + 127 * p.toNat + 127 ≤ q) → v' q = v q) ∧ (∀ j, j ≠ 1 → j ≠ 2 → v' 275 j = v 275 j) ∧ v' 275 1 = (p + 1) % 8 ∧ v' 275 2 = min (n + 1) 8 ∧ RS c v' a (277 + 127 * p.toNat) s := by
  have hR : isRad (277 + 127 * p.toNat) := .inr (.inr (.inl ⟨by omega, by omega, by omega⟩))
  obtain ⟨v1, g0, g1, g2⟩ := C_copy (L := L) (a := a) (t := t) (c := c) hR (.inl rfl) (by omega) hS.1 hS.2.1 (hA _ hR)
  have z1 : v1 275 1 = p := by rw [g1 275 (by omega)]; exact h1
  have z2 : v1 275 2 = n := by rw [g1 275 (by omega)]; exact h2
  have hmn : wr (n + 1) = n + 1 := wr_id (by omega) (by omega)
  refine ⟨upm (upm v1 275 1 ((p + 1) % 8)) 275 2 (min (n + 1) 8), ?_, fun q q1 q2 => ?_, fun j j1 j2 => ?_, ?_, upm_eq, ?_⟩
  · have gk := g276 (a := a) (j := p.toNat) (by omega)
    have kk := kR0 (L := L) hR
    by_cases h : p + 1 ≥ 8
    · have : (p + 1) % 8 = 0 := by omega
      rw [this]
      simp (disch := first | assumption | omega) only [k275, k276, g275_0, g276, E_X1_keep, B_X1_keep_0, B_X1_keep_13, Option.bind_some, back_v, Option.toList_some, Option.toList_none, List.cons_append, List.nil_append, Nat.reduceAdd, Int.reduceToNat, Int.reduceNeg, upm_eq, upm_r, upm_i, if_pos, if_neg, ite_self, true_or, or_true, true_and, and_true, false_or, or_false, false_and, and_false, wr_id, i10, i01, upr_f, upr_eq, thr58, upm_upr, upr_upr, lc_lt, lc_gt, lc_ge, lc_le, afit1, afit0, afitI, bifit, not_true_eq_false, not_false_eq_true, if_true, if_false, Bool.false_eq_true, reduceCtorEq, k1557, k1558, g1557_2, h1, gk, kk, g0, z1, z2, hmn]
    · have : (p + 1) % 8 = p + 1 := by omega
      rw [this]
      simp (disch := first | assumption | omega) only [k275, k276, g275_0, g276, E_X1_keep, B_X1_keep_0, B_X1_keep_13, Option.bind_some, back_v, Option.toList_some, Option.toList_none, List.cons_append, List.nil_append, Nat.reduceAdd, Int.reduceToNat, Int.reduceNeg, upm_eq, upm_r, upm_i, if_pos, if_neg, ite_self, true_or, or_true, true_and, and_true, false_or, or_false, false_and, and_false, wr_id, i10, i01, upr_f, upr_eq, thr58, upm_upr, upr_upr, lc_lt, lc_gt, lc_ge, lc_le, afit1, afit0, afitI, bifit, not_true_eq_false, not_false_eq_true, if_true, if_false, Bool.false_eq_true, reduceCtorEq, k1557, k1558, g1557_2, h1, gk, kk, g0, z1, z2, hmn]
  · rw [upm_rf q1, upm_rf q1, g1 q q2]
  · rw [upm_i j2, upm_i j1, g1 275 (by omega)]
  · rw [upm_i (by decide), upm_eq]
  · refine RS_out (v := v1) ⟨g2, hS.2⟩ (fun q q0 q1 => ?_)
    rw [upm_rf (by omega), upm_rf (by omega)]
theorem keepBoth {c : Int} {v w : Nat → Nat → Int} (h : hisX c v w a) (hS : RS c v a 21 (w 1558)) (hA : ∀ R, isRad R → okA (a R)) : ∃ v' w', a_m 11 [a_r 275, a_r 21] (K0 L, v, G a, t) = some (.inl none, (K0 L, v', G a, t)) ∧ a_m 276 [a_r 1557] (K0 L, w, G a, t) = some (.inl none, (K0 L, w', G a, t)) ∧ hisX c v' w' a ∧ (∀ q, q ≠ 275 → (q < 277 ∨ 1293 ≤ q) → v' q = v q) ∧ (∀ j, j ≠ 1 → j ≠ 2 → v' 275 j = v 275 j) ∧ (∀ q, q ≠ 1557 → q ≠ 1559 → w' q = w q) ∧ (∀ j, j ≠ 4 → w' 1557 j = w 1557 j) ∧ ∀ i : Nat, 8 ≤ i → slc (w' 1559) i = slc (w 1559) i := by
  obtain ⟨h1, h2, h3, h4⟩ := h
  obtain ⟨v', c0, c1, c2, c3, c4, c5⟩ := C_keep (L := L) (a := a) (t := t) (c := c) (v := v) (s := w 1558) rfl h3 h1 h2 hS hA
  obtain ⟨w', m0, m1, m2, m3, m4, m5⟩ := M_keepsAll (L := L) (a := a) (t := t) (w := w) rfl h2 hS.2.2.2.1
  refine ⟨v', w', c0, m0, ⟨by rw [c4, m3], by rw [m3]; omega, by rw [c3]; omega, fun i hi => ?_⟩, fun q q1 q2 => c1 q q1 (by omega), c2, m1, m2, m4⟩
  rw [m3] at hi ⊢
  rw [c3, m5 i hi]
  by_cases hl : (i : Int) + 1 = min (w 1557 4 + 1) 8
  · rw [if_pos hl]
    have : ringR ((v 275 1 + 1) % 8) (min (w 1557 4 + 1) 8) i = 277 + 127 * (v 275 1).toNat := by unfold ringR; omega
    rw [this]; exact c5
  · rw [if_neg hl]
    have hk := h4 (if w 1557 4 = 8 then i + 1 else i) (by split <;> omega)
    have hr : ringR ((v 275 1 + 1) % 8) (min (w 1557 4 + 1) 8) i = ringR (v 275 1) (w 1557 4) ((if w 1557 4 = 8 then i + 1 else i : Nat) : Int) := by
      unfold ringR
      split <;> omega
    rw [hr]
    have hne : ringR (v 275 1) (w 1557 4) ((if w 1557 4 = 8 then i + 1 else i : Nat) : Int) ≠ 277 + 127 * (v 275 1).toNat := by
      unfold ringR
      split <;> omega
    have hdj : ∀ q, ringR (v 275 1) (w 1557 4) ((if w 1557 4 = 8 then i + 1 else i : Nat) : Int) ≤ q → q < ringR (v 275 1) (w 1557 4) ((if w 1557 4 = 8 then i + 1 else i : Nat) : Int) + 127 → v' q = v q := by
      intro q q0 q1
      refine c1 q ?_ ?_
      · unfold ringR at q0; omega
      · unfold ringR at q0 q1 hne; omega
    exact RS_out hk hdj
end HIS
