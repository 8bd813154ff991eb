/-! ===== changes as operations ===== -/
theorem hisX_le {c c' : Int} {v w : Nat → Nat → Int} {a : Nat → Nat → Nat} (h : hisX c v w a) (hc : c ≤ c') : hisX c' v w a := hisX_x h hc rfl (fun _ _ _ => rfl) rfl (fun _ _ => rfl) (fun _ _ _ => rfl)
theorem savX_le {c c' : Int} {v w : Nat → Nat → Int} {a : Nat → Nat → Nat} (h : savX c v w a) (hc : c ≤ c') : savX c' v w a := savX_x h hc rfl (fun _ _ _ => rfl) rfl (fun _ _ _ => rfl) (fun _ _ _ => rfl)
section CHG
variable {L m n : Nat} {as : List AV} {es : List (Nat × Int)} {c : Int} {v w : Nat → Nat → Int} {a : Nat → Nat → Nat} {t : Nat × Nat × Nat}
theorem OPc_ok {z : Int} {v' w' : Nat → Nat → Int} {a' : Nat → Nat → Nat} (hX : XX (c + 1) v' w' a') (fv : ∀ q, (q < 18 ∨ 1557 ≤ q) → v' q = v q) (fw : ∀ q, (q < 1557 ∨ 1567 < q) → w' q = w q) (h0 : w' 1557 0 = 0) (hc : a_m m (a_r 18 :: as) (K0 L, v, G a, t) = some (.inl (some (a_i z)), (K0 L, v', G a', t))) (hm : a_m n (a_r 1557 :: as) (K0 L, w, G a', t) = some (.inl (some (a_i z)), (K0 L, w', G a', t))) : OPc L m n as es c v w a t :=
  ⟨v', w', a', hX, fv, fw, .inl ⟨h0, z, hc, hm⟩⟩
theorem OPc_chg {z : Int} {v' w' : Nat → Nat → Int} {a' : Nat → Nat → Nat} (h : XX c v w a) (hld : v 18 8 ≠ 0) (hh : hisX (c + 1) v' w' a') (hS : RS (c + 1) v' a' 21 (w' 1558)) (fv : ∀ q, q ≠ 275 → (q < 21 ∨ (148 ≤ q ∧ q < 277) ∨ 1293 ≤ q) → v' q = v q) (fw : ∀ q, q ≠ 1557 → q ≠ 1558 → q ≠ 1559 → w' q = w q) (fj : ∀ j, j ≠ 0 → j ≠ 4 → w' 1557 j = w 1557 j) (h0 : w' 1557 0 = 0) (fs : ∀ i : Nat, 8 ≤ i → slc (w' 1559) i = slc (w 1559) i) (ha : ∀ Q, Q ≠ 21 → a' Q = a Q) (hk : okA (a' 21)) (hc : a_m m (a_r 18 :: as) (K0 L, v, G a, t) = some (.inl (some (a_i z)), (K0 L, v', G a', t))) (hm : a_m n (a_r 1557 :: as) (K0 L, w, G a', t) = some (.inl (some (a_i z)), (K0 L, w', G a', t))) : OPc L m n as es c v w a t :=
  OPc_ok (XX_chg h hld hh hS fv fw fj fs ha hk) (fun q hq => fv q (by omega) (by omega)) (fun q hq => fw q (by omega) (by omega) (by omega)) h0 hc hm
/-- what is left after a row was kept, on both sides -/
def KP (c : Int) (v w : Nat → Nat → Int) (a : Nat → Nat → Nat) (v1 w1 : Nat → Nat → Int) : Prop :=
  hisX c v1 w1 a ∧ (∀ q, q ≠ 275 → (q < 277 ∨ 1293 ≤ q) → v1 q = v q) ∧ (∀ q, q ≠ 1557 → q ≠ 1559 → w1 q = w q) ∧ (∀ j, j ≠ 0 → j ≠ 4 → w1 1557 j = w 1557 j) ∧ w1 1557 0 = 0 ∧ (∀ i : Nat, 8 ≤ i → slc (w1 1559) i = slc (w 1559) i) ∧ RS c v1 a 21 (w 1558) ∧ w1 1558 = w 1558
theorem OPc_kp {z : Int} {v1 w1 v2 w2 : Nat → Nat → Int} {a' : Nat → Nat → Nat} (h : XX c v w a) (hld : v 18 8 ≠ 0) (hk : KP c v w a v1 w1) (g1 : ∀ q, (q < 21 ∨ 148 ≤ q) → v2 q = v1 q) (g2 : ∀ q, q ≠ 1558 → w2 q = w1 q) (ha : ∀ Q, Q ≠ 21 → a' Q = a Q) (hS : RS (c + 1) v2 a' 21 (w2 1558)) (hc : a_m m (a_r 18 :: as) (K0 L, v, G a, t) = some (.inl (some (a_i z)), (K0 L, v2, G a', t))) (hm : a_m n (a_r 1557 :: as) (K0 L, w, G a', t) = some (.inl (some (a_i z)), (K0 L, w2, G a', t))) : OPc L m n as es c v w a t := by
  obtain ⟨k1, k2, k3, k4, k5, k6, k7, k8⟩ := hk
  refine OPc_chg h hld (hisX_x k1 (by omega) (g1 _ (by decide)) (fun q q0 _ => g1 q (by omega)) (by rw [g2 _ (by decide)]) (fun i _ => by rw [g2 _ (by decide)]) (fun Q q0 _ => ha Q (by omega))) hS (fun q q1 q2 => by rw [g1 q (by omega), k2 q q1 (by omega)]) (fun q q1 q2 q3 => by rw [g2 q q2, k3 q q1 q3]) (fun j j1 j2 => by rw [g2 _ (by decide), k4 j j1 j2]) (by rw [g2 _ (by decide), k5]) (fun i hi => by rw [g2 _ (by decide), k6 i hi]) ha (Rel_okA hS.1) hc hm
theorem M_shiftU : ∀ (d : Nat) (x : Int) (w : Nat → Nat → Int), 0 ≤ x → x + d = 22960 → ∃ w', (∀ a t, a_X 276 11 [a_r 1557, a_i x] [] (K0 L, w, G a, t) = a_X 276 11 [a_r 1557, a_i 22960] [] (K0 L, w', G a, t)) ∧ (∀ q, q ≠ 1559 → w' q = w q) := by
  intro d
  induction d with
  | zero =>
    intro x w x0 hx
    have : x = 22960 := by omega
    subst this
    exact ⟨w, fun _ _ => rfl, fun _ _ => rfl⟩
  | succ d ih =>
    intro x w x0 hx
    obtain ⟨w', e0, e1⟩ := ih (x + 1) (upm w 1559 x.toNat (w 1559 (x + 3280).toNat)) (by omega) (by omega)
    refine ⟨w', fun a t => ?_, fun q hq => by rw [e1 q hq, upm_rf hq]⟩
    rw [← e0 a t]
    rw [B_X11_keepsAll_11]
    simp (disch := first | assumption | omega) only [k1559, k1560, k1561, k1562, k1563, k1564, k1565, k1566, k1567, g1557_3, g1557_5, g1557_6, g1557_17, g1557_18, g1557_19, g1557_20, g1557_21, g1557_23, B_X11_keepsAll_0, B_X11_keepsAll_72, Option.bind_some, back_v, Option.toList_some, Option.toList_none, List.cons_append, List.nil_append, Nat.reduceAdd, Int.reduceToNat, Int.reduceNeg, upm_eq, upm_r, upm_i, if_pos, if_neg, ite_self, true_or, or_true, true_and, and_true, false_or, or_false, false_and, and_false, wr_id, i10, i01, upr_f, upr_eq, thr58, upm_upr, upr_upr, lc_lt, lc_gt, lc_ge, lc_le, afit1, afit0, afitI, bifit, not_true_eq_false, not_false_eq_true, if_true, if_false, Bool.false_eq_true, reduceCtorEq, k1557, k1558, g1557_2]
theorem M_keepsU {w : Nat → Nat → Int} {n : Int} (h4 : w 1557 4 = n) (hn : 0 ≤ n ∧ n ≤ 8) : ∃ w', ∀ a t, a_m 276 [a_r 1557] (K0 L, w, G a, t) = some (.inl none, (K0 L, w', G a, t)) := by
  by_cases h8 : n = 8
  · obtain ⟨w1, e0, e1⟩ := M_shiftU (L := L) 22960 0 w (by decide) (by decide)
    have hcp := fun a t => M_copies (L := L) (a := a) (t := t) (u := upm w1 1557 4 7) (r := 1558) (q := 1559) (f := 0) (g := 3280 * 7) k1558 k1559 (by decide) (by decide) (by decide)
    rw [upm_rf (by decide), upm_rf (by decide), show (0 : Int).toNat = 0 from rfl, show (3280 * 7 : Int).toNat = 3280 * 7 from rfl, e1 1558 (by decide), show (3280 * 7 : Int) = 22960 from rfl] at hcp
    have n8 : ¬ w 1557 4 ≠ 8 := by omega
    have w14 : w1 1557 4 = 8 := by rw [e1 1557 (by decide)]; omega
    refine ⟨upm (upr (upm w1 1557 4 7) 1559 (a_cpy (w 1558) (w1 1559) 0 (3280 * 7) 3280)) 1557 4 8, fun a t => ?_⟩
    simp (disch := first | assumption | omega) only [k1559, k1560, k1561, k1562, k1563, k1564, k1565, k1566, k1567, g1557_3, g1557_5, g1557_6, g1557_17, g1557_18, g1557_19, g1557_20, g1557_21, g1557_23, E_X11_keepsAll, B_X11_keepsAll_0, B_X11_keepsAll_72, Option.bind_some, back_v, Option.toList_some, Option.toList_none, List.cons_append, List.nil_append, Nat.reduceAdd, Int.reduceToNat, Int.reduceNeg, upm_eq, upm_r, upm_i, if_pos, if_neg, ite_self, true_or, or_true, true_and, and_true, false_or, or_false, false_and, and_false, wr_id, i10, i01, upr_f, upr_eq, thr58, upm_upr, upr_upr, lc_lt, lc_gt, lc_ge, lc_le, afit1, afit0, afitI, bifit, not_true_eq_false, not_false_eq_true, if_true, if_false, Bool.false_eq_true, reduceCtorEq, k1557, k1558, g1557_2, n8, e0]
    rw [B_X11_keepsAll_11]
    simp (disch := first | assumption | omega) only [k1559, k1560, k1561, k1562, k1563, k1564, k1565, k1566, k1567, g1557_3, g1557_5, g1557_6, g1557_17, g1557_18, g1557_19, g1557_20, g1557_21, g1557_23, B_X11_keepsAll_0, B_X11_keepsAll_72, Option.bind_some, back_v, Option.toList_some, Option.toList_none, List.cons_append, List.nil_append, Nat.reduceAdd, Int.reduceToNat, Int.reduceNeg, upm_eq, upm_r, upm_i, if_pos, if_neg, ite_self, true_or, or_true, true_and, and_true, false_or, or_false, false_and, and_false, wr_id, i10, i01, upr_f, upr_eq, thr58, upm_upr, upr_upr, lc_lt, lc_gt, lc_ge, lc_le, afit1, afit0, afitI, bifit, not_true_eq_false, not_false_eq_true, if_true, if_false, Bool.false_eq_true, reduceCtorEq, k1557, k1558, g1557_2, w14, hcp, upr_rf, Int.reduceMul, Int.reduceAdd, Int.reduceSub]
  · have hcp := fun a t => M_copies (L := L) (a := a) (t := t) (u := w) (r := 1558) (q := 1559) (f := 0) (g := 3280 * n) k1558 k1559 (by decide) (by decide) (by omega)
    rw [show (0 : Int).toNat = 0 from rfl, show (3280 * n).toNat = 3280 * n.toNat from by omega] at hcp
    have n8 : n ≠ 8 := h8
    refine ⟨upm (upr w 1559 (a_cpy (w 1558) (w 1559) 0 (3280 * n.toNat) 3280)) 1557 4 (n + 1), fun a t => ?_⟩
    have hz : 0 + n = n := by omega
    simp (disch := first | assumption | omega) only [k1559, k1560, k1561, k1562, k1563, k1564, k1565, k1566, k1567, g1557_3, g1557_5, g1557_6, g1557_17, g1557_18, g1557_19, g1557_20, g1557_21, g1557_23, E_X11_keepsAll, B_X11_keepsAll_0, B_X11_keepsAll_72, Option.bind_some, back_v, Option.toList_some, Option.toList_none, List.cons_append, List.nil_append, Nat.reduceAdd, Int.reduceToNat, Int.reduceNeg, upm_eq, upm_r, upm_i, if_pos, if_neg, ite_self, true_or, or_true, true_and, and_true, false_or, or_false, false_and, and_false, wr_id, i10, i01, upr_f, upr_eq, thr58, upm_upr, upr_upr, lc_lt, lc_gt, lc_ge, lc_le, afit1, afit0, afitI, bifit, not_true_eq_false, not_false_eq_true, if_true, if_false, Bool.false_eq_true, reduceCtorEq, k1557, k1558, g1557_2, h4, n8, hz, hcp, upr_rf]
theorem keepOp (hX : XX c v w a) (hv : v 18 8 ≠ 0) : ∃ v1 w1, KP c v w a v1 w1 ∧ a_m 11 [a_r 275, a_r 21] (K0 L, v, G a, t) = some (.inl none, (K0 L, v1, G a, t)) ∧ ∀ (a : Nat → Nat → Nat) (t : Nat × Nat × Nat), a_m 276 [a_r 1557] (K0 L, upm w 1557 0 0, G a, t) = some (.inl none, (K0 L, w1, G a, t)) := by
  obtain ⟨hw, hS⟩ := XX_ld hX hv
  have h := hX.2.2.1
  have hh : hisX c v (upm w 1557 0 0) a := hisX_w h (upm_i (by decide)) (fun i _ => by rw [upm_rf (by decide)])
  obtain ⟨v1, w1, c0, m0, x1, f1, f2, f3, f4, f5⟩ := keepBoth (L := L) (a := a) (t := t) (c := c) (v := v) (w := upm w 1557 0 0) hh (by rw [upm_rf (by decide)]; exact hS) hX.2.2.2.2.2.2.2.2
  have hS1 : RS c v1 a 21 (w 1558) := RS_out hS (fun q q0 q1 => f1 q (by omega) (by omega))
  obtain ⟨w2, mU⟩ := M_keepsU (L := L) (w := upm w 1557 0 0) (n := w 1557 4) (upm_i (by decide)) h.2.1
  have e := m0.symm.trans (mU a t)
  simp only [Option.some.injEq, Prod.mk.injEq, true_and] at e
  obtain ⟨e, -⟩ := e
  subst e
  exact ⟨v1, w1, ⟨x1, f1, fun q q1 q2 => by rw [f3 q q1 q2, upm_rf q1], fun j j1 j2 => by rw [f4 j j2, upm_i j1], by rw [f4 0 (by decide), upm_eq], fun i hi => by rw [f5 i hi, upm_rf (by decide)], hS1, by rw [f3 _ (by decide) (by decide), upm_rf (by decide)]⟩, c0, mU⟩
/-! ### without the row kept -/
theorem op_append {x1 x2 x3 x4 x5 : Int} : OP L 91 175 [a_i x1, a_i x2, a_i x3, a_i x4, a_i x5] [] := by
  intro c v w a t c0 c1 hX
  have hX0 := hX
  obtain ⟨y1, y2, y3, y4, ⟨y5, y5'⟩, y6, y7, y8, y9⟩ := hX
  obtain ⟨z, v', w', g1, g2, g3, f1, f2, f3, f4, f5⟩ := appendBoth (L := L) (a := a) (t := t) (x1 := x1) (x2 := x2) (x3 := x3) (x4 := x4) (x5 := x5) y1
  refine OPc_ok (v' := v') (w' := w') (a' := a) ⟨g3, TX_x y2 (f1 _ (by decide) (by decide)) (f1 _ (by decide) (by decide)) (f4 _ (by decide) (by decide)) (f3 _ (by decide) (by decide)), hisX_x y3 (by omega) (f1 _ (by decide) (by decide)) (fun q q0 _ => f1 q (by omega) (by omega)) (f4 _ (by decide) (by decide)) (fun i _ => by rw [f3 _ (by decide) (by decide)]) (fun _ _ _ => rfl), savX_x y4 (by omega) (f1 _ (by decide) (by decide)) (fun q q0 _ => f1 q (by omega) (by omega)) (f3 _ (by decide) (by decide)) (fun i _ _ => by rw [f3 _ (by decide) (by decide)]) (fun _ _ _ => rfl), ?_, ?_, ?_, ?_, y9⟩ (fun q hq => f1 q (by omega) (by omega)) (fun q hq => f3 q (by omega) (by omega)) f5 g1 g2
  · rw [f1 18 (by decide) (by decide), f4 1 (by decide) (by decide)]; exact ⟨y5, y5'⟩
  · rw [f1 18 (by decide) (by decide), f3 1558 (by decide) (by decide)]
    exact fun h => RS_le (RS_out (y6 h) (fun q q0 _ => f1 q (by omega) (by omega))) (by omega)
  · rw [f1 18 (by decide) (by decide), f1 1294 (by decide) (by decide), f4 4 (by decide) (by decide)]; exact y7
  · rw [f3 1558 (by decide) (by decide), f3 1562 (by decide) (by decide)]; exact y8
theorem op_load {x : Int} : OP L 92 191 [a_i x] eL := by
  intro c v w a t c0 c1 hX
  have hX0 := hX
  obtain ⟨y1, y2, y3, y4, ⟨y5, y5'⟩, y6, y7, y8, y9⟩ := hX
  by_cases hb : x < 0 ∨ v 19 1 < x
  · exact OPc_bad (e := 2) (z := 0) (cd := 1) hX0 (by decide) (C_load_bad hb) (M_load_bad (by have := y1.1; omega))
  · obtain ⟨v', w', g1, f1, f2, f3, f4, f5, f6, hor⟩ := loadBoth (L := L) (a := a) (t := t) (len := x) y1 (by omega) y8.1 y8.2 (y9 21 (.inl rfl)) (y9 148 (.inr (.inl rfl)))
    have hT : TX v' w' := TX_x y2 (f1 _ (by decide) (by decide) (by decide) (by decide) (by decide)) (f1 _ (by decide) (by decide) (by decide) (by decide) (by decide)) (f4 _ (by decide) (by decide) (by decide) (by decide)) (f2 _ (by decide) (by decide) (by decide) (by decide))
    have fv : ∀ q, (q < 18 ∨ 1557 ≤ q) → v' q = v q := fun q hq => f1 q (by omega) (by omega) (by omega) (by omega) (by omega)
    have fw : ∀ q, (q < 1557 ∨ 1567 < q) → w' q = w q := fun q hq => f2 q (by omega) (by omega) (by omega) (by omega)
    rcases hor with ⟨z, o1, o2, o3, o4, o5, o6, o7, o8, o9, ⟨p1, p2⟩, p3, p4, ⟨p5, p6⟩, p7, p8⟩ | ⟨o1, o2, o3, o4, o5, o6, o7, o8⟩
    · refine OPc_ok (v' := v') (w' := w') (a' := a) ⟨g1, hT, ⟨by rw [p3, p4], by rw [p4]; decide, by rw [f6 1 (by decide)]; exact y3.2.2.1, fun i hi => by rw [p4] at hi; omega⟩, fun j hj => ?_, ⟨by rw [o4, o5], .inr o4⟩, fun _ => ⟨o6, MI_le o7 (by omega), o8, o9, by rw [p1]; exact ⟨by decide, by decide⟩, by rw [p2]; decide⟩, fun h => absurd (h.symm.trans o4) (by decide), ⟨o9, f3⟩, y9⟩ fv fw o3 o1 o2
      have : j = 0 ∨ j = 1 := by omega
      rcases this with rfl | rfl
      · exact ⟨by rw [p5, p7], .inl p5, fun h => absurd (p5.symm.trans h) (by decide)⟩
      · exact ⟨by rw [p6, p8], .inl p6, fun h => absurd (p6.symm.trans h) (by decide)⟩
    · have w9 : w' 1559 = w 1559 := f2 _ (by decide) (by decide) (by decide) (by decide)
      refine ⟨v', w', a, ⟨g1, hT, hisX_x y3 (by omega) (o4 _ (by decide) (by decide)) (fun q q0 _ => o4 q (by omega) (by omega)) o8 (fun i _ => by rw [w9]) (fun _ _ _ => rfl), savX_x y4 (by omega) (o4 _ (by decide) (by decide)) (fun q q0 _ => o4 q (by omega) (by omega)) o6 (fun i _ _ => by rw [w9]) (fun _ _ _ => rfl), ?_, ?_, ?_, ⟨by rw [o5]; exact y8.1, f3⟩, y9⟩, fv, fw, .inr ⟨3, 0, by rw [o3]; decide, o1, o2⟩⟩
      · rw [o4 18 (by decide) (by decide), o7]; exact ⟨y5, y5'⟩
      · rw [o4 18 (by decide) (by decide), o5]
        exact fun h => RS_le (RS_out (y6 h) (fun q q0 _ => o4 q (by omega) (by omega))) (by omega)
      · rw [o4 18 (by decide) (by decide), o4 1294 (by decide) (by decide), o8]; exact y7
theorem op_undo : OP L 140 291 [] e1 := by
  intro c v w a t c0 c1 hX
  rcases undoBoth (L := L) (a := a) (t := t) hX.2.2.1 hX.2.2.2.2.2.2.2.1.1 (hX.2.2.2.2.2.2.2.2 21 (.inl rfl)) with ⟨h0, o1, o2⟩ | ⟨h0, v', w', z, o1, o2, o3, o4, f1, f2, f3, f4, f5⟩
  · exact OPc_bad (e := 1) (z := 0) (cd := 1) hX (by decide) o1 o2
  · have hv : v 18 8 ≠ 0 := fun h => by have := (hX.2.2.2.2.2.2.1 h).1; omega
    exact OPc_chg hX hv (hisX_le o3 (by omega)) (RS_le o4 (by omega)) (fun q q1 q2 => f1 q q1 (by omega)) (fun q q1 q2 q3 => f3 q q1 q2) f4 f5 (fun i _ => by rw [f3 _ (by decide) (by decide)]) (fun _ _ => rfl) (hX.2.2.2.2.2.2.2.2 21 (.inl rfl)) o1 o2
theorem op_save {x : Int} : OP L 142 293 [a_i x] e2 := by
  intro c v w a t c0 c1 hX
  have hX0 := hX
  by_cases hv : v 18 8 = 0
  · obtain ⟨o1, o2⟩ := save_bad0 (L := L) (a := a) (t := t) (x := x) hv (XX_ld0 hX hv)
    exact OPc_bad (e := 1) (z := 0) (cd := 1) hX (by decide) o1 o2
  obtain ⟨hw, hS⟩ := XX_ld hX hv
  by_cases hx : x < 0 ∨ 2 ≤ x
  · obtain ⟨o1, o2⟩ := save_bad1 (L := L) (a := a) (t := t) (x := x) hv hw hx
    exact OPc_bad (e := 2) (z := 0) (cd := 2) hX (by decide) o1 o2
  obtain ⟨n, rfl⟩ := Int.eq_ofNat_of_zero_le (show 0 ≤ x by omega)
  obtain ⟨y1, y2, y3, y4, ⟨y5, y5'⟩, y6, y7, y8, y9⟩ := hX
  obtain ⟨v', w', z, o1, o2, o3, f1, f2, f3, f4, f5, f6⟩ := saveBoth (L := L) (a := a) (t := t) (x := n) hv hw (by omega) y4 hS y9
  refine OPc_ok (v' := v') (w' := w') (a' := a) ⟨XR_x y1 (fun q q0 _ => f1 q (by omega) (by omega)) (fun q hq => f3 q (by omega) (by omega) (by omega)) (fun j j0 j1 => f4 j (by omega)), TX_x y2 (f1 _ (by decide) (by decide)) (f1 _ (by decide) (by decide)) (f4 _ (by decide)) (f3 _ (by decide) (by decide) (by decide)), hisX_x y3 (by omega) (f1 _ (by decide) (by decide)) (fun q q0 q1 => f1 q (by omega) (by omega)) (f4 _ (by decide)) f6 (fun _ _ _ => rfl), savX_le o3 (by omega), ?_, ?_, ?_, ?_, y9⟩ (fun q hq => hq.elim (fun h => f1 q (by omega) (by omega)) (fun h => f2 q h)) (fun q hq => f3 q (by omega) (by omega) (by omega)) f5 o1 o2
  · rw [f1 18 (by decide) (by decide), f4 1 (by decide)]; exact ⟨y5, y5'⟩
  · rw [f1 18 (by decide) (by decide), f3 1558 (by decide) (by decide) (by decide)]
    exact fun h => RS_le (RS_out (y6 h) (fun q q0 _ => f1 q (by omega) (by omega))) (by omega)
  · rw [f1 18 (by decide) (by decide)]; exact fun h => absurd h hv
  · rw [f3 1558 (by decide) (by decide) (by decide), f3 1562 (by decide) (by decide) (by decide)]; exact y8
theorem op_restore {x : Int} : OP L 143 294 [a_i x] eR := by
  intro c v w a t c0 c1 hX
  by_cases hx : x < 0 ∨ 2 ≤ x
  · obtain ⟨o1, o2⟩ := restore_bad0 (L := L) (a := a) (t := t) (v := v) (w := w) (x := x) hx
    exact OPc_bad (e := 2) (z := 0) (cd := 1) hX (by decide) o1 o2
  obtain ⟨n, rfl⟩ := Int.eq_ofNat_of_zero_le (show 0 ≤ x by omega)
  obtain ⟨b1, b2, b3⟩ := hX.2.2.2.1 n (by omega)
  by_cases h1 : v 1294 n = 0
  · obtain ⟨o1, o2⟩ := restore_bad1 (L := L) (a := a) (t := t) (w := w) (x := n) (by omega) h1 (by omega)
    exact OPc_bad (e := 1) (z := 0) (cd := 2) hX (by decide) o1 o2
  have hv : v 18 8 ≠ 0 := fun h => by
    have h9 := (hX.2.2.2.2.2.2.1 h).2
    have : n = 0 ∨ n = 1 := by omega
    rcases this with rfl | rfl
    · exact h1 h9.1
    · exact h1 h9.2
  obtain ⟨v', w', z, o1, o2, o3, o4, o5, f1, f2, f3, f4, f5⟩ := restoreBoth (L := L) (a := a) (t := t) (x := n) (by omega) hX.2.2.2.1 (by omega) hX.2.2.2.2.2.2.2.1.1 (hX.2.2.2.2.2.2.2.2 21 (.inl rfl))
  exact OPc_chg hX hv ⟨by rw [o4, o5], by rw [o5]; decide, by rw [f2 1 (by decide)]; exact hX.2.2.1.2.2.1, fun i hi => by rw [o5] at hi; omega⟩ (RS_le o3 (by omega)) (fun q q1 q2 => f1 q q1 (by omega)) (fun q q1 q2 q3 => f3 q q1 q2) f4 f5 (fun i _ => by rw [f3 _ (by decide) (by decide)]) (fun _ _ => rfl) (hX.2.2.2.2.2.2.2.2 21 (.inl rfl)) o1 o2
theorem op_setPeriod {x : Int} : OP L 138 289 [a_i x] eA := by
  intro c v w a t c0 c1 hX
  have be := fun pc len e ls st σ => pub_e (m := 138) (pc := pc) (len := len) (e := e) (ls := ls) (st := st) (σ := σ) (by decide)
  by_cases hv : v 18 8 = 0
  · have hw := XX_ld0 hX hv
    have cn := C_need_bad (L := L) (a := a) (t := t) hv
    have mn := M_notLoaded0 (L := L) (a := a) (t := t) (u := w) hw
    exact OPc_bad (e := 1) (z := 0) (cd := 1) hX (by decide) (by simp (disch := first | assumption | omega) only [k18, g18_0, g18_1, g18_2, g18_3, g18_4, g18_5, g18_6, g18_7, E_X10_setPeriod, B_X10_setPeriod_0, B_X10_setPeriod_4, B_X10_setPeriod_12, B_X10_setPeriod_23, Option.bind_some, back_v, Option.toList_some, Option.toList_none, List.cons_append, List.nil_append, Nat.reduceAdd, Int.reduceToNat, Int.reduceNeg, upm_eq, upm_r, upm_i, if_pos, if_neg, ite_self, true_or, or_true, true_and, and_true, false_or, or_false, false_and, and_false, wr_id, i10, i01, upr_f, upr_eq, thr58, upm_upr, upr_upr, lc_lt, lc_gt, lc_ge, lc_le, afit1, afit0, afitI, bifit, not_true_eq_false, not_false_eq_true, if_true, if_false, Bool.false_eq_true, reduceCtorEq, k1557, k1558, g1557_2, cn, be]) (by simp (disch := first | assumption | omega) only [E_X11_setPeriod, B_X11_setPeriod_0, B_X11_setPeriod_4, B_X11_setPeriod_17, B_X11_setPeriod_29, B_X11_setPeriod_38, Option.bind_some, back_v, Option.toList_some, Option.toList_none, List.cons_append, List.nil_append, Nat.reduceAdd, Int.reduceToNat, Int.reduceNeg, upm_eq, upm_r, upm_i, if_pos, if_neg, ite_self, true_or, or_true, true_and, and_true, false_or, or_false, false_and, and_false, wr_id, i10, i01, upr_f, upr_eq, thr58, upm_upr, upr_upr, lc_lt, lc_gt, lc_ge, lc_le, afit1, afit0, afitI, bifit, not_true_eq_false, not_false_eq_true, if_true, if_false, Bool.false_eq_true, reduceCtorEq, k1557, k1558, g1557_2, mn])
  obtain ⟨hw, hS⟩ := XX_ld hX hv
  obtain ⟨⟨n3, n3a, n3b⟩, ⟨n2, n2a, n2b⟩, ⟨n4, n4a, n4b⟩, ⟨n1, n1a, n1b⟩, ⟨n0, n0a, n0b⟩, n5, n6⟩ := RS_n hS
  have hR : isRad 21 := .inl rfl
  have hM := hS.2.1
  have hW : upm w 1557 0 0 1558 = w 1558 := upm_rf (by decide)
  have cn := C_need (L := L) (a := a) (t := t) hv
  have mnA := fun aa : Nat → Nat → Nat => M_notLoaded1 (L := L) (a := aa) (t := t) (u := w) hw
  have mn := mnA a
  by_cases hb1 : x < 0 ∨ 99 < x
  · have cb1 := C_needB_bad (L := L) (a := a) (t := t) (v := v) (x := x) (lo := 0) (hi := 99) hb1
    have ib1 : inB x 0 99 = false := inB_f hb1
    have rb1 := M_refuse1 (L := L) (u := w) (a := a) (t := t) (c := 2) (by decide)
    exact OPc_bad (e := 3) (z := 0) (cd := 2) hX (by decide) (by simp (disch := first | assumption | omega) only [k18, g18_0, g18_1, g18_2, g18_3, g18_4, g18_5, g18_6, g18_7, E_X10_setPeriod, B_X10_setPeriod_0, B_X10_setPeriod_4, B_X10_setPeriod_12, B_X10_setPeriod_23, Option.bind_some, back_v, Option.toList_some, Option.toList_none, List.cons_append, List.nil_append, Nat.reduceAdd, Int.reduceToNat, Int.reduceNeg, upm_eq, upm_r, upm_i, if_pos, if_neg, ite_self, true_or, or_true, true_and, and_true, false_or, or_false, false_and, and_false, wr_id, i10, i01, upr_f, upr_eq, thr58, upm_upr, upr_upr, lc_lt, lc_gt, lc_ge, lc_le, afit1, afit0, afitI, bifit, not_true_eq_false, not_false_eq_true, if_true, if_false, Bool.false_eq_true, reduceCtorEq, k1557, k1558, g1557_2, cn, cb1, be]) (by simp (disch := first | assumption | omega) only [E_X11_setPeriod, B_X11_setPeriod_0, B_X11_setPeriod_4, B_X11_setPeriod_17, B_X11_setPeriod_29, B_X11_setPeriod_38, Option.bind_some, back_v, Option.toList_some, Option.toList_none, List.cons_append, List.nil_append, Nat.reduceAdd, Int.reduceToNat, Int.reduceNeg, upm_eq, upm_r, upm_i, if_pos, if_neg, ite_self, true_or, or_true, true_and, and_true, false_or, or_false, false_and, and_false, wr_id, i10, i01, upr_f, upr_eq, thr58, upm_upr, upr_upr, lc_lt, lc_gt, lc_ge, lc_le, afit1, afit0, afitI, bifit, not_true_eq_false, not_false_eq_true, if_true, if_false, Bool.false_eq_true, reduceCtorEq, k1557, k1558, g1557_2, mn, M_in, M_isSlot, M_isDay, bi_t, ib1, bi_f, rb1])
  have cb1 := C_needB (L := L) (a := a) (t := t) (v := v) (x := x) (lo := 0) (hi := 99) (by omega)
  have ib1 : inB x 0 99 = true := inB_t (by omega) (by omega)
  have rb1 := M_refuse0 (L := L) (u := w) (a := a) (t := t) (c := 2)
  obtain ⟨C, hC⟩ := hS.1
  obtain ⟨v', w', y, g1, g2, g3, g4, f1, f2, f3, f4, f5, f6⟩ := setPeriodBoth (L := L) (t := t) (x := x) hv hw (by omega) hX.2.2.1 hS hX.2.2.2.2.2.2.2.2
  exact OPc_chg hX hv (hisX_le g3 (by omega)) (RS_le g4 (by omega)) f1 f3 f4 f5 f6 (fun _ _ => rfl) (hX.2.2.2.2.2.2.2.2 21 (.inl rfl)) g1 g2
theorem op_setDelay {l x : Int} : OP L 137 288 [a_i l, a_i x] e3 := by
  intro c v w a t c0 c1 hX
  have be := fun pc len e ls st σ => pub_e (m := 137) (pc := pc) (len := len) (e := e) (ls := ls) (st := st) (σ := σ) (by decide)
  by_cases hv : v 18 8 = 0
  · have hw := XX_ld0 hX hv
    have cn := C_need_bad (L := L) (a := a) (t := t) hv
    have mn := M_noListener0 (L := L) (a := a) (t := t) (u := w) (l := l) hw
    exact OPc_bad (e := 1) (z := 0) (cd := 1) hX (by decide) (by simp (disch := first | assumption | omega) only [k18, g18_0, g18_1, g18_2, g18_3, g18_4, g18_5, g18_6, g18_7, E_X10_setDelay, B_X10_setDelay_0, B_X10_setDelay_4, B_X10_setDelay_9, B_X10_setDelay_17, B_X10_setDelay_28, Option.bind_some, back_v, Option.toList_some, Option.toList_none, List.cons_append, List.nil_append, Nat.reduceAdd, Int.reduceToNat, Int.reduceNeg, upm_eq, upm_r, upm_i, if_pos, if_neg, ite_self, true_or, or_true, true_and, and_true, false_or, or_false, false_and, and_false, wr_id, i10, i01, upr_f, upr_eq, thr58, upm_upr, upr_upr, lc_lt, lc_gt, lc_ge, lc_le, afit1, afit0, afitI, bifit, not_true_eq_false, not_false_eq_true, if_true, if_false, Bool.false_eq_true, reduceCtorEq, k1557, k1558, g1557_2, cn, be]) (by simp (disch := first | assumption | omega) only [E_X11_setDelay, B_X11_setDelay_0, B_X11_setDelay_5, B_X11_setDelay_18, B_X11_setDelay_30, B_X11_setDelay_39, B_X11_setDelay_45, B_X11_setDelay_53, Option.bind_some, back_v, Option.toList_some, Option.toList_none, List.cons_append, List.nil_append, Nat.reduceAdd, Int.reduceToNat, Int.reduceNeg, upm_eq, upm_r, upm_i, if_pos, if_neg, ite_self, true_or, or_true, true_and, and_true, false_or, or_false, false_and, and_false, wr_id, i10, i01, upr_f, upr_eq, thr58, upm_upr, upr_upr, lc_lt, lc_gt, lc_ge, lc_le, afit1, afit0, afitI, bifit, not_true_eq_false, not_false_eq_true, if_true, if_false, Bool.false_eq_true, reduceCtorEq, k1557, k1558, g1557_2, mn])
  obtain ⟨hw, hS⟩ := XX_ld hX hv
  obtain ⟨⟨n3, n3a, n3b⟩, ⟨n2, n2a, n2b⟩, ⟨n4, n4a, n4b⟩, ⟨n1, n1a, n1b⟩, ⟨n0, n0a, n0b⟩, n5, n6⟩ := RS_n hS
  have hR : isRad 21 := .inl rfl
  have hM := hS.2.1
  have hW : upm w 1557 0 0 1558 = w 1558 := upm_rf (by decide)
  have cn := C_need (L := L) (a := a) (t := t) hv
  by_cases hl : l < 0 ∨ w 1558 3 ≤ l
  · have cl := C_needL_bad (L := L) (a := a) (t := t) (v := v) (l := l) (by omega)
    have mn := M_noListener2 (L := L) (a := a) (t := t) (u := w) (l := l) hw (by omega) (inB_f (by omega))
    exact OPc_bad (e := 2) (z := 0) (cd := 2) hX (by decide) (by simp (disch := first | assumption | omega) only [k18, g18_0, g18_1, g18_2, g18_3, g18_4, g18_5, g18_6, g18_7, E_X10_setDelay, B_X10_setDelay_0, B_X10_setDelay_4, B_X10_setDelay_9, B_X10_setDelay_17, B_X10_setDelay_28, Option.bind_some, back_v, Option.toList_some, Option.toList_none, List.cons_append, List.nil_append, Nat.reduceAdd, Int.reduceToNat, Int.reduceNeg, upm_eq, upm_r, upm_i, if_pos, if_neg, ite_self, true_or, or_true, true_and, and_true, false_or, or_false, false_and, and_false, wr_id, i10, i01, upr_f, upr_eq, thr58, upm_upr, upr_upr, lc_lt, lc_gt, lc_ge, lc_le, afit1, afit0, afitI, bifit, not_true_eq_false, not_false_eq_true, if_true, if_false, Bool.false_eq_true, reduceCtorEq, k1557, k1558, g1557_2, cn, cl, be]) (by simp (disch := first | assumption | omega) only [E_X11_setDelay, B_X11_setDelay_0, B_X11_setDelay_5, B_X11_setDelay_18, B_X11_setDelay_30, B_X11_setDelay_39, B_X11_setDelay_45, B_X11_setDelay_53, Option.bind_some, back_v, Option.toList_some, Option.toList_none, List.cons_append, List.nil_append, Nat.reduceAdd, Int.reduceToNat, Int.reduceNeg, upm_eq, upm_r, upm_i, if_pos, if_neg, ite_self, true_or, or_true, true_and, and_true, false_or, or_false, false_and, and_false, wr_id, i10, i01, upr_f, upr_eq, thr58, upm_upr, upr_upr, lc_lt, lc_gt, lc_ge, lc_le, afit1, afit0, afitI, bifit, not_true_eq_false, not_false_eq_true, if_true, if_false, Bool.false_eq_true, reduceCtorEq, k1557, k1558, g1557_2, mn])
  have hl2 : 0 ≤ l ∧ l < w 1558 3 := by omega
  have cl := C_needL (L := L) (a := a) (t := t) (v := v) (l := l) (by omega)
  have mnA := fun aa : Nat → Nat → Nat => M_noListener (L := L) (a := aa) (t := t) (u := w) (l := l) hw (by omega) (inB_t (by omega) (by omega))
  have mn := mnA a
  by_cases hb1 : x < 0 ∨ 9 < x
  · have cb1 := C_needB_bad (L := L) (a := a) (t := t) (v := v) (x := x) (lo := 0) (hi := 9) hb1
    have ib1 : inB x 0 9 = false := inB_f hb1
    have rb1 := M_refuse1 (L := L) (u := w) (a := a) (t := t) (c := 3) (by decide)
    exact OPc_bad (e := 3) (z := 0) (cd := 3) hX (by decide) (by simp (disch := first | assumption | omega) only [k18, g18_0, g18_1, g18_2, g18_3, g18_4, g18_5, g18_6, g18_7, E_X10_setDelay, B_X10_setDelay_0, B_X10_setDelay_4, B_X10_setDelay_9, B_X10_setDelay_17, B_X10_setDelay_28, Option.bind_some, back_v, Option.toList_some, Option.toList_none, List.cons_append, List.nil_append, Nat.reduceAdd, Int.reduceToNat, Int.reduceNeg, upm_eq, upm_r, upm_i, if_pos, if_neg, ite_self, true_or, or_true, true_and, and_true, false_or, or_false, false_and, and_false, wr_id, i10, i01, upr_f, upr_eq, thr58, upm_upr, upr_upr, lc_lt, lc_gt, lc_ge, lc_le, afit1, afit0, afitI, bifit, not_true_eq_false, not_false_eq_true, if_true, if_false, Bool.false_eq_true, reduceCtorEq, k1557, k1558, g1557_2, cn, cl, cb1, be]) (by simp (disch := first | assumption | omega) only [E_X11_setDelay, B_X11_setDelay_0, B_X11_setDelay_5, B_X11_setDelay_18, B_X11_setDelay_30, B_X11_setDelay_39, B_X11_setDelay_45, B_X11_setDelay_53, Option.bind_some, back_v, Option.toList_some, Option.toList_none, List.cons_append, List.nil_append, Nat.reduceAdd, Int.reduceToNat, Int.reduceNeg, upm_eq, upm_r, upm_i, if_pos, if_neg, ite_self, true_or, or_true, true_and, and_true, false_or, or_false, false_and, and_false, wr_id, i10, i01, upr_f, upr_eq, thr58, upm_upr, upr_upr, lc_lt, lc_gt, lc_ge, lc_le, afit1, afit0, afitI, bifit, not_true_eq_false, not_false_eq_true, if_true, if_false, Bool.false_eq_true, reduceCtorEq, k1557, k1558, g1557_2, mn, M_in, M_isSlot, M_isDay, bi_t, ib1, bi_f, rb1])
  have cb1 := C_needB (L := L) (a := a) (t := t) (v := v) (x := x) (lo := 0) (hi := 9) (by omega)
  have ib1 : inB x 0 9 = true := inB_t (by omega) (by omega)
  have rb1 := M_refuse0 (L := L) (u := w) (a := a) (t := t) (c := 3)
  obtain ⟨C, hC⟩ := hS.1
  obtain ⟨n, rfl⟩ := Int.eq_ofNat_of_zero_le hl2.1
  obtain ⟨v', w', y, g1, g2, g3, g4, f1, f2, f3, f4, f5, f6⟩ := setDelayBoth (L := L) (t := t) (n := n) (x := x) hv hw hl2.2 (by omega) hX.2.2.1 hS hX.2.2.2.2.2.2.2.2
  exact OPc_chg hX hv (hisX_le g3 (by omega)) (RS_le g4 (by omega)) f1 f3 f4 f5 f6 (fun _ _ => rfl) (hX.2.2.2.2.2.2.2.2 21 (.inl rfl)) g1 g2
end CHG
