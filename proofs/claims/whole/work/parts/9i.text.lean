/-! ===== texts: lists of signs ===== -/
def tx (f : Nat → Int) (n : Int) (T : List Int) : Prop := n = T.length ∧ ∀ i, i < T.length → T[i]? = some (f i)
theorem tx_put {f : Nat → Int} {n : Int} {T : List Int} {c : Int} (h : tx f n T) : tx (up1 f n.toNat c) (n + 1) (T ++ [c]) := by
  obtain ⟨h1, h2⟩ := h
  subst h1
  refine ⟨by rw [List.length_append, List.length_singleton]; omega, fun i hi => ?_⟩
  rw [List.length_append, List.length_singleton] at hi
  have tn : ((T.length : Int)).toNat = T.length := by omega
  rw [tn]
  by_cases hc : i = T.length
  · subst hc
    rw [up1_eq, List.getElem?_append_right (Nat.le_refl _), Nat.sub_self]
    rfl
  · rw [up1_ne hc, List.getElem?_append_left (by omega)]
    exact h2 i (by omega)
theorem tx_nil {f : Nat → Int} : tx f 0 [] := ⟨rfl, fun i hi => absurd hi (Nat.not_lt_zero _)⟩
def tC (v0 : Nat → Nat → Int) (T : List Int) (v : Nat → Nat → Int) : Prop := (∀ q, q ≠ 1301 → q ≠ 1302 → v q = v0 q) ∧ tx (v 1302) (v 1301 1) T
def tM (w0 : Nat → Nat → Int) (T : List Int) (w : Nat → Nat → Int) : Prop := (∀ q, q ≠ 1557 → q ≠ 1567 → w q = w0 q) ∧ (∀ j, j ≠ 24 → w 1557 j = w0 1557 j) ∧ tx (w 1567) (w 1557 24) T
def dgt (n u : Int) : Int := wr (48 + Int.tmod (wr (Int.tdiv n u)) 10)
def dg (n u : Int) : List Int := if u ≤ n ∨ u = 1 then [dgt n u] else []
def dig (n : Int) : List Int := dg n 1000 ++ (dg n 100 ++ (dg n 10 ++ dg n 1))
theorem dg_le {n u : Int} : (dg n u).length ≤ 1 := by unfold dg; split <;> simp
theorem dg_no {n u : Int} (h : n < u) (h1 : u ≠ 1) : dg n u = [] := by unfold dg; rw [if_neg (by omega)]
theorem dig_le4 {n : Int} : (dig n).length ≤ 4 := by
  have h1 := dg_le (n := n) (u := 1000)
  have h2 := dg_le (n := n) (u := 100)
  have h3 := dg_le (n := n) (u := 10)
  have h4 := dg_le (n := n) (u := 1)
  unfold dig
  rw [List.length_append, List.length_append, List.length_append]
  omega
theorem dig_le2 {n : Int} (h : n ≤ 99) : (dig n).length ≤ 2 := by
  have h3 := dg_le (n := n) (u := 10)
  have h4 := dg_le (n := n) (u := 1)
  unfold dig
  rw [dg_no (u := 1000) (by omega) (by decide), dg_no (u := 100) (by omega) (by decide), List.nil_append, List.nil_append, List.length_append]
  omega
section TXT
variable {L : Nat} {a : Nat → Nat → Nat} {t : Nat × Nat × Nat} {v0 w0 v w : Nat → Nat → Int} {T : List Int}
theorem C_put {x : Int} (h : tC v0 T v) (hl : T.length < 256) : ∃ v', a_m 75 [a_r 1301, a_i x] (K0 L, v, G a, t) = some (.inl none, (K0 L, v', G a, t)) ∧ tC v0 (T ++ [x]) v' := by
  obtain ⟨h1, h2⟩ := h
  have hn := h2.1
  have e1 : ¬ v 1301 1 ≥ 256 := by omega
  have e2 : 0 ≤ v 1301 1 := by omega
  have e3 : v 1301 1 < ((256 : Nat) : Int) := by omega
  have wz : wr (v 1301 1 + 1) = v 1301 1 + 1 := wr_id (by omega) (by omega)
  refine ⟨upm (upm v 1302 (v 1301 1).toNat x) 1301 1 (v 1301 1 + 1), ?_, fun q q1 q2 => ?_, ?_⟩
  · simp (disch := first | assumption | omega) only [k1301, k1302, g1301_0, E_X7_put, B_X7_put_0, Option.bind_some, back_v, Option.toList_some, Option.toList_none, List.cons_append, List.nil_append, Nat.reduceAdd, Int.reduceToNat, Int.reduceNeg, upm_eq, upm_r, upm_i, if_pos, if_neg, ite_self, true_or, or_true, true_and, and_true, false_or, or_false, false_and, and_false, wr_id, i10, i01, upr_f, upr_eq, thr58, upm_upr, upr_upr, lc_lt, lc_gt, lc_ge, lc_le, afit1, afit0, afitI, bifit, not_true_eq_false, not_false_eq_true, if_true, if_false, Bool.false_eq_true, reduceCtorEq, k1557, k1558, g1557_2, e1, e2, e3, wz]
  · rw [upm_rf q1, upm_rf q2, h1 q q1 q2]
  · rw [upm_eq, upm_rf (by decide), upm_up1, upr_f]; exact tx_put h2
theorem M_says {x : Int} (h : tM w0 T w) (hl : T.length < 400) : ∃ w', a_m 271 [a_r 1557, a_i x] (K0 L, w, G a, t) = some (.inl none, (K0 L, w', G a, t)) ∧ tM w0 (T ++ [x]) w' := by
  obtain ⟨h1, h3, h2⟩ := h
  have hn := h2.1
  have e2 : 0 ≤ w 1557 24 := by omega
  have e3 : w 1557 24 < ((400 : Nat) : Int) := by omega
  have wz : wr (w 1557 24 + 1) = w 1557 24 + 1 := wr_id (by omega) (by omega)
  refine ⟨upm (upm w 1567 (w 1557 24).toNat x) 1557 24 (w 1557 24 + 1), ?_, fun q q1 q2 => ?_, fun j hj => ?_, ?_⟩
  · simp (disch := first | assumption | omega) only [k1559, k1560, k1561, k1562, k1563, k1564, k1565, k1566, k1567, g1557_3, g1557_5, g1557_6, g1557_17, g1557_18, g1557_19, g1557_20, g1557_21, g1557_23, E_X11_says, B_X11_says_0, Option.bind_some, back_v, Option.toList_some, Option.toList_none, List.cons_append, List.nil_append, Nat.reduceAdd, Int.reduceToNat, Int.reduceNeg, upm_eq, upm_r, upm_i, if_pos, if_neg, ite_self, true_or, or_true, true_and, and_true, false_or, or_false, false_and, and_false, wr_id, i10, i01, upr_f, upr_eq, thr58, upm_upr, upr_upr, lc_lt, lc_gt, lc_ge, lc_le, afit1, afit0, afitI, bifit, not_true_eq_false, not_false_eq_true, if_true, if_false, Bool.false_eq_true, reduceCtorEq, k1557, k1558, g1557_2, e2, e3, wz]
  · rw [upm_rf q1, upm_rf q2, h1 q q1 q2]
  · rw [upm_i hj, upm_r (by decide), h3 j hj]
  · rw [upm_eq, upm_rf (by decide), upm_up1, upr_f]; exact tx_put h2
theorem C_pn {n u : Int} (h : tC v0 T v) (hl : T.length + (dg n u).length ≤ 256) (hu : 0 < u) : ∃ v', a_X 76 4 [a_r 1301, a_i n, a_i u] [] (K0 L, v, G a, t) = a_X 76 4 [a_r 1301, a_i n, a_i (wr (Int.tdiv u 10))] [] (K0 L, v', G a, t) ∧ tC v0 (T ++ dg n u) v' := by
  have u0 : ¬ u ≤ 0 := by omega
  have u1 : u ≠ 0 := by omega
  have t10 : (10 : Int) ≠ 0 := by decide
  by_cases hd : u ≤ n ∨ u = 1
  · have ed : dg n u = [dgt n u] := by unfold dg; rw [if_pos hd]
    rw [ed] at hl ⊢
    obtain ⟨v', g1, g2⟩ := C_put (L := L) (a := a) (t := t) (x := dgt n u) h (by simp only [List.length_singleton] at hl; omega)
    unfold dgt at g1
    refine ⟨v', ?_, g2⟩
    rw [B_X7_putNumber_4]
    by_cases h1 : n ≥ u
    · simp (disch := first | assumption | omega) only [k1301, k1302, g1301_0, B_X7_putNumber_0, B_X7_putNumber_31, Option.bind_some, back_v, Option.toList_some, Option.toList_none, List.cons_append, List.nil_append, Nat.reduceAdd, Int.reduceToNat, Int.reduceNeg, upm_eq, upm_r, upm_i, if_pos, if_neg, ite_self, true_or, or_true, true_and, and_true, false_or, or_false, false_and, and_false, wr_id, i10, i01, upr_f, upr_eq, thr58, upm_upr, upr_upr, lc_lt, lc_gt, lc_ge, lc_le, afit1, afit0, afitI, bifit, not_true_eq_false, not_false_eq_true, if_true, if_false, Bool.false_eq_true, reduceCtorEq, k1557, k1558, g1557_2, u0, u1, h1, g1, t10]
    · have h2 : u = 1 := by omega
      subst h2
      simp (disch := first | assumption | omega) only [k1301, k1302, g1301_0, B_X7_putNumber_0, B_X7_putNumber_31, Option.bind_some, back_v, Option.toList_some, Option.toList_none, List.cons_append, List.nil_append, Nat.reduceAdd, Int.reduceToNat, Int.reduceNeg, upm_eq, upm_r, upm_i, if_pos, if_neg, ite_self, true_or, or_true, true_and, and_true, false_or, or_false, false_and, and_false, wr_id, i10, i01, upr_f, upr_eq, thr58, upm_upr, upr_upr, lc_lt, lc_gt, lc_ge, lc_le, afit1, afit0, afitI, bifit, not_true_eq_false, not_false_eq_true, if_true, if_false, Bool.false_eq_true, reduceCtorEq, k1557, k1558, g1557_2, u0, u1, h1, g1, t10, ne_eq]
  · have ed : dg n u = [] := by unfold dg; rw [if_neg hd]
    rw [ed, List.append_nil]
    refine ⟨v, ?_, h⟩
    have h1 : ¬ n ≥ u := by omega
    have h2 : u ≠ 1 := by omega
    rw [B_X7_putNumber_4]
    simp (disch := first | assumption | omega) only [k1301, k1302, g1301_0, B_X7_putNumber_0, B_X7_putNumber_31, Option.bind_some, back_v, Option.toList_some, Option.toList_none, List.cons_append, List.nil_append, Nat.reduceAdd, Int.reduceToNat, Int.reduceNeg, upm_eq, upm_r, upm_i, if_pos, if_neg, ite_self, true_or, or_true, true_and, and_true, false_or, or_false, false_and, and_false, wr_id, i10, i01, upr_f, upr_eq, thr58, upm_upr, upr_upr, lc_lt, lc_gt, lc_ge, lc_le, afit1, afit0, afitI, bifit, not_true_eq_false, not_false_eq_true, if_true, if_false, Bool.false_eq_true, reduceCtorEq, k1557, k1558, g1557_2, u0, u1, h1, h2, t10]
theorem C_putNumber {n : Int} (h : tC v0 T v) (hl : T.length + (dig n).length ≤ 256) : ∃ v', a_m 76 [a_r 1301, a_i n] (K0 L, v, G a, t) = some (.inl none, (K0 L, v', G a, t)) ∧ tC v0 (T ++ dig n) v' := by
  unfold dig at hl ⊢
  rw [List.length_append, List.length_append, List.length_append] at hl
  obtain ⟨v1, a1, b1⟩ := C_pn (L := L) (a := a) (t := t) (n := n) (u := 1000) h (by omega) (by decide)
  obtain ⟨v2, a2, b2⟩ := C_pn (L := L) (a := a) (t := t) (n := n) (u := 100) b1 (by rw [List.length_append]; omega) (by decide)
  obtain ⟨v3, a3, b3⟩ := C_pn (L := L) (a := a) (t := t) (n := n) (u := 10) b2 (by rw [List.length_append, List.length_append]; omega) (by decide)
  obtain ⟨v4, a4, b4⟩ := C_pn (L := L) (a := a) (t := t) (n := n) (u := 1) b3 (by rw [List.length_append, List.length_append, List.length_append]; omega) (by decide)
  rw [show wr (Int.tdiv 1000 10) = 100 from by decide] at a1
  rw [show wr (Int.tdiv 100 10) = 10 from by decide] at a2
  rw [show wr (Int.tdiv 10 10) = 1 from by decide] at a3
  rw [show wr (Int.tdiv 1 10) = 0 from by decide] at a4
  refine ⟨v4, ?_, by simp only [List.append_assoc] at b4; exact b4⟩
  have a5 : a_X 76 4 [a_r 1301, a_i n, a_i 0] [] (K0 L, v4, G a, t) = some (.inl none, (K0 L, v4, G a, t)) := by
    rw [B_X7_putNumber_4]
    have z : (0 : Int) ≤ 0 := by decide
    rw [if_pos z]
  rw [← a5, ← a4, ← a3, ← a2, ← a1]
  simp (disch := first | assumption | omega) only [E_X7_putNumber, B_X7_putNumber_0, B_X7_putNumber_31, Option.bind_some, back_v, Option.toList_some, Option.toList_none, List.cons_append, List.nil_append, Nat.reduceAdd, Int.reduceToNat, Int.reduceNeg, upm_eq, upm_r, upm_i, if_pos, if_neg, ite_self, true_or, or_true, true_and, and_true, false_or, or_false, false_and, and_false, wr_id, i10, i01, upr_f, upr_eq, thr58, upm_upr, upr_upr, lc_lt, lc_gt, lc_ge, lc_le, afit1, afit0, afitI, bifit, not_true_eq_false, not_false_eq_true, if_true, if_false, Bool.false_eq_true, reduceCtorEq, k1557, k1558, g1557_2]
theorem M_sn {n u : Int} (h : tM w0 T w) (hl : T.length + (dg n u).length ≤ 400) (hu : 0 < u) (hd : u ≤ n ∨ u = 1) : ∃ w', a_X 272 18 [a_r 1557, a_i n, a_i u] [] (K0 L, w, G a, t) = a_X 272 18 [a_r 1557, a_i n, a_i (wr (Int.tdiv u 10))] [] (K0 L, w', G a, t) ∧ tM w0 (T ++ dg n u) w' := by
  have u0 : ¬ u ≤ 0 := by omega
  have u1 : u ≠ 0 := by omega
  have t10 : (10 : Int) ≠ 0 := by decide
  have ed : dg n u = [dgt n u] := by unfold dg; rw [if_pos hd]
  rw [ed] at hl ⊢
  obtain ⟨w', g1, g2⟩ := M_says (L := L) (a := a) (t := t) (x := dgt n u) h (by simp only [List.length_singleton] at hl; omega)
  unfold dgt at g1
  refine ⟨w', ?_, g2⟩
  rw [B_X11_saysNumber_18]
  simp (disch := first | assumption | omega) only [k1559, k1560, k1561, k1562, k1563, k1564, k1565, k1566, k1567, g1557_3, g1557_5, g1557_6, g1557_17, g1557_18, g1557_19, g1557_20, g1557_21, g1557_23, B_X11_saysNumber_0, B_X11_saysNumber_35, Option.bind_some, back_v, Option.toList_some, Option.toList_none, List.cons_append, List.nil_append, Nat.reduceAdd, Int.reduceToNat, Int.reduceNeg, upm_eq, upm_r, upm_i, if_pos, if_neg, ite_self, true_or, or_true, true_and, and_true, false_or, or_false, false_and, and_false, wr_id, i10, i01, upr_f, upr_eq, thr58, upm_upr, upr_upr, lc_lt, lc_gt, lc_ge, lc_le, afit1, afit0, afitI, bifit, not_true_eq_false, not_false_eq_true, if_true, if_false, Bool.false_eq_true, reduceCtorEq, k1557, k1558, g1557_2, u0, u1, g1, t10]
theorem M_by {n u : Int} (hn : 0 ≤ n ∧ n ≤ 9999) (hu : 0 < u) : a_X 272 2 [a_r 1557, a_i n, a_i u] [] (K0 L, w, G a, t) = if n / u ≤ 9 then a_X 272 18 [a_r 1557, a_i n, a_i u] [] (K0 L, w, G a, t) else a_X 272 2 [a_r 1557, a_i n, a_i (wr (u * 10))] [] (K0 L, w, G a, t) := by
  have u1 : u ≠ 0 := by omega
  have e : wr (Int.tdiv n u) = n / u := by
    rw [Int.tdiv_eq_ediv_of_nonneg hn.1]
    have h1 := Int.ediv_nonneg hn.1 (Int.le_of_lt hu)
    have h2 := Int.ediv_le_self u hn.1
    exact wr_id (by omega) (by omega)
  rw [B_X11_saysNumber_2]
  rw [if_pos u1, e]
theorem M_saysNumber {n : Int} (h : tM w0 T w) (hn : 0 ≤ n ∧ n ≤ 9999) (hl : T.length + (dig n).length ≤ 400) : ∃ w', a_m 272 [a_r 1557, a_i n] (K0 L, w, G a, t) = some (.inl none, (K0 L, w', G a, t)) ∧ tM w0 (T ++ dig n) w' := by
  have e0 : a_m 272 [a_r 1557, a_i n] (K0 L, w, G a, t) = a_X 272 2 [a_r 1557, a_i n, a_i 1] [] (K0 L, w, G a, t) := by simp (disch := first | assumption | omega) only [E_X11_saysNumber, B_X11_saysNumber_0, B_X11_saysNumber_35, Option.bind_some, back_v, Option.toList_some, Option.toList_none, List.cons_append, List.nil_append, Nat.reduceAdd, Int.reduceToNat, Int.reduceNeg, upm_eq, upm_r, upm_i, if_pos, if_neg, ite_self, true_or, or_true, true_and, and_true, false_or, or_false, false_and, and_false, wr_id, i10, i01, upr_f, upr_eq, thr58, upm_upr, upr_upr, lc_lt, lc_gt, lc_ge, lc_le, afit1, afit0, afitI, bifit, not_true_eq_false, not_false_eq_true, if_true, if_false, Bool.false_eq_true, reduceCtorEq, k1557, k1558, g1557_2]
  have b1 := M_by (L := L) (a := a) (t := t) (w := w) (u := 1) hn (by decide)
  have b2 := M_by (L := L) (a := a) (t := t) (w := w) (u := 10) hn (by decide)
  have b3 := M_by (L := L) (a := a) (t := t) (w := w) (u := 100) hn (by decide)
  have b4 := M_by (L := L) (a := a) (t := t) (w := w) (u := 1000) hn (by decide)
  rw [show wr (1 * 10) = 10 from by decide] at b1
  rw [show wr (10 * 10) = 100 from by decide] at b2
  rw [show wr (100 * 10) = 1000 from by decide] at b3
  have z : ∀ w, a_X 272 18 [a_r 1557, a_i n, a_i 0] [] (K0 L, w, G a, t) = some (.inl none, (K0 L, w, G a, t)) := by
    intro w
    have z : (0 : Int) ≤ 0 := by decide
    rw [B_X11_saysNumber_18]
    rw [if_pos z]
  have k1 : wr (Int.tdiv 1 10) = 0 := by decide
  have k2 : wr (Int.tdiv 10 10) = 1 := by decide
  have k3 : wr (Int.tdiv 100 10) = 10 := by decide
  have k4 : wr (Int.tdiv 1000 10) = 100 := by decide
  have ld := hl
  unfold dig at ld ⊢
  rw [List.length_append, List.length_append, List.length_append] at ld
  by_cases h1 : n ≤ 9
  · rw [if_pos (by omega)] at b1
    rw [dg_no (n := n) (u := 1000) (by omega) (by decide), dg_no (n := n) (u := 100) (by omega) (by decide), dg_no (n := n) (u := 10) (by omega) (by decide), List.nil_append, List.nil_append, List.nil_append]
    obtain ⟨w1, c1, d1⟩ := M_sn (L := L) (a := a) (t := t) (n := n) (u := 1) h (by omega) (by decide) (.inr rfl)
    rw [k1] at c1
    exact ⟨w1, by rw [e0, b1, c1, z], d1⟩
  rw [if_neg (by omega)] at b1
  by_cases h2 : n ≤ 99
  · rw [if_pos (by omega)] at b2
    rw [dg_no (n := n) (u := 1000) (by omega) (by decide), dg_no (n := n) (u := 100) (by omega) (by decide), List.nil_append, List.nil_append]
    obtain ⟨w2, c2, d2⟩ := M_sn (L := L) (a := a) (t := t) (n := n) (u := 10) h (by omega) (by decide) (.inl (by omega))
    obtain ⟨w1, c1, d1⟩ := M_sn (L := L) (a := a) (t := t) (n := n) (u := 1) d2 (by rw [List.length_append]; omega) (by decide) (.inr rfl)
    rw [k1] at c1
    rw [k2] at c2
    exact ⟨w1, by rw [e0, b1, b2, c2, c1, z], by simp only [List.append_assoc] at d1; exact d1⟩
  rw [if_neg (by omega)] at b2
  by_cases h3 : n ≤ 999
  · rw [if_pos (by omega)] at b3
    rw [dg_no (n := n) (u := 1000) (by omega) (by decide), List.nil_append]
    obtain ⟨w3, c3, d3⟩ := M_sn (L := L) (a := a) (t := t) (n := n) (u := 100) h (by omega) (by decide) (.inl (by omega))
    obtain ⟨w2, c2, d2⟩ := M_sn (L := L) (a := a) (t := t) (n := n) (u := 10) d3 (by rw [List.length_append]; omega) (by decide) (.inl (by omega))
    obtain ⟨w1, c1, d1⟩ := M_sn (L := L) (a := a) (t := t) (n := n) (u := 1) d2 (by rw [List.length_append, List.length_append]; omega) (by decide) (.inr rfl)
    rw [k1] at c1
    rw [k2] at c2
    rw [k3] at c3
    exact ⟨w1, by rw [e0, b1, b2, b3, c3, c2, c1, z], by simp only [List.append_assoc] at d1; exact d1⟩
  rw [if_neg (by omega)] at b3
  rw [if_pos (by omega)] at b4
  obtain ⟨w4, c4, d4⟩ := M_sn (L := L) (a := a) (t := t) (n := n) (u := 1000) h (by omega) (by decide) (.inl (by omega))
  obtain ⟨w3, c3, d3⟩ := M_sn (L := L) (a := a) (t := t) (n := n) (u := 100) d4 (by rw [List.length_append]; omega) (by decide) (.inl (by omega))
  obtain ⟨w2, c2, d2⟩ := M_sn (L := L) (a := a) (t := t) (n := n) (u := 10) d3 (by rw [List.length_append, List.length_append]; omega) (by decide) (.inl (by omega))
  obtain ⟨w1, c1, d1⟩ := M_sn (L := L) (a := a) (t := t) (n := n) (u := 1) d2 (by rw [List.length_append, List.length_append, List.length_append]; omega) (by decide) (.inr rfl)
  rw [k1] at c1
  rw [k2] at c2
  rw [k3] at c3
  rw [k4] at c4
  exact ⟨w1, by rw [e0, b1, b2, b3, b4, c4, c3, c2, c1, z], by simp only [List.append_assoc] at d1; exact d1⟩
/-! one text on both sides -/
theorem TX_of (hv : tC v0 T v) (hw : tM w0 T w) (hl : T.length ≤ 256) : TX v w := by
  obtain ⟨-, a1, a2⟩ := hv
  obtain ⟨-, -, b1, b2⟩ := hw
  refine ⟨by omega, by omega, fun i hi => ?_⟩
  have h1 := a2 i (by omega)
  rw [b2 i (by omega)] at h1
  exact (Option.some.inj h1).symm
/-! the stops of a day -/
def seg (p b e : Int) : List Int := dig p ++ ([64] ++ (dig b ++ ([45] ++ dig e)))
def dayT (P B E : Nat → Int) : Nat → List Int
  | 0 => []
  | n + 1 => dayT P B E n ++ ((if n = 0 then [] else [32]) ++ seg (P n) (B n) (E n))
theorem seg_le {p b e : Int} (hp : p ≤ 99) : (seg p b e).length ≤ 12 := by
  have h1 := dig_le2 hp
  have h2 := dig_le4 (n := b)
  have h3 := dig_le4 (n := e)
  unfold seg
  simp only [List.length_append, List.length_singleton]
  omega
theorem dayT_le {P B E : Nat → Int} : ∀ n, (∀ i, i < n → P i ≤ 99) → (dayT P B E n).length ≤ 13 * n := by
  intro n
  induction n with
  | zero => intro _; exact Nat.le_refl _
  | succ n ih =>
    intro h
    have h1 := ih (fun i hi => h i (by omega))
    have h2 := seg_le (b := B n) (e := E n) (h n (by omega))
    have h3 : (if n = 0 then ([] : List Int) else [32]).length ≤ 1 := by split <;> simp
    rw [dayT, List.length_append, List.length_append]
    omega
theorem dayT_ext {P B E P' B' E' : Nat → Int} : ∀ n, (∀ i, i < n → P i = P' i ∧ B i = B' i ∧ E i = E' i) → dayT P B E n = dayT P' B' E' n := by
  intro n
  induction n with
  | zero => intro _; rfl
  | succ n ih =>
    intro h
    obtain ⟨e1, e2, e3⟩ := h n (by omega)
    rw [dayT, dayT, ih (fun i hi => h i (by omega)), e1, e2, e3]
theorem C_seg {p b e : Int} (h : tC v0 T v) (hl : T.length + (seg p b e).length ≤ 256) : ∃ v1 v2 v3 v4 v', a_m 76 [a_r 1301, a_i p] (K0 L, v, G a, t) = some (.inl none, (K0 L, v1, G a, t)) ∧ a_m 75 [a_r 1301, a_i 64] (K0 L, v1, G a, t) = some (.inl none, (K0 L, v2, G a, t)) ∧ a_m 76 [a_r 1301, a_i b] (K0 L, v2, G a, t) = some (.inl none, (K0 L, v3, G a, t)) ∧ a_m 75 [a_r 1301, a_i 45] (K0 L, v3, G a, t) = some (.inl none, (K0 L, v4, G a, t)) ∧ a_m 76 [a_r 1301, a_i e] (K0 L, v4, G a, t) = some (.inl none, (K0 L, v', G a, t)) ∧ (∀ q, q ≠ 1301 → q ≠ 1302 → v1 q = v0 q) ∧ (∀ q, q ≠ 1301 → q ≠ 1302 → v2 q = v0 q) ∧ (∀ q, q ≠ 1301 → q ≠ 1302 → v3 q = v0 q) ∧ (∀ q, q ≠ 1301 → q ≠ 1302 → v4 q = v0 q) ∧ tC v0 (T ++ seg p b e) v' := by
  unfold seg at hl ⊢
  simp only [List.length_append, List.length_singleton] at hl
  obtain ⟨v1, a1, b1⟩ := C_putNumber (L := L) (a := a) (t := t) (n := p) h (by omega)
  obtain ⟨v2, a2, b2⟩ := C_put (L := L) (a := a) (t := t) (x := 64) b1 (by rw [List.length_append]; omega)
  obtain ⟨v3, a3, b3⟩ := C_putNumber (L := L) (a := a) (t := t) (n := b) b2 (by simp only [List.length_append, List.length_singleton]; omega)
  obtain ⟨v4, a4, b4⟩ := C_put (L := L) (a := a) (t := t) (x := 45) b3 (by simp only [List.length_append, List.length_singleton]; omega)
  obtain ⟨v5, a5, b5⟩ := C_putNumber (L := L) (a := a) (t := t) (n := e) b4 (by simp only [List.length_append, List.length_singleton]; omega)
  refine ⟨v1, v2, v3, v4, v5, a1, a2, a3, a4, a5, b1.1, b2.1, b3.1, b4.1, ?_⟩
  simp only [List.append_assoc] at b5 ⊢
  exact b5
theorem M_seg {p b e : Int} (h : tM w0 T w) (hp : 0 ≤ p ∧ p ≤ 9999) (hb : 0 ≤ b ∧ b ≤ 9999) (he : 0 ≤ e ∧ e ≤ 9999) (hl : T.length + (seg p b e).length ≤ 400) : ∃ v1 v2 v3 v4 v', a_m 272 [a_r 1557, a_i p] (K0 L, w, G a, t) = some (.inl none, (K0 L, v1, G a, t)) ∧ a_m 271 [a_r 1557, a_i 64] (K0 L, v1, G a, t) = some (.inl none, (K0 L, v2, G a, t)) ∧ a_m 272 [a_r 1557, a_i b] (K0 L, v2, G a, t) = some (.inl none, (K0 L, v3, G a, t)) ∧ a_m 271 [a_r 1557, a_i 45] (K0 L, v3, G a, t) = some (.inl none, (K0 L, v4, G a, t)) ∧ a_m 272 [a_r 1557, a_i e] (K0 L, v4, G a, t) = some (.inl none, (K0 L, v', G a, t)) ∧ (∀ q, q ≠ 1557 → q ≠ 1567 → v1 q = w0 q) ∧ (∀ q, q ≠ 1557 → q ≠ 1567 → v2 q = w0 q) ∧ (∀ q, q ≠ 1557 → q ≠ 1567 → v3 q = w0 q) ∧ (∀ q, q ≠ 1557 → q ≠ 1567 → v4 q = w0 q) ∧ tM w0 (T ++ seg p b e) v' := by
  unfold seg at hl ⊢
  simp only [List.length_append, List.length_singleton] at hl
  obtain ⟨v1, a1, b1⟩ := M_saysNumber (L := L) (a := a) (t := t) (n := p) h hp (by omega)
  obtain ⟨v2, a2, b2⟩ := M_says (L := L) (a := a) (t := t) (x := 64) b1 (by rw [List.length_append]; omega)
  obtain ⟨v3, a3, b3⟩ := M_saysNumber (L := L) (a := a) (t := t) (n := b) b2 hb (by simp only [List.length_append, List.length_singleton]; omega)
  obtain ⟨v4, a4, b4⟩ := M_says (L := L) (a := a) (t := t) (x := 45) b3 (by simp only [List.length_append, List.length_singleton]; omega)
  obtain ⟨v5, a5, b5⟩ := M_saysNumber (L := L) (a := a) (t := t) (n := e) b4 he (by simp only [List.length_append, List.length_singleton]; omega)
  refine ⟨v1, v2, v3, v4, v5, a1, a2, a3, a4, a5, b1.1, b2.1, b3.1, b4.1, ?_⟩
  simp only [List.append_assoc] at b5 ⊢
  exact b5
def dayF (P B E : Nat → Int) (n : Nat) : List Int := if n = 0 then [45] else dayT P B E n
theorem C_day_loop {l dd : Int} {n : Nat} (hn : n ≤ 12) (h4 : v0 1295 4 = n) (hP : ∀ i, i < n → v0 1296 i ≤ 99) : ∀ (d i : Nat) (v : Nat → Nat → Int), i + d = n → tC v0 (dayT (v0 1296) (v0 1297) (v0 1298) i) v → ∃ v', a_X 127 49 [a_r 18, a_i l, a_i dd, a_i (i : Int)] [] (K0 L, v, G a, t) = some (.inl (some (a_i (((dayF (v0 1296) (v0 1297) (v0 1298) n).length : Int)))), (K0 L, v', G a, t)) ∧ tC v0 (dayF (v0 1296) (v0 1297) (v0 1298) n) v' := by
  intro d
  induction d with
  | zero =>
    intro i v hi h
    have hin : i = n := by omega
    subst hin
    have e4 : v 1295 4 = (i : Int) := by rw [h.1 1295 (by decide) (by decide), h4]
    have ex : (i : Int) ≥ (i : Int) := Int.le_refl _
    by_cases h0 : i = 0
    · subst h0
      obtain ⟨v', a1, b1⟩ := C_put (L := L) (a := a) (t := t) (x := 45) h (show (0 : Nat) < 256 by decide)
      rw [show dayT (v0 1296) (v0 1297) (v0 1298) 0 ++ [45] = [45] from rfl] at b1
      have e : dayF (v0 1296) (v0 1297) (v0 1298) 0 = [45] := rfl
      have e5 := b1.2.1
      rw [e]
      refine ⟨v', ?_, b1⟩
      have z : ¬ ((0 : Nat) : Int) ≠ 0 := by decide
      rw [B_X10_writeDay_49]
      simp (disch := first | assumption | omega) only [k18, g18_0, g18_1, g18_2, g18_3, g18_4, g18_5, g18_6, g18_7, k1295, k1296, k1297, k1298, k1299, k1300, g1295_0, g1295_1, g1295_2, g1295_3, g1295_5, k1301, k1302, g1301_0, B_X10_writeDay_0, B_X10_writeDay_4, B_X10_writeDay_9, B_X10_writeDay_17, B_X10_writeDay_36, B_X10_writeDay_40, B_X10_writeDay_47, B_X10_writeDay_164, B_X10_writeDay_89, B_X10_writeDay_73, B_X10_writeDay_98, B_X10_writeDay_114, B_X10_writeDay_123, B_X10_writeDay_139, Option.bind_some, back_v, Option.toList_some, Option.toList_none, List.cons_append, List.nil_append, Nat.reduceAdd, Int.reduceToNat, Int.reduceNeg, upm_eq, upm_r, upm_i, if_pos, if_neg, ite_self, true_or, or_true, true_and, and_true, false_or, or_false, false_and, and_false, wr_id, i10, i01, upr_f, upr_eq, thr58, upm_upr, upr_upr, lc_lt, lc_gt, lc_ge, lc_le, afit1, afit0, afitI, bifit, not_true_eq_false, not_false_eq_true, if_true, if_false, Bool.false_eq_true, reduceCtorEq, k1557, k1558, g1557_2, e4, ex, z, a1, e5]
    · have e : dayF (v0 1296) (v0 1297) (v0 1298) i = dayT (v0 1296) (v0 1297) (v0 1298) i := by unfold dayF; rw [if_neg h0]
      have e5 := h.2.1
      rw [e]
      refine ⟨v, ?_, h⟩
      have z : (i : Int) ≠ 0 := by omega
      rw [B_X10_writeDay_49]
      simp (disch := first | assumption | omega) only [k18, g18_0, g18_1, g18_2, g18_3, g18_4, g18_5, g18_6, g18_7, k1295, k1296, k1297, k1298, k1299, k1300, g1295_0, g1295_1, g1295_2, g1295_3, g1295_5, k1301, k1302, g1301_0, B_X10_writeDay_0, B_X10_writeDay_4, B_X10_writeDay_9, B_X10_writeDay_17, B_X10_writeDay_36, B_X10_writeDay_40, B_X10_writeDay_47, B_X10_writeDay_164, B_X10_writeDay_89, B_X10_writeDay_73, B_X10_writeDay_98, B_X10_writeDay_114, B_X10_writeDay_123, B_X10_writeDay_139, Option.bind_some, back_v, Option.toList_some, Option.toList_none, List.cons_append, List.nil_append, Nat.reduceAdd, Int.reduceToNat, Int.reduceNeg, upm_eq, upm_r, upm_i, if_pos, if_neg, ite_self, true_or, or_true, true_and, and_true, false_or, or_false, false_and, and_false, wr_id, i10, i01, upr_f, upr_eq, thr58, upm_upr, upr_upr, lc_lt, lc_gt, lc_ge, lc_le, afit1, afit0, afitI, bifit, not_true_eq_false, not_false_eq_true, if_true, if_false, Bool.false_eq_true, reduceCtorEq, k1557, k1558, g1557_2, e4, ex, z, e5]
  | succ d ih =>
    intro i v hi h
    have hb := dayT_le (P := v0 1296) (B := v0 1297) (E := v0 1298) (i + 1) (fun j hj => hP j (by omega))
    have e4 : v 1295 4 = (n : Int) := by rw [h.1 1295 (by decide) (by decide), h4]
    have ex : ¬ (i : Int) ≥ (n : Int) := by omega
    have tn : ((i : Int)).toNat = i := by omega
    have i0 : 0 ≤ (i : Int) := by omega
    have i12 : (i : Int) < ((12 : Nat) : Int) := by omega
    have z1 : (i : Int) + 1 = ((i + 1 : Nat) : Int) := by omega
    by_cases h0 : i = 0
    · rw [dayT, List.length_append, if_pos h0, List.nil_append] at hb
      obtain ⟨v1, v2, v3, v4, v5, g1, g2, g3, g4, g5, f1, f2, f3, f4, g6⟩ := C_seg (L := L) (a := a) (t := t) (p := v0 1296 i) (b := v0 1297 i) (e := v0 1298 i) h (by omega)
      obtain ⟨v', k1, k2⟩ := ih (i + 1) v5 (by omega) (by rw [dayT, if_pos h0, List.nil_append]; exact g6)
      refine ⟨v', ?_, k2⟩
      rw [← k1]
      have q6 := h.1 1296 (by decide) (by decide)
      have q7 := f2 1297 (by decide) (by decide)
      have q8 := f4 1298 (by decide) (by decide)
      have z : (i : Int) ≤ 0 := by omega
      rw [B_X10_writeDay_49]
      simp (disch := first | assumption | omega) only [k18, g18_0, g18_1, g18_2, g18_3, g18_4, g18_5, g18_6, g18_7, k1295, k1296, k1297, k1298, k1299, k1300, g1295_0, g1295_1, g1295_2, g1295_3, g1295_5, k1301, k1302, g1301_0, B_X10_writeDay_0, B_X10_writeDay_4, B_X10_writeDay_9, B_X10_writeDay_17, B_X10_writeDay_36, B_X10_writeDay_40, B_X10_writeDay_47, B_X10_writeDay_164, B_X10_writeDay_89, B_X10_writeDay_73, B_X10_writeDay_98, B_X10_writeDay_114, B_X10_writeDay_123, B_X10_writeDay_139, Option.bind_some, back_v, Option.toList_some, Option.toList_none, List.cons_append, List.nil_append, Nat.reduceAdd, Int.reduceToNat, Int.reduceNeg, upm_eq, upm_r, upm_i, if_pos, if_neg, ite_self, true_or, or_true, true_and, and_true, false_or, or_false, false_and, and_false, wr_id, i10, i01, upr_f, upr_eq, thr58, upm_upr, upr_upr, lc_lt, lc_gt, lc_ge, lc_le, afit1, afit0, afitI, bifit, not_true_eq_false, not_false_eq_true, if_true, if_false, Bool.false_eq_true, reduceCtorEq, k1557, k1558, g1557_2, e4, ex, z, tn, q6, q7, q8, g1, g2, g3, g4, g5, z1]
    · rw [dayT, List.length_append, if_neg h0, List.length_append, List.length_singleton] at hb
      obtain ⟨vs, s1, s2⟩ := C_put (L := L) (a := a) (t := t) (x := 32) h (by omega)
      obtain ⟨v1, v2, v3, v4, v5, g1, g2, g3, g4, g5, f1, f2, f3, f4, g6⟩ := C_seg (L := L) (a := a) (t := t) (p := v0 1296 i) (b := v0 1297 i) (e := v0 1298 i) s2 (by
        rw [List.length_append, List.length_singleton]
        omega)
      obtain ⟨v', k1, k2⟩ := ih (i + 1) v5 (by omega) (by rw [dayT, if_neg h0, ← List.append_assoc]; exact g6)
      refine ⟨v', ?_, k2⟩
      rw [← k1]
      have q6 := s2.1 1296 (by decide) (by decide)
      have q7 := f2 1297 (by decide) (by decide)
      have q8 := f4 1298 (by decide) (by decide)
      have z : ¬ (i : Int) ≤ 0 := by omega
      rw [B_X10_writeDay_49]
      simp (disch := first | assumption | omega) only [k18, g18_0, g18_1, g18_2, g18_3, g18_4, g18_5, g18_6, g18_7, k1295, k1296, k1297, k1298, k1299, k1300, g1295_0, g1295_1, g1295_2, g1295_3, g1295_5, k1301, k1302, g1301_0, B_X10_writeDay_0, B_X10_writeDay_4, B_X10_writeDay_9, B_X10_writeDay_17, B_X10_writeDay_36, B_X10_writeDay_40, B_X10_writeDay_47, B_X10_writeDay_164, B_X10_writeDay_89, B_X10_writeDay_73, B_X10_writeDay_98, B_X10_writeDay_114, B_X10_writeDay_123, B_X10_writeDay_139, Option.bind_some, back_v, Option.toList_some, Option.toList_none, List.cons_append, List.nil_append, Nat.reduceAdd, Int.reduceToNat, Int.reduceNeg, upm_eq, upm_r, upm_i, if_pos, if_neg, ite_self, true_or, or_true, true_and, and_true, false_or, or_false, false_and, and_false, wr_id, i10, i01, upr_f, upr_eq, thr58, upm_upr, upr_upr, lc_lt, lc_gt, lc_ge, lc_le, afit1, afit0, afitI, bifit, not_true_eq_false, not_false_eq_true, if_true, if_false, Bool.false_eq_true, reduceCtorEq, k1557, k1558, g1557_2, e4, ex, z, tn, q6, q7, q8, s1, g1, g2, g3, g4, g5, z1]
theorem M_day_loop {l dd : Int} {n : Nat} {T0 : List Int} (hT : T0.length ≤ 1) (hn : n ≤ 12) (h4 : w0 1557 22 = n) (hP : ∀ i, i < n → (0 ≤ w0 1563 i ∧ w0 1563 i ≤ 99) ∧ (0 ≤ w0 1564 i ∧ w0 1564 i ≤ 9999) ∧ (0 ≤ w0 1565 i ∧ w0 1565 i ≤ 9999)) : ∀ (d i : Nat) (w : Nat → Nat → Int), i + d = n → tM w0 (T0 ++ dayT (w0 1563) (w0 1564) (w0 1565) i) w → ∃ w', a_X 273 37 [a_r 1557, a_i l, a_i dd, a_i (i : Int)] [] (K0 L, w, G a, t) = some (.inl (some (a_i (((T0 ++ dayT (w0 1563) (w0 1564) (w0 1565) n).length : Int)))), (K0 L, w', G a, t)) ∧ tM w0 (T0 ++ dayT (w0 1563) (w0 1564) (w0 1565) n) w' := by
  intro d
  induction d with
  | zero =>
    intro i w hi h
    have hin : i = n := by omega
    subst hin
    have e4 : w 1557 22 = (i : Int) := by rw [h.2.1 22 (by decide), h4]
    have ex : (i : Int) ≥ (i : Int) := Int.le_refl _
    have e5 := h.2.2.1
    refine ⟨w, ?_, h⟩
    rw [B_X11_writeDay_37]
    simp (disch := first | assumption | omega) only [k1559, k1560, k1561, k1562, k1563, k1564, k1565, k1566, k1567, g1557_3, g1557_5, g1557_6, g1557_17, g1557_18, g1557_19, g1557_20, g1557_21, g1557_23, B_X11_writeDay_0, B_X11_writeDay_6, B_X11_writeDay_17, B_X11_writeDay_35, B_X11_writeDay_65, B_X11_writeDay_55, B_X11_writeDay_71, B_X11_writeDay_81, B_X11_writeDay_87, B_X11_writeDay_97, Option.bind_some, back_v, Option.toList_some, Option.toList_none, List.cons_append, List.nil_append, Nat.reduceAdd, Int.reduceToNat, Int.reduceNeg, upm_eq, upm_r, upm_i, if_pos, if_neg, ite_self, true_or, or_true, true_and, and_true, false_or, or_false, false_and, and_false, wr_id, i10, i01, upr_f, upr_eq, thr58, upm_upr, upr_upr, lc_lt, lc_gt, lc_ge, lc_le, afit1, afit0, afitI, bifit, not_true_eq_false, not_false_eq_true, if_true, if_false, Bool.false_eq_true, reduceCtorEq, k1557, k1558, g1557_2, e4, ex, e5]
  | succ d ih =>
    intro i w hi h
    have hb := dayT_le (P := w0 1563) (B := w0 1564) (E := w0 1565) (i + 1) (fun j hj => (hP j (by omega)).1.2)
    obtain ⟨p1, p2, p3⟩ := hP i (by omega)
    have e4 : w 1557 22 = (n : Int) := by rw [h.2.1 22 (by decide), h4]
    have ex : ¬ (i : Int) ≥ (n : Int) := by omega
    have tn : ((i : Int)).toNat = i := by omega
    have i0 : 0 ≤ (i : Int) := by omega
    have i12 : (i : Int) < ((12 : Nat) : Int) := by omega
    have z1 : (i : Int) + 1 = ((i + 1 : Nat) : Int) := by omega
    by_cases h0 : i = 0
    · rw [dayT, List.length_append, if_pos h0, List.nil_append] at hb
      obtain ⟨v1, v2, v3, v4, v5, g1, g2, g3, g4, g5, f1, f2, f3, f4, g6⟩ := M_seg (L := L) (a := a) (t := t) (p := w0 1563 i) (b := w0 1564 i) (e := w0 1565 i) h ⟨p1.1, by omega⟩ p2 p3 (by
        rw [List.length_append]
        omega)
      obtain ⟨v', k1, k2⟩ := ih (i + 1) v5 (by omega) (by rw [dayT, if_pos h0, List.nil_append, ← List.append_assoc]; exact g6)
      refine ⟨v', ?_, k2⟩
      rw [← k1]
      have q6 := h.1 1563 (by decide) (by decide)
      have q7 := f2 1564 (by decide) (by decide)
      have q8 := f4 1565 (by decide) (by decide)
      have z : (i : Int) ≤ 0 := by omega
      rw [B_X11_writeDay_37]
      simp (disch := first | assumption | omega) only [k1559, k1560, k1561, k1562, k1563, k1564, k1565, k1566, k1567, g1557_3, g1557_5, g1557_6, g1557_17, g1557_18, g1557_19, g1557_20, g1557_21, g1557_23, B_X11_writeDay_0, B_X11_writeDay_6, B_X11_writeDay_17, B_X11_writeDay_35, B_X11_writeDay_65, B_X11_writeDay_55, B_X11_writeDay_71, B_X11_writeDay_81, B_X11_writeDay_87, B_X11_writeDay_97, Option.bind_some, back_v, Option.toList_some, Option.toList_none, List.cons_append, List.nil_append, Nat.reduceAdd, Int.reduceToNat, Int.reduceNeg, upm_eq, upm_r, upm_i, if_pos, if_neg, ite_self, true_or, or_true, true_and, and_true, false_or, or_false, false_and, and_false, wr_id, i10, i01, upr_f, upr_eq, thr58, upm_upr, upr_upr, lc_lt, lc_gt, lc_ge, lc_le, afit1, afit0, afitI, bifit, not_true_eq_false, not_false_eq_true, if_true, if_false, Bool.false_eq_true, reduceCtorEq, k1557, k1558, g1557_2, e4, ex, z, tn, q6, q7, q8, g1, g2, g3, g4, g5, z1]
    · rw [dayT, List.length_append, if_neg h0, List.length_append, List.length_singleton] at hb
      obtain ⟨vs, s1, s2⟩ := M_says (L := L) (a := a) (t := t) (x := 32) h (by rw [List.length_append]; omega)
      obtain ⟨v1, v2, v3, v4, v5, g1, g2, g3, g4, g5, f1, f2, f3, f4, g6⟩ := M_seg (L := L) (a := a) (t := t) (p := w0 1563 i) (b := w0 1564 i) (e := w0 1565 i) s2 ⟨p1.1, by omega⟩ p2 p3 (by
        rw [List.length_append, List.length_append, List.length_singleton]
        omega)
      obtain ⟨v', k1, k2⟩ := ih (i + 1) v5 (by omega) (by rw [dayT, if_neg h0, ← List.append_assoc, ← List.append_assoc]; exact g6)
      refine ⟨v', ?_, k2⟩
      rw [← k1]
      have q6 := s2.1 1563 (by decide) (by decide)
      have q7 := f2 1564 (by decide) (by decide)
      have q8 := f4 1565 (by decide) (by decide)
      have z : ¬ (i : Int) ≤ 0 := by omega
      rw [B_X11_writeDay_37]
      simp (disch := first | assumption | omega) only [k1559, k1560, k1561, k1562, k1563, k1564, k1565, k1566, k1567, g1557_3, g1557_5, g1557_6, g1557_17, g1557_18, g1557_19, g1557_20, g1557_21, g1557_23, B_X11_writeDay_0, B_X11_writeDay_6, B_X11_writeDay_17, B_X11_writeDay_35, B_X11_writeDay_65, B_X11_writeDay_55, B_X11_writeDay_71, B_X11_writeDay_81, B_X11_writeDay_87, B_X11_writeDay_97, Option.bind_some, back_v, Option.toList_some, Option.toList_none, List.cons_append, List.nil_append, Nat.reduceAdd, Int.reduceToNat, Int.reduceNeg, upm_eq, upm_r, upm_i, if_pos, if_neg, ite_self, true_or, or_true, true_and, and_true, false_or, or_false, false_and, and_false, wr_id, i10, i01, upr_f, upr_eq, thr58, upm_upr, upr_upr, lc_lt, lc_gt, lc_ge, lc_le, afit1, afit0, afitI, bifit, not_true_eq_false, not_false_eq_true, if_true, if_false, Bool.false_eq_true, reduceCtorEq, k1557, k1558, g1557_2, e4, ex, z, tn, q6, q7, q8, s1, g1, g2, g3, g4, g5, z1]
end TXT
