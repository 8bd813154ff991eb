/-! ===== bytes are appended ===== -/
theorem zand255 {x : Int} : 0 ≤ zand x 255 ∧ zand x 255 ≤ 255 := by
  unfold zand
  have e : (Int32.ofInt x &&& Int32.ofInt 255).toInt = ((Int32.ofInt x).toBitVec &&& 255#32).toInt := rfl
  rw [e]
  have h1 : ((Int32.ofInt x).toBitVec &&& 255#32).toNat ≤ 255 := by
    rw [BitVec.toNat_and]; exact Nat.and_le_right
  rw [BitVec.toInt_eq_toNat_of_lt (by omega)]
  omega
section APP
variable {L : Nat} {a : Nat → Nat → Nat} {t : Nat × Nat × Nat}
/-- a byte of a word -/
def byW (x : Int) (i : Int) : Int := zand (zshr x (24 - 8 * i)) 255
theorem C_takeIn_loop {x : Int} : ∀ (d : Nat) (p : Int) (v : Nat → Nat → Int), d ≤ 4 → 0 ≤ p → p + d ≤ 500 → v 19 1 = p → ∃ v', a_X 54 3 [a_r 19, a_i x, a_i (8 * d - 8)] [] (K0 L, v, G a, t) = some (.inl none, (K0 L, v', G a, t)) ∧ (∀ q, q ≠ 19 → q ≠ 20 → v' q = v q) ∧ (∀ j, j ≠ 1 → v' 19 j = v 19 j) ∧ v' 19 1 = p + d ∧ ∀ j : Nat, v' 20 j = if p ≤ j ∧ (j : Int) < p + d then byW x (4 - d + (j - p)) else v 20 j := by
  intro d
  induction d with
  | zero =>
    intro p v d4 p0 p1 hp
    refine ⟨v, ?_, fun _ _ _ => rfl, fun _ _ => rfl, by rw [hp]; omega, fun j => by rw [if_neg (by omega)]⟩
    have e : (8 * ((0 : Nat) : Int) - 8) = -8 := rfl
    rw [e]
    rw [B_X5_takeIn_3]
    simp (disch := first | assumption | omega) only [k19, k20, g19_0, B_X5_takeIn_0, Option.bind_some, back_v, Option.toList_some, Option.toList_none, List.cons_append, List.nil_append, Nat.reduceAdd, Int.reduceToNat, Int.reduceNeg, upm_eq, upm_r, upm_i, if_pos, if_neg, ite_self, true_or, or_true, true_and, and_true, false_or, or_false, false_and, and_false, wr_id, i10, i01, upr_f, upr_eq, thr58, upm_upr, upr_upr, lc_lt, lc_gt, lc_ge, lc_le, afit1, afit0, afitI, bifit, not_true_eq_false, not_false_eq_true, if_true, if_false, Bool.false_eq_true, reduceCtorEq, k1557, k1558, g1557_2]
  | succ d ih =>
    intro p v d4 p0 p1 hp
    obtain ⟨v', e0, e1, e2, e3, e4⟩ := ih (p + 1) (upm (upm v 20 p.toNat (byW x (4 - ((d + 1 : Nat) : Int)))) 19 1 (p + 1)) (by omega) (by omega) (by omega) upm_eq
    refine ⟨v', ?_, fun q q1 q2 => by rw [e1 q q1 q2, upm_rf q1, upm_rf q2], fun j hj => by rw [e2 j hj, upm_i hj, upm_r (by decide)], by rw [e3]; omega, fun j => ?_⟩
    · rw [← e0]
      have hb : byW x (4 - ((d + 1 : Nat) : Int)) = zand (zshr x (8 * ((d + 1 : Nat) : Int) - 8)) 255 := by unfold byW; congr 2; omega
      have hs : 8 * ((d + 1 : Nat) : Int) - 8 + (-8) = 8 * (d : Int) - 8 := by omega
      rw [hb]
      rw [B_X5_takeIn_3]
      simp (disch := first | assumption | omega) only [k19, k20, g19_0, B_X5_takeIn_0, Option.bind_some, back_v, Option.toList_some, Option.toList_none, List.cons_append, List.nil_append, Nat.reduceAdd, Int.reduceToNat, Int.reduceNeg, upm_eq, upm_r, upm_i, if_pos, if_neg, ite_self, true_or, or_true, true_and, and_true, false_or, or_false, false_and, and_false, wr_id, i10, i01, upr_f, upr_eq, thr58, upm_upr, upr_upr, lc_lt, lc_gt, lc_ge, lc_le, afit1, afit0, afitI, bifit, not_true_eq_false, not_false_eq_true, if_true, if_false, Bool.false_eq_true, reduceCtorEq, k1557, k1558, g1557_2, hp, hs]
    · rw [e4 j]
      by_cases h1 : p + 1 ≤ j ∧ (j : Int) < p + 1 + d
      · rw [if_pos h1, if_pos (by omega)]; congr 1; omega
      · rw [if_neg h1, upm_r (by decide)]
        by_cases h2 : (j : Int) = p
        · rw [if_pos (by omega), show j = p.toNat from by omega, upm_eq]; congr 1; omega
        · rw [if_neg (by omega), upm_i (by omega)]
theorem C_takeIn {x p : Int} {v : Nat → Nat → Int} (p0 : 0 ≤ p) (p1 : p + 4 ≤ 500) (hp : v 19 1 = p) : ∃ v', a_m 54 [a_r 19, a_i x] (K0 L, v, G a, t) = some (.inl none, (K0 L, v', G a, t)) ∧ (∀ q, q ≠ 19 → q ≠ 20 → v' q = v q) ∧ (∀ j, j ≠ 1 → v' 19 j = v 19 j) ∧ v' 19 1 = p + 4 ∧ ∀ j : Nat, v' 20 j = if p ≤ j ∧ (j : Int) < p + 4 then byW x (j - p) else v 20 j := by
  obtain ⟨v', e0, e1, e2, e3, e4⟩ := C_takeIn_loop (L := L) (a := a) (t := t) (x := x) 4 p v (by decide) p0 p1 hp
  refine ⟨v', ?_, e1, e2, e3, fun j => ?_⟩
  · rw [← e0]
    have e : (8 * ((4 : Nat) : Int) - 8) = 24 := rfl
    rw [e]
    simp (disch := first | assumption | omega) only [E_X5_takeIn, B_X5_takeIn_0, Option.bind_some, back_v, Option.toList_some, Option.toList_none, List.cons_append, List.nil_append, Nat.reduceAdd, Int.reduceToNat, Int.reduceNeg, upm_eq, upm_r, upm_i, if_pos, if_neg, ite_self, true_or, or_true, true_and, and_true, false_or, or_false, false_and, and_false, wr_id, i10, i01, upr_f, upr_eq, thr58, upm_upr, upr_upr, lc_lt, lc_gt, lc_ge, lc_le, afit1, afit0, afitI, bifit, not_true_eq_false, not_false_eq_true, if_true, if_false, Bool.false_eq_true, reduceCtorEq, k1557, k1558, g1557_2]
  · rw [e4 j]
    by_cases h : p ≤ j ∧ (j : Int) < p + 4
    · rw [if_pos (by omega), if_pos h]; congr 1; omega
    · rw [if_neg (by omega), if_neg h]
/-- the byte of five words -/
def by5 (x1 x2 x3 x4 x5 i : Int) : Int := if i < 4 then byW x1 i else if i < 8 then byW x2 (i - 4) else if i < 12 then byW x3 (i - 8) else if i < 16 then byW x4 (i - 12) else byW x5 (i - 16)
theorem tm4 : ∀ i : Nat, i < 20 → Int.tmod (i : Int) 4 = ((i % 4 : Nat) : Int) := by decide
theorem M_append_loop {x1 x2 x3 x4 x5 b : Int} (hb : 0 ≤ b ∧ b ≤ 480) : ∀ (d : Nat) (x : Int) (w : Nat → Nat → Int) (y : AV), 0 ≤ x → x + d = 20 → w 1557 7 = b → ∃ w', a_X 175 23 [a_r 1557, a_i x1, a_i x2, a_i x3, a_i x4, a_i x5, a_i x, y] [] (K0 L, w, G a, t) = some (.inl (some (a_i (b + 20))), (K0 L, upm w' 1557 7 (b + 20), G a, t)) ∧ (∀ q, q ≠ 1561 → w' q = w q) ∧ ∀ j : Nat, w' 1561 j = if b + x ≤ j ∧ (j : Int) < b + 20 then by5 x1 x2 x3 x4 x5 (j - b) else w 1561 j := by
  intro d
  induction d with
  | zero =>
    intro x w y x0 hx hw
    refine ⟨w, ?_, fun _ _ => rfl, fun j => by rw [if_neg (by omega)]⟩
    rw [B_X11_append_23]
    simp (disch := first | assumption | omega) only [k1559, k1560, k1561, k1562, k1563, k1564, k1565, k1566, k1567, g1557_3, g1557_5, g1557_6, g1557_17, g1557_18, g1557_19, g1557_20, g1557_21, g1557_23, B_X11_append_0, B_X11_append_99, B_X11_append_58, B_X11_append_47, B_X11_append_36, Option.bind_some, back_v, Option.toList_some, Option.toList_none, List.cons_append, List.nil_append, Nat.reduceAdd, Int.reduceToNat, Int.reduceNeg, upm_eq, upm_r, upm_i, if_pos, if_neg, ite_self, true_or, or_true, true_and, and_true, false_or, or_false, false_and, and_false, wr_id, i10, i01, upr_f, upr_eq, thr58, upm_upr, upr_upr, lc_lt, lc_gt, lc_ge, lc_le, afit1, afit0, afitI, bifit, not_true_eq_false, not_false_eq_true, if_true, if_false, Bool.false_eq_true, reduceCtorEq, k1557, k1558, g1557_2, hw]
  | succ d ih =>
    intro x w y x0 hx hw
    have ht := tm4 x.toNat (by omega)
    rw [Int.toNat_of_nonneg x0] at ht
    have key : ∀ (y' : AV), ∃ w', a_X 175 23 [a_r 1557, a_i x1, a_i x2, a_i x3, a_i x4, a_i x5, a_i (x + 1), y'] [] (K0 L, upm w 1561 (b + x).toNat (by5 x1 x2 x3 x4 x5 x), G a, t) = some (.inl (some (a_i (b + 20))), (K0 L, upm w' 1557 7 (b + 20), G a, t)) ∧ (∀ q, q ≠ 1561 → w' q = w q) ∧ ∀ j : Nat, w' 1561 j = if b + x ≤ j ∧ (j : Int) < b + 20 then by5 x1 x2 x3 x4 x5 (j - b) else w 1561 j := by
      intro y'
      obtain ⟨w', e0, e1, e2⟩ := ih (x + 1) (upm w 1561 (b + x).toNat (by5 x1 x2 x3 x4 x5 x)) y' (by omega) (by omega) (by rw [upm_r (by decide)]; exact hw)
      refine ⟨w', e0, fun q hq => by rw [e1 q hq, upm_rf hq], fun j => ?_⟩
      rw [e2 j]
      by_cases h1 : b + (x + 1) ≤ j ∧ (j : Int) < b + 20
      · rw [if_pos h1, if_pos (by omega)]
      · rw [if_neg h1]
        by_cases h2 : (j : Int) = b + x
        · rw [if_pos (by omega), show j = (b + x).toNat from by omega, upm_eq]; congr 1; omega
        · rw [if_neg (by omega), upm_i (by omega)]
    have i40 : (4 : Int) ≠ 0 := by decide
    generalize hT : Int.tmod x 4 = T at *
    have T0 : 0 ≤ T ∧ T < 4 := by omega
    by_cases c4 : x < 4
    · have hT4 : T = x := by omega
      have hv : by5 x1 x2 x3 x4 x5 x = zand (zshr x1 (24 - 8 * T)) 255 := by unfold by5; rw [if_pos c4, hT4]; rfl
      obtain ⟨w', k0, k1, k2⟩ := key (a_i x1)
      refine ⟨w', ?_, k1, k2⟩
      rw [← k0, hv]
      have n4 : ¬ x ≥ 4 := by omega
      rw [B_X11_append_23]
      simp (disch := first | assumption | omega) only [k1559, k1560, k1561, k1562, k1563, k1564, k1565, k1566, k1567, g1557_3, g1557_5, g1557_6, g1557_17, g1557_18, g1557_19, g1557_20, g1557_21, g1557_23, B_X11_append_0, B_X11_append_99, B_X11_append_58, B_X11_append_47, B_X11_append_36, Option.bind_some, back_v, Option.toList_some, Option.toList_none, List.cons_append, List.nil_append, Nat.reduceAdd, Int.reduceToNat, Int.reduceNeg, upm_eq, upm_r, upm_i, if_pos, if_neg, ite_self, true_or, or_true, true_and, and_true, false_or, or_false, false_and, and_false, wr_id, i10, i01, upr_f, upr_eq, thr58, upm_upr, upr_upr, lc_lt, lc_gt, lc_ge, lc_le, afit1, afit0, afitI, bifit, not_true_eq_false, not_false_eq_true, if_true, if_false, Bool.false_eq_true, reduceCtorEq, k1557, k1558, g1557_2, hw, hT, i40]
    · by_cases c8 : x < 8
      · have hT4 : T = x - 4 := by omega
        have hv : by5 x1 x2 x3 x4 x5 x = zand (zshr x2 (24 - 8 * T)) 255 := by unfold by5; rw [if_neg c4, if_pos c8, hT4]; rfl
        obtain ⟨w', k0, k1, k2⟩ := key (a_i x2)
        refine ⟨w', ?_, k1, k2⟩
        rw [← k0, hv]
        rw [B_X11_append_23]
        simp (disch := first | assumption | omega) only [k1559, k1560, k1561, k1562, k1563, k1564, k1565, k1566, k1567, g1557_3, g1557_5, g1557_6, g1557_17, g1557_18, g1557_19, g1557_20, g1557_21, g1557_23, B_X11_append_0, B_X11_append_99, B_X11_append_58, B_X11_append_47, B_X11_append_36, Option.bind_some, back_v, Option.toList_some, Option.toList_none, List.cons_append, List.nil_append, Nat.reduceAdd, Int.reduceToNat, Int.reduceNeg, upm_eq, upm_r, upm_i, if_pos, if_neg, ite_self, true_or, or_true, true_and, and_true, false_or, or_false, false_and, and_false, wr_id, i10, i01, upr_f, upr_eq, thr58, upm_upr, upr_upr, lc_lt, lc_gt, lc_ge, lc_le, afit1, afit0, afitI, bifit, not_true_eq_false, not_false_eq_true, if_true, if_false, Bool.false_eq_true, reduceCtorEq, k1557, k1558, g1557_2, hw, hT, i40]
      · by_cases c12 : x < 12
        · have hT4 : T = x - 8 := by omega
          have hv : by5 x1 x2 x3 x4 x5 x = zand (zshr x3 (24 - 8 * T)) 255 := by unfold by5; rw [if_neg c4, if_neg c8, if_pos c12, hT4]; rfl
          obtain ⟨w', k0, k1, k2⟩ := key (a_i x3)
          refine ⟨w', ?_, k1, k2⟩
          rw [← k0, hv]
          rw [B_X11_append_23]
          simp (disch := first | assumption | omega) only [k1559, k1560, k1561, k1562, k1563, k1564, k1565, k1566, k1567, g1557_3, g1557_5, g1557_6, g1557_17, g1557_18, g1557_19, g1557_20, g1557_21, g1557_23, B_X11_append_0, B_X11_append_99, B_X11_append_58, B_X11_append_47, B_X11_append_36, Option.bind_some, back_v, Option.toList_some, Option.toList_none, List.cons_append, List.nil_append, Nat.reduceAdd, Int.reduceToNat, Int.reduceNeg, upm_eq, upm_r, upm_i, if_pos, if_neg, ite_self, true_or, or_true, true_and, and_true, false_or, or_false, false_and, and_false, wr_id, i10, i01, upr_f, upr_eq, thr58, upm_upr, upr_upr, lc_lt, lc_gt, lc_ge, lc_le, afit1, afit0, afitI, bifit, not_true_eq_false, not_false_eq_true, if_true, if_false, Bool.false_eq_true, reduceCtorEq, k1557, k1558, g1557_2, hw, hT, i40]
        · by_cases c16 : x < 16
          · have hT4 : T = x - 12 := by omega
            have hv : by5 x1 x2 x3 x4 x5 x = zand (zshr x4 (24 - 8 * T)) 255 := by unfold by5; rw [if_neg c4, if_neg c8, if_neg c12, if_pos c16, hT4]; rfl
            obtain ⟨w', k0, k1, k2⟩ := key (a_i x4)
            refine ⟨w', ?_, k1, k2⟩
            rw [← k0, hv]
            rw [B_X11_append_23]
            simp (disch := first | assumption | omega) only [k1559, k1560, k1561, k1562, k1563, k1564, k1565, k1566, k1567, g1557_3, g1557_5, g1557_6, g1557_17, g1557_18, g1557_19, g1557_20, g1557_21, g1557_23, B_X11_append_0, B_X11_append_99, B_X11_append_58, B_X11_append_47, B_X11_append_36, Option.bind_some, back_v, Option.toList_some, Option.toList_none, List.cons_append, List.nil_append, Nat.reduceAdd, Int.reduceToNat, Int.reduceNeg, upm_eq, upm_r, upm_i, if_pos, if_neg, ite_self, true_or, or_true, true_and, and_true, false_or, or_false, false_and, and_false, wr_id, i10, i01, upr_f, upr_eq, thr58, upm_upr, upr_upr, lc_lt, lc_gt, lc_ge, lc_le, afit1, afit0, afitI, bifit, not_true_eq_false, not_false_eq_true, if_true, if_false, Bool.false_eq_true, reduceCtorEq, k1557, k1558, g1557_2, hw, hT, i40]
          · have hT4 : T = x - 16 := by omega
            have hv : by5 x1 x2 x3 x4 x5 x = zand (zshr x5 (24 - 8 * T)) 255 := by unfold by5; rw [if_neg c4, if_neg c8, if_neg c12, if_neg c16, hT4]; rfl
            obtain ⟨w', k0, k1, k2⟩ := key (a_i x5)
            refine ⟨w', ?_, k1, k2⟩
            rw [← k0, hv]
            rw [B_X11_append_23]
            simp (disch := first | assumption | omega) only [k1559, k1560, k1561, k1562, k1563, k1564, k1565, k1566, k1567, g1557_3, g1557_5, g1557_6, g1557_17, g1557_18, g1557_19, g1557_20, g1557_21, g1557_23, B_X11_append_0, B_X11_append_99, B_X11_append_58, B_X11_append_47, B_X11_append_36, Option.bind_some, back_v, Option.toList_some, Option.toList_none, List.cons_append, List.nil_append, Nat.reduceAdd, Int.reduceToNat, Int.reduceNeg, upm_eq, upm_r, upm_i, if_pos, if_neg, ite_self, true_or, or_true, true_and, and_true, false_or, or_false, false_and, and_false, wr_id, i10, i01, upr_f, upr_eq, thr58, upm_upr, upr_upr, lc_lt, lc_gt, lc_ge, lc_le, afit1, afit0, afitI, bifit, not_true_eq_false, not_false_eq_true, if_true, if_false, Bool.false_eq_true, reduceCtorEq, k1557, k1558, g1557_2, hw, hT, i40]
theorem C_append {v : Nat → Nat → Int} {x1 x2 x3 x4 x5 b : Int} (hb : 0 ≤ b ∧ b ≤ 480) (hv : v 19 1 = b) : ∃ v', a_m 91 [a_r 18, a_i x1, a_i x2, a_i x3, a_i x4, a_i x5] (K0 L, v, G a, t) = some (.inl (some (a_i (b + 20))), (K0 L, v', G a, t)) ∧ (∀ q, q ≠ 19 → q ≠ 20 → v' q = v q) ∧ (∀ j, j ≠ 1 → v' 19 j = v 19 j) ∧ v' 19 1 = b + 20 ∧ ∀ j : Nat, v' 20 j = if b ≤ j ∧ (j : Int) < b + 20 then by5 x1 x2 x3 x4 x5 (j - b) else v 20 j := by
  obtain ⟨v1, a0, a1, a2, a3, a4⟩ := C_takeIn (L := L) (a := a) (t := t) (x := x1) (p := b) (v := v) hb.1 (by omega) hv
  obtain ⟨v2, b0, b1, b2, b3, b4⟩ := C_takeIn (L := L) (a := a) (t := t) (x := x2) (p := b + 4) (v := v1) (by omega) (by omega) a3
  obtain ⟨v3, c0, c1, c2, c3, c4⟩ := C_takeIn (L := L) (a := a) (t := t) (x := x3) (p := b + 4 + 4) (v := v2) (by omega) (by omega) b3
  obtain ⟨v4, d0, d1, d2, d3, d4⟩ := C_takeIn (L := L) (a := a) (t := t) (x := x4) (p := b + 4 + 4 + 4) (v := v3) (by omega) (by omega) c3
  obtain ⟨v5, e0, e1, e2, e3, e4⟩ := C_takeIn (L := L) (a := a) (t := t) (x := x5) (p := b + 4 + 4 + 4 + 4) (v := v4) (by omega) (by omega) d3
  have e3' : v5 19 1 = b + 20 := by rw [e3]; omega
  refine ⟨v5, ?_, fun q q1 q2 => by rw [e1 q q1 q2, d1 q q1 q2, c1 q q1 q2, b1 q q1 q2, a1 q q1 q2], fun j hj => by rw [e2 j hj, d2 j hj, c2 j hj, b2 j hj, a2 j hj], e3', fun j => ?_⟩
  · have hng : ¬ b + 20 > 500 := by omega
    simp (disch := first | assumption | omega) only [k18, g18_0, g18_1, g18_2, g18_3, g18_4, g18_5, g18_6, g18_7, k19, k20, g19_0, E_X10_append, B_X10_append_0, B_X10_append_7, B_X10_append_20, B_X10_append_28, B_X10_append_36, B_X10_append_45, B_X10_append_54, E_X5_hasRoom, B_X5_hasRoom_0, Option.bind_some, back_v, Option.toList_some, Option.toList_none, List.cons_append, List.nil_append, Nat.reduceAdd, Int.reduceToNat, Int.reduceNeg, upm_eq, upm_r, upm_i, if_pos, if_neg, ite_self, true_or, or_true, true_and, and_true, false_or, or_false, false_and, and_false, wr_id, i10, i01, upr_f, upr_eq, thr58, upm_upr, upr_upr, lc_lt, lc_gt, lc_ge, lc_le, afit1, afit0, afitI, bifit, not_true_eq_false, not_false_eq_true, if_true, if_false, Bool.false_eq_true, reduceCtorEq, k1557, k1558, g1557_2, hv, hng, a0, b0, c0, d0, e0, e3']
  · rw [e4 j, d4 j, c4 j, b4 j, a4 j]
    unfold by5
    by_cases h0 : b ≤ j ∧ (j : Int) < b + 20
    · rw [if_pos h0]
      by_cases h4 : (j : Int) - b < 4
      · rw [if_pos h4, if_neg (by omega), if_neg (by omega), if_neg (by omega), if_neg (by omega), if_pos (by omega)]
      · rw [if_neg h4]
        by_cases h8 : (j : Int) - b < 8
        · rw [if_pos h8, if_neg (by omega), if_neg (by omega), if_neg (by omega), if_pos (by omega)]; congr 1; omega
        · rw [if_neg h8]
          by_cases h12 : (j : Int) - b < 12
          · rw [if_pos h12, if_neg (by omega), if_neg (by omega), if_pos (by omega)]; congr 1; omega
          · rw [if_neg h12]
            by_cases h16 : (j : Int) - b < 16
            · rw [if_pos h16, if_neg (by omega), if_pos (by omega)]; congr 1; omega
            · rw [if_neg h16, if_pos (by omega)]; congr 1; omega
    · rw [if_neg h0, if_neg (by omega), if_neg (by omega), if_neg (by omega), if_neg (by omega), if_neg (by omega)]
theorem by5_rng {x1 x2 x3 x4 x5 i : Int} : 0 ≤ by5 x1 x2 x3 x4 x5 i ∧ by5 x1 x2 x3 x4 x5 i ≤ 255 := by
  unfold by5 byW
  split
  · exact zand255
  · split
    · exact zand255
    · split
      · exact zand255
      · split
        · exact zand255
        · exact zand255
theorem appendBoth {v w : Nat → Nat → Int} {x1 x2 x3 x4 x5 : Int} (h : XR v w) : ∃ y v' w', a_m 91 [a_r 18, a_i x1, a_i x2, a_i x3, a_i x4, a_i x5] (K0 L, v, G a, t) = some (.inl (some (a_i (y))), (K0 L, v', G a, t)) ∧ a_m 175 [a_r 1557, a_i x1, a_i x2, a_i x3, a_i x4, a_i x5] (K0 L, w, G a, t) = some (.inl (some (a_i (y))), (K0 L, w', G a, t)) ∧ XR v' w' ∧ (∀ q, q ≠ 19 → q ≠ 20 → v' q = v q) ∧ (∀ j, j ≠ 1 → v' 19 j = v 19 j) ∧ (∀ q, q ≠ 1557 → q ≠ 1561 → w' q = w q) ∧ (∀ j, j ≠ 0 → j ≠ 7 → w' 1557 j = w 1557 j) ∧ w' 1557 0 = 0 := by
  obtain ⟨h1, ⟨h2, h3⟩, h4, h5, h6, h7, h8, h9⟩ := h
  by_cases hb : v 19 1 ≤ 480
  · obtain ⟨v', c0, c1, c2, c3, c4⟩ := C_append (L := L) (a := a) (t := t) (v := v) (x1 := x1) (x2 := x2) (x3 := x3) (x4 := x4) (x5 := x5) ⟨h2, hb⟩ rfl
    obtain ⟨w', m0, m1, m2⟩ := M_append_loop (L := L) (a := a) (t := t) (x1 := x1) (x2 := x2) (x3 := x3) (x4 := x4) (x5 := x5) (b := v 19 1) ⟨h2, hb⟩ 20 0 (upm w 1557 0 0) (a_x false) (by decide) (by decide) (by rw [upm_i (by decide)]; exact h1.symm)
    have hle : w 1557 7 + 20 ≤ 500 := by omega
    have hm : a_m 175 [a_r 1557, a_i x1, a_i x2, a_i x3, a_i x4, a_i x5] (K0 L, w, G a, t) = some (.inl (some (a_i (v 19 1 + 20))), (K0 L, upm w' 1557 7 (v 19 1 + 20), G a, t)) := by
      rw [← m0]
      simp (disch := first | assumption | omega) only [k1559, k1560, k1561, k1562, k1563, k1564, k1565, k1566, k1567, g1557_3, g1557_5, g1557_6, g1557_17, g1557_18, g1557_19, g1557_20, g1557_21, g1557_23, E_X11_append, B_X11_append_0, B_X11_append_99, B_X11_append_58, B_X11_append_47, B_X11_append_36, Option.bind_some, back_v, Option.toList_some, Option.toList_none, List.cons_append, List.nil_append, Nat.reduceAdd, Int.reduceToNat, Int.reduceNeg, upm_eq, upm_r, upm_i, if_pos, if_neg, ite_self, true_or, or_true, true_and, and_true, false_or, or_false, false_and, and_false, wr_id, i10, i01, upr_f, upr_eq, thr58, upm_upr, upr_upr, lc_lt, lc_gt, lc_ge, lc_le, afit1, afit0, afitI, bifit, not_true_eq_false, not_false_eq_true, if_true, if_false, Bool.false_eq_true, reduceCtorEq, k1557, k1558, g1557_2, hle]
    refine ⟨v 19 1 + 20, v', upm w' 1557 7 (v 19 1 + 20), c0, hm, ⟨?_, ?_, ?_, ?_, ?_, ?_, ?_, ?_⟩, c1, c2, fun q q1 q2 => ?_, fun j j1 j2 => ?_, ?_⟩
    · rw [c3, upm_eq]
    · rw [c3]; omega
    · rw [c2 2 (by decide), upm_i (by decide), m1 1557 (by decide), upm_i (by decide)]; exact h4
    · rw [c2 3 (by decide), upm_i (by decide), m1 1557 (by decide), upm_i (by decide)]; exact h5
    · funext j
      rw [c4 j, upm_r (by decide), m2 j, upm_r (by decide), h6, Int.add_zero]
    · intro i
      rw [c4 i]
      by_cases hi : v 19 1 ≤ i ∧ (i : Int) < v 19 1 + 20
      · rw [if_pos hi]; exact by5_rng
      · rw [if_neg hi]; exact h7 i
    · exact strOK_congr (fun q q1 q2 => c1 q (by omega) (by omega)) h8
    · exact strOK_congr (fun q q1 q2 => by rw [upm_rf (by omega), m1 q (by omega), upm_rf (by omega)]) h9
    · rw [upm_rf q1, m1 q q2, upm_rf q1]
    · rw [upm_i j2, m1 1557 (by decide), upm_i j1]
    · rw [upm_i (by decide), m1 1557 (by decide), upm_eq]
  · have hg : v 19 1 + 20 > 500 := by omega
    have hle : ¬ w 1557 7 + 20 ≤ 500 := by omega
    refine ⟨-1, v, upm w 1557 0 0, ?_, ?_, ⟨?_, ⟨h2, h3⟩, ?_, ?_, ?_, h7, h8, strOK_congr (fun q q1 q2 => upm_rf (by omega)) h9⟩, fun _ _ _ => rfl, fun _ _ => rfl, fun q q1 _ => upm_rf q1, fun j j0 _ => upm_i j0, upm_eq⟩
    · simp (disch := first | assumption | omega) only [k18, g18_0, g18_1, g18_2, g18_3, g18_4, g18_5, g18_6, g18_7, k19, k20, g19_0, E_X10_append, B_X10_append_0, B_X10_append_7, B_X10_append_20, B_X10_append_28, B_X10_append_36, B_X10_append_45, B_X10_append_54, E_X5_hasRoom, B_X5_hasRoom_0, Option.bind_some, back_v, Option.toList_some, Option.toList_none, List.cons_append, List.nil_append, Nat.reduceAdd, Int.reduceToNat, Int.reduceNeg, upm_eq, upm_r, upm_i, if_pos, if_neg, ite_self, true_or, or_true, true_and, and_true, false_or, or_false, false_and, and_false, wr_id, i10, i01, upr_f, upr_eq, thr58, upm_upr, upr_upr, lc_lt, lc_gt, lc_ge, lc_le, afit1, afit0, afitI, bifit, not_true_eq_false, not_false_eq_true, if_true, if_false, Bool.false_eq_true, reduceCtorEq, k1557, k1558, g1557_2, hg]
    · simp (disch := first | assumption | omega) only [k1559, k1560, k1561, k1562, k1563, k1564, k1565, k1566, k1567, g1557_3, g1557_5, g1557_6, g1557_17, g1557_18, g1557_19, g1557_20, g1557_21, g1557_23, E_X11_append, B_X11_append_0, B_X11_append_99, B_X11_append_58, B_X11_append_47, B_X11_append_36, Option.bind_some, back_v, Option.toList_some, Option.toList_none, List.cons_append, List.nil_append, Nat.reduceAdd, Int.reduceToNat, Int.reduceNeg, upm_eq, upm_r, upm_i, if_pos, if_neg, ite_self, true_or, or_true, true_and, and_true, false_or, or_false, false_and, and_false, wr_id, i10, i01, upr_f, upr_eq, thr58, upm_upr, upr_upr, lc_lt, lc_gt, lc_ge, lc_le, afit1, afit0, afitI, bifit, not_true_eq_false, not_false_eq_true, if_true, if_false, Bool.false_eq_true, reduceCtorEq, k1557, k1558, g1557_2, hle]
    · rw [upm_i (by decide)]; exact h1
    · rw [upm_i (by decide)]; exact h4
    · rw [upm_i (by decide)]; exact h5
    · rw [upm_rf (by decide)]; exact h6
end APP
