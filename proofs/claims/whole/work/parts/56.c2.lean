/-! ===== the class: hearing ===== -/
section VW
variable {u : Nat → Nat → Int} {R p n j : Nat} {x : Int} {w : Nat → Int}
theorem vw_s0 (u : Nat → Nat → Int) (hp : p < 30) : u (R + 12 + 3 * p) = vw u R (12 + 3 * p) := by rw [vw_at (by omega), Nat.add_assoc]
theorem vw_s1 (u : Nat → Nat → Int) (hp : p < 30) : u (R + 13 + 3 * p) = vw u R (12 + 3 * p + 1) := by rw [vw_at (by omega)]; congr 1; omega
theorem vw_s2 (u : Nat → Nat → Int) (hp : p < 30) : u (R + 14 + 3 * p) = vw u R (12 + 3 * p + 2) := by rw [vw_at (by omega)]; congr 1; omega
theorem vw_l0 (u : Nat → Nat → Int) (hn : n < 6) : u (R + 103 + 4 * n) = vw u R (103 + 4 * n) := by rw [vw_at (by omega), Nat.add_assoc]
theorem vw_l1 (u : Nat → Nat → Int) (hn : n < 6) : u (R + 104 + 4 * n) = vw u R (104 + 4 * n) := by rw [vw_at (by omega), Nat.add_assoc]
theorem vw_l2 (u : Nat → Nat → Int) (hn : n < 6) : u (R + 105 + 4 * n) = vw u R (105 + 4 * n) := by rw [vw_at (by omega), Nat.add_assoc]
theorem vw_l3 (u : Nat → Nat → Int) (hn : n < 6) : u (R + 106 + 4 * n) = vw u R (106 + 4 * n) := by rw [vw_at (by omega), Nat.add_assoc]
theorem vwU (u : Nat → Nat → Int) {c : Nat} (h : c < 127) : u (R + c) = vw u R c := by rw [vw_at h]
theorem vwm_s0 (hp : p < 30) : vw (upm u (R + 12 + 3 * p) j x) R = upm (vw u R) (12 + 3 * p) j x := by rw [Nat.add_assoc]; exact vw_upm (by omega)
theorem vwm_s1 (hp : p < 30) : vw (upm u (R + 13 + 3 * p) j x) R = upm (vw u R) (12 + 3 * p + 1) j x := by rw [show R + 13 + 3 * p = R + (12 + 3 * p + 1) from by omega]; exact vw_upm (by omega)
theorem vwr_s1 (hp : p < 30) : vw (upr u (R + 13 + 3 * p) w) R = upr (vw u R) (12 + 3 * p + 1) w := by rw [show R + 13 + 3 * p = R + (12 + 3 * p + 1) from by omega]; exact vw_upr (by omega)
theorem vwr_s2 (hp : p < 30) : vw (upr u (R + 14 + 3 * p) w) R = upr (vw u R) (12 + 3 * p + 2) w := by rw [show R + 14 + 3 * p = R + (12 + 3 * p + 2) from by omega]; exact vw_upr (by omega)
theorem vwm_l0 (hn : n < 6) : vw (upm u (R + 103 + 4 * n) j x) R = upm (vw u R) (103 + 4 * n) j x := by rw [Nat.add_assoc]; exact vw_upm (by omega)
theorem vwm_l1 (hn : n < 6) : vw (upm u (R + 104 + 4 * n) j x) R = upm (vw u R) (104 + 4 * n) j x := by rw [Nat.add_assoc]; exact vw_upm (by omega)
theorem vwm_l2 (hn : n < 6) : vw (upm u (R + 105 + 4 * n) j x) R = upm (vw u R) (105 + 4 * n) j x := by rw [Nat.add_assoc]; exact vw_upm (by omega)
theorem vwm_l3 (hn : n < 6) : vw (upm u (R + 106 + 4 * n) j x) R = upm (vw u R) (106 + 4 * n) j x := by rw [Nat.add_assoc]; exact vw_upm (by omega)
theorem vwr_l1 (hn : n < 6) : vw (upr u (R + 104 + 4 * n) w) R = upr (vw u R) (104 + 4 * n) w := by rw [Nat.add_assoc]; exact vw_upr (by omega)
theorem vwr_l2 (hn : n < 6) : vw (upr u (R + 105 + 4 * n) w) R = upr (vw u R) (105 + 4 * n) w := by rw [Nat.add_assoc]; exact vw_upr (by omega)
theorem vwr_l3 (hn : n < 6) : vw (upr u (R + 106 + 4 * n) w) R = upr (vw u R) (106 + 4 * n) w := by rw [Nat.add_assoc]; exact vw_upr (by omega)
theorem outR_m {q : Nat} (h : R ≤ q) (h2 : q < R + 127) : outR R u (upm u q j x) := fun y hy => upm_rf (by omega)
theorem outR_r {q : Nat} (h : R ≤ q) (h2 : q < R + 127) : outR R u (upr u q w) := fun y hy => upr_rf (by omega)
end VW
theorem off_same {s s' : Nat → Int} {l time : Int} (h : sameOut l s s') (hl : 0 ≤ l ∧ l ≤ 5) (hg : 0 ≤ mLi s l 1 ∧ mLi s l 1 ≤ 4) : mOff s' l time = mOff s l time := by
  unfold mOff
  rw [li_keep h hl (by decide)]
  have key : ∀ (d : Nat) (x : Int), 0 ≤ x → x + d ≤ 4 → anyW d x (fun i => inB time (mLi s' l (2 + 2 * i)) (mLi s' l (2 + 2 * i + 1))) = anyW d x (fun i => inB time (mLi s l (2 + 2 * i)) (mLi s l (2 + 2 * i + 1))) := by
    intro d
    induction d with
    | zero => intro x _ _; rfl
    | succ d ih =>
      intro x x0 hx
      rw [anyW, anyW, ih _ (by omega) (by omega), li_keep h hl (by omega), li_keep h hl (by omega)]
  exact key _ _ (by decide) (by omega)
theorem anyW_congr {p q : Int → Bool} : ∀ (d : Nat) (x : Int), (∀ i, x ≤ i → i < x + d → p i = q i) → anyW d x p = anyW d x q := by
  intro d
  induction d with
  | zero => intro x _; rfl
  | succ d ih =>
    intro x h
    rw [anyW, anyW, h x (Int.le_refl _) (by omega), ih _ fun i h1 h2 => h i (by omega) (by omega)]
section C2
variable {L : Nat} {u : Nat → Nat → Int} {a : Nat → Nat → Nat} {t : Nat × Nat × Nat} {R n p : Nat}
theorem C_isWhole {S : Nat} (hS : K0 L S = (7, 0)) : a_m 69 [a_r S] (K0 L, u, G a, t) = some (.inl (some (a_i (bi (decide (u S 1 = -1))))), (K0 L, u, G a, t)) := by
  by_cases h : u S 1 = -1
  · simp (disch := first | assumption | omega) only [E_X6_isWhole, B_X6_isWhole_0, Option.bind_some, back_v, Option.toList_some, Option.toList_none, List.cons_append, List.nil_append, Nat.reduceAdd, Int.reduceToNat, Int.reduceNeg, upm_eq, upm_r, upm_i, if_pos, if_neg, ite_self, true_or, or_true, true_and, and_true, false_or, or_false, false_and, and_false, wr_id, i10, i01, upr_f, upr_eq, thr58, upm_upr, upr_upr, lc_lt, lc_gt, lc_ge, lc_le, afit1, afit0, afitI, bifit, not_true_eq_false, not_false_eq_true, if_true, if_false, Bool.false_eq_true, reduceCtorEq, k1557, k1558, g1557_2, hS, h, decide_true, bi_t]
  · simp (disch := first | assumption | omega) only [E_X6_isWhole, B_X6_isWhole_0, Option.bind_some, back_v, Option.toList_some, Option.toList_none, List.cons_append, List.nil_append, Nat.reduceAdd, Int.reduceToNat, Int.reduceNeg, upm_eq, upm_r, upm_i, if_pos, if_neg, ite_self, true_or, or_true, true_and, and_true, false_or, or_false, false_and, and_false, wr_id, i10, i01, upr_f, upr_eq, thr58, upm_upr, upr_upr, lc_lt, lc_gt, lc_ge, lc_le, afit1, afit0, afitI, bifit, not_true_eq_false, not_false_eq_true, if_true, if_false, Bool.false_eq_true, reduceCtorEq, k1557, k1558, g1557_2, hS, h, decide_false, bi_f]
theorem C_isInGap_loop {time : Int} (hR : isRad R) (hn : n < 6) (hg : 0 ≤ u (R + 103 + 4 * n) 1 ∧ u (R + 103 + 4 * n) 1 ≤ 4) : ∀ (d : Nat) (x : Int), 0 ≤ x → x + d = u (R + 103 + 4 * n) 1 → a_X 17 2 [a_r (R + 103 + 4 * n), a_i time, a_i x] [] (K0 L, u, G a, t) = some (.inl (some (a_i (bi (anyW d x (fun i => inB time (u (R + 104 + 4 * n) i.toNat) (u (R + 105 + 4 * n) i.toNat)))))), (K0 L, u, G a, t)) := by
  intro d
  induction d with
  | zero => intro x h0 h; rw [B_X2_isInGap_2]; simp (disch := first | assumption | omega) only [kRl0, kRl1, kRl2, kRl3, gRl_2, gRl_3, gRl_4, B_X2_isInGap_0, Option.bind_some, back_v, Option.toList_some, Option.toList_none, List.cons_append, List.nil_append, Nat.reduceAdd, Int.reduceToNat, Int.reduceNeg, upm_eq, upm_r, upm_i, if_pos, if_neg, ite_self, true_or, or_true, true_and, and_true, false_or, or_false, false_and, and_false, wr_id, i10, i01, upr_f, upr_eq, thr58, upm_upr, upr_upr, lc_lt, lc_gt, lc_ge, lc_le, afit1, afit0, afitI, bifit, not_true_eq_false, not_false_eq_true, if_true, if_false, Bool.false_eq_true, reduceCtorEq, k1557, k1558, g1557_2, anyW, bi_f]
  | succ d ih =>
    intro x h0 h; rw [B_X2_isInGap_2]
    by_cases h1 : u (R + 104 + 4 * n) x.toNat ≤ time
    · by_cases h2 : time ≤ u (R + 105 + 4 * n) x.toNat
      · rw [anyW, inB_t h1 h2]
        simp (disch := first | assumption | omega) only [kRl0, kRl1, kRl2, kRl3, gRl_2, gRl_3, gRl_4, B_X2_isInGap_0, Option.bind_some, back_v, Option.toList_some, Option.toList_none, List.cons_append, List.nil_append, Nat.reduceAdd, Int.reduceToNat, Int.reduceNeg, upm_eq, upm_r, upm_i, if_pos, if_neg, ite_self, true_or, or_true, true_and, and_true, false_or, or_false, false_and, and_false, wr_id, i10, i01, upr_f, upr_eq, thr58, upm_upr, upr_upr, lc_lt, lc_gt, lc_ge, lc_le, afit1, afit0, afitI, bifit, not_true_eq_false, not_false_eq_true, if_true, if_false, Bool.false_eq_true, reduceCtorEq, k1557, k1558, g1557_2, Bool.true_or, bi_t]
      · rw [anyW, inB_f (.inr (by omega)), Bool.false_or, ← ih (x + 1) (by omega) (by omega)]
        simp (disch := first | assumption | omega) only [kRl0, kRl1, kRl2, kRl3, gRl_2, gRl_3, gRl_4, B_X2_isInGap_0, Option.bind_some, back_v, Option.toList_some, Option.toList_none, List.cons_append, List.nil_append, Nat.reduceAdd, Int.reduceToNat, Int.reduceNeg, upm_eq, upm_r, upm_i, if_pos, if_neg, ite_self, true_or, or_true, true_and, and_true, false_or, or_false, false_and, and_false, wr_id, i10, i01, upr_f, upr_eq, thr58, upm_upr, upr_upr, lc_lt, lc_gt, lc_ge, lc_le, afit1, afit0, afitI, bifit, not_true_eq_false, not_false_eq_true, if_true, if_false, Bool.false_eq_true, reduceCtorEq, k1557, k1558, g1557_2]
    · rw [anyW, inB_f (.inl (by omega)), Bool.false_or, ← ih (x + 1) (by omega) (by omega)]
      simp (disch := first | assumption | omega) only [kRl0, kRl1, kRl2, kRl3, gRl_2, gRl_3, gRl_4, B_X2_isInGap_0, Option.bind_some, back_v, Option.toList_some, Option.toList_none, List.cons_append, List.nil_append, Nat.reduceAdd, Int.reduceToNat, Int.reduceNeg, upm_eq, upm_r, upm_i, if_pos, if_neg, ite_self, true_or, or_true, true_and, and_true, false_or, or_false, false_and, and_false, wr_id, i10, i01, upr_f, upr_eq, thr58, upm_upr, upr_upr, lc_lt, lc_gt, lc_ge, lc_le, afit1, afit0, afitI, bifit, not_true_eq_false, not_false_eq_true, if_true, if_false, Bool.false_eq_true, reduceCtorEq, k1557, k1558, g1557_2]
theorem C_isInGap {time : Int} (hR : isRad R) (hn : n < 6) (hg : 0 ≤ u (R + 103 + 4 * n) 1 ∧ u (R + 103 + 4 * n) 1 ≤ 4) : a_m 17 [a_r (R + 103 + 4 * n), a_i time] (K0 L, u, G a, t) = some (.inl (some (a_i (bi (anyW (u (R + 103 + 4 * n) 1).toNat 0 (fun i => inB time (u (R + 104 + 4 * n) i.toNat) (u (R + 105 + 4 * n) i.toNat)))))), (K0 L, u, G a, t)) := by
  simp (disch := first | assumption | omega) only [E_X2_isInGap, B_X2_isInGap_0, Option.bind_some, back_v, Option.toList_some, Option.toList_none, List.cons_append, List.nil_append, Nat.reduceAdd, Int.reduceToNat, Int.reduceNeg, upm_eq, upm_r, upm_i, if_pos, if_neg, ite_self, true_or, or_true, true_and, and_true, false_or, or_false, false_and, and_false, wr_id, i10, i01, upr_f, upr_eq, thr58, upm_upr, upr_upr, lc_lt, lc_gt, lc_ge, lc_le, afit1, afit0, afitI, bifit, not_true_eq_false, not_false_eq_true, if_true, if_false, Bool.false_eq_true, reduceCtorEq, k1557, k1558, g1557_2]
  exact C_isInGap_loop hR hn hg _ _ (by omega) (by omega)
def mxF (f g : Nat → Int) (i : Nat) : Nat → Int := fun j => if j < i then max (f j) (g j) else f j
theorem mxF0 {f g : Nat → Int} : mxF f g 0 = f := by funext j; simp [mxF]
theorem mxF1 {f g : Nat → Int} {i : Nat} : up1 (mxF f g i) i (max (f i) (g i)) = mxF f g (i + 1) := by
  funext j; simp only [mxF, up1]
  by_cases h : j = i
  · subst h; rw [if_pos rfl, if_pos (by omega)]
  · rw [if_neg h]
    by_cases h2 : j < i
    · rw [if_pos h2, if_pos (by omega)]
    · rw [if_neg h2, if_neg (by omega)]
theorem mxF_at {f g : Nat → Int} {i : Nat} : mxF f g i i = f i := by simp [mxF]
theorem C_hear_w (hR : isRad R) (hn : n < 6) (hp : p < 30) (hw : u (R + 12 + 3 * p) 1 = -1) : a_m 20 [a_r (R + 103 + 4 * n), a_r (R + 12 + 3 * p)] (K0 L, u, G a, t) = some (.inl none, (K0 L, upr (upm (upm (upm u (R + 103 + 4 * n) 6 (max (u (R + 103 + 4 * n) 6) (u (R + 12 + 3 * p) 0))) (R + 103 + 4 * n) 5 (max (u (R + 103 + 4 * n) 5) (u (R + 12 + 3 * p) 0))) (R + 103 + 4 * n) 8 (wr (u (R + 103 + 4 * n) 8 + 1))) (R + 106 + 4 * n) (mxF (u (R + 106 + 4 * n)) (u (R + 14 + 3 * p)) 12), G a, t)) := by
  have hk := kRs0 (L := L) hR hp
  simp (disch := first | assumption | omega) only [kRl0, kRl1, kRl2, kRl3, gRl_2, gRl_3, gRl_4, kRs0, kRs1, kRs2, gRs_6, gRs_7, E_X2_hear, B_X2_hear_0, B_X2_hear_19, Option.bind_some, back_v, Option.toList_some, Option.toList_none, List.cons_append, List.nil_append, Nat.reduceAdd, Int.reduceToNat, Int.reduceNeg, upm_eq, upm_r, upm_i, if_pos, if_neg, ite_self, true_or, or_true, true_and, and_true, false_or, or_false, false_and, and_false, wr_id, i10, i01, upr_f, upr_eq, thr58, upm_upr, upr_upr, lc_lt, lc_gt, lc_ge, lc_le, afit1, afit0, afitI, bifit, not_true_eq_false, not_false_eq_true, if_true, if_false, Bool.false_eq_true, reduceCtorEq, k1557, k1558, g1557_2, C_isWhole hk, hw, decide_true, bi_t]
  generalize hz : upm (upm (upm u (R + 103 + 4 * n) 6 (max (u (R + 103 + 4 * n) 6) (u (R + 12 + 3 * p) 0))) (R + 103 + 4 * n) 5 (max (u (R + 103 + 4 * n) 5) (u (R + 12 + 3 * p) 0))) (R + 103 + 4 * n) 8 (wr (u (R + 103 + 4 * n) 8 + 1)) = z
  have e1 : z (R + 106 + 4 * n) = u (R + 106 + 4 * n) := by rw [← hz, upm_rf (by omega), upm_rf (by omega), upm_rf (by omega)]
  have e2 : z (R + 14 + 3 * p) = u (R + 14 + 3 * p) := by rw [← hz, upm_rf (by omega), upm_rf (by omega), upm_rf (by omega)]
  rw [← e1, ← e2]
  have key := it_fwd (n := 12) (P := fun i : Nat => a_X 20 49 [a_r (R + 103 + 4 * n), a_r (R + 12 + 3 * p), a_i (i : Int)] [] (K0 L, upr z (R + 106 + 4 * n) (mxF (z (R + 106 + 4 * n)) (z (R + 14 + 3 * p)) i), G a, t)) (fun i hi => by
    rw [B_X2_hear_49]
    simp (disch := first | assumption | omega) only [kRl0, kRl1, kRl2, kRl3, gRl_2, gRl_3, gRl_4, kRs0, kRs1, kRs2, gRs_6, gRs_7, B_X2_hear_0, B_X2_hear_19, Option.bind_some, back_v, Option.toList_some, Option.toList_none, List.cons_append, List.nil_append, Nat.reduceAdd, Int.reduceToNat, Int.reduceNeg, upm_eq, upm_r, upm_i, if_pos, if_neg, ite_self, true_or, or_true, true_and, and_true, false_or, or_false, false_and, and_false, wr_id, i10, i01, upr_f, upr_eq, thr58, upm_upr, upr_upr, lc_lt, lc_gt, lc_ge, lc_le, afit1, afit0, afitI, bifit, not_true_eq_false, not_false_eq_true, if_true, if_false, Bool.false_eq_true, reduceCtorEq, k1557, k1558, g1557_2, Int.toNat_natCast, upr_eq, upr_r, upm_upr, mxF_at, mxF1]
    rfl)
  rw [mxF0, upr_self] at key
  refine (show _ = _ from key).trans ?_
  rw [B_X2_hear_49]
  simp (disch := first | assumption | omega) only [B_X2_hear_0, B_X2_hear_19, Option.bind_some, back_v, Option.toList_some, Option.toList_none, List.cons_append, List.nil_append, Nat.reduceAdd, Int.reduceToNat, Int.reduceNeg, upm_eq, upm_r, upm_i, if_pos, if_neg, ite_self, true_or, or_true, true_and, and_true, false_or, or_false, false_and, and_false, wr_id, i10, i01, upr_f, upr_eq, thr58, upm_upr, upr_upr, lc_lt, lc_gt, lc_ge, lc_le, afit1, afit0, afitI, bifit, not_true_eq_false, not_false_eq_true, if_true, if_false, Bool.false_eq_true, reduceCtorEq, k1557, k1558, g1557_2]
theorem C_hear_c (hR : isRad R) (hn : n < 6) (hp : p < 30) (hw : ¬ u (R + 12 + 3 * p) 1 = -1) (hs : 0 ≤ u (R + 12 + 3 * p) 1 ∧ u (R + 12 + 3 * p) 1 < 12) : a_m 20 [a_r (R + 103 + 4 * n), a_r (R + 12 + 3 * p)] (K0 L, u, G a, t) = some (.inl none, (K0 L, if u (R + 12 + 3 * p) 0 ≤ u (R + 106 + 4 * n) (u (R + 12 + 3 * p) 1).toNat then upm (upm u (R + 103 + 4 * n) 6 (max (u (R + 103 + 4 * n) 6) (u (R + 12 + 3 * p) 0))) (R + 103 + 4 * n) 7 (wr (u (R + 103 + 4 * n) 7 + 1)) else upm (upm u (R + 103 + 4 * n) 6 (max (u (R + 103 + 4 * n) 6) (u (R + 12 + 3 * p) 0))) (R + 106 + 4 * n) (u (R + 12 + 3 * p) 1).toNat (u (R + 12 + 3 * p) 0), G a, t)) := by
  have hk := kRs0 (L := L) hR hp
  by_cases h : u (R + 12 + 3 * p) 0 ≤ u (R + 106 + 4 * n) (u (R + 12 + 3 * p) 1).toNat
  · simp (disch := first | assumption | omega) only [kRl0, kRl1, kRl2, kRl3, gRl_2, gRl_3, gRl_4, kRs0, kRs1, kRs2, gRs_6, gRs_7, E_X2_hear, B_X2_hear_0, B_X2_hear_19, Option.bind_some, back_v, Option.toList_some, Option.toList_none, List.cons_append, List.nil_append, Nat.reduceAdd, Int.reduceToNat, Int.reduceNeg, upm_eq, upm_r, upm_i, if_pos, if_neg, ite_self, true_or, or_true, true_and, and_true, false_or, or_false, false_and, and_false, wr_id, i10, i01, upr_f, upr_eq, thr58, upm_upr, upr_upr, lc_lt, lc_gt, lc_ge, lc_le, afit1, afit0, afitI, bifit, not_true_eq_false, not_false_eq_true, if_true, if_false, Bool.false_eq_true, reduceCtorEq, k1557, k1558, g1557_2, C_isWhole hk, hw, decide_false, bi_f]
  · simp (disch := first | assumption | omega) only [kRl0, kRl1, kRl2, kRl3, gRl_2, gRl_3, gRl_4, kRs0, kRs1, kRs2, gRs_6, gRs_7, E_X2_hear, B_X2_hear_0, B_X2_hear_19, Option.bind_some, back_v, Option.toList_some, Option.toList_none, List.cons_append, List.nil_append, Nat.reduceAdd, Int.reduceToNat, Int.reduceNeg, upm_eq, upm_r, upm_i, if_pos, if_neg, ite_self, true_or, or_true, true_and, and_true, false_or, or_false, false_and, and_false, wr_id, i10, i01, upr_f, upr_eq, thr58, upm_upr, upr_upr, lc_lt, lc_gt, lc_ge, lc_le, afit1, afit0, afitI, bifit, not_true_eq_false, not_false_eq_true, if_true, if_false, Bool.false_eq_true, reduceCtorEq, k1557, k1558, g1557_2, C_isWhole hk, hw, decide_false, bi_f]
theorem C_noteHeard_w {l : Int} (hR : isRad R) (hp : p < 30) (hw : u (R + 12 + 3 * p) 1 = -1) : a_m 39 [a_r R, a_i l, a_r (R + 12 + 3 * p)] (K0 L, u, G a, t) = some (.inl none, (K0 L, u, G a, t)) := by
  have hk := kRs0 (L := L) hR hp
  simp (disch := first | assumption | omega) only [kR0, kR9, kR10, kR11, kR102, gR0_0, gR0_1, gR0_2, gR0_3, gR10_0, gR11, gR102, kR1, kR2, kR3, kR4, kR5, kR6, kR7, kR8, gR1_0, gR1_1, gR1_2, gR1_3, gR1_4, gR1_5, gR1_6, kRs0, kRs1, kRs2, gRs_6, gRs_7, E_X4_noteHeard, B_X4_noteHeard_0, B_X4_noteHeard_4, Option.bind_some, back_v, Option.toList_some, Option.toList_none, List.cons_append, List.nil_append, Nat.reduceAdd, Int.reduceToNat, Int.reduceNeg, upm_eq, upm_r, upm_i, if_pos, if_neg, ite_self, true_or, or_true, true_and, and_true, false_or, or_false, false_and, and_false, wr_id, i10, i01, upr_f, upr_eq, thr58, upm_upr, upr_upr, lc_lt, lc_gt, lc_ge, lc_le, afit1, afit0, afitI, bifit, not_true_eq_false, not_false_eq_true, if_true, if_false, Bool.false_eq_true, reduceCtorEq, k1557, k1558, g1557_2, C_isWhole hk, hw, decide_true, bi_t]
theorem C_noteHeard_c {l : Int} (hR : isRad R) (hp : p < 30) (hw : ¬ u (R + 12 + 3 * p) 1 = -1) (h0 : 0 ≤ u (R + 12 + 3 * p) 0 ∧ u (R + 12 + 3 * p) 0 < 100) : a_m 39 [a_r R, a_i l, a_r (R + 12 + 3 * p)] (K0 L, u, G a, t) = some (.inl none, (K0 L, upm u (R + 8) (u (R + 12 + 3 * p) 0).toNat (zor (u (R + 8) (u (R + 12 + 3 * p) 0).toNat) (zshl 1 l)), G a, t)) := by
  have hk := kRs0 (L := L) hR hp
  simp (disch := first | assumption | omega) only [kR0, kR9, kR10, kR11, kR102, gR0_0, gR0_1, gR0_2, gR0_3, gR10_0, gR11, gR102, kR1, kR2, kR3, kR4, kR5, kR6, kR7, kR8, gR1_0, gR1_1, gR1_2, gR1_3, gR1_4, gR1_5, gR1_6, kRs0, kRs1, kRs2, gRs_6, gRs_7, E_X4_noteHeard, B_X4_noteHeard_0, B_X4_noteHeard_4, Option.bind_some, back_v, Option.toList_some, Option.toList_none, List.cons_append, List.nil_append, Nat.reduceAdd, Int.reduceToNat, Int.reduceNeg, upm_eq, upm_r, upm_i, if_pos, if_neg, ite_self, true_or, or_true, true_and, and_true, false_or, or_false, false_and, and_false, wr_id, i10, i01, upr_f, upr_eq, thr58, upm_upr, upr_upr, lc_lt, lc_gt, lc_ge, lc_le, afit1, afit0, afitI, bifit, not_true_eq_false, not_false_eq_true, if_true, if_false, Bool.false_eq_true, reduceCtorEq, k1557, k1558, g1557_2, C_isWhole hk, hw, decide_false, bi_f]
/-- one listener hears what is due -/
theorem C_hearWhat_loop {c l : Int} {C : List (Nat → Int)} (hR : isRad R) : ∀ (d i : Nat) (u : Nat → Nat → Int) (s : Nat → Int) (v : AV), RelC (vw u R) (a R) C s → MI c s → 0 ≤ l ∧ l < s 3 → i + d = C.length →
    ∃ u', a_X 38 2 [a_r R, a_i l, a_i (i : Int), v] [] (K0 L, u, G a, t) = some (.inl none, (K0 L, u', G a, t)) ∧ RelC (vw u' R) (a R) C ((airDue l (s 1) (C.drop i)).foldl (mStep l (mOff s l (s 1))) s) ∧ outR R u u' := by
  intro d
  induction d with
  | zero =>
    intro i u s v h hM hl hi
    have hlen := airR_len h.2.2.2.2.2.2
    have h4 := hM.2.2.2.2.2.1
    have e10 : u (R + 10) 1 = s 4 := by rw [vwU (c := 10) u (by decide)]; exact h.1.2.2.2.2.2.2
    refine ⟨u, ?_, ?_, outR.refl⟩
    · rw [B_X4_hearWhatIsDue_2]
      have := h4.1
      simp (disch := first | assumption | omega) only [kR0, kR9, kR10, kR11, kR102, gR0_0, gR0_1, gR0_2, gR0_3, gR10_0, gR11, gR102, B_X4_hearWhatIsDue_0, B_X4_hearWhatIsDue_49, B_X4_hearWhatIsDue_80, B_X4_hearWhatIsDue_86, Option.bind_some, back_v, Option.toList_some, Option.toList_none, List.cons_append, List.nil_append, Nat.reduceAdd, Int.reduceToNat, Int.reduceNeg, upm_eq, upm_r, upm_i, if_pos, if_neg, ite_self, true_or, or_true, true_and, and_true, false_or, or_false, false_and, and_false, wr_id, i10, i01, upr_f, upr_eq, thr58, upm_upr, upr_upr, lc_lt, lc_gt, lc_ge, lc_le, afit1, afit0, afitI, bifit, not_true_eq_false, not_false_eq_true, if_true, if_false, Bool.false_eq_true, reduceCtorEq, k1557, k1558, g1557_2, e10]
    · rw [List.drop_eq_nil_of_le (by omega)]; exact h
  | succ d ih =>
    intro i u s v h hM hl hi
    obtain ⟨r1, r2, r3, r4, r5, r6, r7⟩ := h
    have hRel : RelC (vw u R) (a R) C s := ⟨r1, r2, r3, r4, r5, r6, r7⟩
    have hM3 := hM.2.2.2.1
    have hM2 := hM.2.2.1
    have hl5 : 0 ≤ l ∧ l ≤ 5 := by omega
    have hl6 : l.toNat < 6 := by omega
    have hlen := airR_len r7
    have h4 := hM.2.2.2.2.2.1
    have h40 := h4.1
    have h430 := h4.2.1
    have e10 : u (R + 10) 1 = s 4 := by rw [vwU (c := 10) u (by decide)]; exact r1.2.2.2.2.2.2
    have e06 : u R 6 = s 1 := by have := r1.2.2.1; rwa [vw_at (by decide)] at this
    have hi30 : i < 30 := by omega
    have hp := r7.1 i hi30
    have hiC : i < C.length := by omega
    have hsg := r7.2.2.2.2 i hiC
    generalize hpp : a R i = p at *
    have hb7 := hsg.2.2.2.2.2.2.1 l hl.1 hl.2
    have hdue : u (R + 13 + 3 * p) l.toNat = C[i] (5 + l).toNat := by rw [vw_s1 u hp]; exact hb7.1
    have hdrop : C.drop i = C[i] :: C.drop (i + 1) := List.drop_eq_getElem_cons hiC
    have hgap := (hM.2.2.2.2.2.2.2 l hl.1 hl.2).2
    obtain ⟨q1, q2, q3, q4, q5, q6, q7, q8, q9, q10⟩ := r6 l hl.1 hl.2
    have eg : u (R + 103 + 4 * l.toNat) 1 = mLi s l 1 := by rw [vw_l0 u hl6]; exact q2
    have hoff : a_m 17 [a_r (R + 103 + 4 * l.toNat), a_i (s 1)] (K0 L, u, G a, t) = some (.inl (some (a_i (bi (mOff s l (s 1))))), (K0 L, u, G a, t)) := by
      rw [C_isInGap hR hl6 (by rw [eg]; exact hgap), eg]
      have : anyW (mLi s l 1).toNat 0 (fun i => inB (s 1) (u (R + 104 + 4 * l.toNat) i.toNat) (u (R + 105 + 4 * l.toNat) i.toNat)) = mOff s l (s 1) := by
        unfold mOff
        refine anyW_congr _ _ fun i h1 h2 => ?_
        obtain ⟨g1, g2⟩ := q10 i h1 (by omega)
        rw [vw_l1 u hl6, vw_l2 u hl6, g1, g2]
      rw [this]
    have hidx : ((i + 1 : Nat) : Int) = (i : Int) + 1 := by omega
    by_cases hd : C[i] (5 + l).toNat = s 1
    · have hdd : airDue l (s 1) (C.drop i) = C[i] :: airDue l (s 1) (C.drop (i + 1)) := by
        rw [hdrop]; unfold airDue; rw [List.filter_cons, if_pos (by simp [hd])]
      rw [hdd, List.foldl_cons]
      cases ho : mOff s l (s 1) with
      | true =>
        rw [ho] at hoff
        have hst := rel_off (x := C[i]) hRel hM hl
        have hsm : sameOut l s (mStep l true s C[i]) := by
          have : mStep l true s C[i] = up1 s (436 + 19 * l + 14).toNat (wr (mLi s l 14 + 1)) := by simp [mStep]
          rw [this]; exact sameOut_li hl.1 (by decide)
        have hu : vw (upm u (R + 103 + 4 * l.toNat) 9 (wr (u (R + 103 + 4 * l.toNat) 9 + 1))) R = upm (vw u R) (103 + 4 * l.toNat) 9 (wr (vw u R (103 + 4 * l.toNat) 9 + 1)) := by rw [vwm_l0 hl6, vw_l0 u hl6]
        obtain ⟨u', g1, g2, g3⟩ := ih (i + 1) (upm u (R + 103 + 4 * l.toNat) 9 (wr (u (R + 103 + 4 * l.toNat) 9 + 1))) (mStep l true s C[i]) (a_r (R + 12 + 3 * p)) (by rw [hu]; exact hst) (MI_same hM hsm hl5) (by rw [sameOut_hd hsm hl5 (by decide)]; exact hl) (by omega)
        rw [sameOut_hd hsm hl5 (by decide), off_same hsm hl5 hgap, ho] at g2
        refine ⟨u', ?_, g2, (outR_m (by omega) (by omega)).trans g3⟩
        rw [← g1, hidx]
        rw [B_X4_hearWhatIsDue_2]
        simp (disch := first | assumption | omega) only [kR0, kR9, kR10, kR11, kR102, gR0_0, gR0_1, gR0_2, gR0_3, gR10_0, gR11, gR102, kRs0, kRs1, kRs2, gRs_6, gRs_7, kRl0, kRl1, kRl2, kRl3, gRl_2, gRl_3, gRl_4, B_X4_hearWhatIsDue_0, B_X4_hearWhatIsDue_49, B_X4_hearWhatIsDue_80, B_X4_hearWhatIsDue_86, Option.bind_some, back_v, Option.toList_some, Option.toList_none, List.cons_append, List.nil_append, Nat.reduceAdd, Int.reduceToNat, Int.reduceNeg, upm_eq, upm_r, upm_i, if_pos, if_neg, ite_self, true_or, or_true, true_and, and_true, false_or, or_false, false_and, and_false, wr_id, i10, i01, upr_f, upr_eq, thr58, upm_upr, upr_upr, lc_lt, lc_gt, lc_ge, lc_le, afit1, afit0, afitI, bifit, not_true_eq_false, not_false_eq_true, if_true, if_false, Bool.false_eq_true, reduceCtorEq, k1557, k1558, g1557_2, e10, e06, hpp, Int.toNat_natCast, hdue, hd, hoff, bi_t]
      | false =>
        rw [ho] at hoff
        have hcn := hsg.2.2.2.2.2.2.2.2.1
        rcases hcn with hc0 | hc1
        · -- a correction
          have hst := rel_cor hRel hM hl hsg hc0
          have b1 := hsg.1
          have b2 := hsg.2.1
          rw [if_neg (by omega)] at b2
          have b10 := hsg.2.2.2.2.2.2.2.2.2.1
          have b11 := hsg.2.2.2.2.2.2.2.2.2.2.1 hc0
          have hco := (r3 (C[i] 1) b11 b10.2)
          have hS0 : u (R + 12 + 3 * p) 0 = C[i] 1 := by rw [vw_s0 u hp]; exact b1
          have hS1 : u (R + 12 + 3 * p) 1 = vw u R 6 (C[i] 1).toNat := by rw [vw_s0 u hp]; exact b2
          have hsl : 0 ≤ u (R + 12 + 3 * p) 1 ∧ u (R + 12 + 3 * p) 1 < 12 := by rw [hS1]; exact hco.1
          have hnw : ¬ u (R + 12 + 3 * p) 1 = -1 := by omega
          have hsm : sameOut l s (mStep l false s C[i]) := sameOut_step hl5 (fun _ => ⟨b11, by omega, by rw [hco.2.1]; exact hco.1⟩)
          have hh := C_hear_c (L := L) (u := u) (a := a) (t := t) hR hl6 hp hnw hsl
          generalize hw : (if u (R + 12 + 3 * p) 0 ≤ u (R + 106 + 4 * l.toNat) (u (R + 12 + 3 * p) 1).toNat then upm (upm u (R + 103 + 4 * l.toNat) 6 (max (u (R + 103 + 4 * l.toNat) 6) (u (R + 12 + 3 * p) 0))) (R + 103 + 4 * l.toNat) 7 (wr (u (R + 103 + 4 * l.toNat) 7 + 1)) else upm (upm u (R + 103 + 4 * l.toNat) 6 (max (u (R + 103 + 4 * l.toNat) 6) (u (R + 12 + 3 * p) 0))) (R + 106 + 4 * l.toNat) (u (R + 12 + 3 * p) 1).toNat (u (R + 12 + 3 * p) 0)) = w at hh
          have ws : w (R + 12 + 3 * p) = u (R + 12 + 3 * p) := by
            rw [← hw]; split
            · rw [upm_rf (by omega), upm_rf (by omega)]
            · rw [upm_rf (by omega), upm_rf (by omega)]
          have w8 : w (R + 8) = u (R + 8) := by
            rw [← hw]; split
            · rw [upm_rf (by omega), upm_rf (by omega)]
            · rw [upm_rf (by omega), upm_rf (by omega)]
          have wo : outR R u w := by
            rw [← hw]; split
            · exact (outR_m (by omega) (by omega)).trans (outR_m (by omega) (by omega))
            · exact (outR_m (by omega) (by omega)).trans (outR_m (by omega) (by omega))
          have hnh := C_noteHeard_c (L := L) (u := w) (a := a) (t := t) (l := l) hR hp (by rw [ws]; exact hnw) (by rw [ws, hS0]; omega)
          rw [ws, w8] at hnh
          have hu : vw (upm w (R + 8) (u (R + 12 + 3 * p) 0).toNat (zor (u (R + 8) (u (R + 12 + 3 * p) 0).toNat) (zshl 1 l))) R = upm (if vw u R (12 + 3 * p) 0 ≤ vw u R (106 + 4 * l.toNat) (vw u R (12 + 3 * p) 1).toNat then upm (upm (vw u R) (103 + 4 * l.toNat) 6 (max (vw u R (103 + 4 * l.toNat) 6) (vw u R (12 + 3 * p) 0))) (103 + 4 * l.toNat) 7 (wr (vw u R (103 + 4 * l.toNat) 7 + 1)) else upm (upm (vw u R) (103 + 4 * l.toNat) 6 (max (vw u R (103 + 4 * l.toNat) 6) (vw u R (12 + 3 * p) 0))) (106 + 4 * l.toNat) (vw u R (12 + 3 * p) 1).toNat (vw u R (12 + 3 * p) 0)) 8 (vw u R (12 + 3 * p) 0).toNat (zor (vw u R 8 (vw u R (12 + 3 * p) 0).toNat) (zshl 1 l)) := by
            rw [vw_upm (by decide), ← hw, ← vw_s0 u hp, ← vw_l3 u hl6, ← vw_l0 u hl6, vw_at (c := 8) (by decide)]
            congr 1
            split
            · rw [vwm_l0 hl6, vwm_l0 hl6]
            · rw [vwm_l3 hl6, vwm_l0 hl6]
          obtain ⟨u', g1, g2, g3⟩ := ih (i + 1) (upm w (R + 8) (u (R + 12 + 3 * p) 0).toNat (zor (u (R + 8) (u (R + 12 + 3 * p) 0).toNat) (zshl 1 l))) (mStep l false s C[i]) (a_r (R + 12 + 3 * p)) (by rw [hu]; exact hst) (MI_same hM hsm hl5) (by rw [sameOut_hd hsm hl5 (by decide)]; exact hl) (by omega)
          rw [sameOut_hd hsm hl5 (by decide), off_same hsm hl5 hgap, ho] at g2
          refine ⟨u', ?_, g2, (wo.trans (outR_m (by omega) (by omega))).trans g3⟩
          rw [← g1, hidx]
          rw [B_X4_hearWhatIsDue_2]
          simp (disch := first | assumption | omega) only [kR0, kR9, kR10, kR11, kR102, gR0_0, gR0_1, gR0_2, gR0_3, gR10_0, gR11, gR102, kRs0, kRs1, kRs2, gRs_6, gRs_7, kRl0, kRl1, kRl2, kRl3, gRl_2, gRl_3, gRl_4, B_X4_hearWhatIsDue_0, B_X4_hearWhatIsDue_49, B_X4_hearWhatIsDue_80, B_X4_hearWhatIsDue_86, Option.bind_some, back_v, Option.toList_some, Option.toList_none, List.cons_append, List.nil_append, Nat.reduceAdd, Int.reduceToNat, Int.reduceNeg, upm_eq, upm_r, upm_i, if_pos, if_neg, ite_self, true_or, or_true, true_and, and_true, false_or, or_false, false_and, and_false, wr_id, i10, i01, upr_f, upr_eq, thr58, upm_upr, upr_upr, lc_lt, lc_gt, lc_ge, lc_le, afit1, afit0, afitI, bifit, not_true_eq_false, not_false_eq_true, if_true, if_false, Bool.false_eq_true, reduceCtorEq, k1557, k1558, g1557_2, e10, e06, hpp, Int.toNat_natCast, hdue, hd, hoff, bi_f, hh, hnh]
        · -- a whole list
          have hst := rel_whole hRel hM hl hsg hc1
          have b2 := hsg.2.1
          rw [if_pos hc1] at b2
          have hw1 : u (R + 12 + 3 * p) 1 = -1 := by rw [vw_s0 u hp]; exact b2
          have hsm : sameOut l s (mStep l false s C[i]) := by
            have : mStep l false s C[i] = mHearW s l C[i] := by simp [mStep, hc1]
            rw [this]; exact sameOut_W hl.1
          have hh := C_hear_w (L := L) (u := u) (a := a) (t := t) hR hl6 hp hw1
          generalize hw : upr (upm (upm (upm u (R + 103 + 4 * l.toNat) 6 (max (u (R + 103 + 4 * l.toNat) 6) (u (R + 12 + 3 * p) 0))) (R + 103 + 4 * l.toNat) 5 (max (u (R + 103 + 4 * l.toNat) 5) (u (R + 12 + 3 * p) 0))) (R + 103 + 4 * l.toNat) 8 (wr (u (R + 103 + 4 * l.toNat) 8 + 1))) (R + 106 + 4 * l.toNat) (mxF (u (R + 106 + 4 * l.toNat)) (u (R + 14 + 3 * p)) 12) = w at hh
          have ws : w (R + 12 + 3 * p) = u (R + 12 + 3 * p) := by
            rw [← hw, upr_rf (by omega), upm_rf (by omega), upm_rf (by omega), upm_rf (by omega)]
          have wo : outR R u w := by
            rw [← hw]
            exact (((outR_m (by omega) (by omega)).trans (outR_m (by omega) (by omega))).trans (outR_m (by omega) (by omega))).trans (outR_r (by omega) (by omega))
          have hnh := C_noteHeard_w (L := L) (u := w) (a := a) (t := t) (l := l) hR hp (by rw [ws]; exact hw1)
          have hu : vw w R = upr (upm (upm (upm (vw u R) (103 + 4 * l.toNat) 6 (max (vw u R (103 + 4 * l.toNat) 6) (vw u R (12 + 3 * p) 0))) (103 + 4 * l.toNat) 5 (max (vw u R (103 + 4 * l.toNat) 5) (vw u R (12 + 3 * p) 0))) (103 + 4 * l.toNat) 8 (wr (vw u R (103 + 4 * l.toNat) 8 + 1))) (106 + 4 * l.toNat) (fun j => if j < 12 then max (vw u R (106 + 4 * l.toNat) j) (vw u R (12 + 3 * p + 2) j) else vw u R (106 + 4 * l.toNat) j) := by
            rw [← hw, vwr_l3 hl6, vwm_l0 hl6, vwm_l0 hl6, vwm_l0 hl6, ← vw_s0 u hp, ← vw_l3 u hl6, ← vw_l0 u hl6, ← vw_s2 u hp]
            rfl
          obtain ⟨u', g1, g2, g3⟩ := ih (i + 1) w (mStep l false s C[i]) (a_r (R + 12 + 3 * p)) (by rw [hu]; exact hst) (MI_same hM hsm hl5) (by rw [sameOut_hd hsm hl5 (by decide)]; exact hl) (by omega)
          rw [sameOut_hd hsm hl5 (by decide), off_same hsm hl5 hgap, ho] at g2
          refine ⟨u', ?_, g2, wo.trans g3⟩
          rw [← g1, hidx]
          rw [B_X4_hearWhatIsDue_2]
          simp (disch := first | assumption | omega) only [kR0, kR9, kR10, kR11, kR102, gR0_0, gR0_1, gR0_2, gR0_3, gR10_0, gR11, gR102, kRs0, kRs1, kRs2, gRs_6, gRs_7, kRl0, kRl1, kRl2, kRl3, gRl_2, gRl_3, gRl_4, B_X4_hearWhatIsDue_0, B_X4_hearWhatIsDue_49, B_X4_hearWhatIsDue_80, B_X4_hearWhatIsDue_86, Option.bind_some, back_v, Option.toList_some, Option.toList_none, List.cons_append, List.nil_append, Nat.reduceAdd, Int.reduceToNat, Int.reduceNeg, upm_eq, upm_r, upm_i, if_pos, if_neg, ite_self, true_or, or_true, true_and, and_true, false_or, or_false, false_and, and_false, wr_id, i10, i01, upr_f, upr_eq, thr58, upm_upr, upr_upr, lc_lt, lc_gt, lc_ge, lc_le, afit1, afit0, afitI, bifit, not_true_eq_false, not_false_eq_true, if_true, if_false, Bool.false_eq_true, reduceCtorEq, k1557, k1558, g1557_2, e10, e06, hpp, Int.toNat_natCast, hdue, hd, hoff, bi_f, hh, hnh]
    · have hdd : airDue l (s 1) (C.drop i) = airDue l (s 1) (C.drop (i + 1)) := by
        rw [hdrop]; unfold airDue; rw [List.filter_cons, if_neg (by simp [hd])]
      rw [hdd]
      obtain ⟨u', g1, g2, g3⟩ := ih (i + 1) u s (a_r (R + 12 + 3 * p)) hRel hM hl (by omega)
      refine ⟨u', ?_, g2, g3⟩
      rw [← g1, hidx]
      rw [B_X4_hearWhatIsDue_2]
      simp (disch := first | assumption | omega) only [kR0, kR9, kR10, kR11, kR102, gR0_0, gR0_1, gR0_2, gR0_3, gR10_0, gR11, gR102, kRs0, kRs1, kRs2, gRs_6, gRs_7, kRl0, kRl1, kRl2, kRl3, gRl_2, gRl_3, gRl_4, B_X4_hearWhatIsDue_0, B_X4_hearWhatIsDue_49, B_X4_hearWhatIsDue_80, B_X4_hearWhatIsDue_86, Option.bind_some, back_v, Option.toList_some, Option.toList_none, List.cons_append, List.nil_append, Nat.reduceAdd, Int.reduceToNat, Int.reduceNeg, upm_eq, upm_r, upm_i, if_pos, if_neg, ite_self, true_or, or_true, true_and, and_true, false_or, or_false, false_and, and_false, wr_id, i10, i01, upr_f, upr_eq, thr58, upm_upr, upr_upr, lc_lt, lc_gt, lc_ge, lc_le, afit1, afit0, afitI, bifit, not_true_eq_false, not_false_eq_true, if_true, if_false, Bool.false_eq_true, reduceCtorEq, k1557, k1558, g1557_2, e10, e06, hpp, Int.toNat_natCast, hdue, hd]
end C2
