/-! ===== questions: the best period; shares ===== -/
theorem wait_rng {P : (Nat → Int) → Bool} : ∀ (d : Nat) (x : Int) (s : Nat → Int), mWait d x P s = -1 ∨ (x ≤ mWait d x P s ∧ mWait d x P s < x + d) := by
  intro d
  induction d with
  | zero => intro x s; left; rfl
  | succ d ih =>
    intro x s
    rw [mWait]
    split
    · right; omega
    · rcases ih (x + 1) (mTick s) with h | h
      · left; exact h
      · right; omega
/-- waiting less long -/
theorem wait_less {P : (Nat → Int) → Bool} {e : Nat} : ∀ (d : Nat) (x : Int) (s : Nat → Int), 0 ≤ x → mWait d x P s = if mWait (d + e) x P s ≠ -1 ∧ mWait (d + e) x P s < x + d then mWait (d + e) x P s else -1 := by
  intro d
  induction d with
  | zero =>
    intro x s x0
    have := wait_rng (P := P) (0 + e) x s
    rw [mWait, if_neg (by omega)]
  | succ d ih =>
    intro x s x0
    rw [Nat.add_right_comm, mWait, mWait]
    split
    · rw [if_pos (by omega)]
    · rw [ih (x + 1) (mTick s) (by omega)]
      have e1 : x + 1 + (d : Int) = x + ((d + 1 : Nat) : Int) := by omega
      rw [e1]
section AS5
variable {L : Nat}
/-- the class leaves off where no smaller number can come -/
theorem mBest_stop {f : Int → Int} (hf : ∀ p, f p = -1 ∨ 0 ≤ f p) : ∀ (d : Nat) (best least : Int), least = 0 → mBest d best least f = best := by
  intro d
  induction d with
  | zero => intro best least _; rfl
  | succ d ih =>
    intro best least h
    have := hf ((d : Int) + 1)
    rw [mBest, if_neg (by omega), if_neg (by omega)]
    exact ih best least h
def limO (least : Int) : Int := if least = -1 then 200 else least - 1
theorem C_best_loop {c l : Int} {v : Nat → Nat → Int} {w : Nat → Nat → Int} {a : Nat → Nat → Nat} {t : Nat × Nat × Nat} (hc : c ≤ 1000) (hS : RS c v a 21 (w 1558)) (hl : 0 ≤ l ∧ l < w 1558 3) : ∀ (d : Nat) (best least : Int) (u : Nat → Nat → Int) (b : Nat → Nat → Nat) (z : AV), d ≤ 98 → (least = -1 ∨ (0 ≤ least ∧ least ≤ 200)) → outR 148 v u → (∀ Q, Q ≠ 148 → b Q = a Q) → okA (b 148) →
    ∃ u' b', a_X 124 20 [a_r 18, a_i l, a_i best, a_i (limO least), a_i (d : Int), z] [] (K0 L, u, G b, t) = some (.inl (some (a_i (mBest d best least (mSameBy (w 1558) l)))), (K0 L, u', G b', t)) ∧ outR 148 v u' ∧ (∀ Q, Q ≠ 148 → b' Q = a Q) ∧ okA (b' 148) := by
  have hM := hS.2.1
  obtain ⟨-, -, -, ⟨n1, n1a, n1b⟩, -, -, -⟩ := RS_n hS
  have hf : ∀ p, mSameBy (w 1558) l p = -1 ∨ (0 ≤ mSameBy (w 1558) l p ∧ mSameBy (w 1558) l p < 201) := fun p => by
    unfold mSameBy
    have := wait_rng (P := Psame l) 201 0 (up1 (w 1558) 0 p)
    omega
  intro d
  induction d with
  | zero =>
    intro best least u b z hd hls ho hb hk
    refine ⟨u, b, ?_, ho, hb, hk⟩
    rw [B_X10_bestPeriod_20]; simp (disch := first | assumption | omega) only [B_X10_bestPeriod_0, B_X10_bestPeriod_4, B_X10_bestPeriod_9, B_X10_bestPeriod_41, B_X10_bestPeriod_59, Option.bind_some, back_v, Option.toList_some, Option.toList_none, List.cons_append, List.nil_append, Nat.reduceAdd, Int.reduceToNat, Int.reduceNeg, upm_eq, upm_r, upm_i, if_pos, if_neg, ite_self, true_or, or_true, true_and, and_true, false_or, or_false, false_and, and_false, wr_id, i10, i01, upr_f, upr_eq, thr58, upm_upr, upr_upr, lc_lt, lc_gt, lc_ge, lc_le, afit1, afit0, afitI, bifit, not_true_eq_false, not_false_eq_true, if_true, if_false, Bool.false_eq_true, reduceCtorEq, k1557, k1558, g1557_2, mBest]
  | succ d ih =>
    intro best least u b z hd hls ho hb hk
    have d1 : ¬ ((d + 1 : Nat) : Int) < 1 := by omega
    by_cases h0 : limO least < 0
    · refine ⟨u, b, ?_, ho, hb, hk⟩
      have : least = 0 := by unfold limO at h0; split at h0 <;> omega
      rw [mBest_stop (fun p => by have := hf p; omega) _ _ _ this]
      rw [B_X10_bestPeriod_20]; simp (disch := first | assumption | omega) only [B_X10_bestPeriod_0, B_X10_bestPeriod_4, B_X10_bestPeriod_9, B_X10_bestPeriod_41, B_X10_bestPeriod_59, Option.bind_some, back_v, Option.toList_some, Option.toList_none, List.cons_append, List.nil_append, Nat.reduceAdd, Int.reduceToNat, Int.reduceNeg, upm_eq, upm_r, upm_i, if_pos, if_neg, ite_self, true_or, or_true, true_and, and_true, false_or, or_false, false_and, and_false, wr_id, i10, i01, upr_f, upr_eq, thr58, upm_upr, upr_upr, lc_lt, lc_gt, lc_ge, lc_le, afit1, afit0, afitI, bifit, not_true_eq_false, not_false_eq_true, if_true, if_false, Bool.false_eq_true, reduceCtorEq, k1557, k1558, g1557_2, d1, h0]
    · have hS' : RS c u b 21 (w 1558) := RS_outA hS (fun q q0 q1 => ho q (by omega)) (hb 21 (by decide))
      obtain ⟨v1, e0, e1, e2⟩ := C_spare (L := L) (t := t) hS' hk
      have hr := C_spPer (p := ((d + 1 : Nat) : Int)) e2 hM
      have o1 : outR 148 v1 (upm v1 148 5 ((d + 1 : Nat) : Int)) := outR_upm (R := 148) (c := 0) (by decide)
      have hlim : 0 ≤ limO least ∧ limO least ≤ 200 := by unfold limO at *; split <;> omega
      obtain ⟨v2, a2, k0, k1, k2, k3⟩ := C_ticksUntilSame (L := L) (t := t) (R := 148) (c := c) (l := l) (lim := limO least) (u := upm v1 148 5 ((d + 1 : Nat) : Int)) (a := b) (.inr (.inl rfl)) hc (by omega) (by rw [up1_ne (by decide)]; exact hl) hr (MI_period hM (by omega)) (by rw [up1_ne (by decide)]; omega)
      have hw := wait_less (P := Psame l) (e := 201 - (limO least + 1).toNat) (limO least + 1).toNat 0 (up1 (w 1558) 0 ((d + 1 : Nat) : Int)) (by decide)
      rw [show (limO least + 1).toNat + (201 - (limO least + 1).toNat) = 201 from by omega, show (0 : Int) + ((limO least + 1).toNat : Int) = limO least + 1 from by omega] at hw
      have hw' : mWait (limO least + 1).toNat 0 (Psame l) (up1 (w 1558) 0 ((d + 1 : Nat) : Int)) = if mSameBy (w 1558) l ((d : Int) + 1) ≠ -1 ∧ mSameBy (w 1558) l ((d : Int) + 1) < limO least + 1 then mSameBy (w 1558) l ((d : Int) + 1) else -1 := hw
      rw [hw'] at k0
      have hfp := hf ((d : Int) + 1)
      have hiff : (mSameBy (w 1558) l ((d : Int) + 1) ≠ -1 ∧ mSameBy (w 1558) l ((d : Int) + 1) < limO least + 1) ↔ (mSameBy (w 1558) l ((d : Int) + 1) ≠ -1 ∧ (least = -1 ∨ mSameBy (w 1558) l ((d : Int) + 1) < least)) := by
        unfold limO
        split <;> omega
      have oo : outR 148 v v2 := (ho.trans e1).trans (o1.trans k1)
      have bb : ∀ Q, Q ≠ 148 → a2 Q = a Q := fun Q hQ => by rw [k2 Q hQ, hb Q hQ]
      have ed : (((d + 1 : Nat) : Int)) - 1 = (d : Int) := by omega
      rw [mBest]
      by_cases hq : mSameBy (w 1558) l ((d : Int) + 1) ≠ -1 ∧ (least = -1 ∨ mSameBy (w 1558) l ((d : Int) + 1) < least)
      · rw [if_pos (hiff.mpr hq)] at k0
        rw [if_pos hq, if_pos hq]
        obtain ⟨u', b', g0, g1, g2, g3⟩ := ih ((d : Int) + 1) (mSameBy (w 1558) l ((d : Int) + 1)) v2 a2 (a_i (mSameBy (w 1558) l ((d : Int) + 1))) (by omega) (by omega) oo bb k3
        refine ⟨u', b', ?_, g1, g2, g3⟩
        rw [← g0]
        have hq1 := hq.1
        have el : limO (mSameBy (w 1558) l ((d : Int) + 1)) = mSameBy (w 1558) l ((d : Int) + 1) - 1 := by unfold limO; rw [if_neg hq1]
        rw [el]
        rw [B_X10_bestPeriod_20]
        simp (disch := first | assumption | omega) only [k18, g18_0, g18_1, g18_2, g18_3, g18_4, g18_5, g18_6, g18_7, kq148, kq149, kq150, kq151, kq152, kq153, kq154, kq155, kq156, kq157, kq158, kq159, kq250, gq148_0, gq148_1, gq148_2, gq148_3, gq149_0, gq149_1, gq149_2, gq149_3, gq149_4, gq149_5, gq149_6, gq158_0, gq250_j, gq159_j, kq251_l, kq252_l, kq253_l, kq254_l, gq251_2, gq251_3, gq251_4, kq160_p, kq161_p, kq162_p, gq160_6, gq160_7, B_X10_bestPeriod_0, B_X10_bestPeriod_4, B_X10_bestPeriod_9, B_X10_bestPeriod_41, B_X10_bestPeriod_59, Option.bind_some, back_v, Option.toList_some, Option.toList_none, List.cons_append, List.nil_append, Nat.reduceAdd, Int.reduceToNat, Int.reduceNeg, upm_eq, upm_r, upm_i, if_pos, if_neg, ite_self, true_or, or_true, true_and, and_true, false_or, or_false, false_and, and_false, wr_id, i10, i01, upr_f, upr_eq, thr58, upm_upr, upr_upr, lc_lt, lc_gt, lc_ge, lc_le, afit1, afit0, afitI, bifit, not_true_eq_false, not_false_eq_true, if_true, if_false, Bool.false_eq_true, reduceCtorEq, k1557, k1558, g1557_2, d1, h0, e0, k0, hq1]
        rw [show ((d + 1 : Nat) : Int) + -1 = (d : Int) from by omega]
        rfl
      · rw [if_neg (fun h => hq (hiff.mp h))] at k0
        rw [if_neg hq, if_neg hq]
        obtain ⟨u', b', g0, g1, g2, g3⟩ := ih best least v2 a2 (a_i (-1)) (by omega) hls oo bb k3
        refine ⟨u', b', ?_, g1, g2, g3⟩
        rw [← g0]
        rw [B_X10_bestPeriod_20]
        simp (disch := first | assumption | omega) only [k18, g18_0, g18_1, g18_2, g18_3, g18_4, g18_5, g18_6, g18_7, kq148, kq149, kq150, kq151, kq152, kq153, kq154, kq155, kq156, kq157, kq158, kq159, kq250, gq148_0, gq148_1, gq148_2, gq148_3, gq149_0, gq149_1, gq149_2, gq149_3, gq149_4, gq149_5, gq149_6, gq158_0, gq250_j, gq159_j, kq251_l, kq252_l, kq253_l, kq254_l, gq251_2, gq251_3, gq251_4, kq160_p, kq161_p, kq162_p, gq160_6, gq160_7, B_X10_bestPeriod_0, B_X10_bestPeriod_4, B_X10_bestPeriod_9, B_X10_bestPeriod_41, B_X10_bestPeriod_59, Option.bind_some, back_v, Option.toList_some, Option.toList_none, List.cons_append, List.nil_append, Nat.reduceAdd, Int.reduceToNat, Int.reduceNeg, upm_eq, upm_r, upm_i, if_pos, if_neg, ite_self, true_or, or_true, true_and, and_true, false_or, or_false, false_and, and_false, wr_id, i10, i01, upr_f, upr_eq, thr58, upm_upr, upr_upr, lc_lt, lc_gt, lc_ge, lc_le, afit1, afit0, afitI, bifit, not_true_eq_false, not_false_eq_true, if_true, if_false, Bool.false_eq_true, reduceCtorEq, k1557, k1558, g1557_2, d1, h0, e0, k0]
        rw [show ((d + 1 : Nat) : Int) + -1 = (d : Int) from by omega]
theorem op_bestPeriod {l : Int} : OP L 124 268 [a_i l] e2 := by
  intro c v w a t c0 c1 hX
  have be := fun pc len e ls st σ => pub_e (m := 124) (pc := pc) (len := len) (e := e) (ls := ls) (st := st) (σ := σ) (by decide)
  by_cases hv : v 18 8 = 0
  · have hw := XX_ld0 hX hv
    have cn := C_need_bad (L := L) (a := a) (t := t) hv
    have mn := M_noListener0 (L := L) (a := a) (t := t) (u := w) (l := l) hw
    exact OPc_bad (e := 1) (z := 0) (cd := 1) hX (by decide) (by simp (disch := first | assumption | omega) only [k18, g18_0, g18_1, g18_2, g18_3, g18_4, g18_5, g18_6, g18_7, E_X10_bestPeriod, B_X10_bestPeriod_0, B_X10_bestPeriod_4, B_X10_bestPeriod_9, B_X10_bestPeriod_41, B_X10_bestPeriod_59, Option.bind_some, back_v, Option.toList_some, Option.toList_none, List.cons_append, List.nil_append, Nat.reduceAdd, Int.reduceToNat, Int.reduceNeg, upm_eq, upm_r, upm_i, if_pos, if_neg, ite_self, true_or, or_true, true_and, and_true, false_or, or_false, false_and, and_false, wr_id, i10, i01, upr_f, upr_eq, thr58, upm_upr, upr_upr, lc_lt, lc_gt, lc_ge, lc_le, afit1, afit0, afitI, bifit, not_true_eq_false, not_false_eq_true, if_true, if_false, Bool.false_eq_true, reduceCtorEq, k1557, k1558, g1557_2, cn, be]) (by simp (disch := first | assumption | omega) only [E_X11_bestPeriod, B_X11_bestPeriod_0, B_X11_bestPeriod_5, B_X11_bestPeriod_20, B_X11_bestPeriod_37, B_X11_bestPeriod_85, B_X11_bestPeriod_80, B_X11_bestPeriod_50, Option.bind_some, back_v, Option.toList_some, Option.toList_none, List.cons_append, List.nil_append, Nat.reduceAdd, Int.reduceToNat, Int.reduceNeg, upm_eq, upm_r, upm_i, if_pos, if_neg, ite_self, true_or, or_true, true_and, and_true, false_or, or_false, false_and, and_false, wr_id, i10, i01, upr_f, upr_eq, thr58, upm_upr, upr_upr, lc_lt, lc_gt, lc_ge, lc_le, afit1, afit0, afitI, bifit, not_true_eq_false, not_false_eq_true, if_true, if_false, Bool.false_eq_true, reduceCtorEq, k1557, k1558, g1557_2, mn])
  obtain ⟨hw, hS⟩ := XX_ld hX hv
  obtain ⟨⟨n3, n3a, n3b⟩, ⟨n2, n2a, n2b⟩, ⟨n4, n4a, n4b⟩, ⟨n1, n1a, n1b⟩, ⟨n0, n0a, n0b⟩, n5, n6⟩ := RS_n hS
  have hR : isRad 21 := .inl rfl
  have hM := hS.2.1
  have hW : upm w 1557 0 0 1558 = w 1558 := upm_rf (by decide)
  have cn := C_need (L := L) (a := a) (t := t) hv
  by_cases hl : l < 0 ∨ w 1558 3 ≤ l
  · have cl := C_needL_bad (L := L) (a := a) (t := t) (v := v) (l := l) (by omega)
    have mn := M_noListener2 (L := L) (a := a) (t := t) (u := w) (l := l) hw (by omega) (inB_f (by omega))
    exact OPc_bad (e := 2) (z := 0) (cd := 2) hX (by decide) (by simp (disch := first | assumption | omega) only [k18, g18_0, g18_1, g18_2, g18_3, g18_4, g18_5, g18_6, g18_7, E_X10_bestPeriod, B_X10_bestPeriod_0, B_X10_bestPeriod_4, B_X10_bestPeriod_9, B_X10_bestPeriod_41, B_X10_bestPeriod_59, Option.bind_some, back_v, Option.toList_some, Option.toList_none, List.cons_append, List.nil_append, Nat.reduceAdd, Int.reduceToNat, Int.reduceNeg, upm_eq, upm_r, upm_i, if_pos, if_neg, ite_self, true_or, or_true, true_and, and_true, false_or, or_false, false_and, and_false, wr_id, i10, i01, upr_f, upr_eq, thr58, upm_upr, upr_upr, lc_lt, lc_gt, lc_ge, lc_le, afit1, afit0, afitI, bifit, not_true_eq_false, not_false_eq_true, if_true, if_false, Bool.false_eq_true, reduceCtorEq, k1557, k1558, g1557_2, cn, cl, be]) (by simp (disch := first | assumption | omega) only [E_X11_bestPeriod, B_X11_bestPeriod_0, B_X11_bestPeriod_5, B_X11_bestPeriod_20, B_X11_bestPeriod_37, B_X11_bestPeriod_85, B_X11_bestPeriod_80, B_X11_bestPeriod_50, Option.bind_some, back_v, Option.toList_some, Option.toList_none, List.cons_append, List.nil_append, Nat.reduceAdd, Int.reduceToNat, Int.reduceNeg, upm_eq, upm_r, upm_i, if_pos, if_neg, ite_self, true_or, or_true, true_and, and_true, false_or, or_false, false_and, and_false, wr_id, i10, i01, upr_f, upr_eq, thr58, upm_upr, upr_upr, lc_lt, lc_gt, lc_ge, lc_le, afit1, afit0, afitI, bifit, not_true_eq_false, not_false_eq_true, if_true, if_false, Bool.false_eq_true, reduceCtorEq, k1557, k1558, g1557_2, mn])
  have hl2 : 0 ≤ l ∧ l < w 1558 3 := by omega
  have cl := C_needL (L := L) (a := a) (t := t) (v := v) (l := l) (by omega)
  have mnA := fun aa : Nat → Nat → Nat => M_noListener (L := L) (a := aa) (t := t) (u := w) (l := l) hw (by omega) (inB_t (by omega) (by omega))
  have mn := mnA a
  obtain ⟨C, hC⟩ := hS.1
  have hf : mSameBy (w 1558) l 99 = -1 ∨ (0 ≤ mSameBy (w 1558) l 99 ∧ mSameBy (w 1558) l 99 < 201) := by
    unfold mSameBy
    have := wait_rng (P := Psame l) 201 0 (up1 (w 1558) 0 99)
    omega
  obtain ⟨v1, e0, e1, e2⟩ := C_spare (L := L) (t := t) hS (hX.2.2.2.2.2.2.2.2 148 (.inr (.inl rfl)))
  have hr := C_spPer (p := 99) e2 hM
  have o1 : outR 148 v1 (upm v1 148 5 99) := outR_upm (R := 148) (c := 0) (by decide)
  obtain ⟨v2, a2, k0, k1, k2, k3⟩ := C_ticksUntilSame (L := L) (t := t) (R := 148) (c := c) (l := l) (lim := 200) (u := upm v1 148 5 99) (a := a) (.inr (.inl rfl)) (by omega) (by decide) (by rw [up1_ne (by decide)]; exact hl2) hr (MI_period hM (by decide)) (by rw [up1_ne (by decide)]; omega)
  have k0' : a_m 51 [a_r 148, a_i l, a_i 200] (K0 L, upm v1 148 5 99, G a, t) = some (.inl (some (a_i (mSameBy (w 1558) l 99))), (K0 L, v2, G a2, t)) := k0
  obtain ⟨v3, a3, j0, j1, j2, j3⟩ := C_best_loop (L := L) (t := t) (c := c) (l := l) (v := v) (w := w) (a := a) (by omega) hS hl2 98 99 (mSameBy (w 1558) l 99) v2 a2 (a_i (mSameBy (w 1558) l 99)) (by decide) (by omega) (e1.trans (o1.trans k1)) k2 k3
  have el : mSameBy (w 1558) l 99 = -1 → limO (mSameBy (w 1558) l 99) = 200 := fun h => by unfold limO; rw [if_pos h]
  have el2 : mSameBy (w 1558) l 99 ≠ -1 → limO (mSameBy (w 1558) l 99) = mSameBy (w 1558) l 99 - 1 := fun h => by unfold limO; rw [if_neg h]
  have eu : upr (upm w 1557 0 0) 1558 (w 1558) = upm w 1557 0 0 := by
    have := upr_self (f := upm w 1557 0 0) (r := 1558)
    rwa [hW] at this
  have eu2 : upm w 1557 0 0 1559 = w 1559 := upm_rf (by decide)
  have i2 := M_sameBy (L := L) (u := upm w 1557 0 0) (a := a3) (t := t) (c := c) (l := l) (p := 99) (s := w 1558) (by omega) (by omega) (by decide) hM hS.2.2.2.1 (by omega)
  have i4 := fun x y : AV => M_bestPeriod_loop (L := L) (u := upm w 1557 0 0) (a := a3) (t := t) (c := c) (l := l) (s := w 1558) (by omega) (by omega) hM hS.2.2.2.1 (by omega) 98 99 (mSameBy (w 1558) l 99) x y (by decide)
  rw [eu, eu2] at i2
  simp only [eu2] at i4
  have i3 : a_m 266 [a_r 1557, a_i l, a_i 99] (K0 L, upm w 1557 0 0, G a3, t) = some (.inl (some (a_i (mSameBy (w 1558) l 99))), (K0 L, upr (wT w) 1558 (w 1558), G a3, t)) := i2
  have i5 : ∀ x y : AV, a_X 268 25 [a_r 1557, a_i l, a_i 99, a_i (mSameBy (w 1558) l 99), a_i 98, x, y] [] (K0 L, upr (wT w) 1558 (w 1558), G a3, t) = some (.inl (some (a_i (mBest 98 99 (mSameBy (w 1558) l 99) (mSameBy (w 1558) l)))), (K0 L, upr (wT w) 1558 (w 1558), G a3, t)) := i4
  rw [wT_self] at i3 i5
  have mn2 := mnA a3
  refine OPc_sp (z := mBest 98 99 (mSameBy (w 1558) l 99) (mSameBy (w 1558) l)) hX j1 j2 j3 ?_ ?_
  · have jj : a_X 124 20 [a_r 18, a_i l, a_i 99, a_i (limO (mSameBy (w 1558) l 99)), a_i 98, a_i (mSameBy (w 1558) l 99)] [] (K0 L, v2, G a2, t) = some (.inl (some (a_i (mBest 98 99 (mSameBy (w 1558) l 99) (mSameBy (w 1558) l)))), (K0 L, v3, G a3, t)) := j0
    rw [← jj]
    simp (disch := first | assumption | omega) only [k18, g18_0, g18_1, g18_2, g18_3, g18_4, g18_5, g18_6, g18_7, E_X10_bestPeriod, B_X10_bestPeriod_0, B_X10_bestPeriod_4, B_X10_bestPeriod_9, B_X10_bestPeriod_41, B_X10_bestPeriod_59, Option.bind_some, back_v, Option.toList_some, Option.toList_none, List.cons_append, List.nil_append, Nat.reduceAdd, Int.reduceToNat, Int.reduceNeg, upm_eq, upm_r, upm_i, if_pos, if_neg, ite_self, true_or, or_true, true_and, and_true, false_or, or_false, false_and, and_false, wr_id, i10, i01, upr_f, upr_eq, thr58, upm_upr, upr_upr, lc_lt, lc_gt, lc_ge, lc_le, afit1, afit0, afitI, bifit, not_true_eq_false, not_false_eq_true, if_true, if_false, Bool.false_eq_true, reduceCtorEq, k1557, k1558, g1557_2, cn, cl]
    rw [B_X10_bestPeriod_20]
    by_cases h9 : mSameBy (w 1558) l 99 = -1
    · rw [el h9]
      rw [h9] at k0'
      rw [h9]
      simp (disch := first | assumption | omega) only [k18, g18_0, g18_1, g18_2, g18_3, g18_4, g18_5, g18_6, g18_7, kq148, kq149, kq150, kq151, kq152, kq153, kq154, kq155, kq156, kq157, kq158, kq159, kq250, gq148_0, gq148_1, gq148_2, gq148_3, gq149_0, gq149_1, gq149_2, gq149_3, gq149_4, gq149_5, gq149_6, gq158_0, gq250_j, gq159_j, kq251_l, kq252_l, kq253_l, kq254_l, gq251_2, gq251_3, gq251_4, kq160_p, kq161_p, kq162_p, gq160_6, gq160_7, B_X10_bestPeriod_0, B_X10_bestPeriod_4, B_X10_bestPeriod_9, B_X10_bestPeriod_41, B_X10_bestPeriod_59, Option.bind_some, back_v, Option.toList_some, Option.toList_none, List.cons_append, List.nil_append, Nat.reduceAdd, Int.reduceToNat, Int.reduceNeg, upm_eq, upm_r, upm_i, if_pos, if_neg, ite_self, true_or, or_true, true_and, and_true, false_or, or_false, false_and, and_false, wr_id, i10, i01, upr_f, upr_eq, thr58, upm_upr, upr_upr, lc_lt, lc_gt, lc_ge, lc_le, afit1, afit0, afitI, bifit, not_true_eq_false, not_false_eq_true, if_true, if_false, Bool.false_eq_true, reduceCtorEq, k1557, k1558, g1557_2, e0, k0']
      rfl
    · rw [el2 h9]
      simp (disch := first | assumption | omega) only [k18, g18_0, g18_1, g18_2, g18_3, g18_4, g18_5, g18_6, g18_7, kq148, kq149, kq150, kq151, kq152, kq153, kq154, kq155, kq156, kq157, kq158, kq159, kq250, gq148_0, gq148_1, gq148_2, gq148_3, gq149_0, gq149_1, gq149_2, gq149_3, gq149_4, gq149_5, gq149_6, gq158_0, gq250_j, gq159_j, kq251_l, kq252_l, kq253_l, kq254_l, gq251_2, gq251_3, gq251_4, kq160_p, kq161_p, kq162_p, gq160_6, gq160_7, B_X10_bestPeriod_0, B_X10_bestPeriod_4, B_X10_bestPeriod_9, B_X10_bestPeriod_41, B_X10_bestPeriod_59, Option.bind_some, back_v, Option.toList_some, Option.toList_none, List.cons_append, List.nil_append, Nat.reduceAdd, Int.reduceToNat, Int.reduceNeg, upm_eq, upm_r, upm_i, if_pos, if_neg, ite_self, true_or, or_true, true_and, and_true, false_or, or_false, false_and, and_false, wr_id, i10, i01, upr_f, upr_eq, thr58, upm_upr, upr_upr, lc_lt, lc_gt, lc_ge, lc_le, afit1, afit0, afitI, bifit, not_true_eq_false, not_false_eq_true, if_true, if_false, Bool.false_eq_true, reduceCtorEq, k1557, k1558, g1557_2, e0, k0', h9]
      rfl
  · simp (disch := first | assumption | omega) only [E_X11_bestPeriod, B_X11_bestPeriod_0, B_X11_bestPeriod_5, B_X11_bestPeriod_20, B_X11_bestPeriod_37, B_X11_bestPeriod_85, B_X11_bestPeriod_80, B_X11_bestPeriod_50, Option.bind_some, back_v, Option.toList_some, Option.toList_none, List.cons_append, List.nil_append, Nat.reduceAdd, Int.reduceToNat, Int.reduceNeg, upm_eq, upm_r, upm_i, if_pos, if_neg, ite_self, true_or, or_true, true_and, and_true, false_or, or_false, false_and, and_false, wr_id, i10, i01, upr_f, upr_eq, thr58, upm_upr, upr_upr, lc_lt, lc_gt, lc_ge, lc_le, afit1, afit0, afitI, bifit, not_true_eq_false, not_false_eq_true, if_true, if_false, Bool.false_eq_true, reduceCtorEq, k1557, k1558, g1557_2, mn2, i3, i5]
end AS5
