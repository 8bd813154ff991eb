/-! ===== questions: what would be ===== -/
def wT (w : Nat → Nat → Int) : Nat → Nat → Int := upr (upm w 1557 0 0) 1559 (mTr (w 1558) (w 1559))
theorem wT_58 {w : Nat → Nat → Int} : wT w 1558 = w 1558 := by unfold wT; rw [upr_rf (by decide), upm_rf (by decide)]
theorem wT_self {w : Nat → Nat → Int} : upr (wT w) 1558 (w 1558) = wT w := by
  have := upr_self (f := wT w) (r := 1558)
  rwa [wT_58] at this
theorem wT_0 {w : Nat → Nat → Int} : wT w 1557 0 = 0 := by unfold wT; rw [upr_rf (by decide), upm_eq]
theorem Mq_wT {w : Nat → Nat → Int} : Mq w (wT w) := fun q j h1 h2 h3 => by
  unfold wT
  by_cases h4 : q = 1559
  · subst h4
    rw [upr_row2]
    exact cpy_out (by omega)
  · rw [upr_rf h4]
    unfold upm
    rw [if_neg (by omega)]
theorem rel_gap0 {v : Nat → Nat → Int} {b : Nat → Nat} {C : List (Nat → Int)} {s : Nat → Int} {c l : Int} (h : RelC v b C s) (hM : MI c s) (hl : 0 ≤ l ∧ l < s 3) : RelC (upm v (103 + 4 * l.toNat) 1 0) b C (up1 s (436 + 19 * l + 1).toNat 0) := by
  have hM3 := hM.2.2.2.1
  have r5 := h.2.2.2.2.1 l (by omega) hl.2
  obtain ⟨a1, a2, a3, a4, a5, a6, a7, a8, a9, a10⟩ := h.2.2.2.2.2.1 l hl.1 hl.2
  have g : ∀ w, 0 ≤ w → mLi (up1 s (436 + 19 * l + 1).toNat 0) l w = if w = 1 then 0 else mLi s l w := fun w hw => li_up1 hl.1 hw (by decide)
  refine rel_lis2 h hM hl (O2_up hl.1 (by decide)) (fun w w0 w1 => by rw [g w (by omega), if_neg (by omega)]) (fun q q1 q2 q3 q4 => upm_rf q1) ?_ ?_
  · unfold lis1
    rw [g 0 (by decide), g 1 (by decide), g 10 (by decide), g 11 (by decide), g 12 (by decide), g 13 (by decide), g 14 (by decide), up1_ne (show 2 ≠ (436 + 19 * l + 1).toNat by omega)]
    refine ⟨by rw [upm_i (by decide)]; exact a1, by rw [upm_eq]; rfl, by rw [upm_i (by decide)]; exact a3, by rw [upm_i (by decide)]; exact a4, by rw [upm_i (by decide)]; exact a5, by rw [upm_i (by decide)]; exact a6, by rw [upm_i (by decide)]; exact a7, a8, a9, fun i i0 i1 => ?_⟩
    rw [if_pos rfl] at i1
    omega
  · refine slR_congr r5 (fun q q1 q2 => upm_rf (by omega)) (fun j _ => ?_) (Int.le_refl _) (fun k w k0 k1 w0 w1 => of_up1_li (by omega) ⟨k0, k1⟩ ⟨w0, w1⟩ hl.1 (by decide))
    rw [upm_rf (by unfold qOf; split <;> omega)]
theorem MI_gap0 {c l : Int} {s : Nat → Int} (hM : MI c s) (hl : 0 ≤ l ∧ l < s 3) : MI c (up1 s (436 + 19 * l + 1).toNat 0) := by
  have hM3 := hM.2.2.2.1
  have hL := hM.2.2.2.2.2.2.2 l hl.1 hl.2
  have g : ∀ w, 0 ≤ w → mLi (up1 s (436 + 19 * l + 1).toNat 0) l w = if w = 1 then 0 else mLi s l w := fun w hw => li_up1 hl.1 hw (by decide)
  refine O2_MI hM (O2_up hl.1 (by decide)) ⟨hl.1, by omega⟩ ?_ ?_
  · rw [g 0 (by decide), if_neg (by decide)]; exact hL.1
  · rw [g 1 (by decide), if_pos rfl]; decide
section TRY
variable {L : Nat} {c : Int} {v w : Nat → Nat → Int} {a : Nat → Nat → Nat} {t : Nat × Nat × Nat}
theorem M_tr : a_m 251 [a_r 1557] (K0 L, upm w 1557 0 0, G a, t) = some (.inl none, (K0 L, wT w, G a, t)) := by
  have h := M_tries2 (L := L) (u := upm w 1557 0 0) (a := a) (t := t) (s := w 1558)
  have e : upr (upm w 1557 0 0) 1558 (w 1558) = upm w 1557 0 0 := by
    have := upr_self (f := upm w 1557 0 0) (r := 1558)
    rwa [upm_rf (by decide)] at this
  have e2 : upm w 1557 0 0 1559 = w 1559 := upm_rf (by decide)
  rw [e, e2] at h
  rw [h]
  show some (Sum.inl none, (K0 L, upr (wT w) 1558 (w 1558), G a, t)) = _
  rw [wT_self]
theorem M_bk {z : Int} {s' : Nat → Int} (h : hi0 (w 1558)) (h0 : hi0 s') : a_m 252 [a_r 1557, a_i z] (K0 L, upr (wT w) 1558 s', G a, t) = some (.inl (some (a_i (z))), (K0 L, wT w, G a, t)) := by
  have h := M_back3 (L := L) (u := upm w 1557 0 0) (a := a) (t := t) (v := z) (s := w 1558) (s' := s') h h0
  have e2 : upm w 1557 0 0 1559 = w 1559 := upm_rf (by decide)
  rw [e2] at h
  have h' : a_m 252 [a_r 1557, a_i z] (K0 L, upr (wT w) 1558 s', G a, t) = some (.inl (some (a_i (z))), (K0 L, upr (wT w) 1558 (w 1558), G a, t)) := h
  rw [h', wT_self]
theorem C_spare {s : Nat → Int} (hS : RS c v a 21 s) (hA : okA (a 148)) : ∃ v1, a_m 29 [a_r 148, a_r 21] (K0 L, v, G a, t) = some (.inl none, (K0 L, v1, G a, t)) ∧ outR 148 v v1 ∧ Rel (vw v1 148) (a 148) s :=
  C_copy (.inr (.inl rfl)) (.inl rfl) (by decide) hS.1 hS.2.1 hA
theorem OPc_sp {m n : Nat} {as : List AV} {es : List (Nat × Int)} {z : Int} {v' : Nat → Nat → Int} {a' : Nat → Nat → Nat} (h : XX c v w a) (ho : outR 148 v v') (ha : ∀ Q, Q ≠ 148 → a' Q = a Q) (hk : okA (a' 148)) (hc : a_m m (a_r 18 :: as) (K0 L, v, G a, t) = some (.inl (some (a_i z)), (K0 L, v', G a', t))) (hm : a_m n (a_r 1557 :: as) (K0 L, w, G a', t) = some (.inl (some (a_i z)), (K0 L, wT w, G a', t))) : OPc L m n as es c v w a t :=
  OPc_spare h (fun q hq _ => ho q (by omega)) ha hk Mq_wT wT_0 hc hm
theorem C_all_loop (hc : c ≤ 1000) : ∀ (d : Nat) (x : Int) (u : Nat → Nat → Int) (a : Nat → Nat → Nat) (s : Nat → Int), 0 ≤ x → x + d = 201 → Rel (vw u 148) (a 148) s → MI c s → s 1 + d ≤ 15000 →
    ∃ u' a', a_X 116 17 [a_r 18, a_i x] [] (K0 L, u, G a, t) = some (.inl (some (a_i (mWait d x Pall s))), (K0 L, u', G a', t)) ∧ outR 148 u u' ∧ (∀ Q, Q ≠ 148 → a' Q = a Q) ∧ okA (a' 148) := by
  intro d
  induction d with
  | zero =>
    intro x u a s h0 h hrel hM h1
    refine ⟨u, a, ?_, outR.refl, fun _ _ => rfl, Rel_okA hrel⟩
    rw [B_X10_allSameIn_17]; simp (disch := first | assumption | omega) only [B_X10_allSameIn_0, B_X10_allSameIn_4, B_X10_allSameIn_15, B_X10_allSameIn_31, B_X10_allSameIn_50, Option.bind_some, back_v, Option.toList_some, Option.toList_none, List.cons_append, List.nil_append, Nat.reduceAdd, Int.reduceToNat, Int.reduceNeg, upm_eq, upm_r, upm_i, if_pos, if_neg, ite_self, true_or, or_true, true_and, and_true, false_or, or_false, false_and, and_false, wr_id, i10, i01, upr_f, upr_eq, thr58, upm_upr, upr_upr, lc_lt, lc_gt, lc_ge, lc_le, afit1, afit0, afitI, bifit, not_true_eq_false, not_false_eq_true, if_true, if_false, Bool.false_eq_true, reduceCtorEq, k1557, k1558, g1557_2, mWait]
  | succ d ih =>
    intro x u a s h0 h hrel hM h1
    obtain ⟨C, hC⟩ := hrel
    have hR : isRad 148 := .inr (.inl rfl)
    have f4 : u 148 4 = s 3 := (rel_facts (R := 148) hC).1
    have hp := C_sameListeners (L := L) (t := t) (u := u) (R := 148) hR hC hM
    by_cases hq : mSame s = s 3
    · refine ⟨u, a, ?_, outR.refl, fun _ _ => rfl, Rel_okA ⟨C, hC⟩⟩
      rw [mWait, if_pos (by simp [Pall, hq])]
      rw [B_X10_allSameIn_17]; simp (disch := first | assumption | omega) only [k18, g18_0, g18_1, g18_2, g18_3, g18_4, g18_5, g18_6, g18_7, kq148, kq149, kq150, kq151, kq152, kq153, kq154, kq155, kq156, kq157, kq158, kq159, kq250, gq148_0, gq148_1, gq148_2, gq148_3, gq149_0, gq149_1, gq149_2, gq149_3, gq149_4, gq149_5, gq149_6, gq158_0, gq250_j, gq159_j, kq251_l, kq252_l, kq253_l, kq254_l, gq251_2, gq251_3, gq251_4, kq160_p, kq161_p, kq162_p, gq160_6, gq160_7, B_X10_allSameIn_0, B_X10_allSameIn_4, B_X10_allSameIn_15, B_X10_allSameIn_31, B_X10_allSameIn_50, Option.bind_some, back_v, Option.toList_some, Option.toList_none, List.cons_append, List.nil_append, Nat.reduceAdd, Int.reduceToNat, Int.reduceNeg, upm_eq, upm_r, upm_i, if_pos, if_neg, ite_self, true_or, or_true, true_and, and_true, false_or, or_false, false_and, and_false, wr_id, i10, i01, upr_f, upr_eq, thr58, upm_upr, upr_upr, lc_lt, lc_gt, lc_ge, lc_le, afit1, afit0, afitI, bifit, not_true_eq_false, not_false_eq_true, if_true, if_false, Bool.false_eq_true, reduceCtorEq, k1557, k1558, g1557_2, hp, hq, f4]
    · obtain ⟨u1, a1, g1, g2, g3, g4⟩ := C_passTick (L := L) (u := u) (a := a) (t := t) hR ⟨C, hC⟩ hM hc (by omega)
      obtain ⟨k1, k2, k3, k4, k5, k6⟩ := MI_tick hM hc (by omega)
      obtain ⟨u2, a2, j1, j3, j4, j5⟩ := ih (x + 1) u1 a1 (mTick s) (by omega) (by omega) g2 k1 (by omega)
      refine ⟨u2, a2, ?_, g3.trans j3, fun Q hQ => by rw [j4 Q hQ, g4 Q hQ], j5⟩
      rw [mWait, if_neg (by simp [Pall, hq]), ← j1]
      rw [B_X10_allSameIn_17]; simp (disch := first | assumption | omega) only [k18, g18_0, g18_1, g18_2, g18_3, g18_4, g18_5, g18_6, g18_7, kq148, kq149, kq150, kq151, kq152, kq153, kq154, kq155, kq156, kq157, kq158, kq159, kq250, gq148_0, gq148_1, gq148_2, gq148_3, gq149_0, gq149_1, gq149_2, gq149_3, gq149_4, gq149_5, gq149_6, gq158_0, gq250_j, gq159_j, kq251_l, kq252_l, kq253_l, kq254_l, gq251_2, gq251_3, gq251_4, kq160_p, kq161_p, kq162_p, gq160_6, gq160_7, B_X10_allSameIn_0, B_X10_allSameIn_4, B_X10_allSameIn_15, B_X10_allSameIn_31, B_X10_allSameIn_50, Option.bind_some, back_v, Option.toList_some, Option.toList_none, List.cons_append, List.nil_append, Nat.reduceAdd, Int.reduceToNat, Int.reduceNeg, upm_eq, upm_r, upm_i, if_pos, if_neg, ite_self, true_or, or_true, true_and, and_true, false_or, or_false, false_and, and_false, wr_id, i10, i01, upr_f, upr_eq, thr58, upm_upr, upr_upr, lc_lt, lc_gt, lc_ge, lc_le, afit1, afit0, afitI, bifit, not_true_eq_false, not_false_eq_true, if_true, if_false, Bool.false_eq_true, reduceCtorEq, k1557, k1558, g1557_2, hp, hq, f4, g1]
theorem C_heard_loop {l m : Int} (hc : c ≤ 1000) : ∀ (d : Nat) (x : Int) (u : Nat → Nat → Int) (a : Nat → Nat → Nat) (s : Nat → Int), 0 ≤ x → x + d = 201 → 0 ≤ l ∧ l < s 3 → Rel (vw u 148) (a 148) s → MI c s → s 1 + d ≤ 15000 →
    ∃ u' a', a_X 117 22 [a_r 18, a_i l, a_i m, a_i x] [] (K0 L, u, G a, t) = some (.inl (some (a_i (mWait d x (fun s => mHeard s l m) s))), (K0 L, u', G a', t)) ∧ outR 148 u u' ∧ (∀ Q, Q ≠ 148 → a' Q = a Q) ∧ okA (a' 148) := by
  intro d
  induction d with
  | zero =>
    intro x u a s h0 h hl hrel hM h1
    refine ⟨u, a, ?_, outR.refl, fun _ _ => rfl, Rel_okA hrel⟩
    rw [B_X10_heardIn_22]; simp (disch := first | assumption | omega) only [B_X10_heardIn_0, B_X10_heardIn_4, B_X10_heardIn_9, B_X10_heardIn_20, B_X10_heardIn_38, B_X10_heardIn_50, Option.bind_some, back_v, Option.toList_some, Option.toList_none, List.cons_append, List.nil_append, Nat.reduceAdd, Int.reduceToNat, Int.reduceNeg, upm_eq, upm_r, upm_i, if_pos, if_neg, ite_self, true_or, or_true, true_and, and_true, false_or, or_false, false_and, and_false, wr_id, i10, i01, upr_f, upr_eq, thr58, upm_upr, upr_upr, lc_lt, lc_gt, lc_ge, lc_le, afit1, afit0, afitI, bifit, not_true_eq_false, not_false_eq_true, if_true, if_false, Bool.false_eq_true, reduceCtorEq, k1557, k1558, g1557_2, mWait]
  | succ d ih =>
    intro x u a s h0 h hl hrel hM h1
    obtain ⟨C, hC⟩ := hrel
    have hR : isRad 148 := .inr (.inl rfl)
    have hp := C_knows (L := L) (t := t) (u := u) (R := 148) (l := l) (n := m) hR hC hM hl
    cases hq : mHeard s l m with
    | true =>
      rw [hq] at hp
      refine ⟨u, a, ?_, outR.refl, fun _ _ => rfl, Rel_okA ⟨C, hC⟩⟩
      rw [mWait, if_pos hq]
      rw [B_X10_heardIn_22]; simp (disch := first | assumption | omega) only [k18, g18_0, g18_1, g18_2, g18_3, g18_4, g18_5, g18_6, g18_7, kq148, kq149, kq150, kq151, kq152, kq153, kq154, kq155, kq156, kq157, kq158, kq159, kq250, gq148_0, gq148_1, gq148_2, gq148_3, gq149_0, gq149_1, gq149_2, gq149_3, gq149_4, gq149_5, gq149_6, gq158_0, gq250_j, gq159_j, kq251_l, kq252_l, kq253_l, kq254_l, gq251_2, gq251_3, gq251_4, kq160_p, kq161_p, kq162_p, gq160_6, gq160_7, B_X10_heardIn_0, B_X10_heardIn_4, B_X10_heardIn_9, B_X10_heardIn_20, B_X10_heardIn_38, B_X10_heardIn_50, Option.bind_some, back_v, Option.toList_some, Option.toList_none, List.cons_append, List.nil_append, Nat.reduceAdd, Int.reduceToNat, Int.reduceNeg, upm_eq, upm_r, upm_i, if_pos, if_neg, ite_self, true_or, or_true, true_and, and_true, false_or, or_false, false_and, and_false, wr_id, i10, i01, upr_f, upr_eq, thr58, upm_upr, upr_upr, lc_lt, lc_gt, lc_ge, lc_le, afit1, afit0, afitI, bifit, not_true_eq_false, not_false_eq_true, if_true, if_false, Bool.false_eq_true, reduceCtorEq, k1557, k1558, g1557_2, hp, bi_t]
    | false =>
      rw [hq] at hp
      obtain ⟨u1, a1, g1, g2, g3, g4⟩ := C_passTick (L := L) (u := u) (a := a) (t := t) hR ⟨C, hC⟩ hM hc (by omega)
      obtain ⟨k1, k2, k3, k4, k5, k6⟩ := MI_tick hM hc (by omega)
      obtain ⟨u2, a2, j1, j3, j4, j5⟩ := ih (x + 1) u1 a1 (mTick s) (by omega) (by omega) (by rw [k6]; exact hl) g2 k1 (by omega)
      refine ⟨u2, a2, ?_, g3.trans j3, fun Q hQ => by rw [j4 Q hQ, g4 Q hQ], j5⟩
      rw [mWait, if_neg (by rw [hq]; decide), ← j1]
      rw [B_X10_heardIn_22]; simp (disch := first | assumption | omega) only [k18, g18_0, g18_1, g18_2, g18_3, g18_4, g18_5, g18_6, g18_7, kq148, kq149, kq150, kq151, kq152, kq153, kq154, kq155, kq156, kq157, kq158, kq159, kq250, gq148_0, gq148_1, gq148_2, gq148_3, gq149_0, gq149_1, gq149_2, gq149_3, gq149_4, gq149_5, gq149_6, gq158_0, gq250_j, gq159_j, kq251_l, kq252_l, kq253_l, kq254_l, gq251_2, gq251_3, gq251_4, kq160_p, kq161_p, kq162_p, gq160_6, gq160_7, B_X10_heardIn_0, B_X10_heardIn_4, B_X10_heardIn_9, B_X10_heardIn_20, B_X10_heardIn_38, B_X10_heardIn_50, Option.bind_some, back_v, Option.toList_some, Option.toList_none, List.cons_append, List.nil_append, Nat.reduceAdd, Int.reduceToNat, Int.reduceNeg, upm_eq, upm_r, upm_i, if_pos, if_neg, ite_self, true_or, or_true, true_and, and_true, false_or, or_false, false_and, and_false, wr_id, i10, i01, upr_f, upr_eq, thr58, upm_upr, upr_upr, lc_lt, lc_gt, lc_ge, lc_le, afit1, afit0, afitI, bifit, not_true_eq_false, not_false_eq_true, if_true, if_false, Bool.false_eq_true, reduceCtorEq, k1557, k1558, g1557_2, hp, bi_f, g1]
theorem C_quiet_loop (hc : c ≤ 1000) : ∀ (d : Nat) (x : Int) (u : Nat → Nat → Int) (a : Nat → Nat → Nat) (s : Nat → Int), 0 ≤ x → x + d = 201 → Rel (vw u 148) (a 148) s → MI c s → s 1 + d ≤ 15000 →
    ∃ u' a', a_X 120 17 [a_r 18, a_i x] [] (K0 L, u, G a, t) = some (.inl (some (a_i (mWait d x Pquiet s))), (K0 L, u', G a', t)) ∧ outR 148 u u' ∧ (∀ Q, Q ≠ 148 → a' Q = a Q) ∧ okA (a' 148) := by
  intro d
  induction d with
  | zero =>
    intro x u a s h0 h hrel hM h1
    refine ⟨u, a, ?_, outR.refl, fun _ _ => rfl, Rel_okA hrel⟩
    rw [B_X10_quietIn_17]; simp (disch := first | assumption | omega) only [B_X10_quietIn_0, B_X10_quietIn_4, B_X10_quietIn_15, B_X10_quietIn_46, Option.bind_some, back_v, Option.toList_some, Option.toList_none, List.cons_append, List.nil_append, Nat.reduceAdd, Int.reduceToNat, Int.reduceNeg, upm_eq, upm_r, upm_i, if_pos, if_neg, ite_self, true_or, or_true, true_and, and_true, false_or, or_false, false_and, and_false, wr_id, i10, i01, upr_f, upr_eq, thr58, upm_upr, upr_upr, lc_lt, lc_gt, lc_ge, lc_le, afit1, afit0, afitI, bifit, not_true_eq_false, not_false_eq_true, if_true, if_false, Bool.false_eq_true, reduceCtorEq, k1557, k1558, g1557_2, mWait]
  | succ d ih =>
    intro x u a s h0 h hrel hM h1
    obtain ⟨C, hC⟩ := hrel
    have hR : isRad 148 := .inr (.inl rfl)
    have f10 : u 158 1 = s 4 := (rel_facts (R := 148) hC).2.2.2.2.2.2.1
    by_cases hq : s 4 = 0
    · refine ⟨u, a, ?_, outR.refl, fun _ _ => rfl, Rel_okA ⟨C, hC⟩⟩
      rw [mWait, if_pos (by simp [Pquiet, hq])]
      rw [B_X10_quietIn_17]; simp (disch := first | assumption | omega) only [k18, g18_0, g18_1, g18_2, g18_3, g18_4, g18_5, g18_6, g18_7, kq148, kq149, kq150, kq151, kq152, kq153, kq154, kq155, kq156, kq157, kq158, kq159, kq250, gq148_0, gq148_1, gq148_2, gq148_3, gq149_0, gq149_1, gq149_2, gq149_3, gq149_4, gq149_5, gq149_6, gq158_0, gq250_j, gq159_j, kq251_l, kq252_l, kq253_l, kq254_l, gq251_2, gq251_3, gq251_4, kq160_p, kq161_p, kq162_p, gq160_6, gq160_7, B_X10_quietIn_0, B_X10_quietIn_4, B_X10_quietIn_15, B_X10_quietIn_46, Option.bind_some, back_v, Option.toList_some, Option.toList_none, List.cons_append, List.nil_append, Nat.reduceAdd, Int.reduceToNat, Int.reduceNeg, upm_eq, upm_r, upm_i, if_pos, if_neg, ite_self, true_or, or_true, true_and, and_true, false_or, or_false, false_and, and_false, wr_id, i10, i01, upr_f, upr_eq, thr58, upm_upr, upr_upr, lc_lt, lc_gt, lc_ge, lc_le, afit1, afit0, afitI, bifit, not_true_eq_false, not_false_eq_true, if_true, if_false, Bool.false_eq_true, reduceCtorEq, k1557, k1558, g1557_2, hq, f10]
    · obtain ⟨u1, a1, g1, g2, g3, g4⟩ := C_passTick (L := L) (u := u) (a := a) (t := t) hR ⟨C, hC⟩ hM hc (by omega)
      obtain ⟨k1, k2, k3, k4, k5, k6⟩ := MI_tick hM hc (by omega)
      obtain ⟨u2, a2, j1, j3, j4, j5⟩ := ih (x + 1) u1 a1 (mTick s) (by omega) (by omega) g2 k1 (by omega)
      refine ⟨u2, a2, ?_, g3.trans j3, fun Q hQ => by rw [j4 Q hQ, g4 Q hQ], j5⟩
      rw [mWait, if_neg (by simp [Pquiet, hq]), ← j1]
      have hq' : s 4 ≠ 0 := hq
      rw [B_X10_quietIn_17]; simp (disch := first | assumption | omega) only [k18, g18_0, g18_1, g18_2, g18_3, g18_4, g18_5, g18_6, g18_7, kq148, kq149, kq150, kq151, kq152, kq153, kq154, kq155, kq156, kq157, kq158, kq159, kq250, gq148_0, gq148_1, gq148_2, gq148_3, gq149_0, gq149_1, gq149_2, gq149_3, gq149_4, gq149_5, gq149_6, gq158_0, gq250_j, gq159_j, kq251_l, kq252_l, kq253_l, kq254_l, gq251_2, gq251_3, gq251_4, kq160_p, kq161_p, kq162_p, gq160_6, gq160_7, B_X10_quietIn_0, B_X10_quietIn_4, B_X10_quietIn_15, B_X10_quietIn_46, Option.bind_some, back_v, Option.toList_some, Option.toList_none, List.cons_append, List.nil_append, Nat.reduceAdd, Int.reduceToNat, Int.reduceNeg, upm_eq, upm_r, upm_i, if_pos, if_neg, ite_self, true_or, or_true, true_and, and_true, false_or, or_false, false_and, and_false, wr_id, i10, i01, upr_f, upr_eq, thr58, upm_upr, upr_upr, lc_lt, lc_gt, lc_ge, lc_le, afit1, afit0, afitI, bifit, not_true_eq_false, not_false_eq_true, if_true, if_false, Bool.false_eq_true, reduceCtorEq, k1557, k1558, g1557_2, hq', f10, g1]
end TRY
section AS4
variable {L : Nat}
theorem op_sameIn {l : Int} : OP L 115 254 [a_i l] e2 := by
  intro c v w a t c0 c1 hX
  have be := fun pc len e ls st σ => pub_e (m := 115) (pc := pc) (len := len) (e := e) (ls := ls) (st := st) (σ := σ) (by decide)
  by_cases hv : v 18 8 = 0
  · have hw := XX_ld0 hX hv
    have cn := C_need_bad (L := L) (a := a) (t := t) hv
    have mn := M_noListener0 (L := L) (a := a) (t := t) (u := w) (l := l) hw
    exact OPc_bad (e := 1) (z := 0) (cd := 1) hX (by decide) (by simp (disch := first | assumption | omega) only [k18, g18_0, g18_1, g18_2, g18_3, g18_4, g18_5, g18_6, g18_7, E_X10_sameIn, B_X10_sameIn_0, B_X10_sameIn_4, B_X10_sameIn_9, B_X10_sameIn_20, B_X10_sameIn_31, Option.bind_some, back_v, Option.toList_some, Option.toList_none, List.cons_append, List.nil_append, Nat.reduceAdd, Int.reduceToNat, Int.reduceNeg, upm_eq, upm_r, upm_i, if_pos, if_neg, ite_self, true_or, or_true, true_and, and_true, false_or, or_false, false_and, and_false, wr_id, i10, i01, upr_f, upr_eq, thr58, upm_upr, upr_upr, lc_lt, lc_gt, lc_ge, lc_le, afit1, afit0, afitI, bifit, not_true_eq_false, not_false_eq_true, if_true, if_false, Bool.false_eq_true, reduceCtorEq, k1557, k1558, g1557_2, cn, be]) (by simp (disch := first | assumption | omega) only [E_X11_sameIn, B_X11_sameIn_0, B_X11_sameIn_5, B_X11_sameIn_14, B_X11_sameIn_20, B_X11_sameIn_23, Option.bind_some, back_v, Option.toList_some, Option.toList_none, List.cons_append, List.nil_append, Nat.reduceAdd, Int.reduceToNat, Int.reduceNeg, upm_eq, upm_r, upm_i, if_pos, if_neg, ite_self, true_or, or_true, true_and, and_true, false_or, or_false, false_and, and_false, wr_id, i10, i01, upr_f, upr_eq, thr58, upm_upr, upr_upr, lc_lt, lc_gt, lc_ge, lc_le, afit1, afit0, afitI, bifit, not_true_eq_false, not_false_eq_true, if_true, if_false, Bool.false_eq_true, reduceCtorEq, k1557, k1558, g1557_2, mn])
  obtain ⟨hw, hS⟩ := XX_ld hX hv
  obtain ⟨⟨n3, n3a, n3b⟩, ⟨n2, n2a, n2b⟩, ⟨n4, n4a, n4b⟩, ⟨n1, n1a, n1b⟩, ⟨n0, n0a, n0b⟩, n5, n6⟩ := RS_n hS
  have hR : isRad 21 := .inl rfl
  have hM := hS.2.1
  have hW : upm w 1557 0 0 1558 = w 1558 := upm_rf (by decide)
  have cn := C_need (L := L) (a := a) (t := t) hv
  by_cases hl : l < 0 ∨ w 1558 3 ≤ l
  · have cl := C_needL_bad (L := L) (a := a) (t := t) (v := v) (l := l) (by omega)
    have mn := M_noListener2 (L := L) (a := a) (t := t) (u := w) (l := l) hw (by omega) (inB_f (by omega))
    exact OPc_bad (e := 2) (z := 0) (cd := 2) hX (by decide) (by simp (disch := first | assumption | omega) only [k18, g18_0, g18_1, g18_2, g18_3, g18_4, g18_5, g18_6, g18_7, E_X10_sameIn, B_X10_sameIn_0, B_X10_sameIn_4, B_X10_sameIn_9, B_X10_sameIn_20, B_X10_sameIn_31, Option.bind_some, back_v, Option.toList_some, Option.toList_none, List.cons_append, List.nil_append, Nat.reduceAdd, Int.reduceToNat, Int.reduceNeg, upm_eq, upm_r, upm_i, if_pos, if_neg, ite_self, true_or, or_true, true_and, and_true, false_or, or_false, false_and, and_false, wr_id, i10, i01, upr_f, upr_eq, thr58, upm_upr, upr_upr, lc_lt, lc_gt, lc_ge, lc_le, afit1, afit0, afitI, bifit, not_true_eq_false, not_false_eq_true, if_true, if_false, Bool.false_eq_true, reduceCtorEq, k1557, k1558, g1557_2, cn, cl, be]) (by simp (disch := first | assumption | omega) only [E_X11_sameIn, B_X11_sameIn_0, B_X11_sameIn_5, B_X11_sameIn_14, B_X11_sameIn_20, B_X11_sameIn_23, Option.bind_some, back_v, Option.toList_some, Option.toList_none, List.cons_append, List.nil_append, Nat.reduceAdd, Int.reduceToNat, Int.reduceNeg, upm_eq, upm_r, upm_i, if_pos, if_neg, ite_self, true_or, or_true, true_and, and_true, false_or, or_false, false_and, and_false, wr_id, i10, i01, upr_f, upr_eq, thr58, upm_upr, upr_upr, lc_lt, lc_gt, lc_ge, lc_le, afit1, afit0, afitI, bifit, not_true_eq_false, not_false_eq_true, if_true, if_false, Bool.false_eq_true, reduceCtorEq, k1557, k1558, g1557_2, mn])
  have hl2 : 0 ≤ l ∧ l < w 1558 3 := by omega
  have cl := C_needL (L := L) (a := a) (t := t) (v := v) (l := l) (by omega)
  have mnA := fun aa : Nat → Nat → Nat => M_noListener (L := L) (a := aa) (t := t) (u := w) (l := l) hw (by omega) (inB_t (by omega) (by omega))
  have mn := mnA a
  obtain ⟨C, hC⟩ := hS.1
  obtain ⟨v1, d0, d1, d2⟩ := C_spare (L := L) (t := t) hS (hX.2.2.2.2.2.2.2.2 148 (.inr (.inl rfl)))
  obtain ⟨v2, a2, k0, k1, k2, k3⟩ := C_ticksUntilSame (L := L) (t := t) (R := 148) (c := c) (l := l) (lim := 200) (u := v1) (a := a) (.inr (.inl rfl)) (by omega) (by decide) hl2 d2 hM (by omega)
  rw [show ((200 : Int) + 1).toNat = 201 from rfl] at k0
  obtain ⟨s', i1, i2⟩ := M_sameNow (L := L) (u := wT w) (a := a2) (t := t) (c := c) (l := l) (s := w 1558) (by omega) (by omega) hM hS.2.2.2.1 (by omega)
  rw [wT_self] at i2
  have bk := M_bk (L := L) (a := a2) (t := t) (w := w) (z := mWait 201 0 (Psame l) (w 1558)) hS.2.2.2.1 i1
  have mt := M_tr (L := L) (a := a2) (t := t) (w := w)
  have mn2 := mnA a2
  refine OPc_sp (z := mWait 201 0 (Psame l) (w 1558)) hX (d1.trans k1) k2 k3 ?_ ?_
  · simp (disch := first | assumption | omega) only [k18, g18_0, g18_1, g18_2, g18_3, g18_4, g18_5, g18_6, g18_7, kq148, kq149, kq150, kq151, kq152, kq153, kq154, kq155, kq156, kq157, kq158, kq159, kq250, gq148_0, gq148_1, gq148_2, gq148_3, gq149_0, gq149_1, gq149_2, gq149_3, gq149_4, gq149_5, gq149_6, gq158_0, gq250_j, gq159_j, kq251_l, kq252_l, kq253_l, kq254_l, gq251_2, gq251_3, gq251_4, kq160_p, kq161_p, kq162_p, gq160_6, gq160_7, E_X10_sameIn, B_X10_sameIn_0, B_X10_sameIn_4, B_X10_sameIn_9, B_X10_sameIn_20, B_X10_sameIn_31, Option.bind_some, back_v, Option.toList_some, Option.toList_none, List.cons_append, List.nil_append, Nat.reduceAdd, Int.reduceToNat, Int.reduceNeg, upm_eq, upm_r, upm_i, if_pos, if_neg, ite_self, true_or, or_true, true_and, and_true, false_or, or_false, false_and, and_false, wr_id, i10, i01, upr_f, upr_eq, thr58, upm_upr, upr_upr, lc_lt, lc_gt, lc_ge, lc_le, afit1, afit0, afitI, bifit, not_true_eq_false, not_false_eq_true, if_true, if_false, Bool.false_eq_true, reduceCtorEq, k1557, k1558, g1557_2, cn, cl, d0, k0]
  · simp (disch := first | assumption | omega) only [E_X11_sameIn, B_X11_sameIn_0, B_X11_sameIn_5, B_X11_sameIn_14, B_X11_sameIn_20, B_X11_sameIn_23, Option.bind_some, back_v, Option.toList_some, Option.toList_none, List.cons_append, List.nil_append, Nat.reduceAdd, Int.reduceToNat, Int.reduceNeg, upm_eq, upm_r, upm_i, if_pos, if_neg, ite_self, true_or, or_true, true_and, and_true, false_or, or_false, false_and, and_false, wr_id, i10, i01, upr_f, upr_eq, thr58, upm_upr, upr_upr, lc_lt, lc_gt, lc_ge, lc_le, afit1, afit0, afitI, bifit, not_true_eq_false, not_false_eq_true, if_true, if_false, Bool.false_eq_true, reduceCtorEq, k1557, k1558, g1557_2, mn2, mt, i2, bk]
theorem op_allSameIn : OP L 116 256 [] e1 := by
  intro c v w a t c0 c1 hX
  have be := fun pc len e ls st σ => pub_e (m := 116) (pc := pc) (len := len) (e := e) (ls := ls) (st := st) (σ := σ) (by decide)
  by_cases hv : v 18 8 = 0
  · have hw := XX_ld0 hX hv
    have cn := C_need_bad (L := L) (a := a) (t := t) hv
    have mn := M_notLoaded0 (L := L) (a := a) (t := t) (u := w) hw
    exact OPc_bad (e := 1) (z := 0) (cd := 1) hX (by decide) (by simp (disch := first | assumption | omega) only [k18, g18_0, g18_1, g18_2, g18_3, g18_4, g18_5, g18_6, g18_7, E_X10_allSameIn, B_X10_allSameIn_0, B_X10_allSameIn_4, B_X10_allSameIn_15, B_X10_allSameIn_31, B_X10_allSameIn_50, Option.bind_some, back_v, Option.toList_some, Option.toList_none, List.cons_append, List.nil_append, Nat.reduceAdd, Int.reduceToNat, Int.reduceNeg, upm_eq, upm_r, upm_i, if_pos, if_neg, ite_self, true_or, or_true, true_and, and_true, false_or, or_false, false_and, and_false, wr_id, i10, i01, upr_f, upr_eq, thr58, upm_upr, upr_upr, lc_lt, lc_gt, lc_ge, lc_le, afit1, afit0, afitI, bifit, not_true_eq_false, not_false_eq_true, if_true, if_false, Bool.false_eq_true, reduceCtorEq, k1557, k1558, g1557_2, cn, be]) (by simp (disch := first | assumption | omega) only [E_X11_allSameIn, B_X11_allSameIn_0, B_X11_allSameIn_4, B_X11_allSameIn_13, B_X11_allSameIn_18, B_X11_allSameIn_21, Option.bind_some, back_v, Option.toList_some, Option.toList_none, List.cons_append, List.nil_append, Nat.reduceAdd, Int.reduceToNat, Int.reduceNeg, upm_eq, upm_r, upm_i, if_pos, if_neg, ite_self, true_or, or_true, true_and, and_true, false_or, or_false, false_and, and_false, wr_id, i10, i01, upr_f, upr_eq, thr58, upm_upr, upr_upr, lc_lt, lc_gt, lc_ge, lc_le, afit1, afit0, afitI, bifit, not_true_eq_false, not_false_eq_true, if_true, if_false, Bool.false_eq_true, reduceCtorEq, k1557, k1558, g1557_2, mn])
  obtain ⟨hw, hS⟩ := XX_ld hX hv
  obtain ⟨⟨n3, n3a, n3b⟩, ⟨n2, n2a, n2b⟩, ⟨n4, n4a, n4b⟩, ⟨n1, n1a, n1b⟩, ⟨n0, n0a, n0b⟩, n5, n6⟩ := RS_n hS
  have hR : isRad 21 := .inl rfl
  have hM := hS.2.1
  have hW : upm w 1557 0 0 1558 = w 1558 := upm_rf (by decide)
  have cn := C_need (L := L) (a := a) (t := t) hv
  have mnA := fun aa : Nat → Nat → Nat => M_notLoaded1 (L := L) (a := aa) (t := t) (u := w) hw
  have mn := mnA a
  obtain ⟨C, hC⟩ := hS.1
  obtain ⟨v1, d0, d1, d2⟩ := C_spare (L := L) (t := t) hS (hX.2.2.2.2.2.2.2.2 148 (.inr (.inl rfl)))
  obtain ⟨v2, a2, k0, k1, k2, k3⟩ := C_all_loop (L := L) (t := t) (c := c) (by omega) 201 0 v1 a (w 1558) (by decide) (by decide) d2 hM (by omega)
  obtain ⟨s', i1, i2⟩ := M_allSameNow (L := L) (u := wT w) (a := a2) (t := t) (c := c) (s := w 1558) (by omega) hM hS.2.2.2.1 (by omega)
  rw [wT_self] at i2
  have bk := M_bk (L := L) (a := a2) (t := t) (w := w) (z := mWait 201 0 Pall (w 1558)) hS.2.2.2.1 i1
  have mt := M_tr (L := L) (a := a2) (t := t) (w := w)
  have mn2 := mnA a2
  refine OPc_sp (z := mWait 201 0 Pall (w 1558)) hX (d1.trans k1) k2 k3 ?_ ?_
  · simp (disch := first | assumption | omega) only [k18, g18_0, g18_1, g18_2, g18_3, g18_4, g18_5, g18_6, g18_7, kq148, kq149, kq150, kq151, kq152, kq153, kq154, kq155, kq156, kq157, kq158, kq159, kq250, gq148_0, gq148_1, gq148_2, gq148_3, gq149_0, gq149_1, gq149_2, gq149_3, gq149_4, gq149_5, gq149_6, gq158_0, gq250_j, gq159_j, kq251_l, kq252_l, kq253_l, kq254_l, gq251_2, gq251_3, gq251_4, kq160_p, kq161_p, kq162_p, gq160_6, gq160_7, E_X10_allSameIn, B_X10_allSameIn_0, B_X10_allSameIn_4, B_X10_allSameIn_15, B_X10_allSameIn_31, B_X10_allSameIn_50, Option.bind_some, back_v, Option.toList_some, Option.toList_none, List.cons_append, List.nil_append, Nat.reduceAdd, Int.reduceToNat, Int.reduceNeg, upm_eq, upm_r, upm_i, if_pos, if_neg, ite_self, true_or, or_true, true_and, and_true, false_or, or_false, false_and, and_false, wr_id, i10, i01, upr_f, upr_eq, thr58, upm_upr, upr_upr, lc_lt, lc_gt, lc_ge, lc_le, afit1, afit0, afitI, bifit, not_true_eq_false, not_false_eq_true, if_true, if_false, Bool.false_eq_true, reduceCtorEq, k1557, k1558, g1557_2, cn, d0, k0]
  · simp (disch := first | assumption | omega) only [E_X11_allSameIn, B_X11_allSameIn_0, B_X11_allSameIn_4, B_X11_allSameIn_13, B_X11_allSameIn_18, B_X11_allSameIn_21, Option.bind_some, back_v, Option.toList_some, Option.toList_none, List.cons_append, List.nil_append, Nat.reduceAdd, Int.reduceToNat, Int.reduceNeg, upm_eq, upm_r, upm_i, if_pos, if_neg, ite_self, true_or, or_true, true_and, and_true, false_or, or_false, false_and, and_false, wr_id, i10, i01, upr_f, upr_eq, thr58, upm_upr, upr_upr, lc_lt, lc_gt, lc_ge, lc_le, afit1, afit0, afitI, bifit, not_true_eq_false, not_false_eq_true, if_true, if_false, Bool.false_eq_true, reduceCtorEq, k1557, k1558, g1557_2, mn2, mt, i2, bk]
theorem op_heardIn {l m : Int} : OP L 117 258 [a_i l, a_i m] e2 := by
  intro c v w a t c0 c1 hX
  have be := fun pc len e ls st σ => pub_e (m := 117) (pc := pc) (len := len) (e := e) (ls := ls) (st := st) (σ := σ) (by decide)
  by_cases hv : v 18 8 = 0
  · have hw := XX_ld0 hX hv
    have cn := C_need_bad (L := L) (a := a) (t := t) hv
    have mn := M_noListener0 (L := L) (a := a) (t := t) (u := w) (l := l) hw
    exact OPc_bad (e := 1) (z := 0) (cd := 1) hX (by decide) (by simp (disch := first | assumption | omega) only [k18, g18_0, g18_1, g18_2, g18_3, g18_4, g18_5, g18_6, g18_7, E_X10_heardIn, B_X10_heardIn_0, B_X10_heardIn_4, B_X10_heardIn_9, B_X10_heardIn_20, B_X10_heardIn_38, B_X10_heardIn_50, Option.bind_some, back_v, Option.toList_some, Option.toList_none, List.cons_append, List.nil_append, Nat.reduceAdd, Int.reduceToNat, Int.reduceNeg, upm_eq, upm_r, upm_i, if_pos, if_neg, ite_self, true_or, or_true, true_and, and_true, false_or, or_false, false_and, and_false, wr_id, i10, i01, upr_f, upr_eq, thr58, upm_upr, upr_upr, lc_lt, lc_gt, lc_ge, lc_le, afit1, afit0, afitI, bifit, not_true_eq_false, not_false_eq_true, if_true, if_false, Bool.false_eq_true, reduceCtorEq, k1557, k1558, g1557_2, cn, be]) (by simp (disch := first | assumption | omega) only [E_X11_heardIn, B_X11_heardIn_0, B_X11_heardIn_5, B_X11_heardIn_14, B_X11_heardIn_21, B_X11_heardIn_24, Option.bind_some, back_v, Option.toList_some, Option.toList_none, List.cons_append, List.nil_append, Nat.reduceAdd, Int.reduceToNat, Int.reduceNeg, upm_eq, upm_r, upm_i, if_pos, if_neg, ite_self, true_or, or_true, true_and, and_true, false_or, or_false, false_and, and_false, wr_id, i10, i01, upr_f, upr_eq, thr58, upm_upr, upr_upr, lc_lt, lc_gt, lc_ge, lc_le, afit1, afit0, afitI, bifit, not_true_eq_false, not_false_eq_true, if_true, if_false, Bool.false_eq_true, reduceCtorEq, k1557, k1558, g1557_2, mn])
  obtain ⟨hw, hS⟩ := XX_ld hX hv
  obtain ⟨⟨n3, n3a, n3b⟩, ⟨n2, n2a, n2b⟩, ⟨n4, n4a, n4b⟩, ⟨n1, n1a, n1b⟩, ⟨n0, n0a, n0b⟩, n5, n6⟩ := RS_n hS
  have hR : isRad 21 := .inl rfl
  have hM := hS.2.1
  have hW : upm w 1557 0 0 1558 = w 1558 := upm_rf (by decide)
  have cn := C_need (L := L) (a := a) (t := t) hv
  by_cases hl : l < 0 ∨ w 1558 3 ≤ l
  · have cl := C_needL_bad (L := L) (a := a) (t := t) (v := v) (l := l) (by omega)
    have mn := M_noListener2 (L := L) (a := a) (t := t) (u := w) (l := l) hw (by omega) (inB_f (by omega))
    exact OPc_bad (e := 2) (z := 0) (cd := 2) hX (by decide) (by simp (disch := first | assumption | omega) only [k18, g18_0, g18_1, g18_2, g18_3, g18_4, g18_5, g18_6, g18_7, E_X10_heardIn, B_X10_heardIn_0, B_X10_heardIn_4, B_X10_heardIn_9, B_X10_heardIn_20, B_X10_heardIn_38, B_X10_heardIn_50, Option.bind_some, back_v, Option.toList_some, Option.toList_none, List.cons_append, List.nil_append, Nat.reduceAdd, Int.reduceToNat, Int.reduceNeg, upm_eq, upm_r, upm_i, if_pos, if_neg, ite_self, true_or, or_true, true_and, and_true, false_or, or_false, false_and, and_false, wr_id, i10, i01, upr_f, upr_eq, thr58, upm_upr, upr_upr, lc_lt, lc_gt, lc_ge, lc_le, afit1, afit0, afitI, bifit, not_true_eq_false, not_false_eq_true, if_true, if_false, Bool.false_eq_true, reduceCtorEq, k1557, k1558, g1557_2, cn, cl, be]) (by simp (disch := first | assumption | omega) only [E_X11_heardIn, B_X11_heardIn_0, B_X11_heardIn_5, B_X11_heardIn_14, B_X11_heardIn_21, B_X11_heardIn_24, Option.bind_some, back_v, Option.toList_some, Option.toList_none, List.cons_append, List.nil_append, Nat.reduceAdd, Int.reduceToNat, Int.reduceNeg, upm_eq, upm_r, upm_i, if_pos, if_neg, ite_self, true_or, or_true, true_and, and_true, false_or, or_false, false_and, and_false, wr_id, i10, i01, upr_f, upr_eq, thr58, upm_upr, upr_upr, lc_lt, lc_gt, lc_ge, lc_le, afit1, afit0, afitI, bifit, not_true_eq_false, not_false_eq_true, if_true, if_false, Bool.false_eq_true, reduceCtorEq, k1557, k1558, g1557_2, mn])
  have hl2 : 0 ≤ l ∧ l < w 1558 3 := by omega
  have cl := C_needL (L := L) (a := a) (t := t) (v := v) (l := l) (by omega)
  have mnA := fun aa : Nat → Nat → Nat => M_noListener (L := L) (a := aa) (t := t) (u := w) (l := l) hw (by omega) (inB_t (by omega) (by omega))
  have mn := mnA a
  obtain ⟨C, hC⟩ := hS.1
  obtain ⟨v1, d0, d1, d2⟩ := C_spare (L := L) (t := t) hS (hX.2.2.2.2.2.2.2.2 148 (.inr (.inl rfl)))
  obtain ⟨v2, a2, k0, k1, k2, k3⟩ := C_heard_loop (L := L) (t := t) (c := c) (l := l) (m := m) (by omega) 201 0 v1 a (w 1558) (by decide) (by decide) hl2 d2 hM (by omega)
  obtain ⟨s', i1, i2⟩ := M_heardNow (L := L) (u := wT w) (a := a2) (t := t) (c := c) (l := l) (m := m) (s := w 1558) (by omega) (by omega) hM hS.2.2.2.1 (by omega)
  rw [wT_self] at i2
  have bk := M_bk (L := L) (a := a2) (t := t) (w := w) (z := mWait 201 0 (fun s => mHeard s l m) (w 1558)) hS.2.2.2.1 i1
  have mt := M_tr (L := L) (a := a2) (t := t) (w := w)
  have mn2 := mnA a2
  refine OPc_sp (z := mWait 201 0 (fun s => mHeard s l m) (w 1558)) hX (d1.trans k1) k2 k3 ?_ ?_
  · simp (disch := first | assumption | omega) only [k18, g18_0, g18_1, g18_2, g18_3, g18_4, g18_5, g18_6, g18_7, kq148, kq149, kq150, kq151, kq152, kq153, kq154, kq155, kq156, kq157, kq158, kq159, kq250, gq148_0, gq148_1, gq148_2, gq148_3, gq149_0, gq149_1, gq149_2, gq149_3, gq149_4, gq149_5, gq149_6, gq158_0, gq250_j, gq159_j, kq251_l, kq252_l, kq253_l, kq254_l, gq251_2, gq251_3, gq251_4, kq160_p, kq161_p, kq162_p, gq160_6, gq160_7, E_X10_heardIn, B_X10_heardIn_0, B_X10_heardIn_4, B_X10_heardIn_9, B_X10_heardIn_20, B_X10_heardIn_38, B_X10_heardIn_50, Option.bind_some, back_v, Option.toList_some, Option.toList_none, List.cons_append, List.nil_append, Nat.reduceAdd, Int.reduceToNat, Int.reduceNeg, upm_eq, upm_r, upm_i, if_pos, if_neg, ite_self, true_or, or_true, true_and, and_true, false_or, or_false, false_and, and_false, wr_id, i10, i01, upr_f, upr_eq, thr58, upm_upr, upr_upr, lc_lt, lc_gt, lc_ge, lc_le, afit1, afit0, afitI, bifit, not_true_eq_false, not_false_eq_true, if_true, if_false, Bool.false_eq_true, reduceCtorEq, k1557, k1558, g1557_2, cn, cl, d0, k0]
  · simp (disch := first | assumption | omega) only [E_X11_heardIn, B_X11_heardIn_0, B_X11_heardIn_5, B_X11_heardIn_14, B_X11_heardIn_21, B_X11_heardIn_24, Option.bind_some, back_v, Option.toList_some, Option.toList_none, List.cons_append, List.nil_append, Nat.reduceAdd, Int.reduceToNat, Int.reduceNeg, upm_eq, upm_r, upm_i, if_pos, if_neg, ite_self, true_or, or_true, true_and, and_true, false_or, or_false, false_and, and_false, wr_id, i10, i01, upr_f, upr_eq, thr58, upm_upr, upr_upr, lc_lt, lc_gt, lc_ge, lc_le, afit1, afit0, afitI, bifit, not_true_eq_false, not_false_eq_true, if_true, if_false, Bool.false_eq_true, reduceCtorEq, k1557, k1558, g1557_2, mn2, mt, i2, bk]
theorem op_quietIn : OP L 120 263 [] e1 := by
  intro c v w a t c0 c1 hX
  have be := fun pc len e ls st σ => pub_e (m := 120) (pc := pc) (len := len) (e := e) (ls := ls) (st := st) (σ := σ) (by decide)
  by_cases hv : v 18 8 = 0
  · have hw := XX_ld0 hX hv
    have cn := C_need_bad (L := L) (a := a) (t := t) hv
    have mn := M_notLoaded0 (L := L) (a := a) (t := t) (u := w) hw
    exact OPc_bad (e := 1) (z := 0) (cd := 1) hX (by decide) (by simp (disch := first | assumption | omega) only [k18, g18_0, g18_1, g18_2, g18_3, g18_4, g18_5, g18_6, g18_7, E_X10_quietIn, B_X10_quietIn_0, B_X10_quietIn_4, B_X10_quietIn_15, B_X10_quietIn_46, Option.bind_some, back_v, Option.toList_some, Option.toList_none, List.cons_append, List.nil_append, Nat.reduceAdd, Int.reduceToNat, Int.reduceNeg, upm_eq, upm_r, upm_i, if_pos, if_neg, ite_self, true_or, or_true, true_and, and_true, false_or, or_false, false_and, and_false, wr_id, i10, i01, upr_f, upr_eq, thr58, upm_upr, upr_upr, lc_lt, lc_gt, lc_ge, lc_le, afit1, afit0, afitI, bifit, not_true_eq_false, not_false_eq_true, if_true, if_false, Bool.false_eq_true, reduceCtorEq, k1557, k1558, g1557_2, cn, be]) (by simp (disch := first | assumption | omega) only [E_X11_quietIn, B_X11_quietIn_0, B_X11_quietIn_4, B_X11_quietIn_13, B_X11_quietIn_18, B_X11_quietIn_21, Option.bind_some, back_v, Option.toList_some, Option.toList_none, List.cons_append, List.nil_append, Nat.reduceAdd, Int.reduceToNat, Int.reduceNeg, upm_eq, upm_r, upm_i, if_pos, if_neg, ite_self, true_or, or_true, true_and, and_true, false_or, or_false, false_and, and_false, wr_id, i10, i01, upr_f, upr_eq, thr58, upm_upr, upr_upr, lc_lt, lc_gt, lc_ge, lc_le, afit1, afit0, afitI, bifit, not_true_eq_false, not_false_eq_true, if_true, if_false, Bool.false_eq_true, reduceCtorEq, k1557, k1558, g1557_2, mn])
  obtain ⟨hw, hS⟩ := XX_ld hX hv
  obtain ⟨⟨n3, n3a, n3b⟩, ⟨n2, n2a, n2b⟩, ⟨n4, n4a, n4b⟩, ⟨n1, n1a, n1b⟩, ⟨n0, n0a, n0b⟩, n5, n6⟩ := RS_n hS
  have hR : isRad 21 := .inl rfl
  have hM := hS.2.1
  have hW : upm w 1557 0 0 1558 = w 1558 := upm_rf (by decide)
  have cn := C_need (L := L) (a := a) (t := t) hv
  have mnA := fun aa : Nat → Nat → Nat => M_notLoaded1 (L := L) (a := aa) (t := t) (u := w) hw
  have mn := mnA a
  obtain ⟨C, hC⟩ := hS.1
  obtain ⟨v1, d0, d1, d2⟩ := C_spare (L := L) (t := t) hS (hX.2.2.2.2.2.2.2.2 148 (.inr (.inl rfl)))
  obtain ⟨v2, a2, k0, k1, k2, k3⟩ := C_quiet_loop (L := L) (t := t) (c := c) (by omega) 201 0 v1 a (w 1558) (by decide) (by decide) d2 hM (by omega)
  obtain ⟨s', i1, i2⟩ := M_quietNow (L := L) (u := wT w) (a := a2) (t := t) (c := c) (s := w 1558) (by omega) hM hS.2.2.2.1 (by omega)
  rw [wT_self] at i2
  have bk := M_bk (L := L) (a := a2) (t := t) (w := w) (z := mWait 201 0 Pquiet (w 1558)) hS.2.2.2.1 i1
  have mt := M_tr (L := L) (a := a2) (t := t) (w := w)
  have mn2 := mnA a2
  refine OPc_sp (z := mWait 201 0 Pquiet (w 1558)) hX (d1.trans k1) k2 k3 ?_ ?_
  · simp (disch := first | assumption | omega) only [k18, g18_0, g18_1, g18_2, g18_3, g18_4, g18_5, g18_6, g18_7, kq148, kq149, kq150, kq151, kq152, kq153, kq154, kq155, kq156, kq157, kq158, kq159, kq250, gq148_0, gq148_1, gq148_2, gq148_3, gq149_0, gq149_1, gq149_2, gq149_3, gq149_4, gq149_5, gq149_6, gq158_0, gq250_j, gq159_j, kq251_l, kq252_l, kq253_l, kq254_l, gq251_2, gq251_3, gq251_4, kq160_p, kq161_p, kq162_p, gq160_6, gq160_7, E_X10_quietIn, B_X10_quietIn_0, B_X10_quietIn_4, B_X10_quietIn_15, B_X10_quietIn_46, Option.bind_some, back_v, Option.toList_some, Option.toList_none, List.cons_append, List.nil_append, Nat.reduceAdd, Int.reduceToNat, Int.reduceNeg, upm_eq, upm_r, upm_i, if_pos, if_neg, ite_self, true_or, or_true, true_and, and_true, false_or, or_false, false_and, and_false, wr_id, i10, i01, upr_f, upr_eq, thr58, upm_upr, upr_upr, lc_lt, lc_gt, lc_ge, lc_le, afit1, afit0, afitI, bifit, not_true_eq_false, not_false_eq_true, if_true, if_false, Bool.false_eq_true, reduceCtorEq, k1557, k1558, g1557_2, cn, d0, k0]
  · simp (disch := first | assumption | omega) only [E_X11_quietIn, B_X11_quietIn_0, B_X11_quietIn_4, B_X11_quietIn_13, B_X11_quietIn_18, B_X11_quietIn_21, Option.bind_some, back_v, Option.toList_some, Option.toList_none, List.cons_append, List.nil_append, Nat.reduceAdd, Int.reduceToNat, Int.reduceNeg, upm_eq, upm_r, upm_i, if_pos, if_neg, ite_self, true_or, or_true, true_and, and_true, false_or, or_false, false_and, and_false, wr_id, i10, i01, upr_f, upr_eq, thr58, upm_upr, upr_upr, lc_lt, lc_gt, lc_ge, lc_le, afit1, afit0, afitI, bifit, not_true_eq_false, not_false_eq_true, if_true, if_false, Bool.false_eq_true, reduceCtorEq, k1557, k1558, g1557_2, mn2, mt, i2, bk]
theorem op_missingIn {l n : Int} : OP L 118 260 [a_i l, a_i n] e3 := by
  intro c v w a t c0 c1 hX
  have be := fun pc len e ls st σ => pub_e (m := 118) (pc := pc) (len := len) (e := e) (ls := ls) (st := st) (σ := σ) (by decide)
  by_cases hv : v 18 8 = 0
  · have hw := XX_ld0 hX hv
    have cn := C_need_bad (L := L) (a := a) (t := t) hv
    have mn := M_noListener0 (L := L) (a := a) (t := t) (u := w) (l := l) hw
    exact OPc_bad (e := 1) (z := 0) (cd := 1) hX (by decide) (by simp (disch := first | assumption | omega) only [k18, g18_0, g18_1, g18_2, g18_3, g18_4, g18_5, g18_6, g18_7, E_X10_missingIn, B_X10_missingIn_0, B_X10_missingIn_4, B_X10_missingIn_9, B_X10_missingIn_18, B_X10_missingIn_29, B_X10_missingIn_37, B_X10_missingIn_45, Option.bind_some, back_v, Option.toList_some, Option.toList_none, List.cons_append, List.nil_append, Nat.reduceAdd, Int.reduceToNat, Int.reduceNeg, upm_eq, upm_r, upm_i, if_pos, if_neg, ite_self, true_or, or_true, true_and, and_true, false_or, or_false, false_and, and_false, wr_id, i10, i01, upr_f, upr_eq, thr58, upm_upr, upr_upr, lc_lt, lc_gt, lc_ge, lc_le, afit1, afit0, afitI, bifit, not_true_eq_false, not_false_eq_true, if_true, if_false, Bool.false_eq_true, reduceCtorEq, k1557, k1558, g1557_2, cn, be]) (by simp (disch := first | assumption | omega) only [E_X11_missingIn, B_X11_missingIn_0, B_X11_missingIn_6, B_X11_missingIn_15, B_X11_missingIn_20, B_X11_missingIn_26, B_X11_missingIn_29, E_X11_noTicks, B_X11_noTicks_0, B_X11_noTicks_5, B_X11_noTicks_18, B_X11_noTicks_30, Option.bind_some, back_v, Option.toList_some, Option.toList_none, List.cons_append, List.nil_append, Nat.reduceAdd, Int.reduceToNat, Int.reduceNeg, upm_eq, upm_r, upm_i, if_pos, if_neg, ite_self, true_or, or_true, true_and, and_true, false_or, or_false, false_and, and_false, wr_id, i10, i01, upr_f, upr_eq, thr58, upm_upr, upr_upr, lc_lt, lc_gt, lc_ge, lc_le, afit1, afit0, afitI, bifit, not_true_eq_false, not_false_eq_true, if_true, if_false, Bool.false_eq_true, reduceCtorEq, k1557, k1558, g1557_2, mn])
  obtain ⟨hw, hS⟩ := XX_ld hX hv
  obtain ⟨⟨n3, n3a, n3b⟩, ⟨n2, n2a, n2b⟩, ⟨n4, n4a, n4b⟩, ⟨n1, n1a, n1b⟩, ⟨n0, n0a, n0b⟩, n5, n6⟩ := RS_n hS
  have hR : isRad 21 := .inl rfl
  have hM := hS.2.1
  have hW : upm w 1557 0 0 1558 = w 1558 := upm_rf (by decide)
  have cn := C_need (L := L) (a := a) (t := t) hv
  by_cases hl : l < 0 ∨ w 1558 3 ≤ l
  · have cl := C_needL_bad (L := L) (a := a) (t := t) (v := v) (l := l) (by omega)
    have mn := M_noListener2 (L := L) (a := a) (t := t) (u := w) (l := l) hw (by omega) (inB_f (by omega))
    exact OPc_bad (e := 2) (z := 0) (cd := 2) hX (by decide) (by simp (disch := first | assumption | omega) only [k18, g18_0, g18_1, g18_2, g18_3, g18_4, g18_5, g18_6, g18_7, E_X10_missingIn, B_X10_missingIn_0, B_X10_missingIn_4, B_X10_missingIn_9, B_X10_missingIn_18, B_X10_missingIn_29, B_X10_missingIn_37, B_X10_missingIn_45, Option.bind_some, back_v, Option.toList_some, Option.toList_none, List.cons_append, List.nil_append, Nat.reduceAdd, Int.reduceToNat, Int.reduceNeg, upm_eq, upm_r, upm_i, if_pos, if_neg, ite_self, true_or, or_true, true_and, and_true, false_or, or_false, false_and, and_false, wr_id, i10, i01, upr_f, upr_eq, thr58, upm_upr, upr_upr, lc_lt, lc_gt, lc_ge, lc_le, afit1, afit0, afitI, bifit, not_true_eq_false, not_false_eq_true, if_true, if_false, Bool.false_eq_true, reduceCtorEq, k1557, k1558, g1557_2, cn, cl, be]) (by simp (disch := first | assumption | omega) only [E_X11_missingIn, B_X11_missingIn_0, B_X11_missingIn_6, B_X11_missingIn_15, B_X11_missingIn_20, B_X11_missingIn_26, B_X11_missingIn_29, E_X11_noTicks, B_X11_noTicks_0, B_X11_noTicks_5, B_X11_noTicks_18, B_X11_noTicks_30, Option.bind_some, back_v, Option.toList_some, Option.toList_none, List.cons_append, List.nil_append, Nat.reduceAdd, Int.reduceToNat, Int.reduceNeg, upm_eq, upm_r, upm_i, if_pos, if_neg, ite_self, true_or, or_true, true_and, and_true, false_or, or_false, false_and, and_false, wr_id, i10, i01, upr_f, upr_eq, thr58, upm_upr, upr_upr, lc_lt, lc_gt, lc_ge, lc_le, afit1, afit0, afitI, bifit, not_true_eq_false, not_false_eq_true, if_true, if_false, Bool.false_eq_true, reduceCtorEq, k1557, k1558, g1557_2, mn])
  have hl2 : 0 ≤ l ∧ l < w 1558 3 := by omega
  have cl := C_needL (L := L) (a := a) (t := t) (v := v) (l := l) (by omega)
  have mnA := fun aa : Nat → Nat → Nat => M_noListener (L := L) (a := aa) (t := t) (u := w) (l := l) hw (by omega) (inB_t (by omega) (by omega))
  have mn := mnA a
  by_cases hb1 : n < 0 ∨ 200 < n
  · have cb1 := C_needB_bad (L := L) (a := a) (t := t) (v := v) (x := n) (lo := 0) (hi := 200) hb1
    have ib1 : inB n 0 200 = false := inB_f hb1
    have rb1 := M_refuse1 (L := L) (u := w) (a := a) (t := t) (c := 3) (by decide)
    exact OPc_bad (e := 3) (z := 0) (cd := 3) hX (by decide) (by simp (disch := first | assumption | omega) only [k18, g18_0, g18_1, g18_2, g18_3, g18_4, g18_5, g18_6, g18_7, E_X10_missingIn, B_X10_missingIn_0, B_X10_missingIn_4, B_X10_missingIn_9, B_X10_missingIn_18, B_X10_missingIn_29, B_X10_missingIn_37, B_X10_missingIn_45, Option.bind_some, back_v, Option.toList_some, Option.toList_none, List.cons_append, List.nil_append, Nat.reduceAdd, Int.reduceToNat, Int.reduceNeg, upm_eq, upm_r, upm_i, if_pos, if_neg, ite_self, true_or, or_true, true_and, and_true, false_or, or_false, false_and, and_false, wr_id, i10, i01, upr_f, upr_eq, thr58, upm_upr, upr_upr, lc_lt, lc_gt, lc_ge, lc_le, afit1, afit0, afitI, bifit, not_true_eq_false, not_false_eq_true, if_true, if_false, Bool.false_eq_true, reduceCtorEq, k1557, k1558, g1557_2, cn, cl, cb1, be]) (by simp (disch := first | assumption | omega) only [E_X11_missingIn, B_X11_missingIn_0, B_X11_missingIn_6, B_X11_missingIn_15, B_X11_missingIn_20, B_X11_missingIn_26, B_X11_missingIn_29, E_X11_noTicks, B_X11_noTicks_0, B_X11_noTicks_5, B_X11_noTicks_18, B_X11_noTicks_30, Option.bind_some, back_v, Option.toList_some, Option.toList_none, List.cons_append, List.nil_append, Nat.reduceAdd, Int.reduceToNat, Int.reduceNeg, upm_eq, upm_r, upm_i, if_pos, if_neg, ite_self, true_or, or_true, true_and, and_true, false_or, or_false, false_and, and_false, wr_id, i10, i01, upr_f, upr_eq, thr58, upm_upr, upr_upr, lc_lt, lc_gt, lc_ge, lc_le, afit1, afit0, afitI, bifit, not_true_eq_false, not_false_eq_true, if_true, if_false, Bool.false_eq_true, reduceCtorEq, k1557, k1558, g1557_2, mn, M_in, M_isSlot, M_isDay, bi_t, ib1, bi_f, rb1])
  have cb1 := C_needB (L := L) (a := a) (t := t) (v := v) (x := n) (lo := 0) (hi := 200) (by omega)
  have ib1 : inB n 0 200 = true := inB_t (by omega) (by omega)
  have rb1 := M_refuse0 (L := L) (u := w) (a := a) (t := t) (c := 3)
  obtain ⟨C, hC⟩ := hS.1
  obtain ⟨v1, d0, d1, d2⟩ := C_spare (L := L) (t := t) hS (hX.2.2.2.2.2.2.2.2 148 (.inr (.inl rfl)))
  obtain ⟨v2, a2, k0, kr, k1, k2⟩ := C_passTicks (L := L) (t := t) (R := 148) (c := c) (n := n) (u := v1) (a := a) (s := w 1558) (.inr (.inl rfl)) (by omega) (by omega) d2 hM (by omega)
  obtain ⟨t1, t2, t3, t4, t5⟩ := MI_ticks (c := c) (by omega) n.toNat (w 1558) hM (by omega)
  obtain ⟨C2, hC2⟩ := kr
  have q1 := C_numbersMissed (L := L) (t := t) (u := v2) (a := a2) (R := 148) (l := l) (.inr (.inl rfl)) hC2 t1 (by rw [t5]; exact hl2)
  have i2 := M_ticksAll (L := L) (u := wT w) (a := a2) (t := t) (c := c) (n := n) (s := w 1558) (by omega) (by omega) hM (by omega)
  rw [wT_self] at i2
  have p1 := M_missed (L := L) (u := upr (wT w) 1558 (mTicks n.toNat (w 1558))) (a := a2) (t := t) (l := l) (by omega) (by rw [upr_row2, t4]; omega)
  rw [upr_row2] at p1
  have bk := M_bk (L := L) (a := a2) (t := t) (w := w) (z := mMissed (mTicks n.toNat (w 1558)) l) hS.2.2.2.1 (t2 hS.2.2.2.1)
  have mt := M_tr (L := L) (a := a2) (t := t) (w := w)
  have mn2 := mnA a2
  refine OPc_sp (z := mMissed (mTicks n.toNat (w 1558)) l) hX (d1.trans k1) k2 (Rel_okA ⟨C2, hC2⟩) ?_ ?_
  · simp (disch := first | assumption | omega) only [k18, g18_0, g18_1, g18_2, g18_3, g18_4, g18_5, g18_6, g18_7, kq148, kq149, kq150, kq151, kq152, kq153, kq154, kq155, kq156, kq157, kq158, kq159, kq250, gq148_0, gq148_1, gq148_2, gq148_3, gq149_0, gq149_1, gq149_2, gq149_3, gq149_4, gq149_5, gq149_6, gq158_0, gq250_j, gq159_j, kq251_l, kq252_l, kq253_l, kq254_l, gq251_2, gq251_3, gq251_4, kq160_p, kq161_p, kq162_p, gq160_6, gq160_7, E_X10_missingIn, B_X10_missingIn_0, B_X10_missingIn_4, B_X10_missingIn_9, B_X10_missingIn_18, B_X10_missingIn_29, B_X10_missingIn_37, B_X10_missingIn_45, Option.bind_some, back_v, Option.toList_some, Option.toList_none, List.cons_append, List.nil_append, Nat.reduceAdd, Int.reduceToNat, Int.reduceNeg, upm_eq, upm_r, upm_i, if_pos, if_neg, ite_self, true_or, or_true, true_and, and_true, false_or, or_false, false_and, and_false, wr_id, i10, i01, upr_f, upr_eq, thr58, upm_upr, upr_upr, lc_lt, lc_gt, lc_ge, lc_le, afit1, afit0, afitI, bifit, not_true_eq_false, not_false_eq_true, if_true, if_false, Bool.false_eq_true, reduceCtorEq, k1557, k1558, g1557_2, cn, cl, cb1, d0, k0, q1]
  · simp (disch := first | assumption | omega) only [E_X11_missingIn, B_X11_missingIn_0, B_X11_missingIn_6, B_X11_missingIn_15, B_X11_missingIn_20, B_X11_missingIn_26, B_X11_missingIn_29, E_X11_noTicks, B_X11_noTicks_0, B_X11_noTicks_5, B_X11_noTicks_18, B_X11_noTicks_30, Option.bind_some, back_v, Option.toList_some, Option.toList_none, List.cons_append, List.nil_append, Nat.reduceAdd, Int.reduceToNat, Int.reduceNeg, upm_eq, upm_r, upm_i, if_pos, if_neg, ite_self, true_or, or_true, true_and, and_true, false_or, or_false, false_and, and_false, wr_id, i10, i01, upr_f, upr_eq, thr58, upm_upr, upr_upr, lc_lt, lc_gt, lc_ge, lc_le, afit1, afit0, afitI, bifit, not_true_eq_false, not_false_eq_true, if_true, if_false, Bool.false_eq_true, reduceCtorEq, k1557, k1558, g1557_2, mn2, M_in, ib1, bi_t, M_refuse0, mt, i2, p1, bk]
theorem op_wrongIn {l n : Int} : OP L 119 261 [a_i l, a_i n] e3 := by
  intro c v w a t c0 c1 hX
  have be := fun pc len e ls st σ => pub_e (m := 119) (pc := pc) (len := len) (e := e) (ls := ls) (st := st) (σ := σ) (by decide)
  by_cases hv : v 18 8 = 0
  · have hw := XX_ld0 hX hv
    have cn := C_need_bad (L := L) (a := a) (t := t) hv
    have mn := M_noListener0 (L := L) (a := a) (t := t) (u := w) (l := l) hw
    exact OPc_bad (e := 1) (z := 0) (cd := 1) hX (by decide) (by simp (disch := first | assumption | omega) only [k18, g18_0, g18_1, g18_2, g18_3, g18_4, g18_5, g18_6, g18_7, E_X10_wrongIn, B_X10_wrongIn_0, B_X10_wrongIn_4, B_X10_wrongIn_9, B_X10_wrongIn_18, B_X10_wrongIn_29, B_X10_wrongIn_37, B_X10_wrongIn_45, Option.bind_some, back_v, Option.toList_some, Option.toList_none, List.cons_append, List.nil_append, Nat.reduceAdd, Int.reduceToNat, Int.reduceNeg, upm_eq, upm_r, upm_i, if_pos, if_neg, ite_self, true_or, or_true, true_and, and_true, false_or, or_false, false_and, and_false, wr_id, i10, i01, upr_f, upr_eq, thr58, upm_upr, upr_upr, lc_lt, lc_gt, lc_ge, lc_le, afit1, afit0, afitI, bifit, not_true_eq_false, not_false_eq_true, if_true, if_false, Bool.false_eq_true, reduceCtorEq, k1557, k1558, g1557_2, cn, be]) (by simp (disch := first | assumption | omega) only [E_X11_wrongIn, B_X11_wrongIn_0, B_X11_wrongIn_6, B_X11_wrongIn_15, B_X11_wrongIn_20, B_X11_wrongIn_26, B_X11_wrongIn_29, E_X11_noTicks, B_X11_noTicks_0, B_X11_noTicks_5, B_X11_noTicks_18, B_X11_noTicks_30, Option.bind_some, back_v, Option.toList_some, Option.toList_none, List.cons_append, List.nil_append, Nat.reduceAdd, Int.reduceToNat, Int.reduceNeg, upm_eq, upm_r, upm_i, if_pos, if_neg, ite_self, true_or, or_true, true_and, and_true, false_or, or_false, false_and, and_false, wr_id, i10, i01, upr_f, upr_eq, thr58, upm_upr, upr_upr, lc_lt, lc_gt, lc_ge, lc_le, afit1, afit0, afitI, bifit, not_true_eq_false, not_false_eq_true, if_true, if_false, Bool.false_eq_true, reduceCtorEq, k1557, k1558, g1557_2, mn])
  obtain ⟨hw, hS⟩ := XX_ld hX hv
  obtain ⟨⟨n3, n3a, n3b⟩, ⟨n2, n2a, n2b⟩, ⟨n4, n4a, n4b⟩, ⟨n1, n1a, n1b⟩, ⟨n0, n0a, n0b⟩, n5, n6⟩ := RS_n hS
  have hR : isRad 21 := .inl rfl
  have hM := hS.2.1
  have hW : upm w 1557 0 0 1558 = w 1558 := upm_rf (by decide)
  have cn := C_need (L := L) (a := a) (t := t) hv
  by_cases hl : l < 0 ∨ w 1558 3 ≤ l
  · have cl := C_needL_bad (L := L) (a := a) (t := t) (v := v) (l := l) (by omega)
    have mn := M_noListener2 (L := L) (a := a) (t := t) (u := w) (l := l) hw (by omega) (inB_f (by omega))
    exact OPc_bad (e := 2) (z := 0) (cd := 2) hX (by decide) (by simp (disch := first | assumption | omega) only [k18, g18_0, g18_1, g18_2, g18_3, g18_4, g18_5, g18_6, g18_7, E_X10_wrongIn, B_X10_wrongIn_0, B_X10_wrongIn_4, B_X10_wrongIn_9, B_X10_wrongIn_18, B_X10_wrongIn_29, B_X10_wrongIn_37, B_X10_wrongIn_45, Option.bind_some, back_v, Option.toList_some, Option.toList_none, List.cons_append, List.nil_append, Nat.reduceAdd, Int.reduceToNat, Int.reduceNeg, upm_eq, upm_r, upm_i, if_pos, if_neg, ite_self, true_or, or_true, true_and, and_true, false_or, or_false, false_and, and_false, wr_id, i10, i01, upr_f, upr_eq, thr58, upm_upr, upr_upr, lc_lt, lc_gt, lc_ge, lc_le, afit1, afit0, afitI, bifit, not_true_eq_false, not_false_eq_true, if_true, if_false, Bool.false_eq_true, reduceCtorEq, k1557, k1558, g1557_2, cn, cl, be]) (by simp (disch := first | assumption | omega) only [E_X11_wrongIn, B_X11_wrongIn_0, B_X11_wrongIn_6, B_X11_wrongIn_15, B_X11_wrongIn_20, B_X11_wrongIn_26, B_X11_wrongIn_29, E_X11_noTicks, B_X11_noTicks_0, B_X11_noTicks_5, B_X11_noTicks_18, B_X11_noTicks_30, Option.bind_some, back_v, Option.toList_some, Option.toList_none, List.cons_append, List.nil_append, Nat.reduceAdd, Int.reduceToNat, Int.reduceNeg, upm_eq, upm_r, upm_i, if_pos, if_neg, ite_self, true_or, or_true, true_and, and_true, false_or, or_false, false_and, and_false, wr_id, i10, i01, upr_f, upr_eq, thr58, upm_upr, upr_upr, lc_lt, lc_gt, lc_ge, lc_le, afit1, afit0, afitI, bifit, not_true_eq_false, not_false_eq_true, if_true, if_false, Bool.false_eq_true, reduceCtorEq, k1557, k1558, g1557_2, mn])
  have hl2 : 0 ≤ l ∧ l < w 1558 3 := by omega
  have cl := C_needL (L := L) (a := a) (t := t) (v := v) (l := l) (by omega)
  have mnA := fun aa : Nat → Nat → Nat => M_noListener (L := L) (a := aa) (t := t) (u := w) (l := l) hw (by omega) (inB_t (by omega) (by omega))
  have mn := mnA a
  by_cases hb1 : n < 0 ∨ 200 < n
  · have cb1 := C_needB_bad (L := L) (a := a) (t := t) (v := v) (x := n) (lo := 0) (hi := 200) hb1
    have ib1 : inB n 0 200 = false := inB_f hb1
    have rb1 := M_refuse1 (L := L) (u := w) (a := a) (t := t) (c := 3) (by decide)
    exact OPc_bad (e := 3) (z := 0) (cd := 3) hX (by decide) (by simp (disch := first | assumption | omega) only [k18, g18_0, g18_1, g18_2, g18_3, g18_4, g18_5, g18_6, g18_7, E_X10_wrongIn, B_X10_wrongIn_0, B_X10_wrongIn_4, B_X10_wrongIn_9, B_X10_wrongIn_18, B_X10_wrongIn_29, B_X10_wrongIn_37, B_X10_wrongIn_45, Option.bind_some, back_v, Option.toList_some, Option.toList_none, List.cons_append, List.nil_append, Nat.reduceAdd, Int.reduceToNat, Int.reduceNeg, upm_eq, upm_r, upm_i, if_pos, if_neg, ite_self, true_or, or_true, true_and, and_true, false_or, or_false, false_and, and_false, wr_id, i10, i01, upr_f, upr_eq, thr58, upm_upr, upr_upr, lc_lt, lc_gt, lc_ge, lc_le, afit1, afit0, afitI, bifit, not_true_eq_false, not_false_eq_true, if_true, if_false, Bool.false_eq_true, reduceCtorEq, k1557, k1558, g1557_2, cn, cl, cb1, be]) (by simp (disch := first | assumption | omega) only [E_X11_wrongIn, B_X11_wrongIn_0, B_X11_wrongIn_6, B_X11_wrongIn_15, B_X11_wrongIn_20, B_X11_wrongIn_26, B_X11_wrongIn_29, E_X11_noTicks, B_X11_noTicks_0, B_X11_noTicks_5, B_X11_noTicks_18, B_X11_noTicks_30, Option.bind_some, back_v, Option.toList_some, Option.toList_none, List.cons_append, List.nil_append, Nat.reduceAdd, Int.reduceToNat, Int.reduceNeg, upm_eq, upm_r, upm_i, if_pos, if_neg, ite_self, true_or, or_true, true_and, and_true, false_or, or_false, false_and, and_false, wr_id, i10, i01, upr_f, upr_eq, thr58, upm_upr, upr_upr, lc_lt, lc_gt, lc_ge, lc_le, afit1, afit0, afitI, bifit, not_true_eq_false, not_false_eq_true, if_true, if_false, Bool.false_eq_true, reduceCtorEq, k1557, k1558, g1557_2, mn, M_in, M_isSlot, M_isDay, bi_t, ib1, bi_f, rb1])
  have cb1 := C_needB (L := L) (a := a) (t := t) (v := v) (x := n) (lo := 0) (hi := 200) (by omega)
  have ib1 : inB n 0 200 = true := inB_t (by omega) (by omega)
  have rb1 := M_refuse0 (L := L) (u := w) (a := a) (t := t) (c := 3)
  obtain ⟨C, hC⟩ := hS.1
  obtain ⟨v1, d0, d1, d2⟩ := C_spare (L := L) (t := t) hS (hX.2.2.2.2.2.2.2.2 148 (.inr (.inl rfl)))
  obtain ⟨v2, a2, k0, kr, k1, k2⟩ := C_passTicks (L := L) (t := t) (R := 148) (c := c) (n := n) (u := v1) (a := a) (s := w 1558) (.inr (.inl rfl)) (by omega) (by omega) d2 hM (by omega)
  obtain ⟨t1, t2, t3, t4, t5⟩ := MI_ticks (c := c) (by omega) n.toNat (w 1558) hM (by omega)
  obtain ⟨C2, hC2⟩ := kr
  have q1 := C_minutesWrong (L := L) (t := t) (u := v2) (a := a2) (R := 148) (l := l) (.inr (.inl rfl)) hC2 t1 (by rw [t5]; exact hl2)
  have i2 := M_ticksAll (L := L) (u := wT w) (a := a2) (t := t) (c := c) (n := n) (s := w 1558) (by omega) (by omega) hM (by omega)
  rw [wT_self] at i2
  have w1 := (rel_list (L := L) (R := 148) (l := l) (.inr (.inl rfl)) hC2 t1 (by rw [t5]; omega)).2.1
  have w2 := (rel_list (L := L) (R := 148) (l := -1) (.inr (.inl rfl)) hC2 t1 (by rw [t5]; omega)).2.1
  have p1 := M_wrongOnes (L := L) (u := upr (wT w) 1558 (mTicks n.toNat (w 1558))) (a := a2) (t := t) (l := l) (by omega) (by rw [upr_row2]; exact to_of w1) (by rw [upr_row2]; exact to_of w2)
  rw [upr_row2] at p1
  have bk := M_bk (L := L) (a := a2) (t := t) (w := w) (z := mWrong (mTicks n.toNat (w 1558)) l) hS.2.2.2.1 (t2 hS.2.2.2.1)
  have mt := M_tr (L := L) (a := a2) (t := t) (w := w)
  have mn2 := mnA a2
  refine OPc_sp (z := mWrong (mTicks n.toNat (w 1558)) l) hX (d1.trans k1) k2 (Rel_okA ⟨C2, hC2⟩) ?_ ?_
  · simp (disch := first | assumption | omega) only [k18, g18_0, g18_1, g18_2, g18_3, g18_4, g18_5, g18_6, g18_7, kq148, kq149, kq150, kq151, kq152, kq153, kq154, kq155, kq156, kq157, kq158, kq159, kq250, gq148_0, gq148_1, gq148_2, gq148_3, gq149_0, gq149_1, gq149_2, gq149_3, gq149_4, gq149_5, gq149_6, gq158_0, gq250_j, gq159_j, kq251_l, kq252_l, kq253_l, kq254_l, gq251_2, gq251_3, gq251_4, kq160_p, kq161_p, kq162_p, gq160_6, gq160_7, E_X10_wrongIn, B_X10_wrongIn_0, B_X10_wrongIn_4, B_X10_wrongIn_9, B_X10_wrongIn_18, B_X10_wrongIn_29, B_X10_wrongIn_37, B_X10_wrongIn_45, Option.bind_some, back_v, Option.toList_some, Option.toList_none, List.cons_append, List.nil_append, Nat.reduceAdd, Int.reduceToNat, Int.reduceNeg, upm_eq, upm_r, upm_i, if_pos, if_neg, ite_self, true_or, or_true, true_and, and_true, false_or, or_false, false_and, and_false, wr_id, i10, i01, upr_f, upr_eq, thr58, upm_upr, upr_upr, lc_lt, lc_gt, lc_ge, lc_le, afit1, afit0, afitI, bifit, not_true_eq_false, not_false_eq_true, if_true, if_false, Bool.false_eq_true, reduceCtorEq, k1557, k1558, g1557_2, cn, cl, cb1, d0, k0, q1]
  · simp (disch := first | assumption | omega) only [E_X11_wrongIn, B_X11_wrongIn_0, B_X11_wrongIn_6, B_X11_wrongIn_15, B_X11_wrongIn_20, B_X11_wrongIn_26, B_X11_wrongIn_29, E_X11_noTicks, B_X11_noTicks_0, B_X11_noTicks_5, B_X11_noTicks_18, B_X11_noTicks_30, Option.bind_some, back_v, Option.toList_some, Option.toList_none, List.cons_append, List.nil_append, Nat.reduceAdd, Int.reduceToNat, Int.reduceNeg, upm_eq, upm_r, upm_i, if_pos, if_neg, ite_self, true_or, or_true, true_and, and_true, false_or, or_false, false_and, and_false, wr_id, i10, i01, upr_f, upr_eq, thr58, upm_upr, upr_upr, lc_lt, lc_gt, lc_ge, lc_le, afit1, afit0, afitI, bifit, not_true_eq_false, not_false_eq_true, if_true, if_false, Bool.false_eq_true, reduceCtorEq, k1557, k1558, g1557_2, mn2, M_in, ib1, bi_t, M_refuse0, mt, i2, p1, bk]
theorem op_sameWithout {l : Int} : OP L 122 265 [a_i l] e2 := by
  intro c v w a t c0 c1 hX
  have be := fun pc len e ls st σ => pub_e (m := 122) (pc := pc) (len := len) (e := e) (ls := ls) (st := st) (σ := σ) (by decide)
  by_cases hv : v 18 8 = 0
  · have hw := XX_ld0 hX hv
    have cn := C_need_bad (L := L) (a := a) (t := t) hv
    have mn := M_noListener0 (L := L) (a := a) (t := t) (u := w) (l := l) hw
    exact OPc_bad (e := 1) (z := 0) (cd := 1) hX (by decide) (by simp (disch := first | assumption | omega) only [k18, g18_0, g18_1, g18_2, g18_3, g18_4, g18_5, g18_6, g18_7, E_X10_sameWithout, B_X10_sameWithout_0, B_X10_sameWithout_4, B_X10_sameWithout_9, B_X10_sameWithout_20, B_X10_sameWithout_44, Option.bind_some, back_v, Option.toList_some, Option.toList_none, List.cons_append, List.nil_append, Nat.reduceAdd, Int.reduceToNat, Int.reduceNeg, upm_eq, upm_r, upm_i, if_pos, if_neg, ite_self, true_or, or_true, true_and, and_true, false_or, or_false, false_and, and_false, wr_id, i10, i01, upr_f, upr_eq, thr58, upm_upr, upr_upr, lc_lt, lc_gt, lc_ge, lc_le, afit1, afit0, afitI, bifit, not_true_eq_false, not_false_eq_true, if_true, if_false, Bool.false_eq_true, reduceCtorEq, k1557, k1558, g1557_2, cn, be]) (by simp (disch := first | assumption | omega) only [E_X11_sameWithout, B_X11_sameWithout_0, B_X11_sameWithout_5, B_X11_sameWithout_14, B_X11_sameWithout_21, B_X11_sameWithout_27, B_X11_sameWithout_30, Option.bind_some, back_v, Option.toList_some, Option.toList_none, List.cons_append, List.nil_append, Nat.reduceAdd, Int.reduceToNat, Int.reduceNeg, upm_eq, upm_r, upm_i, if_pos, if_neg, ite_self, true_or, or_true, true_and, and_true, false_or, or_false, false_and, and_false, wr_id, i10, i01, upr_f, upr_eq, thr58, upm_upr, upr_upr, lc_lt, lc_gt, lc_ge, lc_le, afit1, afit0, afitI, bifit, not_true_eq_false, not_false_eq_true, if_true, if_false, Bool.false_eq_true, reduceCtorEq, k1557, k1558, g1557_2, mn])
  obtain ⟨hw, hS⟩ := XX_ld hX hv
  obtain ⟨⟨n3, n3a, n3b⟩, ⟨n2, n2a, n2b⟩, ⟨n4, n4a, n4b⟩, ⟨n1, n1a, n1b⟩, ⟨n0, n0a, n0b⟩, n5, n6⟩ := RS_n hS
  have hR : isRad 21 := .inl rfl
  have hM := hS.2.1
  have hW : upm w 1557 0 0 1558 = w 1558 := upm_rf (by decide)
  have cn := C_need (L := L) (a := a) (t := t) hv
  by_cases hl : l < 0 ∨ w 1558 3 ≤ l
  · have cl := C_needL_bad (L := L) (a := a) (t := t) (v := v) (l := l) (by omega)
    have mn := M_noListener2 (L := L) (a := a) (t := t) (u := w) (l := l) hw (by omega) (inB_f (by omega))
    exact OPc_bad (e := 2) (z := 0) (cd := 2) hX (by decide) (by simp (disch := first | assumption | omega) only [k18, g18_0, g18_1, g18_2, g18_3, g18_4, g18_5, g18_6, g18_7, E_X10_sameWithout, B_X10_sameWithout_0, B_X10_sameWithout_4, B_X10_sameWithout_9, B_X10_sameWithout_20, B_X10_sameWithout_44, Option.bind_some, back_v, Option.toList_some, Option.toList_none, List.cons_append, List.nil_append, Nat.reduceAdd, Int.reduceToNat, Int.reduceNeg, upm_eq, upm_r, upm_i, if_pos, if_neg, ite_self, true_or, or_true, true_and, and_true, false_or, or_false, false_and, and_false, wr_id, i10, i01, upr_f, upr_eq, thr58, upm_upr, upr_upr, lc_lt, lc_gt, lc_ge, lc_le, afit1, afit0, afitI, bifit, not_true_eq_false, not_false_eq_true, if_true, if_false, Bool.false_eq_true, reduceCtorEq, k1557, k1558, g1557_2, cn, cl, be]) (by simp (disch := first | assumption | omega) only [E_X11_sameWithout, B_X11_sameWithout_0, B_X11_sameWithout_5, B_X11_sameWithout_14, B_X11_sameWithout_21, B_X11_sameWithout_27, B_X11_sameWithout_30, Option.bind_some, back_v, Option.toList_some, Option.toList_none, List.cons_append, List.nil_append, Nat.reduceAdd, Int.reduceToNat, Int.reduceNeg, upm_eq, upm_r, upm_i, if_pos, if_neg, ite_self, true_or, or_true, true_and, and_true, false_or, or_false, false_and, and_false, wr_id, i10, i01, upr_f, upr_eq, thr58, upm_upr, upr_upr, lc_lt, lc_gt, lc_ge, lc_le, afit1, afit0, afitI, bifit, not_true_eq_false, not_false_eq_true, if_true, if_false, Bool.false_eq_true, reduceCtorEq, k1557, k1558, g1557_2, mn])
  have hl2 : 0 ≤ l ∧ l < w 1558 3 := by omega
  have cl := C_needL (L := L) (a := a) (t := t) (v := v) (l := l) (by omega)
  have mnA := fun aa : Nat → Nat → Nat => M_noListener (L := L) (a := aa) (t := t) (u := w) (l := l) hw (by omega) (inB_t (by omega) (by omega))
  have mn := mnA a
  obtain ⟨C, hC⟩ := hS.1
  obtain ⟨v1, d0, d1, ⟨C1, d2⟩⟩ := C_spare (L := L) (t := t) hS (hX.2.2.2.2.2.2.2.2 148 (.inr (.inl rfl)))
  have hr : Rel (vw (upm v1 (148 + (103 + 4 * l.toNat)) 1 0) 148) (a 148) (up1 (w 1558) (436 + 19 * l + 1).toNat 0) := ⟨C1, by rw [vw_upm (by omega)]; exact rel_gap0 d2 hM hl2⟩
  have o1 : outR 148 v1 (upm v1 (148 + (103 + 4 * l.toNat)) 1 0) := outR_upm (by omega)
  have e251 : 148 + (103 + 4 * l.toNat) = 251 + 4 * l.toNat := by omega
  rw [e251] at hr o1
  have hM' := MI_gap0 hM hl2
  obtain ⟨v2, a2, k0, k1, k2, k3⟩ := C_ticksUntilSame (L := L) (t := t) (R := 148) (c := c) (l := l) (lim := 200) (u := upm v1 (251 + 4 * l.toNat) 1 0) (a := a) (.inr (.inl rfl)) (by omega) (by decide) (by rw [up1_ne (by omega)]; exact hl2) hr hM' (by rw [up1_ne (by omega)]; omega)
  rw [show ((200 : Int) + 1).toNat = 201 from rfl] at k0
  obtain ⟨s', i1, i2⟩ := M_sameNow (L := L) (u := wT w) (a := a2) (t := t) (c := c) (l := l) (s := up1 (w 1558) (436 + 19 * l + 1).toNat 0) (by omega) (by omega) hM' (hi0_up (by omega) hS.2.2.2.1) (by rw [up1_ne (by omega)]; omega)
  have pl := M_putsListener (L := L) (u := wT w) (a := a2) (t := t) (l := l) (w := 1) (v := 0) (by omega) (by decide)
  rw [upm_up1, wT_58] at pl
  have bk := M_bk (L := L) (a := a2) (t := t) (w := w) (z := mWait 201 0 (Psame l) (up1 (w 1558) (436 + 19 * l + 1).toNat 0)) hS.2.2.2.1 i1
  have mt := M_tr (L := L) (a := a2) (t := t) (w := w)
  have mn2 := mnA a2
  have l6 : l < ((6 : Nat) : Int) := by omega
  refine OPc_sp (z := mWait 201 0 (Psame l) (up1 (w 1558) (436 + 19 * l + 1).toNat 0)) hX ((d1.trans o1).trans k1) k2 k3 ?_ ?_
  · simp (disch := first | assumption | omega) only [k18, g18_0, g18_1, g18_2, g18_3, g18_4, g18_5, g18_6, g18_7, kq148, kq149, kq150, kq151, kq152, kq153, kq154, kq155, kq156, kq157, kq158, kq159, kq250, gq148_0, gq148_1, gq148_2, gq148_3, gq149_0, gq149_1, gq149_2, gq149_3, gq149_4, gq149_5, gq149_6, gq158_0, gq250_j, gq159_j, kq251_l, kq252_l, kq253_l, kq254_l, gq251_2, gq251_3, gq251_4, kq160_p, kq161_p, kq162_p, gq160_6, gq160_7, E_X10_sameWithout, B_X10_sameWithout_0, B_X10_sameWithout_4, B_X10_sameWithout_9, B_X10_sameWithout_20, B_X10_sameWithout_44, Option.bind_some, back_v, Option.toList_some, Option.toList_none, List.cons_append, List.nil_append, Nat.reduceAdd, Int.reduceToNat, Int.reduceNeg, upm_eq, upm_r, upm_i, if_pos, if_neg, ite_self, true_or, or_true, true_and, and_true, false_or, or_false, false_and, and_false, wr_id, i10, i01, upr_f, upr_eq, thr58, upm_upr, upr_upr, lc_lt, lc_gt, lc_ge, lc_le, afit1, afit0, afitI, bifit, not_true_eq_false, not_false_eq_true, if_true, if_false, Bool.false_eq_true, reduceCtorEq, k1557, k1558, g1557_2, cn, cl, d0, k0]
  · simp (disch := first | assumption | omega) only [E_X11_sameWithout, B_X11_sameWithout_0, B_X11_sameWithout_5, B_X11_sameWithout_14, B_X11_sameWithout_21, B_X11_sameWithout_27, B_X11_sameWithout_30, Option.bind_some, back_v, Option.toList_some, Option.toList_none, List.cons_append, List.nil_append, Nat.reduceAdd, Int.reduceToNat, Int.reduceNeg, upm_eq, upm_r, upm_i, if_pos, if_neg, ite_self, true_or, or_true, true_and, and_true, false_or, or_false, false_and, and_false, wr_id, i10, i01, upr_f, upr_eq, thr58, upm_upr, upr_upr, lc_lt, lc_gt, lc_ge, lc_le, afit1, afit0, afitI, bifit, not_true_eq_false, not_false_eq_true, if_true, if_false, Bool.false_eq_true, reduceCtorEq, k1557, k1558, g1557_2, mn2, mt, pl, i2, bk]
theorem C_spPer {c p : Int} {v1 : Nat → Nat → Int} {b : Nat → Nat} {s : Nat → Int} (h : Rel (vw v1 148) b s) (hM : MI c s) : Rel (vw (upm v1 148 5 p) 148) b (up1 s 0 p) := by
  obtain ⟨C, hC⟩ := h
  refine ⟨C, ?_⟩
  have e : vw (upm v1 148 5 p) 148 = upm (vw v1 148) 0 5 p := vw_upm (R := 148) (c := 0) (by decide)
  rw [e]; exact rel_period hC hM
theorem op_sameWith {l p : Int} : OP L 123 267 [a_i l, a_i p] e3 := by
  intro c v w a t c0 c1 hX
  have be := fun pc len e ls st σ => pub_e (m := 123) (pc := pc) (len := len) (e := e) (ls := ls) (st := st) (σ := σ) (by decide)
  by_cases hv : v 18 8 = 0
  · have hw := XX_ld0 hX hv
    have cn := C_need_bad (L := L) (a := a) (t := t) hv
    have mn := M_noListener0 (L := L) (a := a) (t := t) (u := w) (l := l) hw
    exact OPc_bad (e := 1) (z := 0) (cd := 1) hX (by decide) (by simp (disch := first | assumption | omega) only [k18, g18_0, g18_1, g18_2, g18_3, g18_4, g18_5, g18_6, g18_7, E_X10_sameWith, B_X10_sameWith_0, B_X10_sameWith_4, B_X10_sameWith_9, B_X10_sameWith_17, B_X10_sameWith_28, B_X10_sameWith_47, Option.bind_some, back_v, Option.toList_some, Option.toList_none, List.cons_append, List.nil_append, Nat.reduceAdd, Int.reduceToNat, Int.reduceNeg, upm_eq, upm_r, upm_i, if_pos, if_neg, ite_self, true_or, or_true, true_and, and_true, false_or, or_false, false_and, and_false, wr_id, i10, i01, upr_f, upr_eq, thr58, upm_upr, upr_upr, lc_lt, lc_gt, lc_ge, lc_le, afit1, afit0, afitI, bifit, not_true_eq_false, not_false_eq_true, if_true, if_false, Bool.false_eq_true, reduceCtorEq, k1557, k1558, g1557_2, cn, be]) (by simp (disch := first | assumption | omega) only [E_X11_sameWith, B_X11_sameWith_0, B_X11_sameWith_5, B_X11_sameWith_18, B_X11_sameWith_30, B_X11_sameWith_43, Option.bind_some, back_v, Option.toList_some, Option.toList_none, List.cons_append, List.nil_append, Nat.reduceAdd, Int.reduceToNat, Int.reduceNeg, upm_eq, upm_r, upm_i, if_pos, if_neg, ite_self, true_or, or_true, true_and, and_true, false_or, or_false, false_and, and_false, wr_id, i10, i01, upr_f, upr_eq, thr58, upm_upr, upr_upr, lc_lt, lc_gt, lc_ge, lc_le, afit1, afit0, afitI, bifit, not_true_eq_false, not_false_eq_true, if_true, if_false, Bool.false_eq_true, reduceCtorEq, k1557, k1558, g1557_2, mn])
  obtain ⟨hw, hS⟩ := XX_ld hX hv
  obtain ⟨⟨n3, n3a, n3b⟩, ⟨n2, n2a, n2b⟩, ⟨n4, n4a, n4b⟩, ⟨n1, n1a, n1b⟩, ⟨n0, n0a, n0b⟩, n5, n6⟩ := RS_n hS
  have hR : isRad 21 := .inl rfl
  have hM := hS.2.1
  have hW : upm w 1557 0 0 1558 = w 1558 := upm_rf (by decide)
  have cn := C_need (L := L) (a := a) (t := t) hv
  by_cases hl : l < 0 ∨ w 1558 3 ≤ l
  · have cl := C_needL_bad (L := L) (a := a) (t := t) (v := v) (l := l) (by omega)
    have mn := M_noListener2 (L := L) (a := a) (t := t) (u := w) (l := l) hw (by omega) (inB_f (by omega))
    exact OPc_bad (e := 2) (z := 0) (cd := 2) hX (by decide) (by simp (disch := first | assumption | omega) only [k18, g18_0, g18_1, g18_2, g18_3, g18_4, g18_5, g18_6, g18_7, E_X10_sameWith, B_X10_sameWith_0, B_X10_sameWith_4, B_X10_sameWith_9, B_X10_sameWith_17, B_X10_sameWith_28, B_X10_sameWith_47, Option.bind_some, back_v, Option.toList_some, Option.toList_none, List.cons_append, List.nil_append, Nat.reduceAdd, Int.reduceToNat, Int.reduceNeg, upm_eq, upm_r, upm_i, if_pos, if_neg, ite_self, true_or, or_true, true_and, and_true, false_or, or_false, false_and, and_false, wr_id, i10, i01, upr_f, upr_eq, thr58, upm_upr, upr_upr, lc_lt, lc_gt, lc_ge, lc_le, afit1, afit0, afitI, bifit, not_true_eq_false, not_false_eq_true, if_true, if_false, Bool.false_eq_true, reduceCtorEq, k1557, k1558, g1557_2, cn, cl, be]) (by simp (disch := first | assumption | omega) only [E_X11_sameWith, B_X11_sameWith_0, B_X11_sameWith_5, B_X11_sameWith_18, B_X11_sameWith_30, B_X11_sameWith_43, Option.bind_some, back_v, Option.toList_some, Option.toList_none, List.cons_append, List.nil_append, Nat.reduceAdd, Int.reduceToNat, Int.reduceNeg, upm_eq, upm_r, upm_i, if_pos, if_neg, ite_self, true_or, or_true, true_and, and_true, false_or, or_false, false_and, and_false, wr_id, i10, i01, upr_f, upr_eq, thr58, upm_upr, upr_upr, lc_lt, lc_gt, lc_ge, lc_le, afit1, afit0, afitI, bifit, not_true_eq_false, not_false_eq_true, if_true, if_false, Bool.false_eq_true, reduceCtorEq, k1557, k1558, g1557_2, mn])
  have hl2 : 0 ≤ l ∧ l < w 1558 3 := by omega
  have cl := C_needL (L := L) (a := a) (t := t) (v := v) (l := l) (by omega)
  have mnA := fun aa : Nat → Nat → Nat => M_noListener (L := L) (a := aa) (t := t) (u := w) (l := l) hw (by omega) (inB_t (by omega) (by omega))
  have mn := mnA a
  by_cases hb1 : p < 0 ∨ 99 < p
  · have cb1 := C_needB_bad (L := L) (a := a) (t := t) (v := v) (x := p) (lo := 0) (hi := 99) hb1
    have ib1 : inB p 0 99 = false := inB_f hb1
    have rb1 := M_refuse1 (L := L) (u := w) (a := a) (t := t) (c := 3) (by decide)
    exact OPc_bad (e := 3) (z := 0) (cd := 3) hX (by decide) (by simp (disch := first | assumption | omega) only [k18, g18_0, g18_1, g18_2, g18_3, g18_4, g18_5, g18_6, g18_7, E_X10_sameWith, B_X10_sameWith_0, B_X10_sameWith_4, B_X10_sameWith_9, B_X10_sameWith_17, B_X10_sameWith_28, B_X10_sameWith_47, Option.bind_some, back_v, Option.toList_some, Option.toList_none, List.cons_append, List.nil_append, Nat.reduceAdd, Int.reduceToNat, Int.reduceNeg, upm_eq, upm_r, upm_i, if_pos, if_neg, ite_self, true_or, or_true, true_and, and_true, false_or, or_false, false_and, and_false, wr_id, i10, i01, upr_f, upr_eq, thr58, upm_upr, upr_upr, lc_lt, lc_gt, lc_ge, lc_le, afit1, afit0, afitI, bifit, not_true_eq_false, not_false_eq_true, if_true, if_false, Bool.false_eq_true, reduceCtorEq, k1557, k1558, g1557_2, cn, cl, cb1, be]) (by simp (disch := first | assumption | omega) only [E_X11_sameWith, B_X11_sameWith_0, B_X11_sameWith_5, B_X11_sameWith_18, B_X11_sameWith_30, B_X11_sameWith_43, Option.bind_some, back_v, Option.toList_some, Option.toList_none, List.cons_append, List.nil_append, Nat.reduceAdd, Int.reduceToNat, Int.reduceNeg, upm_eq, upm_r, upm_i, if_pos, if_neg, ite_self, true_or, or_true, true_and, and_true, false_or, or_false, false_and, and_false, wr_id, i10, i01, upr_f, upr_eq, thr58, upm_upr, upr_upr, lc_lt, lc_gt, lc_ge, lc_le, afit1, afit0, afitI, bifit, not_true_eq_false, not_false_eq_true, if_true, if_false, Bool.false_eq_true, reduceCtorEq, k1557, k1558, g1557_2, mn, M_in, M_isSlot, M_isDay, bi_t, ib1, bi_f, rb1])
  have cb1 := C_needB (L := L) (a := a) (t := t) (v := v) (x := p) (lo := 0) (hi := 99) (by omega)
  have ib1 : inB p 0 99 = true := inB_t (by omega) (by omega)
  have rb1 := M_refuse0 (L := L) (u := w) (a := a) (t := t) (c := 3)
  obtain ⟨C, hC⟩ := hS.1
  obtain ⟨v1, d0, d1, d2⟩ := C_spare (L := L) (t := t) hS (hX.2.2.2.2.2.2.2.2 148 (.inr (.inl rfl)))
  have hr := C_spPer (p := p) d2 hM
  have o1 : outR 148 v1 (upm v1 148 5 p) := outR_upm (R := 148) (c := 0) (by decide)
  obtain ⟨v2, a2, k0, k1, k2, k3⟩ := C_ticksUntilSame (L := L) (t := t) (R := 148) (c := c) (l := l) (lim := 200) (u := upm v1 148 5 p) (a := a) (.inr (.inl rfl)) (by omega) (by decide) (by rw [up1_ne (by decide)]; exact hl2) hr (MI_period hM (by omega)) (by rw [up1_ne (by decide)]; omega)
  rw [show ((200 : Int) + 1).toNat = 201 from rfl] at k0
  have i2 := M_sameBy (L := L) (u := upm w 1557 0 0) (a := a2) (t := t) (c := c) (l := l) (p := p) (s := w 1558) (by omega) (by omega) (by omega) hM hS.2.2.2.1 (by omega)
  have e1 : upr (upm w 1557 0 0) 1558 (w 1558) = upm w 1557 0 0 := by
    have := upr_self (f := upm w 1557 0 0) (r := 1558)
    rwa [hW] at this
  have e2 : upm w 1557 0 0 1559 = w 1559 := upm_rf (by decide)
  rw [e1, e2] at i2
  have i3 : a_m 266 [a_r 1557, a_i l, a_i p] (K0 L, upm w 1557 0 0, G a2, t) = some (.inl (some (a_i (mSameBy (w 1558) l p))), (K0 L, upr (wT w) 1558 (w 1558), G a2, t)) := i2
  rw [wT_self] at i3
  have mn2 := mnA a2
  refine OPc_sp (z := mSameBy (w 1558) l p) hX ((d1.trans o1).trans k1) k2 k3 ?_ ?_
  · unfold mSameBy
    simp (disch := first | assumption | omega) only [k18, g18_0, g18_1, g18_2, g18_3, g18_4, g18_5, g18_6, g18_7, kq148, kq149, kq150, kq151, kq152, kq153, kq154, kq155, kq156, kq157, kq158, kq159, kq250, gq148_0, gq148_1, gq148_2, gq148_3, gq149_0, gq149_1, gq149_2, gq149_3, gq149_4, gq149_5, gq149_6, gq158_0, gq250_j, gq159_j, kq251_l, kq252_l, kq253_l, kq254_l, gq251_2, gq251_3, gq251_4, kq160_p, kq161_p, kq162_p, gq160_6, gq160_7, E_X10_sameWith, B_X10_sameWith_0, B_X10_sameWith_4, B_X10_sameWith_9, B_X10_sameWith_17, B_X10_sameWith_28, B_X10_sameWith_47, Option.bind_some, back_v, Option.toList_some, Option.toList_none, List.cons_append, List.nil_append, Nat.reduceAdd, Int.reduceToNat, Int.reduceNeg, upm_eq, upm_r, upm_i, if_pos, if_neg, ite_self, true_or, or_true, true_and, and_true, false_or, or_false, false_and, and_false, wr_id, i10, i01, upr_f, upr_eq, thr58, upm_upr, upr_upr, lc_lt, lc_gt, lc_ge, lc_le, afit1, afit0, afitI, bifit, not_true_eq_false, not_false_eq_true, if_true, if_false, Bool.false_eq_true, reduceCtorEq, k1557, k1558, g1557_2, cn, cl, cb1, d0, k0]
  · simp (disch := first | assumption | omega) only [E_X11_sameWith, B_X11_sameWith_0, B_X11_sameWith_5, B_X11_sameWith_18, B_X11_sameWith_30, B_X11_sameWith_43, Option.bind_some, back_v, Option.toList_some, Option.toList_none, List.cons_append, List.nil_append, Nat.reduceAdd, Int.reduceToNat, Int.reduceNeg, upm_eq, upm_r, upm_i, if_pos, if_neg, ite_self, true_or, or_true, true_and, and_true, false_or, or_false, false_and, and_false, wr_id, i10, i01, upr_f, upr_eq, thr58, upm_upr, upr_upr, lc_lt, lc_gt, lc_ge, lc_le, afit1, afit0, afitI, bifit, not_true_eq_false, not_false_eq_true, if_true, if_false, Bool.false_eq_true, reduceCtorEq, k1557, k1558, g1557_2, mn2, M_in, ib1, bi_t, M_refuse0, i3]
end AS4
