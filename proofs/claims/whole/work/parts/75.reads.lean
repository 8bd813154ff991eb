/-! ===== the lines, on both sides at once ===== -/
section RDS
variable {L R : Nat} {a : Nat → Nat → Nat} {t : Nat × Nat × Nat}
theorem M_failsIf_bad {w : Nat → Nat → Int} {x c : Int} (he : w 1557 15 ≠ 0) : a_m 184 [a_r 1557, a_i x, a_i c] (K0 L, w, G a, t) = some (.inl none, (K0 L, w, G a, t)) := by
  have hb := M_fails_bad (L := L) (a := a) (t := t) (c := c) he
  by_cases hx : x = 0
  · simp (disch := first | assumption | omega) only [E_X11_failsIf, B_X11_failsIf_0, B_X11_failsIf_9, Option.bind_some, back_v, Option.toList_some, Option.toList_none, List.cons_append, List.nil_append, Nat.reduceAdd, Int.reduceToNat, Int.reduceNeg, upm_eq, upm_r, upm_i, if_pos, if_neg, ite_self, true_or, or_true, true_and, and_true, false_or, or_false, false_and, and_false, wr_id, i10, i01, upr_f, upr_eq, thr58, upm_upr, upr_upr, lc_lt, lc_gt, lc_ge, lc_le, afit1, afit0, afitI, bifit, not_true_eq_false, not_false_eq_true, if_true, if_false, Bool.false_eq_true, reduceCtorEq, k1557, k1558, g1557_2, hx]
  · simp (disch := first | assumption | omega) only [E_X11_failsIf, B_X11_failsIf_0, B_X11_failsIf_9, Option.bind_some, back_v, Option.toList_some, Option.toList_none, List.cons_append, List.nil_append, Nat.reduceAdd, Int.reduceToNat, Int.reduceNeg, upm_eq, upm_r, upm_i, if_pos, if_neg, ite_self, true_or, or_true, true_and, and_true, false_or, or_false, false_and, and_false, wr_id, i10, i01, upr_f, upr_eq, thr58, upm_upr, upr_upr, lc_lt, lc_gt, lc_ge, lc_le, afit1, afit0, afitI, bifit, not_true_eq_false, not_false_eq_true, if_true, if_false, Bool.false_eq_true, reduceCtorEq, k1557, k1558, g1557_2, hx, hb]
theorem M_reads_bad {w : Nat → Nat → Int} {x : Int} {y2 y3 : AV} (he : w 1557 15 ≠ 0) : a_X 190 112 [a_r 1557, a_i x, y2, y3] [] (K0 L, w, G a, t) = some (.inl none, (K0 L, w, G a, t)) := by
  have hb := fun x c => M_failsIf_bad (L := L) (a := a) (t := t) (x := x) (c := c) he
  by_cases h1 : w 1557 13 = 0
  · by_cases h2 : w 1558 3 = 0
    · rw [B_X11_reads_112]
      simp (disch := first | assumption | omega) only [B_X11_reads_0, B_X11_reads_83, B_X11_reads_95, B_X11_reads_99, B_X11_reads_54, B_X11_reads_111, B_X11_reads_197, B_X11_reads_131, B_X11_reads_137, B_X11_reads_153, B_X11_reads_144, B_X11_reads_168, B_X11_reads_160, Option.bind_some, back_v, Option.toList_some, Option.toList_none, List.cons_append, List.nil_append, Nat.reduceAdd, Int.reduceToNat, Int.reduceNeg, upm_eq, upm_r, upm_i, if_pos, if_neg, ite_self, true_or, or_true, true_and, and_true, false_or, or_false, false_and, and_false, wr_id, i10, i01, upr_f, upr_eq, thr58, upm_upr, upr_upr, lc_lt, lc_gt, lc_ge, lc_le, afit1, afit0, afitI, bifit, not_true_eq_false, not_false_eq_true, if_true, if_false, Bool.false_eq_true, reduceCtorEq, k1557, k1558, g1557_2, he, h1, h2, hb]
    · rw [B_X11_reads_112]
      simp (disch := first | assumption | omega) only [B_X11_reads_0, B_X11_reads_83, B_X11_reads_95, B_X11_reads_99, B_X11_reads_54, B_X11_reads_111, B_X11_reads_197, B_X11_reads_131, B_X11_reads_137, B_X11_reads_153, B_X11_reads_144, B_X11_reads_168, B_X11_reads_160, Option.bind_some, back_v, Option.toList_some, Option.toList_none, List.cons_append, List.nil_append, Nat.reduceAdd, Int.reduceToNat, Int.reduceNeg, upm_eq, upm_r, upm_i, if_pos, if_neg, ite_self, true_or, or_true, true_and, and_true, false_or, or_false, false_and, and_false, wr_id, i10, i01, upr_f, upr_eq, thr58, upm_upr, upr_upr, lc_lt, lc_gt, lc_ge, lc_le, afit1, afit0, afitI, bifit, not_true_eq_false, not_false_eq_true, if_true, if_false, Bool.false_eq_true, reduceCtorEq, k1557, k1558, g1557_2, he, h1, h2, hb]
  · rw [B_X11_reads_112]
    simp (disch := first | assumption | omega) only [B_X11_reads_0, B_X11_reads_83, B_X11_reads_95, B_X11_reads_99, B_X11_reads_54, B_X11_reads_111, B_X11_reads_197, B_X11_reads_131, B_X11_reads_137, B_X11_reads_153, B_X11_reads_144, B_X11_reads_168, B_X11_reads_160, Option.bind_some, back_v, Option.toList_some, Option.toList_none, List.cons_append, List.nil_append, Nat.reduceAdd, Int.reduceToNat, Int.reduceNeg, upm_eq, upm_r, upm_i, if_pos, if_neg, ite_self, true_or, or_true, true_and, and_true, false_or, or_false, false_and, and_false, wr_id, i10, i01, upr_f, upr_eq, thr58, upm_upr, upr_upr, lc_lt, lc_gt, lc_ge, lc_le, afit1, afit0, afitI, bifit, not_true_eq_false, not_false_eq_true, if_true, if_false, Bool.false_eq_true, reduceCtorEq, k1557, k1558, g1557_2, he, h1, hb]
theorem isW_st {v : Nat → Nat → Int} {B : Nat → Int} {i : Nat} (h : isW v B i = true) : v 19 6 = 1 := by
  unfold isW at h
  exact of_decide_eq_true ((Bool.and_eq_true _ _).mp h).1
theorem readsBoth {N : Int} {B : Nat → Int} {len x1 : Int} {y2 y3 : AV} (hR : isRad R) : ∀ (d : Nat) (x : Int) (n : Nat) (v w : Nat → Nat → Int) (y4 : AV), N - v 19 5 < d → 0 ≤ x → x + 1 ≤ v 19 5 → PP R v w N B n → w 1558 3 = n → ∃ v' w', cP R v v' ∧ mP w w' ∧
    ((a_X 55 69 [a_r 19, a_i len, a_r R, a_i x, y4] [] (K0 L, v, G a, t) = some (.inl (some (a_i (1))), (K0 L, v', G a, t)) ∧ a_X 190 112 [a_r 1557, a_i x1, y2, y3] [] (K0 L, w, G a, t) = some (.inl none, (K0 L, w', G a, t)) ∧ ∃ m : Nat, PP R v' w' N B m ∧ w' 1558 3 = m ∧ 1 ≤ m) ∨
     (a_X 55 69 [a_r 19, a_i len, a_r R, a_i x, y4] [] (K0 L, v, G a, t) = some (.inl (some (a_i (0))), (K0 L, v', G a, t)) ∧ a_X 190 112 [a_r 1557, a_i x1, y2, y3] [] (K0 L, w, G a, t) = some (.inl none, (K0 L, w', G a, t)) ∧ PF v' w')) := by
  intro d
  have hr := isRad_lt hR
  induction d with
  | zero =>
    intro x n v w y4 hd x0 hx h h3
    have := h.1.1.2.2.2.2.2.1.2
    omega
  | succ d ih =>
    intro x n v w y4 hd x0 hx h h3
    have hv5 := h.1.1.2.2.2.2.2.1.2
    have hN := h.1.1.2.2.2.2.1.2.1
    have x500 : x < 500 := by omega
    have w13 := h.1.2.2.2.1
    have e15 := h.2.2.2.1
    have hR4 : v R 4 = n := by
      have := h.2.1.1.1
      rwa [vw_at (by decide), Nat.add_zero] at this
    have f0 := M_failsIf0 (L := L) (a := a) (t := t) (w := w) (c := 1)
    by_cases e0 : v 19 6 = 0
    · rw [e0] at w13
      by_cases hn : 0 < n
      · have n0 : (n : Int) > 0 := by omega
        have n1 : (n : Int) ≠ 0 := by omega
        refine ⟨v, w, cP.refl, mP.refl, .inl ⟨?_, ?_, n, h, h3, hn⟩⟩
        · rw [B_X5_parse_69]
          simp (disch := first | assumption | omega) only [k19, k20, g19_0, kR0, kR9, kR10, kR11, kR102, gR0_0, gR0_1, gR0_2, gR0_3, gR10_0, gR11, gR102, B_X5_parse_0, B_X5_parse_34, B_X5_parse_38, B_X5_parse_44, B_X5_parse_54, B_X5_parse_141, B_X5_parse_87, B_X5_parse_98, B_X5_parse_114, B_X5_parse_106, Option.bind_some, back_v, Option.toList_some, Option.toList_none, List.cons_append, List.nil_append, Nat.reduceAdd, Int.reduceToNat, Int.reduceNeg, upm_eq, upm_r, upm_i, if_pos, if_neg, ite_self, true_or, or_true, true_and, and_true, false_or, or_false, false_and, and_false, wr_id, i10, i01, upr_f, upr_eq, thr58, upm_upr, upr_upr, lc_lt, lc_gt, lc_ge, lc_le, afit1, afit0, afitI, bifit, not_true_eq_false, not_false_eq_true, if_true, if_false, Bool.false_eq_true, reduceCtorEq, k1557, k1558, g1557_2, hR4, e0]
        · rw [B_X11_reads_112]
          simp (disch := first | assumption | omega) only [B_X11_reads_0, B_X11_reads_83, B_X11_reads_95, B_X11_reads_99, B_X11_reads_54, B_X11_reads_111, B_X11_reads_197, B_X11_reads_131, B_X11_reads_137, B_X11_reads_153, B_X11_reads_144, B_X11_reads_168, B_X11_reads_160, Option.bind_some, back_v, Option.toList_some, Option.toList_none, List.cons_append, List.nil_append, Nat.reduceAdd, Int.reduceToNat, Int.reduceNeg, upm_eq, upm_r, upm_i, if_pos, if_neg, ite_self, true_or, or_true, true_and, and_true, false_or, or_false, false_and, and_false, wr_id, i10, i01, upr_f, upr_eq, thr58, upm_upr, upr_upr, lc_lt, lc_gt, lc_ge, lc_le, afit1, afit0, afitI, bifit, not_true_eq_false, not_false_eq_true, if_true, if_false, Bool.false_eq_true, reduceCtorEq, k1557, k1558, g1557_2, w13, e15, h3, f0]
      · have n0 : n = 0 := by omega
        rw [n0] at hR4 h3
        obtain ⟨v', w', cp, mp, F, g0, _, g2, sF⟩ := failBoth (L := L) (a := a) (t := t) (c := 1) (by decide) h
        have i0 : (((0 : Nat) : Int) > 0) = False := by simp
        have i1 : (((0 : Nat) : Int) ≠ 0) = False := by simp
        refine ⟨v', w', cp, mp, .inr ⟨?_, ?_, F⟩⟩
        · rw [B_X5_parse_69]
          simp (disch := first | assumption | omega) only [k19, k20, g19_0, kR0, kR9, kR10, kR11, kR102, gR0_0, gR0_1, gR0_2, gR0_3, gR10_0, gR11, gR102, B_X5_parse_0, B_X5_parse_34, B_X5_parse_38, B_X5_parse_44, B_X5_parse_54, B_X5_parse_141, B_X5_parse_87, B_X5_parse_98, B_X5_parse_114, B_X5_parse_106, Option.bind_some, back_v, Option.toList_some, Option.toList_none, List.cons_append, List.nil_append, Nat.reduceAdd, Int.reduceToNat, Int.reduceNeg, upm_eq, upm_r, upm_i, if_pos, if_neg, ite_self, true_or, or_true, true_and, and_true, false_or, or_false, false_and, and_false, wr_id, i10, i01, upr_f, upr_eq, thr58, upm_upr, upr_upr, lc_lt, lc_gt, lc_ge, lc_le, afit1, afit0, afitI, bifit, not_true_eq_false, not_false_eq_true, if_true, if_false, Bool.false_eq_true, reduceCtorEq, k1557, k1558, g1557_2, hR4, e0, g0, i0]
        · rw [B_X11_reads_112]
          simp (disch := first | assumption | omega) only [B_X11_reads_0, B_X11_reads_83, B_X11_reads_95, B_X11_reads_99, B_X11_reads_54, B_X11_reads_111, B_X11_reads_197, B_X11_reads_131, B_X11_reads_137, B_X11_reads_153, B_X11_reads_144, B_X11_reads_168, B_X11_reads_160, Option.bind_some, back_v, Option.toList_some, Option.toList_none, List.cons_append, List.nil_append, Nat.reduceAdd, Int.reduceToNat, Int.reduceNeg, upm_eq, upm_r, upm_i, if_pos, if_neg, ite_self, true_or, or_true, true_and, and_true, false_or, or_false, false_and, and_false, wr_id, i10, i01, upr_f, upr_eq, thr58, upm_upr, upr_upr, lc_lt, lc_gt, lc_ge, lc_le, afit1, afit0, afitI, bifit, not_true_eq_false, not_false_eq_true, if_true, if_false, Bool.false_eq_true, reduceCtorEq, k1557, k1558, g1557_2, w13, e15, h3, g2, i1]
    · by_cases e3 : v 19 6 = 3
      · rw [e3] at w13
        obtain ⟨v1, w1, c0, mt, _, cp1, mp1, P1, l1, l2, o1, s1⟩ := nextBoth (L := L) (a := a) (t := t) hR h
        have hCs := C_isWord (L := L) (a := a) (t := t) (i := 1) (r := 3) rfl (by decide) P1.2.2.2.2.1 P1.1
        have hMs := M_isWord (L := L) (a := a) (t := t) (i := 1) (j := 6) (r := 13) rfl (by decide) P1.2.2.2.2.2 P1.1 P1.2.2.2.1 rfl
        have hCh := C_isWord (L := L) (a := a) (t := t) (i := 2) (r := 5) rfl (by decide) P1.2.2.2.2.1 P1.1
        have hMh := M_isWord (L := L) (a := a) (t := t) (i := 2) (j := 7) (r := 15) rfl (by decide) P1.2.2.2.2.2 P1.1 P1.2.2.2.1 rfl
        cases hs : isW v1 B 1 with
        | true =>
          rw [hs, bi_t] at hCs hMs
          have hpr := l2 (by rw [isW_st hs]; decide)
          obtain ⟨v2, w2, cp2, mp2, ⟨a1, b1, P2, l3, s2⟩ | ⟨a1, b1, F⟩⟩ := stopBoth (L := L) (a := a) (t := t) hR P1
          · obtain ⟨v', w', cp, mp, hh⟩ := ih (x + 1) n v2 w2 (a_i 1) (by omega) (by omega) (by omega) P2 (by rw [s2, s1]; exact h3)
            refine ⟨v', w', (cp1.trans cp2).trans cp, (mp1.trans mp2).trans mp, ?_⟩
            have hc1 : a_X 55 69 [a_r 19, a_i len, a_r R, a_i x, y4] [] (K0 L, v, G a, t) = a_X 55 69 [a_r 19, a_i len, a_r R, a_i (x + 1), a_i 1] [] (K0 L, v2, G a, t) := by
              rw [B_X5_parse_69]
              simp (disch := first | assumption | omega) only [k19, k20, g19_0, kR0, kR9, kR10, kR11, kR102, gR0_0, gR0_1, gR0_2, gR0_3, gR10_0, gR11, gR102, B_X5_parse_0, B_X5_parse_34, B_X5_parse_38, B_X5_parse_44, B_X5_parse_54, B_X5_parse_141, B_X5_parse_87, B_X5_parse_98, B_X5_parse_114, B_X5_parse_106, B_X5_takeSemicolon_0, B_X5_takeSemicolon_18, B_X5_takeSemicolon_13, Option.bind_some, back_v, Option.toList_some, Option.toList_none, List.cons_append, List.nil_append, Nat.reduceAdd, Int.reduceToNat, Int.reduceNeg, upm_eq, upm_r, upm_i, if_pos, if_neg, ite_self, true_or, or_true, true_and, and_true, false_or, or_false, false_and, and_false, wr_id, i10, i01, upr_f, upr_eq, thr58, upm_upr, upr_upr, lc_lt, lc_gt, lc_ge, lc_le, afit1, afit0, afitI, bifit, not_true_eq_false, not_false_eq_true, if_true, if_false, Bool.false_eq_true, reduceCtorEq, k1557, k1558, g1557_2, E_X5_takeSemicolon, e0, e3, c0, hCs, a1]
            have hm1 : a_X 190 112 [a_r 1557, a_i x1, y2, y3] [] (K0 L, w, G a, t) = a_X 190 112 [a_r 1557, a_i x1, y2, y3] [] (K0 L, w2, G a, t) := by
              rw [B_X11_reads_112]
              simp (disch := first | assumption | omega) only [B_X11_reads_0, B_X11_reads_83, B_X11_reads_95, B_X11_reads_99, B_X11_reads_54, B_X11_reads_111, B_X11_reads_197, B_X11_reads_131, B_X11_reads_137, B_X11_reads_153, B_X11_reads_144, B_X11_reads_168, B_X11_reads_160, Option.bind_some, back_v, Option.toList_some, Option.toList_none, List.cons_append, List.nil_append, Nat.reduceAdd, Int.reduceToNat, Int.reduceNeg, upm_eq, upm_r, upm_i, if_pos, if_neg, ite_self, true_or, or_true, true_and, and_true, false_or, or_false, false_and, and_false, wr_id, i10, i01, upr_f, upr_eq, thr58, upm_upr, upr_upr, lc_lt, lc_gt, lc_ge, lc_le, afit1, afit0, afitI, bifit, not_true_eq_false, not_false_eq_true, if_true, if_false, Bool.false_eq_true, reduceCtorEq, k1557, k1558, g1557_2, w13, e15, mt, hMs, b1]
            rw [hc1, hm1]; exact hh
          · have hbad := fun y2 y3 => M_reads_bad (L := L) (a := a) (t := t) (x := x1) (y2 := y2) (y3 := y3) F.2.2
            refine ⟨v2, w2, cp1.trans cp2, mp1.trans mp2, .inr ⟨?_, ?_, F⟩⟩
            · rw [B_X5_parse_69]
              simp (disch := first | assumption | omega) only [k19, k20, g19_0, kR0, kR9, kR10, kR11, kR102, gR0_0, gR0_1, gR0_2, gR0_3, gR10_0, gR11, gR102, B_X5_parse_0, B_X5_parse_34, B_X5_parse_38, B_X5_parse_44, B_X5_parse_54, B_X5_parse_141, B_X5_parse_87, B_X5_parse_98, B_X5_parse_114, B_X5_parse_106, B_X5_takeSemicolon_0, B_X5_takeSemicolon_18, B_X5_takeSemicolon_13, Option.bind_some, back_v, Option.toList_some, Option.toList_none, List.cons_append, List.nil_append, Nat.reduceAdd, Int.reduceToNat, Int.reduceNeg, upm_eq, upm_r, upm_i, if_pos, if_neg, ite_self, true_or, or_true, true_and, and_true, false_or, or_false, false_and, and_false, wr_id, i10, i01, upr_f, upr_eq, thr58, upm_upr, upr_upr, lc_lt, lc_gt, lc_ge, lc_le, afit1, afit0, afitI, bifit, not_true_eq_false, not_false_eq_true, if_true, if_false, Bool.false_eq_true, reduceCtorEq, k1557, k1558, g1557_2, E_X5_takeSemicolon, e0, e3, c0, hCs, a1]
            · rw [B_X11_reads_112]
              simp (disch := first | assumption | omega) only [B_X11_reads_0, B_X11_reads_83, B_X11_reads_95, B_X11_reads_99, B_X11_reads_54, B_X11_reads_111, B_X11_reads_197, B_X11_reads_131, B_X11_reads_137, B_X11_reads_153, B_X11_reads_144, B_X11_reads_168, B_X11_reads_160, Option.bind_some, back_v, Option.toList_some, Option.toList_none, List.cons_append, List.nil_append, Nat.reduceAdd, Int.reduceToNat, Int.reduceNeg, upm_eq, upm_r, upm_i, if_pos, if_neg, ite_self, true_or, or_true, true_and, and_true, false_or, or_false, false_and, and_false, wr_id, i10, i01, upr_f, upr_eq, thr58, upm_upr, upr_upr, lc_lt, lc_gt, lc_ge, lc_le, afit1, afit0, afitI, bifit, not_true_eq_false, not_false_eq_true, if_true, if_false, Bool.false_eq_true, reduceCtorEq, k1557, k1558, g1557_2, w13, e15, mt, hMs, b1, hbad]
        | false =>
          rw [hs, bi_f] at hCs hMs
          cases hw : isW v1 B 2 with
          | true =>
            rw [hw, bi_t] at hCh hMh
            have hpr := l2 (by rw [isW_st hw]; decide)
            obtain ⟨v2, w2, cp2, mp2, ⟨a1, b1, P2, s2, l3⟩ | ⟨a1, b1, F⟩⟩ := hearsBoth (L := L) (a := a) (t := t) hR P1 (by rw [s1]; exact h3) hw
            · obtain ⟨v', w', cp, mp, hh⟩ := ih (x + 1) (n + 1) v2 w2 (a_i 1) (by omega) (by omega) (by omega) P2 s2
              refine ⟨v', w', (cp1.trans cp2).trans cp, (mp1.trans mp2).trans mp, ?_⟩
              have hc1 : a_X 55 69 [a_r 19, a_i len, a_r R, a_i x, y4] [] (K0 L, v, G a, t) = a_X 55 69 [a_r 19, a_i len, a_r R, a_i (x + 1), a_i 1] [] (K0 L, v2, G a, t) := by
                rw [B_X5_parse_69]
                simp (disch := first | assumption | omega) only [k19, k20, g19_0, kR0, kR9, kR10, kR11, kR102, gR0_0, gR0_1, gR0_2, gR0_3, gR10_0, gR11, gR102, B_X5_parse_0, B_X5_parse_34, B_X5_parse_38, B_X5_parse_44, B_X5_parse_54, B_X5_parse_141, B_X5_parse_87, B_X5_parse_98, B_X5_parse_114, B_X5_parse_106, B_X5_takeSemicolon_0, B_X5_takeSemicolon_18, B_X5_takeSemicolon_13, Option.bind_some, back_v, Option.toList_some, Option.toList_none, List.cons_append, List.nil_append, Nat.reduceAdd, Int.reduceToNat, Int.reduceNeg, upm_eq, upm_r, upm_i, if_pos, if_neg, ite_self, true_or, or_true, true_and, and_true, false_or, or_false, false_and, and_false, wr_id, i10, i01, upr_f, upr_eq, thr58, upm_upr, upr_upr, lc_lt, lc_gt, lc_ge, lc_le, afit1, afit0, afitI, bifit, not_true_eq_false, not_false_eq_true, if_true, if_false, Bool.false_eq_true, reduceCtorEq, k1557, k1558, g1557_2, E_X5_takeSemicolon, e0, e3, c0, hCs, a1]
              have hm1 : a_X 190 112 [a_r 1557, a_i x1, y2, y3] [] (K0 L, w, G a, t) = a_X 190 112 [a_r 1557, a_i x1, y2, y3] [] (K0 L, w2, G a, t) := by
                rw [B_X11_reads_112]
                simp (disch := first | assumption | omega) only [B_X11_reads_0, B_X11_reads_83, B_X11_reads_95, B_X11_reads_99, B_X11_reads_54, B_X11_reads_111, B_X11_reads_197, B_X11_reads_131, B_X11_reads_137, B_X11_reads_153, B_X11_reads_144, B_X11_reads_168, B_X11_reads_160, Option.bind_some, back_v, Option.toList_some, Option.toList_none, List.cons_append, List.nil_append, Nat.reduceAdd, Int.reduceToNat, Int.reduceNeg, upm_eq, upm_r, upm_i, if_pos, if_neg, ite_self, true_or, or_true, true_and, and_true, false_or, or_false, false_and, and_false, wr_id, i10, i01, upr_f, upr_eq, thr58, upm_upr, upr_upr, lc_lt, lc_gt, lc_ge, lc_le, afit1, afit0, afitI, bifit, not_true_eq_false, not_false_eq_true, if_true, if_false, Bool.false_eq_true, reduceCtorEq, k1557, k1558, g1557_2, w13, e15, mt, hMs, hMh, b1]
              rw [hc1, hm1]; exact hh
            · have hbad := fun y2 y3 => M_reads_bad (L := L) (a := a) (t := t) (x := x1) (y2 := y2) (y3 := y3) F.2.2
              refine ⟨v2, w2, cp1.trans cp2, mp1.trans mp2, .inr ⟨?_, ?_, F⟩⟩
              · rw [B_X5_parse_69]
                simp (disch := first | assumption | omega) only [k19, k20, g19_0, kR0, kR9, kR10, kR11, kR102, gR0_0, gR0_1, gR0_2, gR0_3, gR10_0, gR11, gR102, B_X5_parse_0, B_X5_parse_34, B_X5_parse_38, B_X5_parse_44, B_X5_parse_54, B_X5_parse_141, B_X5_parse_87, B_X5_parse_98, B_X5_parse_114, B_X5_parse_106, B_X5_takeSemicolon_0, B_X5_takeSemicolon_18, B_X5_takeSemicolon_13, Option.bind_some, back_v, Option.toList_some, Option.toList_none, List.cons_append, List.nil_append, Nat.reduceAdd, Int.reduceToNat, Int.reduceNeg, upm_eq, upm_r, upm_i, if_pos, if_neg, ite_self, true_or, or_true, true_and, and_true, false_or, or_false, false_and, and_false, wr_id, i10, i01, upr_f, upr_eq, thr58, upm_upr, upr_upr, lc_lt, lc_gt, lc_ge, lc_le, afit1, afit0, afitI, bifit, not_true_eq_false, not_false_eq_true, if_true, if_false, Bool.false_eq_true, reduceCtorEq, k1557, k1558, g1557_2, E_X5_takeSemicolon, e0, e3, c0, hCs, a1]
              · rw [B_X11_reads_112]
                simp (disch := first | assumption | omega) only [B_X11_reads_0, B_X11_reads_83, B_X11_reads_95, B_X11_reads_99, B_X11_reads_54, B_X11_reads_111, B_X11_reads_197, B_X11_reads_131, B_X11_reads_137, B_X11_reads_153, B_X11_reads_144, B_X11_reads_168, B_X11_reads_160, Option.bind_some, back_v, Option.toList_some, Option.toList_none, List.cons_append, List.nil_append, Nat.reduceAdd, Int.reduceToNat, Int.reduceNeg, upm_eq, upm_r, upm_i, if_pos, if_neg, ite_self, true_or, or_true, true_and, and_true, false_or, or_false, false_and, and_false, wr_id, i10, i01, upr_f, upr_eq, thr58, upm_upr, upr_upr, lc_lt, lc_gt, lc_ge, lc_le, afit1, afit0, afitI, bifit, not_true_eq_false, not_false_eq_true, if_true, if_false, Bool.false_eq_true, reduceCtorEq, k1557, k1558, g1557_2, w13, e15, mt, hMs, hMh, b1, hbad]
          | false =>
            rw [hw, bi_f] at hCh hMh
            obtain ⟨v', w', cp, mp, F, g0, g1, g2, sF⟩ := failBoth (L := L) (a := a) (t := t) (c := 1) (by decide) P1
            have hbad := fun y2 y3 => M_reads_bad (L := L) (a := a) (t := t) (x := x1) (y2 := y2) (y3 := y3) F.2.2
            have h57 : a_m 57 [a_r 19, a_r R] (K0 L, v1, G a, t) = some (.inl (some (a_i (0))), (K0 L, v', G a, t)) := by simp (disch := first | assumption | omega) only [k19, k20, g19_0, kR0, kR9, kR10, kR11, kR102, gR0_0, gR0_1, gR0_2, gR0_3, gR10_0, gR11, gR102, E_X5_parseListener, B_X5_parseListener_0, B_X5_parseListener_6, B_X5_parseListener_44, B_X5_parseListener_29, B_X5_parseListener_14, B_X5_parseListener_58, B_X5_parseListener_65, B_X5_parseListener_91, B_X5_parseListener_99, Option.bind_some, back_v, Option.toList_some, Option.toList_none, List.cons_append, List.nil_append, Nat.reduceAdd, Int.reduceToNat, Int.reduceNeg, upm_eq, upm_r, upm_i, if_pos, if_neg, ite_self, true_or, or_true, true_and, and_true, false_or, or_false, false_and, and_false, wr_id, i10, i01, upr_f, upr_eq, thr58, upm_upr, upr_upr, lc_lt, lc_gt, lc_ge, lc_le, afit1, afit0, afitI, bifit, not_true_eq_false, not_false_eq_true, if_true, if_false, Bool.false_eq_true, reduceCtorEq, k1557, k1558, g1557_2, hCh, g0]
            refine ⟨v', w', cp1.trans cp, mp1.trans mp, .inr ⟨?_, ?_, F⟩⟩
            · rw [B_X5_parse_69]
              simp (disch := first | assumption | omega) only [k19, k20, g19_0, kR0, kR9, kR10, kR11, kR102, gR0_0, gR0_1, gR0_2, gR0_3, gR10_0, gR11, gR102, B_X5_parse_0, B_X5_parse_34, B_X5_parse_38, B_X5_parse_44, B_X5_parse_54, B_X5_parse_141, B_X5_parse_87, B_X5_parse_98, B_X5_parse_114, B_X5_parse_106, B_X5_takeSemicolon_0, B_X5_takeSemicolon_18, B_X5_takeSemicolon_13, Option.bind_some, back_v, Option.toList_some, Option.toList_none, List.cons_append, List.nil_append, Nat.reduceAdd, Int.reduceToNat, Int.reduceNeg, upm_eq, upm_r, upm_i, if_pos, if_neg, ite_self, true_or, or_true, true_and, and_true, false_or, or_false, false_and, and_false, wr_id, i10, i01, upr_f, upr_eq, thr58, upm_upr, upr_upr, lc_lt, lc_gt, lc_ge, lc_le, afit1, afit0, afitI, bifit, not_true_eq_false, not_false_eq_true, if_true, if_false, Bool.false_eq_true, reduceCtorEq, k1557, k1558, g1557_2, E_X5_takeSemicolon, e0, e3, c0, hCs, h57]
            · rw [B_X11_reads_112]
              simp (disch := first | assumption | omega) only [B_X11_reads_0, B_X11_reads_83, B_X11_reads_95, B_X11_reads_99, B_X11_reads_54, B_X11_reads_111, B_X11_reads_197, B_X11_reads_131, B_X11_reads_137, B_X11_reads_153, B_X11_reads_144, B_X11_reads_168, B_X11_reads_160, Option.bind_some, back_v, Option.toList_some, Option.toList_none, List.cons_append, List.nil_append, Nat.reduceAdd, Int.reduceToNat, Int.reduceNeg, upm_eq, upm_r, upm_i, if_pos, if_neg, ite_self, true_or, or_true, true_and, and_true, false_or, or_false, false_and, and_false, wr_id, i10, i01, upr_f, upr_eq, thr58, upm_upr, upr_upr, lc_lt, lc_gt, lc_ge, lc_le, afit1, afit0, afitI, bifit, not_true_eq_false, not_false_eq_true, if_true, if_false, Bool.false_eq_true, reduceCtorEq, k1557, k1558, g1557_2, w13, e15, mt, hMs, hMh, g1, hbad]
      · obtain ⟨v', w', cp, mp, F, g0, _, g2, sF⟩ := failBoth (L := L) (a := a) (t := t) (c := 1) (by decide) h
        have m3 : w 1557 13 ≠ 3 := by rw [w13]; exact e3
        have m0 : w 1557 13 ≠ 0 := by rw [w13]; exact e0
        refine ⟨v', w', cp, mp, .inr ⟨?_, ?_, F⟩⟩
        · rw [B_X5_parse_69]
          simp (disch := first | assumption | omega) only [k19, k20, g19_0, kR0, kR9, kR10, kR11, kR102, gR0_0, gR0_1, gR0_2, gR0_3, gR10_0, gR11, gR102, B_X5_parse_0, B_X5_parse_34, B_X5_parse_38, B_X5_parse_44, B_X5_parse_54, B_X5_parse_141, B_X5_parse_87, B_X5_parse_98, B_X5_parse_114, B_X5_parse_106, B_X5_takeSemicolon_0, B_X5_takeSemicolon_18, B_X5_takeSemicolon_13, Option.bind_some, back_v, Option.toList_some, Option.toList_none, List.cons_append, List.nil_append, Nat.reduceAdd, Int.reduceToNat, Int.reduceNeg, upm_eq, upm_r, upm_i, if_pos, if_neg, ite_self, true_or, or_true, true_and, and_true, false_or, or_false, false_and, and_false, wr_id, i10, i01, upr_f, upr_eq, thr58, upm_upr, upr_upr, lc_lt, lc_gt, lc_ge, lc_le, afit1, afit0, afitI, bifit, not_true_eq_false, not_false_eq_true, if_true, if_false, Bool.false_eq_true, reduceCtorEq, k1557, k1558, g1557_2, E_X5_takeSemicolon, e0, e3, g0]
        · rw [B_X11_reads_112]
          simp (disch := first | assumption | omega) only [B_X11_reads_0, B_X11_reads_83, B_X11_reads_95, B_X11_reads_99, B_X11_reads_54, B_X11_reads_111, B_X11_reads_197, B_X11_reads_131, B_X11_reads_137, B_X11_reads_153, B_X11_reads_144, B_X11_reads_168, B_X11_reads_160, Option.bind_some, back_v, Option.toList_some, Option.toList_none, List.cons_append, List.nil_append, Nat.reduceAdd, Int.reduceToNat, Int.reduceNeg, upm_eq, upm_r, upm_i, if_pos, if_neg, ite_self, true_or, or_true, true_and, and_true, false_or, or_false, false_and, and_false, wr_id, i10, i01, upr_f, upr_eq, thr58, upm_upr, upr_upr, lc_lt, lc_gt, lc_ge, lc_le, afit1, afit0, afitI, bifit, not_true_eq_false, not_false_eq_true, if_true, if_false, Bool.false_eq_true, reduceCtorEq, k1557, k1558, g1557_2, m3, m0, e15, g2]
end RDS
