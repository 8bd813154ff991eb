section PAB
variable {L R : Nat} {a : Nat → Nat → Nat} {t : Nat × Nat × Nat}
theorem PP_period {v w : Nat → Nat → Int} {N x : Int} {B : Nat → Int} {n : Int} (hR : isRad R) (h : PP R v w N B n) (hx : 0 ≤ x ∧ x ≤ 99) : PP R (upm v R 5 x) (upm w 1558 0 x) N B n := by
  have hr := isRad_lt hR
  obtain ⟨h1, ⟨⟨a1, a2, a3, a4, a5, a6, a7, a8, a9, a10, a11, a12⟩, h22, h23, h24⟩, h4, h5, h6, h7⟩ := h
  have e0 : ∀ j, j ≠ 5 → vw (upm v R 5 x) R 0 j = vw v R 0 j := fun j hj => by rw [vw_at (by decide), vw_at (by decide), Nat.add_zero, upm_i hj]
  have e : ∀ c, c ≠ 0 → vw (upm v R 5 x) R c = vw v R c := fun c hc => by funext i; unfold vw; split; rw [upm_r (by omega)]; rfl
  have es : ∀ j, j ≠ 0 → upm w 1558 0 x 1558 j = w 1558 j := fun j hj => upm_i hj
  refine ⟨PT_keep h1 (fun j _ _ => upm_r (by omega)) (upm_rf (by omega)) (fun j _ _ => upm_r (by decide)) (upm_rf (by decide)), ⟨⟨?_, ?_, ?_, ?_, ?_, ?_, ?_, ?_, ?_, ?_, ?_, ?_⟩, ?_, ?_, ?_⟩, ?_, ?_, strOK_congr (fun q a b => upm_rf (by omega)) h6, strOK_congr (fun q a b => upm_rf (by omega)) h7⟩
  · rw [e0 4 (by decide)]; exact a1
  · rw [vw_at (by decide), Nat.add_zero, upm_eq, upm_eq]
  · rw [e0 6 (by decide)]; exact a3
  · rw [e0 7 (by decide)]; exact a4
  · rw [e0 8 (by decide)]; exact a5
  · rw [e 1 (by decide)]; exact a6
  · rw [e 10 (by decide)]; exact a7
  · rw [upm_eq]; exact hx
  · rw [es 3 (by decide)]; exact a9
  · rw [es 8 (by decide)]; exact a10
  · intro j j1 j2 j3 j4; rw [es j j2]; exact a11 j j1 j2 j3 j4
  · intro j j1; rw [es j (by omega)]; exact a12 j j1
  · intro k k0 k1
    obtain ⟨b1, b2, b3⟩ := h22 k k0 k1
    have eW : ∀ w, vW (vw (upm v R 5 x) R) k w = vW (vw v R) k w := fun w => by unfold vW; rw [e 2 (by decide), e 3 (by decide), e 4 (by decide), e 5 (by decide)]
    refine ⟨?_, by rw [e 9 (by decide)]; exact b2, fun m m0 m1 => ⟨?_, fun z z0 z1 => ?_⟩⟩
    · unfold wfS at *; rw [eW, eW, eW, eW]; exact b1
    · rw [mOf, es _ (by omega)]; exact (b3 m m0 m1).1
    · rw [eW, mOf, es _ (by omega)]; exact (b3 m m0 m1).2 z z0 z1
  · intro m m0 m1
    refine plis_congr m0 (h23 m m0 m1) (fun c c0 c1 => e c (by omega)) (fun z z0 z1 => ?_)
    rw [mLi, es _ (by omega)]; rfl
  · intro m z m0 m1 z0 z1
    rw [mLi, es _ (by omega)]; exact h24 m z m0 m1 z0 z1
  · rw [upm_r (by omega), es 8 (by decide)]; exact h4
  · rw [upm_r (by decide)]; exact h5
theorem parseBoth {v w : Nat → Nat → Int} {len : Int} {B : Nat → Int} (hR : isRad R) (hb : byOK v len B) (hB : v 20 = B) (hB2 : w 1561 = B) (h10 : w 1557 10 = len) (h11 : w 1557 11 = 0) (h15 : w 1557 15 = 0) (hsv : strOK v) (hsw : strOK w) (h0 : hi0 (w 1558)) : ∃ v' w1 w', (∀ q, q ≠ 19 → (q < R ∨ R + 127 ≤ q) → v' q = v q) ∧ (∀ j, j = 0 ∨ 11 ≤ j → v' 19 j = v 19 j) ∧ v' 19 1 = 0 ∧ v' 19 4 = len ∧ mP w w' ∧ a_m 182 [a_r 1557] (K0 L, w, G a, t) = some (.inl none, (K0 L, w1, G a, t)) ∧
    ((a_m 55 [a_r 19, a_i len, a_r R] (K0 L, v, G a, t) = some (.inl (some (a_i (1))), (K0 L, v', G a, t)) ∧ a_m 190 [a_r 1557] (K0 L, w1, G a, t) = some (.inl none, (K0 L, w', G a, t)) ∧ ∃ m : Nat, PP R v' w' len B m ∧ w' 1558 3 = m ∧ 1 ≤ m) ∨
     (a_m 55 [a_r 19, a_i len, a_r R] (K0 L, v, G a, t) = some (.inl (some (a_i (0))), (K0 L, v', G a, t)) ∧ a_m 190 [a_r 1557] (K0 L, w1, G a, t) = some (.inl none, (K0 L, w', G a, t)) ∧ PF v' w')) := by
  have hr := isRad_lt hR
  obtain ⟨v1, r0, r1, r2, r3, r4, r5, r6⟩ := C_resetRadio (L := L) (a := a) (t := t) (u := upm (upm (upm (upm (upm (upm v 19 4 len) 19 5 0) 19 1 0) 19 10 0) 19 2 0) 19 3 (-1)) hR
  have q19 : v1 19 = upm (upm (upm (upm (upm (upm v 19 4 len) 19 5 0) 19 1 0) 19 10 0) 19 2 0) 19 3 (-1) 19 := r1 19 (by omega)
  have q20 : v1 20 = v 20 := by rw [r1 20 (by omega)]; rw [upm_rf (by decide), upm_rf (by decide), upm_rf (by decide), upm_rf (by decide), upm_rf (by decide), upm_rf (by decide)]
  have z4 : v1 19 4 = len := by rw [q19, upm_i (by decide), upm_i (by decide), upm_i (by decide), upm_i (by decide), upm_i (by decide), upm_eq]
  have z5 : v1 19 5 = 0 := by rw [q19, upm_i (by decide), upm_i (by decide), upm_i (by decide), upm_i (by decide), upm_eq]
  have z1 : v1 19 1 = 0 := by rw [q19, upm_i (by decide), upm_i (by decide), upm_i (by decide), upm_eq]
  have z10 : v1 19 10 = 0 := by rw [q19, upm_i (by decide), upm_i (by decide), upm_eq]
  have z2 : v1 19 2 = 0 := by rw [q19, upm_i (by decide), upm_eq]
  have z3 : v1 19 3 = -1 := by rw [q19, upm_eq]
  have zj : ∀ j, j = 0 ∨ 11 ≤ j → v1 19 j = v 19 j := fun j hj => by rw [q19, upm_i (by omega), upm_i (by omega), upm_i (by omega), upm_i (by omega), upm_i (by omega), upm_i (by omega)]
  have zq : ∀ q, q ≠ 19 → (q < R ∨ R + 127 ≤ q) → v1 q = v q := fun q hq hq2 => by rw [r1 q hq2, upm_rf hq, upm_rf hq, upm_rf hq, upm_rf hq, upm_rf hq, upm_rf hq]
  have b1 := hb.1
  have b2 := hb.2.1
  have P0 : PT0 v1 w len B := ⟨z4, by rw [q20]; exact hB, h10, hB2, hb, by rw [z5]; omega, by rw [h11, z5], z2, z3⟩
  obtain ⟨v2, w1, c0, mt, ck, mk, PT1, l1, l2⟩ := PT_next (L := L) (a := a) (t := t) P0
  have m1558 : w1 1558 = w 1558 := mk.1 _ (by decide)
  obtain ⟨w2, y, y2, wa, wb, wc, wd, we⟩ := M_wipe (L := L) (a := a) (t := t) (w := w1) (by rw [m1558]; exact h0)
  have w2e : w2 1557 15 = 0 := by rw [wb 1557 (by decide), mk.2 15 (by decide) (by decide) (by decide) (by decide)]; exact h15
  have P2 : PP R v2 w2 len B ((0 : Nat) : Int) := by
    have ev : ∀ c j, c < 127 → vw v2 R c j = v1 (R + c) j := fun c j hc => by rw [vw_at hc, ck.1 _ (by omega)]
    have r4' : ∀ j, 4 ≤ j → j < 9 → vw v2 R 0 j = 0 := fun j j0 j1 => by rw [ev 0 j (by decide)]; exact r4 j j0 j1
    have hLi : ∀ l z, 0 ≤ l → 0 ≤ z → mLi (w2 1558) l z = 0 := fun l z l0 z0 => by rw [mLi]; exact wd _ (by omega)
    refine ⟨PT_keep PT1 (fun _ _ _ => rfl) rfl (fun j _ _ => by rw [wb 1557 (by decide)]) (wb _ (by decide)), ⟨⟨r4' 4 (by decide) (by decide), ?_, r4' 6 (by decide) (by decide), r4' 7 (by decide) (by decide), r4' 8 (by decide) (by decide), ?_, ?_, ?_, ?_, ?_, fun j j1 _ _ _ => wc j j1, fun j j0 => wd j (by omega)⟩, ?_, fun l l0 l1 => by omega, fun l z l0 _ z0 _ => hLi l z (by omega) z0⟩, ?_, w2e, ?_, ?_⟩
    · rw [r4' 5 (by decide) (by decide), wc 0 (by decide)]
    · rw [ev 1 7 (by decide)]; exact r5
    · rw [ev 10 1 (by decide)]; exact r6
    · rw [wc 0 (by decide)]; decide
    · rw [wc 3 (by decide)]; decide
    · rw [wc 8 (by decide)]; decide
    · intro k k0 k1
      have eW : ∀ z, vW (vw v2 R) k z = -1 := fun z => by
        unfold vW
        rw [ev 2 _ (by decide), ev 3 _ (by decide), ev 4 _ (by decide), ev 5 _ (by decide), r2 _ _ (by omega) (by omega) (by omega), r2 _ _ (by omega) (by omega) (by omega), r2 _ _ (by omega) (by omega) (by omega), r2 _ _ (by omega) (by omega) (by omega)]
        simp only [ite_self]
      refine ⟨.inl ⟨eW 0, eW 1, eW 2, eW 3⟩, ?_, fun l l0 l1 => ⟨(we l k l0 l1 k0 k1).1, fun z z0 z1 => ?_⟩⟩
      · rw [ev 9 _ (by decide)]; exact r3 _ (by omega)
      · rw [eW]; exact (we l k l0 l1 k0 k1).2 z z0 z1
    · rw [ck.2 10 (by decide) (by decide) (by decide) (by decide), z10, wc 8 (by decide)]
    · exact strOK_congr (fun q q1 q2 => by rw [ck.1 q (by omega), zq q (by omega) (by omega)]) hsv
    · exact strOK_congr (fun q q1 q2 => by rw [wb q (by omega), mk.1 q (by omega)]) hsw
  have s3 : w2 1558 3 = ((0 : Nat) : Int) := wc 3 (by decide)
  have mP2 : mP w w2 := ⟨fun q q1 q2 => by rw [wb q q2, mk.1 q q1], fun j j1 j2 j3 j4 _ _ => by rw [wb 1557 (by decide), mk.2 j j1 j2 j3 j4]⟩
  have fr : ∀ v', cP R v2 v' → (∀ q, q ≠ 19 → (q < R ∨ R + 127 ≤ q) → v' q = v q) ∧ (∀ j, j = 0 ∨ 11 ≤ j → v' 19 j = v 19 j) ∧ v' 19 1 = 0 ∧ v' 19 4 = len := by
    intro v' hc
    refine ⟨fun q q1 q2 => by rw [hc.1 q q1 q2, ck.1 q q1, zq q q1 q2], fun j hj => ?_, ?_, ?_⟩
    · rw [hc.2 j (by omega) (by omega) (by omega) (by omega) (by omega) (by omega) (by omega) (by omega), ck.2 j (by omega) (by omega) (by omega) (by omega), zj j hj]
    · rw [hc.2 1 (by omega) (by omega) (by omega) (by omega) (by omega) (by omega) (by omega) (by omega), ck.2 1 (by omega) (by omega) (by omega) (by omega), z1]
    · have := hc.2 4 (by omega) (by omega) (by omega) (by omega) (by omega) (by omega) (by omega) (by omega)
      rw [this, ck.2 4 (by omega) (by omega) (by omega) (by omega), z4]
  have hC := C_isWord (L := L) (a := a) (t := t) (i := 0) (r := 1) rfl (by decide) P2.2.2.2.2.1 P2.1
  have hM := M_isWord (L := L) (a := a) (t := t) (i := 0) (j := 5) (r := 11) rfl (by decide) P2.2.2.2.2.2 P2.1 P2.2.2.2.1 rfl
  cases hw : isW v2 B 0 with
  | false =>
    rw [hw, bi_f] at hC hM
    obtain ⟨v', w', cp, mp, F, g0, _, g2, sF⟩ := failBoth (L := L) (a := a) (t := t) (c := 1) (by decide) P2
    have hbk := fun lo hi => M_takes_bad (L := L) (a := a) (t := t) (lo := lo) (hi := hi) F.2.2
    have hgo := M_goesOn_bad (L := L) (a := a) (t := t) F.2.2
    have F' : PF v' (upm w' 1558 0 0) := PF_up (by decide) F
    have hbad := fun x y2 y3 => M_reads_bad (L := L) (a := a) (t := t) (x := x) (y2 := y2) (y3 := y3) F'.2.2
    obtain ⟨f1, f2, f3, f4⟩ := fr v' cp
    refine ⟨v', w1, upm w' 1558 0 0, f1, f2, f3, f4, (mP2.trans mp).trans mP_up, mt, .inr ⟨?_, ?_, F'⟩⟩
    · simp (disch := first | assumption | omega) only [k19, k20, g19_0, kR0, kR9, kR10, kR11, kR102, gR0_0, gR0_1, gR0_2, gR0_3, gR10_0, gR11, gR102, E_X5_parse, B_X5_parse_0, B_X5_parse_34, B_X5_parse_38, B_X5_parse_44, B_X5_parse_54, B_X5_parse_141, B_X5_parse_87, B_X5_parse_98, B_X5_parse_114, B_X5_parse_106, E_X5_takeWord, B_X5_takeWord_0, B_X5_takeWord_5, B_X5_takeWord_18, B_X5_takeWord_13, Option.bind_some, back_v, Option.toList_some, Option.toList_none, List.cons_append, List.nil_append, Nat.reduceAdd, Int.reduceToNat, Int.reduceNeg, upm_eq, upm_r, upm_i, if_pos, if_neg, ite_self, true_or, or_true, true_and, and_true, false_or, or_false, false_and, and_false, wr_id, i10, i01, upr_f, upr_eq, thr58, upm_upr, upr_upr, lc_lt, lc_gt, lc_ge, lc_le, afit1, afit0, afitI, bifit, not_true_eq_false, not_false_eq_true, if_true, if_false, Bool.false_eq_true, reduceCtorEq, k1557, k1558, g1557_2, r0, c0, hC, g0]
    · rw [wa]
      rw [B_X11_reads_24]
      simp (disch := first | assumption | omega) only [B_X11_reads_0, B_X11_reads_83, B_X11_reads_95, B_X11_reads_99, B_X11_reads_54, B_X11_reads_111, B_X11_reads_197, B_X11_reads_131, B_X11_reads_137, B_X11_reads_153, B_X11_reads_144, B_X11_reads_168, B_X11_reads_160, Option.bind_some, back_v, Option.toList_some, Option.toList_none, List.cons_append, List.nil_append, Nat.reduceAdd, Int.reduceToNat, Int.reduceNeg, upm_eq, upm_r, upm_i, if_pos, if_neg, ite_self, true_or, or_true, true_and, and_true, false_or, or_false, false_and, and_false, wr_id, i10, i01, upr_f, upr_eq, thr58, upm_upr, upr_upr, lc_lt, lc_gt, lc_ge, lc_le, afit1, afit0, afitI, bifit, not_true_eq_false, not_false_eq_true, if_true, if_false, Bool.false_eq_true, reduceCtorEq, k1557, k1558, g1557_2, hM, g2, hgo, hbk, hbad]
  | true =>
    rw [hw, bi_t] at hC hM
    have hpr := l2 (by rw [isW_st hw]; decide)
    have f0 := M_failsIf0 (L := L) (a := a) (t := t) (w := w2) (c := 1)
    obtain ⟨v3, w3, d0, _, mg, cp3, mp3, P3, l3, _, o3, s33⟩ := nextBoth (L := L) (a := a) (t := t) hR P2
    obtain ⟨v4, w4, cp4, mp4, ⟨x, x0, x1, a1, b1', y1, P4, l4, o4, s4⟩ | ⟨a1, b1', F, sF⟩⟩ := numBoth (L := L) (a := a) (t := t) (lo := 0) (hi := 99) hR P3
    · have P5 := PP_period hR P4 ⟨x0, x1⟩
      have cp5 : cP R v4 (upm v4 R 5 x) := ⟨fun q _ _ => upm_rf (by omega), fun j _ _ _ _ _ _ _ _ => upm_r (by omega)⟩
      have l5 : upm v4 R 5 x 19 5 = v4 19 5 := upm_r (by omega)
      rw [z5] at hpr
      obtain ⟨v', w', cp, mp, hh⟩ := readsBoth (L := L) (a := a) (t := t) (len := len) (x1 := 6) (y2 := y) (y3 := y2) hR 501 0 0 _ _ (a_x false) (by omega) (by decide) (by omega) P5 (by rw [upm_i (by decide), s4, s33]; exact s3)
      obtain ⟨f1, f2, f3, f4⟩ := fr v' ((((cp3).trans cp4).trans cp5).trans cp)
      refine ⟨v', w1, w', f1, f2, f3, f4, ((((mP2.trans mp3).trans mp4).trans mP_up).trans mp), mt, ?_⟩
      have hc1 : a_m 55 [a_r 19, a_i len, a_r R] (K0 L, v, G a, t) = a_X 55 69 [a_r 19, a_i len, a_r R, a_i 0, a_x false] [] (K0 L, upm v4 R 5 x, G a, t) := by
        simp (disch := first | assumption | omega) only [k19, k20, g19_0, kR0, kR9, kR10, kR11, kR102, gR0_0, gR0_1, gR0_2, gR0_3, gR10_0, gR11, gR102, E_X5_parse, B_X5_parse_0, B_X5_parse_34, B_X5_parse_38, B_X5_parse_44, B_X5_parse_54, B_X5_parse_141, B_X5_parse_87, B_X5_parse_98, B_X5_parse_114, B_X5_parse_106, E_X5_takeWord, B_X5_takeWord_0, B_X5_takeWord_5, B_X5_takeWord_18, B_X5_takeWord_13, Option.bind_some, back_v, Option.toList_some, Option.toList_none, List.cons_append, List.nil_append, Nat.reduceAdd, Int.reduceToNat, Int.reduceNeg, upm_eq, upm_r, upm_i, if_pos, if_neg, ite_self, true_or, or_true, true_and, and_true, false_or, or_false, false_and, and_false, wr_id, i10, i01, upr_f, upr_eq, thr58, upm_upr, upr_upr, lc_lt, lc_gt, lc_ge, lc_le, afit1, afit0, afitI, bifit, not_true_eq_false, not_false_eq_true, if_true, if_false, Bool.false_eq_true, reduceCtorEq, k1557, k1558, g1557_2, r0, c0, hC, d0, a1, y1]
      have hm1 : a_m 190 [a_r 1557] (K0 L, w1, G a, t) = a_X 190 112 [a_r 1557, a_i 6, y, y2] [] (K0 L, upm w4 1558 0 x, G a, t) := by
        rw [wa]
        rw [B_X11_reads_24]
        simp (disch := first | assumption | omega) only [B_X11_reads_0, B_X11_reads_83, B_X11_reads_95, B_X11_reads_99, B_X11_reads_54, B_X11_reads_111, B_X11_reads_197, B_X11_reads_131, B_X11_reads_137, B_X11_reads_153, B_X11_reads_144, B_X11_reads_168, B_X11_reads_160, Option.bind_some, back_v, Option.toList_some, Option.toList_none, List.cons_append, List.nil_append, Nat.reduceAdd, Int.reduceToNat, Int.reduceNeg, upm_eq, upm_r, upm_i, if_pos, if_neg, ite_self, true_or, or_true, true_and, and_true, false_or, or_false, false_and, and_false, wr_id, i10, i01, upr_f, upr_eq, thr58, upm_upr, upr_upr, lc_lt, lc_gt, lc_ge, lc_le, afit1, afit0, afitI, bifit, not_true_eq_false, not_false_eq_true, if_true, if_false, Bool.false_eq_true, reduceCtorEq, k1557, k1558, g1557_2, hM, f0, mg, b1']
      rw [hc1, hm1]; exact hh
    · have F' : PF v4 (upm w4 1558 0 0) := PF_up (by decide) F
      have hbad := fun x y2 y3 => M_reads_bad (L := L) (a := a) (t := t) (x := x) (y2 := y2) (y3 := y3) F'.2.2
      obtain ⟨f1, f2, f3, f4⟩ := fr v4 (cp3.trans cp4)
      refine ⟨v4, w1, upm w4 1558 0 0, f1, f2, f3, f4, ((mP2.trans mp3).trans mp4).trans mP_up, mt, .inr ⟨?_, ?_, F'⟩⟩
      · simp (disch := first | assumption | omega) only [k19, k20, g19_0, kR0, kR9, kR10, kR11, kR102, gR0_0, gR0_1, gR0_2, gR0_3, gR10_0, gR11, gR102, E_X5_parse, B_X5_parse_0, B_X5_parse_34, B_X5_parse_38, B_X5_parse_44, B_X5_parse_54, B_X5_parse_141, B_X5_parse_87, B_X5_parse_98, B_X5_parse_114, B_X5_parse_106, E_X5_takeWord, B_X5_takeWord_0, B_X5_takeWord_5, B_X5_takeWord_18, B_X5_takeWord_13, Option.bind_some, back_v, Option.toList_some, Option.toList_none, List.cons_append, List.nil_append, Nat.reduceAdd, Int.reduceToNat, Int.reduceNeg, upm_eq, upm_r, upm_i, if_pos, if_neg, ite_self, true_or, or_true, true_and, and_true, false_or, or_false, false_and, and_false, wr_id, i10, i01, upr_f, upr_eq, thr58, upm_upr, upr_upr, lc_lt, lc_gt, lc_ge, lc_le, afit1, afit0, afitI, bifit, not_true_eq_false, not_false_eq_true, if_true, if_false, Bool.false_eq_true, reduceCtorEq, k1557, k1558, g1557_2, r0, c0, hC, d0, a1]
      · rw [wa]
        rw [B_X11_reads_24]
        simp (disch := first | assumption | omega) only [B_X11_reads_0, B_X11_reads_83, B_X11_reads_95, B_X11_reads_99, B_X11_reads_54, B_X11_reads_111, B_X11_reads_197, B_X11_reads_131, B_X11_reads_137, B_X11_reads_153, B_X11_reads_144, B_X11_reads_168, B_X11_reads_160, Option.bind_some, back_v, Option.toList_some, Option.toList_none, List.cons_append, List.nil_append, Nat.reduceAdd, Int.reduceToNat, Int.reduceNeg, upm_eq, upm_r, upm_i, if_pos, if_neg, ite_self, true_or, or_true, true_and, and_true, false_or, or_false, false_and, and_false, wr_id, i10, i01, upr_f, upr_eq, thr58, upm_upr, upr_upr, lc_lt, lc_gt, lc_ge, lc_le, afit1, afit0, afitI, bifit, not_true_eq_false, not_false_eq_true, if_true, if_false, Bool.false_eq_true, reduceCtorEq, k1557, k1558, g1557_2, hM, f0, mg, b1', hbad]
end PAB
