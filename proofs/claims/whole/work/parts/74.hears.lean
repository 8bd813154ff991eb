/-! ===== a line of a listener, on both sides at once ===== -/
section HEA
variable {L R : Nat} {a : Nat → Nat → Nat} {t : Nat × Nat × Nat}
theorem vwL {v : Nat → Nat → Int} {n c : Nat} (hn : n < 6) (hc : c < 4) : vw v R (103 + c + 4 * ((n : Int)).toNat) = v (R + 103 + c + 4 * n) := by
  rw [Int.toNat_natCast, vw_at (by omega)]; congr 1; omega
theorem plis_raw {v : Nat → Nat → Int} {s : Nat → Int} {n : Nat} (hn : n < 6) : plis (vw v R) s n = (v (R + 103 + 4 * n) 0 = mLi s n 0 ∧ (0 ≤ mLi s n 0 ∧ mLi s n 0 ≤ 9) ∧ v (R + 103 + 4 * n) 1 = mLi s n 1 ∧ (0 ≤ mLi s n 1 ∧ mLi s n 1 ≤ 4) ∧ (∀ j, 5 ≤ j → j < 10 → v (R + 103 + 4 * n) j = 0) ∧ (∀ w, 10 ≤ w → w < 19 → mLi s n w = 0) ∧
  (∀ i, 0 ≤ i → i < mLi s n 1 → v (R + 104 + 4 * n) i.toNat = mLi s n (2 + 2 * i) ∧ v (R + 105 + 4 * n) i.toNat = mLi s n (2 + 2 * i + 1)) ∧ ∀ k, k < 12 → v (R + 106 + 4 * n) k = 0) := by
  simp only [plis, Int.toNat_natCast, vw_at (show 103 + 4 * n < 127 from by omega), vw_at (show 104 + 4 * n < 127 from by omega), vw_at (show 105 + 4 * n < 127 from by omega), vw_at (show 106 + 4 * n < 127 from by omega), ← Nat.add_assoc]
theorem PP_lis {v v' w w' : Nat → Nat → Int} {N c : Int} {B : Nat → Int} {n : Nat} (hn : n < 6) (hR : isRad R) (h : PP R v w N B c) (hc : (n : Int) < c) (hv : ∀ q, q ≠ R + 103 + 4 * n → q ≠ R + 104 + 4 * n → q ≠ R + 105 + 4 * n → v' q = v q) (hw : ∀ q, q ≠ 1558 → w' q = w q) (hs : ∀ j : Nat, ¬ (436 + 19 * (n : Int) ≤ j ∧ (j : Int) < 436 + 19 * (n : Int) + 19) → w' 1558 j = w 1558 j) (hp : plis (vw v' R) (w' 1558) n) : PP R v' w' N B c := by
  obtain ⟨h1, h2, h4, h5, h6, h7⟩ := h
  have hr := isRad_lt hR
  refine ⟨PT_keep h1 (fun j _ _ => by rw [hv 19 (by omega) (by omega) (by omega)]) (hv 20 (by omega) (by omega) (by omega)) (fun j _ _ => by rw [hw 1557 (by decide)]) (hw 1561 (by decide)), ?_, ?_, ?_, strOK_congr (fun q a b => hv q (by omega) (by omega) (by omega)) h6, strOK_congr (fun q a b => hw q (by omega)) h7⟩
  · refine pdR_lis h2 ⟨by omega, hc⟩ (fun q q1 q2 q3 => ?_) hs hp
    rw [Int.toNat_natCast] at q1 q2 q3
    funext i; unfold vw; split
    · rw [hv (R + q) (by omega) (by omega) (by omega)]
    · rfl
  · rw [hv 19 (by omega) (by omega) (by omega), hs 8 (by omega)]; exact h4
  · rw [hw 1557 (by decide)]; exact h5
theorem M_gapEnd_bad {w : Nat → Nat → Int} {n : Nat} {dl : Int} {y3 y4 y5 : AV} (hn : n < 6) (he : w 1557 15 ≠ 0) (h3 : w 1558 3 = n) : a_X 189 50 [a_r 1557, a_i n, a_i dl, y3, y4, y5] [] (K0 L, w, G a, t) = some (.inl none, (K0 L, upm w 1558 3 (n + 1), G a, t)) := by
  have hb := M_isWord_bad (L := L) (a := a) (t := t) (r := 9) he
  rw [B_X11_hearsLine_50]
  simp (disch := first | assumption | omega) only [B_X11_hearsLine_0, B_X11_hearsLine_23, B_X11_hearsLine_27, B_X11_hearsLine_34, B_X11_hearsLine_56, B_X11_hearsLine_65, B_X11_hearsLine_81, B_X11_hearsLine_85, B_X11_hearsLine_93, B_X11_hearsLine_104, B_X11_hearsLine_125, B_X11_hearsLine_139, B_X11_hearsLine_148, Option.bind_some, back_v, Option.toList_some, Option.toList_none, List.cons_append, List.nil_append, Nat.reduceAdd, Int.reduceToNat, Int.reduceNeg, upm_eq, upm_r, upm_i, if_pos, if_neg, ite_self, true_or, or_true, true_and, and_true, false_or, or_false, false_and, and_false, wr_id, i10, i01, upr_f, upr_eq, thr58, upm_upr, upr_upr, lc_lt, lc_gt, lc_ge, lc_le, afit1, afit0, afitI, bifit, not_true_eq_false, not_false_eq_true, if_true, if_false, Bool.false_eq_true, reduceCtorEq, k1557, k1558, g1557_2, hb, h3]
theorem PP_count {v w : Nat → Nat → Int} {N : Int} {B : Nat → Int} {n : Nat} (h : PP R v w N B (n + 1)) (h3 : w 1558 3 = n) : PP R v (upm w 1558 3 (n + 1)) N B (n + 1) := by
  obtain ⟨h1, h2, h4, h5, h6, h7⟩ := h
  refine ⟨PT_keep h1 (fun _ _ _ => rfl) rfl (fun j _ _ => upm_r (by decide)) (upm_rf (by decide)), ?_, ?_, ?_, h6, strOK_congr (fun q a b => upm_rf (by omega)) h7⟩
  · rw [upm_row, ← h3]
    exact pdR_count (by rw [h3]; exact h2) (by rw [h3])
  · rw [upm_i (by decide)]; exact h4
  · rw [upm_r (by decide)]; exact h5
theorem mP_up {w : Nat → Nat → Int} {j : Nat} {x : Int} : mP w (upm w 1558 j x) := ⟨fun q _ hq => upm_rf hq, fun i _ _ _ _ _ _ => upm_r (by decide)⟩
theorem gapEnd {v w : Nat → Nat → Int} {N m : Int} {B : Nat → Int} {n : Nat} {dl : Int} {y3 y4 y5 : AV} (hn : n < 6) (hR : isRad R) (hm : m ≤ 4) (h : PP R v w N B (n + 1)) (h3 : w 1558 3 = n) (hw : isW v B 3 = false) : ∃ v' w', cP R v v' ∧ mP w w' ∧
    ((a_X 57 80 [a_r 19, a_r R, a_r (R + 103 + 4 * n), a_i m] [] (K0 L, v, G a, t) = some (.inl (some (a_i (1))), (K0 L, v', G a, t)) ∧ a_X 189 50 [a_r 1557, a_i n, a_i dl, y3, y4, y5] [] (K0 L, w, G a, t) = some (.inl none, (K0 L, w', G a, t)) ∧ PP R v' w' N B (n + 1) ∧ w' 1558 3 = n + 1 ∧ v 19 5 ≤ v' 19 5) ∨
     (a_X 57 80 [a_r 19, a_r R, a_r (R + 103 + 4 * n), a_i m] [] (K0 L, v, G a, t) = some (.inl (some (a_i (0))), (K0 L, v', G a, t)) ∧ a_X 189 50 [a_r 1557, a_i n, a_i dl, y3, y4, y5] [] (K0 L, w, G a, t) = some (.inl none, (K0 L, w', G a, t)) ∧ PF v' w')) := by
  have hC := C_isWord (L := L) (a := a) (t := t) (i := 3) (r := 7) rfl (by decide) h.2.2.2.2.1 h.1
  have hM := M_isWord (L := L) (a := a) (t := t) (i := 3) (j := 4) (r := 9) rfl (by decide) h.2.2.2.2.2 h.1 h.2.2.2.1 rfl
  rw [hw, bi_f] at hC hM
  refine ⟨v, upm w 1558 3 (n + 1), cP.refl, mP_up, .inl ⟨?_, ?_, PP_count h h3, upm_eq, Int.le_refl _⟩⟩
  · rw [B_X5_parseListener_80]
    simp (disch := first | assumption | omega) only [k19, k20, g19_0, B_X5_parseListener_0, B_X5_parseListener_6, B_X5_parseListener_44, B_X5_parseListener_29, B_X5_parseListener_14, B_X5_parseListener_58, B_X5_parseListener_65, B_X5_parseListener_91, B_X5_parseListener_99, Option.bind_some, back_v, Option.toList_some, Option.toList_none, List.cons_append, List.nil_append, Nat.reduceAdd, Int.reduceToNat, Int.reduceNeg, upm_eq, upm_r, upm_i, if_pos, if_neg, ite_self, true_or, or_true, true_and, and_true, false_or, or_false, false_and, and_false, wr_id, i10, i01, upr_f, upr_eq, thr58, upm_upr, upr_upr, lc_lt, lc_gt, lc_ge, lc_le, afit1, afit0, afitI, bifit, not_true_eq_false, not_false_eq_true, if_true, if_false, Bool.false_eq_true, reduceCtorEq, k1557, k1558, g1557_2, hC]
  · rw [B_X11_hearsLine_50]
    simp (disch := first | assumption | omega) only [B_X11_hearsLine_0, B_X11_hearsLine_23, B_X11_hearsLine_27, B_X11_hearsLine_34, B_X11_hearsLine_56, B_X11_hearsLine_65, B_X11_hearsLine_81, B_X11_hearsLine_85, B_X11_hearsLine_93, B_X11_hearsLine_104, B_X11_hearsLine_125, B_X11_hearsLine_139, B_X11_hearsLine_148, Option.bind_some, back_v, Option.toList_some, Option.toList_none, List.cons_append, List.nil_append, Nat.reduceAdd, Int.reduceToNat, Int.reduceNeg, upm_eq, upm_r, upm_i, if_pos, if_neg, ite_self, true_or, or_true, true_and, and_true, false_or, or_false, false_and, and_false, wr_id, i10, i01, upr_f, upr_eq, thr58, upm_upr, upr_upr, lc_lt, lc_gt, lc_ge, lc_le, afit1, afit0, afitI, bifit, not_true_eq_false, not_false_eq_true, if_true, if_false, Bool.false_eq_true, reduceCtorEq, k1557, k1558, g1557_2, hM, h3]
theorem gapBoth {n : Nat} {N : Int} {B : Nat → Int} (hn : n < 6) (hR : isRad R) : ∀ (d : Nat) (m : Int) (v w : Nat → Nat → Int) (dl : Int) (y3 y4 y5 : AV), m + d = 4 → 0 ≤ m → PP R v w N B (n + 1) → w 1558 3 = n → mLi (w 1558) n 1 = m → ∃ v' w', cP R v v' ∧ mP w w' ∧
    ((a_X 57 80 [a_r 19, a_r R, a_r (R + 103 + 4 * n), a_i m] [] (K0 L, v, G a, t) = some (.inl (some (a_i (1))), (K0 L, v', G a, t)) ∧ a_X 189 50 [a_r 1557, a_i n, a_i dl, y3, y4, y5] [] (K0 L, w, G a, t) = some (.inl none, (K0 L, w', G a, t)) ∧ PP R v' w' N B (n + 1) ∧ w' 1558 3 = n + 1 ∧ v 19 5 ≤ v' 19 5) ∨
     (a_X 57 80 [a_r 19, a_r R, a_r (R + 103 + 4 * n), a_i m] [] (K0 L, v, G a, t) = some (.inl (some (a_i (0))), (K0 L, v', G a, t)) ∧ a_X 189 50 [a_r 1557, a_i n, a_i dl, y3, y4, y5] [] (K0 L, w, G a, t) = some (.inl none, (K0 L, w', G a, t)) ∧ PF v' w')) := by
  intro d
  have hr := isRad_lt hR
  induction d with
  | zero =>
    intro m v w dl y3 y4 y5 hm m0 h h3 hg
    cases hw : isW v B 3 with
    | false => exact gapEnd hn hR (by omega) h h3 hw
    | true =>
      have hC := C_isWord (L := L) (a := a) (t := t) (i := 3) (r := 7) rfl (by decide) h.2.2.2.2.1 h.1
      have hM := M_isWord (L := L) (a := a) (t := t) (i := 3) (j := 4) (r := 9) rfl (by decide) h.2.2.2.2.2 h.1 h.2.2.2.1 rfl
      rw [hw, bi_t] at hC hM
      have m4 : m = 4 := by omega
      subst m4
      have hp := h.2.1.2.2.1 n (by omega) (by omega)
      have hv1 : v (R + 103 + 4 * n) 1 = 4 := by
        have := hp.2.2.1
        rw [hg] at this
        rw [← this]
        exact congrFun (vwL (R := R) (v := v) (c := 0) hn (by decide)).symm 1
      have hl1 := M_ofListener (L := L) (u := w) (a := a) (t := t) (l := n) (w := 1) ⟨by omega, by omega⟩ (by decide)
      rw [hg] at hl1
      obtain ⟨v', w', cp, mp, F, g0, _, g2, sF⟩ := failBoth (L := L) (a := a) (t := t) (c := 3) (by decide) h
      have hb := fun lo hi => M_takes_bad (L := L) (a := a) (t := t) (lo := lo) (hi := hi) F.2.2
      have hgo := M_goesOn_bad (L := L) (a := a) (t := t) F.2.2
      have e15 := F.2.2
      have h3' : w' 1558 3 = n := by rw [sF]; exact h3
      have hend := fun dl y3 y4 y5 => M_gapEnd_bad (L := L) (a := a) (t := t) (n := n) (dl := dl) (y3 := y3) (y4 := y4) (y5 := y5) hn F.2.2 h3'
      refine ⟨v', upm w' 1558 3 (n + 1), cp, mp.trans mP_up, .inr ⟨?_, ?_, ?_⟩⟩
      · rw [B_X5_parseListener_80]
        simp (disch := first | assumption | omega) only [k19, k20, g19_0, kRl0, kRl1, kRl2, kRl3, gRl_2, gRl_3, gRl_4, B_X5_parseListener_0, B_X5_parseListener_6, B_X5_parseListener_44, B_X5_parseListener_29, B_X5_parseListener_14, B_X5_parseListener_58, B_X5_parseListener_65, B_X5_parseListener_91, B_X5_parseListener_99, B_X5_parseGap_0, B_X5_parseGap_18, B_X5_parseGap_13, B_X5_parseGap_26, B_X5_parseGap_44, B_X5_parseGap_58, Option.bind_some, back_v, Option.toList_some, Option.toList_none, List.cons_append, List.nil_append, Nat.reduceAdd, Int.reduceToNat, Int.reduceNeg, upm_eq, upm_r, upm_i, if_pos, if_neg, ite_self, true_or, or_true, true_and, and_true, false_or, or_false, false_and, and_false, wr_id, i10, i01, upr_f, upr_eq, thr58, upm_upr, upr_upr, lc_lt, lc_gt, lc_ge, lc_le, afit1, afit0, afitI, bifit, not_true_eq_false, not_false_eq_true, if_true, if_false, Bool.false_eq_true, reduceCtorEq, k1557, k1558, g1557_2, hC, E_X5_parseGap, hv1, g0]
      · rw [B_X11_hearsLine_50]
        simp (disch := first | assumption | omega) only [B_X11_hearsLine_0, B_X11_hearsLine_23, B_X11_hearsLine_27, B_X11_hearsLine_34, B_X11_hearsLine_56, B_X11_hearsLine_65, B_X11_hearsLine_81, B_X11_hearsLine_85, B_X11_hearsLine_93, B_X11_hearsLine_104, B_X11_hearsLine_125, B_X11_hearsLine_139, B_X11_hearsLine_148, Option.bind_some, back_v, Option.toList_some, Option.toList_none, List.cons_append, List.nil_append, Nat.reduceAdd, Int.reduceToNat, Int.reduceNeg, upm_eq, upm_r, upm_i, if_pos, if_neg, ite_self, true_or, or_true, true_and, and_true, false_or, or_false, false_and, and_false, wr_id, i10, i01, upr_f, upr_eq, thr58, upm_upr, upr_upr, lc_lt, lc_gt, lc_ge, lc_le, afit1, afit0, afitI, bifit, not_true_eq_false, not_false_eq_true, if_true, if_false, Bool.false_eq_true, reduceCtorEq, k1557, k1558, g1557_2, hM, hl1, g2, hgo, hb, e15, hend]
      · exact PF_up (by decide) F
  | succ d ih =>
    intro m v w dl y3 y4 y5 hm m0 h h3 hg
    cases hw : isW v B 3 with
    | false => exact gapEnd hn hR (by omega) h h3 hw
    | true =>
      have hC := C_isWord (L := L) (a := a) (t := t) (i := 3) (r := 7) rfl (by decide) h.2.2.2.2.1 h.1
      have hM := M_isWord (L := L) (a := a) (t := t) (i := 3) (j := 4) (r := 9) rfl (by decide) h.2.2.2.2.2 h.1 h.2.2.2.1 rfl
      rw [hw, bi_t] at hC hM
      have hm4 : m ≠ 4 := by omega
      have hp := h.2.1.2.2.1 n (by omega) (by omega)
      have hv1 : v (R + 103 + 4 * n) 1 = m := by
        have := hp.2.2.1
        rw [hg] at this
        rw [← this]
        exact congrFun (vwL (R := R) (v := v) (c := 0) hn (by decide)).symm 1
      have hl1 := M_ofListener (L := L) (u := w) (a := a) (t := t) (l := n) (w := 1) ⟨by omega, by omega⟩ (by decide)
      rw [hg] at hl1
      have f0 := M_failsIf0 (L := L) (a := a) (t := t) (w := w) (c := 3)
      obtain ⟨v1, w1, c0, _, mg, cp1, mp1, P1, l1, _, o1, s1⟩ := nextBoth (L := L) (a := a) (t := t) hR h
      obtain ⟨v2, w2, cp2, mp2, ⟨x, x10, x11, a1, b1, z1, P2, l2, o2, s2⟩ | ⟨a1, b1, F, sF⟩⟩ := numBoth (L := L) (a := a) (t := t) (lo := 0) (hi := 9999) hR P1
      · obtain ⟨v3, w3, cp3, mp3, ⟨y, y10, y11, a2, b2, z2, P3, l3, o3, s3⟩ | ⟨a2, b2, F, sF⟩⟩ := numBoth (L := L) (a := a) (t := t) (lo := x) (hi := 9999) hR P2
        · have hv3 : v3 (R + 103 + 4 * n) 1 = m := by rw [o3 _ (by omega), o2 _ (by omega), o1 _ (by omega)]; exact hv1
          have hpg := C_putGap (L := L) (a := a) (t := t) (u := v3) (x := x) (y := y) hR hn hv3 ⟨m0, by omega⟩
          have e15 := P3.2.2.2.1
          have q1 := fun u => M_putsListener (L := L) (u := u) (a := a) (t := t) (l := n) (w := 2 + 2 * m) (v := x) ⟨by omega, by omega⟩ ⟨by omega, by omega⟩
          have q2 := fun u => M_putsListener (L := L) (u := u) (a := a) (t := t) (l := n) (w := 2 + 2 * m + 1) (v := y) ⟨by omega, by omega⟩ ⟨by omega, by omega⟩
          have q3 := fun u => M_putsListener (L := L) (u := u) (a := a) (t := t) (l := n) (w := 1) (v := m + 1) ⟨by omega, by omega⟩ ⟨by omega, by omega⟩
          have s1558 : w3 1558 = w 1558 := by rw [s3, s2, s1]
          have P4 : PP R (upm (upm (upm v3 (R + 104 + 4 * n) m.toNat x) (R + 105 + 4 * n) m.toNat y) (R + 103 + 4 * n) 1 (m + 1)) (upm (upm (upm w3 1558 (436 + 19 * (n : Int) + (2 + 2 * m)).toNat x) 1558 (436 + 19 * (n : Int) + (2 + 2 * m + 1)).toNat y) 1558 (436 + 19 * (n : Int) + 1).toNat (m + 1)) N B (n + 1) := by
            refine PP_lis (n := n) hn hR P3 (by omega) (fun q r1 r2 r3 => by rw [upm_rf r1, upm_rf r3, upm_rf r2]) (fun q hq => by rw [upm_rf hq, upm_rf hq, upm_rf hq]) (fun j hj => by rw [upm_i (by omega), upm_i (by omega), upm_i (by omega)]) ?_
            have p := P3.2.1.2.2.1 n (by omega) (by omega)
            rw [plis_raw hn] at p ⊢
            obtain ⟨p1, p2, p3, p4, p5, p6, p7, p8⟩ := p
            have hg3 : mLi (w3 1558) n 1 = m := by rw [s1558]; exact hg
            have eL : ∀ z, 0 ≤ z → z < 19 → mLi (upm (upm (upm w3 1558 (436 + 19 * (n : Int) + (2 + 2 * m)).toNat x) 1558 (436 + 19 * (n : Int) + (2 + 2 * m + 1)).toNat y) 1558 (436 + 19 * (n : Int) + 1).toNat (m + 1) 1558) n z = if z = 1 then m + 1 else if z = 2 + 2 * m + 1 then y else if z = 2 + 2 * m then x else mLi (w3 1558) n z := by
              intro z z0 z1
              unfold mLi
              by_cases c1 : z = 1
              · rw [if_pos c1, c1, upm_eq]
              · rw [if_neg c1, upm_i (by omega)]
                by_cases c2 : z = 2 + 2 * m + 1
                · rw [if_pos c2, c2, upm_eq]
                · rw [if_neg c2, upm_i (by omega)]
                  by_cases c3 : z = 2 + 2 * m
                  · rw [if_pos c3, c3, upm_eq]
                  · rw [if_neg c3, upm_i (by omega)]
            refine ⟨?_, ?_, ?_, ?_, fun j j0 j1 => ?_, fun z z0 z1 => ?_, fun i i0 i1 => ?_, fun k hk => ?_⟩
            · rw [eL 0 (by decide) (by decide), if_neg (by decide), if_neg (by omega), if_neg (by omega), upm_i (by decide), upm_r (by omega), upm_r (by omega)]; exact p1
            · rw [eL 0 (by decide) (by decide), if_neg (by decide), if_neg (by omega), if_neg (by omega)]; exact p2
            · rw [eL 1 (by decide) (by decide), if_pos rfl, upm_eq]
            · rw [eL 1 (by decide) (by decide), if_pos rfl]; omega
            · rw [upm_i (by omega), upm_r (by omega), upm_r (by omega)]; exact p5 j j0 j1
            · rw [eL z (by omega) z1, if_neg (by omega), if_neg (by omega), if_neg (by omega)]; exact p6 z z0 z1
            · rw [eL 1 (by decide) (by decide), if_pos rfl] at i1
              refine ⟨?_, ?_⟩
              · rw [eL _ (by omega) (by omega), if_neg (by omega), if_neg (by omega), upm_r (by omega), upm_r (by omega)]
                by_cases hi : i = m
                · rw [if_pos (by omega), hi, upm_eq]
                · rw [if_neg (by omega), upm_i (by omega)]; exact (p7 i i0 (by omega)).1
              · rw [eL _ (by omega) (by omega), if_neg (by omega), upm_r (by omega)]
                by_cases hi : i = m
                · rw [if_pos (by omega), hi, upm_eq]
                · rw [if_neg (by omega), if_neg (by omega), upm_i (by omega), upm_r (by omega)]; exact (p7 i i0 (by omega)).2
            · rw [upm_r (by omega), upm_r (by omega), upm_r (by omega)]; exact p8 k hk
          have h3' : (upm (upm (upm w3 1558 (436 + 19 * (n : Int) + (2 + 2 * m)).toNat x) 1558 (436 + 19 * (n : Int) + (2 + 2 * m + 1)).toNat y) 1558 (436 + 19 * (n : Int) + 1).toNat (m + 1)) 1558 3 = n := by
            rw [upm_i (by omega), upm_i (by omega), upm_i (by omega), s1558]; exact h3
          obtain ⟨v', w', cp, mp, hh⟩ := ih (m + 1) _ _ dl (a_i m) (a_i x) (a_i y) (by omega) (by omega) P4 h3' (by rw [mLi, upm_eq])
          refine ⟨v', w', (((cp1.trans cp2).trans cp3).trans ?_).trans cp, (((mp1.trans mp2).trans mp3).trans ((mP_up.trans mP_up).trans mP_up)).trans mp, ?_⟩
          · refine ⟨fun q h19 hq => ?_, fun j _ _ _ _ _ _ _ _ => ?_⟩
            · rw [upm_rf (by omega), upm_rf (by omega), upm_rf (by omega)]
            · rw [upm_r (by omega), upm_r (by omega), upm_r (by omega)]
          · have l5 : (upm (upm (upm v3 (R + 104 + 4 * n) m.toNat x) (R + 105 + 4 * n) m.toNat y) (R + 103 + 4 * n) 1 (m + 1)) 19 5 = v3 19 5 := by rw [upm_r (by omega), upm_r (by omega), upm_r (by omega)]
            have hc1 : a_X 57 80 [a_r 19, a_r R, a_r (R + 103 + 4 * n), a_i m] [] (K0 L, v, G a, t) = a_X 57 80 [a_r 19, a_r R, a_r (R + 103 + 4 * n), a_i (m + 1)] [] (K0 L, upm (upm (upm v3 (R + 104 + 4 * n) m.toNat x) (R + 105 + 4 * n) m.toNat y) (R + 103 + 4 * n) 1 (m + 1), G a, t) := by
              rw [B_X5_parseListener_80]
              simp (disch := first | assumption | omega) only [k19, k20, g19_0, kRl0, kRl1, kRl2, kRl3, gRl_2, gRl_3, gRl_4, B_X5_parseListener_0, B_X5_parseListener_6, B_X5_parseListener_44, B_X5_parseListener_29, B_X5_parseListener_14, B_X5_parseListener_58, B_X5_parseListener_65, B_X5_parseListener_91, B_X5_parseListener_99, B_X5_parseGap_0, B_X5_parseGap_18, B_X5_parseGap_13, B_X5_parseGap_26, B_X5_parseGap_44, B_X5_parseGap_58, Option.bind_some, back_v, Option.toList_some, Option.toList_none, List.cons_append, List.nil_append, Nat.reduceAdd, Int.reduceToNat, Int.reduceNeg, upm_eq, upm_r, upm_i, if_pos, if_neg, ite_self, true_or, or_true, true_and, and_true, false_or, or_false, false_and, and_false, wr_id, i10, i01, upr_f, upr_eq, thr58, upm_upr, upr_upr, lc_lt, lc_gt, lc_ge, lc_le, afit1, afit0, afitI, bifit, not_true_eq_false, not_false_eq_true, if_true, if_false, Bool.false_eq_true, reduceCtorEq, k1557, k1558, g1557_2, hC, E_X5_parseGap, hv1, c0, a1, z1, a2, z2, hpg]
            have hm1 : a_X 189 50 [a_r 1557, a_i n, a_i dl, y3, y4, y5] [] (K0 L, w, G a, t) = a_X 189 50 [a_r 1557, a_i n, a_i dl, a_i m, a_i x, a_i y] [] (K0 L, upm (upm (upm w3 1558 (436 + 19 * (n : Int) + (2 + 2 * m)).toNat x) 1558 (436 + 19 * (n : Int) + (2 + 2 * m + 1)).toNat y) 1558 (436 + 19 * (n : Int) + 1).toNat (m + 1), G a, t) := by
              rw [B_X11_hearsLine_50]
              simp (disch := first | assumption | omega) only [B_X11_hearsLine_0, B_X11_hearsLine_23, B_X11_hearsLine_27, B_X11_hearsLine_34, B_X11_hearsLine_56, B_X11_hearsLine_65, B_X11_hearsLine_81, B_X11_hearsLine_85, B_X11_hearsLine_93, B_X11_hearsLine_104, B_X11_hearsLine_125, B_X11_hearsLine_139, B_X11_hearsLine_148, Option.bind_some, back_v, Option.toList_some, Option.toList_none, List.cons_append, List.nil_append, Nat.reduceAdd, Int.reduceToNat, Int.reduceNeg, upm_eq, upm_r, upm_i, if_pos, if_neg, ite_self, true_or, or_true, true_and, and_true, false_or, or_false, false_and, and_false, wr_id, i10, i01, upr_f, upr_eq, thr58, upm_upr, upr_upr, lc_lt, lc_gt, lc_ge, lc_le, afit1, afit0, afitI, bifit, not_true_eq_false, not_false_eq_true, if_true, if_false, Bool.false_eq_true, reduceCtorEq, k1557, k1558, g1557_2, hM, hl1, f0, mg, b1, b2, e15, q1, q2, q3]
            rw [hc1, hm1]
            rcases hh with ⟨g1, g2, g3, g4, g5⟩ | hh
            · exact .inl ⟨g1, g2, g3, g4, by rw [l5] at g5; omega⟩
            · exact .inr hh
        · have e15 := F.2.2
          have h3' : w3 1558 3 = n := by rw [sF, s2, s1]; exact h3
          have hend := fun dl y3 y4 y5 => M_gapEnd_bad (L := L) (a := a) (t := t) (n := n) (dl := dl) (y3 := y3) (y4 := y4) (y5 := y5) hn F.2.2 h3'
          refine ⟨v3, upm w3 1558 3 (n + 1), (cp1.trans cp2).trans cp3, ((mp1.trans mp2).trans mp3).trans mP_up, .inr ⟨?_, ?_, ?_⟩⟩
          · rw [B_X5_parseListener_80]
            simp (disch := first | assumption | omega) only [k19, k20, g19_0, kRl0, kRl1, kRl2, kRl3, gRl_2, gRl_3, gRl_4, B_X5_parseListener_0, B_X5_parseListener_6, B_X5_parseListener_44, B_X5_parseListener_29, B_X5_parseListener_14, B_X5_parseListener_58, B_X5_parseListener_65, B_X5_parseListener_91, B_X5_parseListener_99, B_X5_parseGap_0, B_X5_parseGap_18, B_X5_parseGap_13, B_X5_parseGap_26, B_X5_parseGap_44, B_X5_parseGap_58, Option.bind_some, back_v, Option.toList_some, Option.toList_none, List.cons_append, List.nil_append, Nat.reduceAdd, Int.reduceToNat, Int.reduceNeg, upm_eq, upm_r, upm_i, if_pos, if_neg, ite_self, true_or, or_true, true_and, and_true, false_or, or_false, false_and, and_false, wr_id, i10, i01, upr_f, upr_eq, thr58, upm_upr, upr_upr, lc_lt, lc_gt, lc_ge, lc_le, afit1, afit0, afitI, bifit, not_true_eq_false, not_false_eq_true, if_true, if_false, Bool.false_eq_true, reduceCtorEq, k1557, k1558, g1557_2, hC, E_X5_parseGap, hv1, c0, a1, z1, a2]
          · rw [B_X11_hearsLine_50]
            simp (disch := first | assumption | omega) only [B_X11_hearsLine_0, B_X11_hearsLine_23, B_X11_hearsLine_27, B_X11_hearsLine_34, B_X11_hearsLine_56, B_X11_hearsLine_65, B_X11_hearsLine_81, B_X11_hearsLine_85, B_X11_hearsLine_93, B_X11_hearsLine_104, B_X11_hearsLine_125, B_X11_hearsLine_139, B_X11_hearsLine_148, Option.bind_some, back_v, Option.toList_some, Option.toList_none, List.cons_append, List.nil_append, Nat.reduceAdd, Int.reduceToNat, Int.reduceNeg, upm_eq, upm_r, upm_i, if_pos, if_neg, ite_self, true_or, or_true, true_and, and_true, false_or, or_false, false_and, and_false, wr_id, i10, i01, upr_f, upr_eq, thr58, upm_upr, upr_upr, lc_lt, lc_gt, lc_ge, lc_le, afit1, afit0, afitI, bifit, not_true_eq_false, not_false_eq_true, if_true, if_false, Bool.false_eq_true, reduceCtorEq, k1557, k1558, g1557_2, hM, hl1, f0, mg, b1, b2, e15, hend]
          · exact PF_up (by decide) F
      · have e15 := F.2.2
        have hb := fun lo hi => M_takes_bad (L := L) (a := a) (t := t) (lo := lo) (hi := hi) F.2.2
        have h3' : w2 1558 3 = n := by rw [sF, s1]; exact h3
        have hend := fun dl y3 y4 y5 => M_gapEnd_bad (L := L) (a := a) (t := t) (n := n) (dl := dl) (y3 := y3) (y4 := y4) (y5 := y5) hn F.2.2 h3'
        refine ⟨v2, upm w2 1558 3 (n + 1), cp1.trans cp2, (mp1.trans mp2).trans mP_up, .inr ⟨?_, ?_, ?_⟩⟩
        · rw [B_X5_parseListener_80]
          simp (disch := first | assumption | omega) only [k19, k20, g19_0, kRl0, kRl1, kRl2, kRl3, gRl_2, gRl_3, gRl_4, B_X5_parseListener_0, B_X5_parseListener_6, B_X5_parseListener_44, B_X5_parseListener_29, B_X5_parseListener_14, B_X5_parseListener_58, B_X5_parseListener_65, B_X5_parseListener_91, B_X5_parseListener_99, B_X5_parseGap_0, B_X5_parseGap_18, B_X5_parseGap_13, B_X5_parseGap_26, B_X5_parseGap_44, B_X5_parseGap_58, Option.bind_some, back_v, Option.toList_some, Option.toList_none, List.cons_append, List.nil_append, Nat.reduceAdd, Int.reduceToNat, Int.reduceNeg, upm_eq, upm_r, upm_i, if_pos, if_neg, ite_self, true_or, or_true, true_and, and_true, false_or, or_false, false_and, and_false, wr_id, i10, i01, upr_f, upr_eq, thr58, upm_upr, upr_upr, lc_lt, lc_gt, lc_ge, lc_le, afit1, afit0, afitI, bifit, not_true_eq_false, not_false_eq_true, if_true, if_false, Bool.false_eq_true, reduceCtorEq, k1557, k1558, g1557_2, hC, E_X5_parseGap, hv1, c0, a1]
        · rw [B_X11_hearsLine_50]
          simp (disch := first | assumption | omega) only [B_X11_hearsLine_0, B_X11_hearsLine_23, B_X11_hearsLine_27, B_X11_hearsLine_34, B_X11_hearsLine_56, B_X11_hearsLine_65, B_X11_hearsLine_81, B_X11_hearsLine_85, B_X11_hearsLine_93, B_X11_hearsLine_104, B_X11_hearsLine_125, B_X11_hearsLine_139, B_X11_hearsLine_148, Option.bind_some, back_v, Option.toList_some, Option.toList_none, List.cons_append, List.nil_append, Nat.reduceAdd, Int.reduceToNat, Int.reduceNeg, upm_eq, upm_r, upm_i, if_pos, if_neg, ite_self, true_or, or_true, true_and, and_true, false_or, or_false, false_and, and_false, wr_id, i10, i01, upr_f, upr_eq, thr58, upm_upr, upr_upr, lc_lt, lc_gt, lc_ge, lc_le, afit1, afit0, afitI, bifit, not_true_eq_false, not_false_eq_true, if_true, if_false, Bool.false_eq_true, reduceCtorEq, k1557, k1558, g1557_2, hM, hl1, f0, mg, b1, hb, e15, hend]
        · exact PF_up (by decide) F
theorem hearsBoth {v w : Nat → Nat → Int} {N : Int} {B : Nat → Int} {n : Nat} (hR : isRad R) (h : PP R v w N B n) (h3 : w 1558 3 = n) (hw : isW v B 2 = true) : ∃ v' w', cP R v v' ∧ mP w w' ∧
    ((a_m 57 [a_r 19, a_r R] (K0 L, v, G a, t) = some (.inl (some (a_i (1))), (K0 L, v', G a, t)) ∧ a_m 189 [a_r 1557] (K0 L, w, G a, t) = some (.inl none, (K0 L, w', G a, t)) ∧ PP R v' w' N B (n + 1) ∧ w' 1558 3 = n + 1 ∧ v 19 5 ≤ v' 19 5) ∨
     (a_m 57 [a_r 19, a_r R] (K0 L, v, G a, t) = some (.inl (some (a_i (0))), (K0 L, v', G a, t)) ∧ a_m 189 [a_r 1557] (K0 L, w, G a, t) = some (.inl none, (K0 L, w', G a, t)) ∧ PF v' w')) := by
  have hr := isRad_lt hR
  have hC := C_isWord (L := L) (a := a) (t := t) (i := 2) (r := 5) rfl (by decide) h.2.2.2.2.1 h.1
  rw [hw, bi_t] at hC
  have hH := h.2.1.1
  have hR4 : v R 4 = n := by
    have := hH.1
    rwa [vw_at (by decide), Nat.add_zero] at this
  have hn6 := hH.2.2.2.2.2.2.2.2.1
  by_cases hn : n < 6
  · obtain ⟨v1, g0, g1, g2, g3, g4, g5⟩ := C_resetLis (L := L) (a := a) (t := t) (u := v) hR hn
    have f0 := M_failsIf0 (L := L) (a := a) (t := t) (w := w) (c := 3)
    have n6 : (n : Int) ≠ 6 := by omega
    have n6' : (n : Int) < 6 := by omega
    have hR41 : v1 R 4 = n := by rw [g1 R (by omega) (by omega)]; exact hR4
    have P0 : PP R (upm v1 R 4 (n + 1)) w N B (n + 1) := by
      have o : ∀ q, q ≠ R → q ≠ R + 103 + 4 * n → q ≠ R + 106 + 4 * n → upm v1 R 4 (n + 1) q = v q := fun q r1 r2 r3 => by rw [upm_rf r1, g1 q r2 r3]
      obtain ⟨h1, h2, h4, h5, h6, h7⟩ := h
      refine ⟨PT_keep h1 (fun j _ _ => by rw [o 19 (by omega) (by omega) (by omega)]) (o 20 (by omega) (by omega) (by omega)) (fun j _ _ => rfl) rfl, ?_, ?_, h5, strOK_congr (fun q a b => o q (by omega) (by omega) (by omega)) h6, h7⟩
      · refine pdR_next h2 ⟨by omega, by omega⟩ (fun q r1 r2 r3 => ?_) ?_ (fun j hj => ?_) ⟨?_, ?_, fun j j0 j1 => ?_⟩ (fun k hk => ?_)
        · rw [Int.toNat_natCast] at r2 r3
          funext i; unfold vw; split
          · rw [o (R + q) (by omega) (by omega) (by omega)]
          · rfl
        · rw [vw_at (by decide), Nat.add_zero, upm_eq]
        · rw [vw_at (by decide), vw_at (by decide), Nat.add_zero, upm_i hj, g1 R (by omega) (by omega)]
        · have := congrFun (vwL (R := R) (v := upm v1 R 4 (n + 1)) (c := 0) hn (by decide)) 0
          rw [show 103 + 0 = 103 from rfl] at this
          rw [this, upm_r (by omega)]; exact g2
        · have := congrFun (vwL (R := R) (v := upm v1 R 4 (n + 1)) (c := 0) hn (by decide)) 1
          rw [show 103 + 0 = 103 from rfl] at this
          rw [this, upm_r (by omega)]; exact g3
        · have := congrFun (vwL (R := R) (v := upm v1 R 4 (n + 1)) (c := 0) hn (by decide)) j
          rw [show 103 + 0 = 103 from rfl] at this
          rw [this, upm_r (by omega)]; exact g4 j j0 j1
        · have := congrFun (vwL (R := R) (v := upm v1 R 4 (n + 1)) (c := 3) hn (by decide)) k
          rw [show 103 + 3 = 106 from rfl] at this
          rw [this, upm_r (by omega)]; exact g5 k hk
      · rw [o 19 (by omega) (by omega) (by omega)]; exact h4
    have cp0 : cP R v (upm v1 R 4 (n + 1)) := ⟨fun q _ hq => by rw [upm_rf (by omega), g1 q (by omega) (by omega)], fun j _ _ _ _ _ _ _ _ => by rw [upm_r (by omega), g1 19 (by omega) (by omega)]⟩
    have l0 : upm v1 R 4 (n + 1) 19 5 = v 19 5 := by rw [upm_r (by omega), g1 19 (by omega) (by omega)]
    obtain ⟨v2, w2, c0, _, mg, cp1, mp1, P1, l1, _, o1, s1⟩ := nextBoth (L := L) (a := a) (t := t) hR P0
    obtain ⟨v3, w3, cp2, mp2, ⟨x, x10, x11, a1, b1, z1, P2, l2, o2, s2⟩ | ⟨a1, b1, F, sF⟩⟩ := numBoth (L := L) (a := a) (t := t) (lo := 0) (hi := 9) hR P1
    · have e15 := P2.2.2.2.1
      have q1 := M_putsListener (L := L) (u := w3) (a := a) (t := t) (l := n) (w := 0) (v := x) ⟨by omega, by omega⟩ ⟨by omega, by omega⟩
      have s1558 : w3 1558 = w 1558 := by rw [s2, s1]
      have eL : ∀ z, 0 ≤ z → z < 19 → mLi (upm w3 1558 (436 + 19 * (n : Int) + 0).toNat x 1558) n z = if z = 0 then x else mLi (w3 1558) n z := by
        intro z z0 z1
        unfold mLi
        by_cases c1 : z = 0
        · rw [if_pos c1, c1, upm_eq]
        · rw [if_neg c1, upm_i (by omega)]
      have P3 : PP R (upm v3 (R + 103 + 4 * n) 0 x) (upm w3 1558 (436 + 19 * (n : Int) + 0).toNat x) N B (n + 1) := by
        refine PP_lis (n := n) hn hR P2 (by omega) (fun q r1 r2 r3 => by rw [upm_rf r1]) (fun q hq => by rw [upm_rf hq]) (fun j hj => by rw [upm_i (by omega)]) ?_
        have p := P2.2.1.2.2.1 n (by omega) (by omega)
        rw [plis_raw hn] at p ⊢
        obtain ⟨p1, p2, p3, p4, p5, p6, p7, p8⟩ := p
        refine ⟨?_, ?_, ?_, ?_, fun j j0 j1 => ?_, fun z z0 z1 => ?_, fun i i0 i1 => ?_, fun k hk => ?_⟩
        · rw [eL 0 (by decide) (by decide), if_pos rfl, upm_eq]
        · rw [eL 0 (by decide) (by decide), if_pos rfl]; omega
        · rw [eL 1 (by decide) (by decide), if_neg (by decide), upm_i (by decide)]; exact p3
        · rw [eL 1 (by decide) (by decide), if_neg (by decide)]; exact p4
        · rw [upm_i (by omega)]; exact p5 j j0 j1
        · rw [eL z (by omega) z1, if_neg (by omega)]; exact p6 z z0 z1
        · rw [eL 1 (by decide) (by decide), if_neg (by decide)] at i1
          rw [eL _ (by omega) (by omega), eL _ (by omega) (by omega), if_neg (by omega), if_neg (by omega), upm_r (by omega), upm_r (by omega)]
          exact p7 i i0 i1
        · rw [upm_r (by omega)]; exact p8 k hk
      have hm0 : mLi (upm w3 1558 (436 + 19 * (n : Int) + 0).toNat x 1558) n 1 = 0 := by
        rw [eL 1 (by decide) (by decide), if_neg (by decide), s1558]
        exact h.2.1.2.2.2 n 1 (Int.le_refl _) (by omega) (by decide) (by decide)
      have h3' : (upm w3 1558 (436 + 19 * (n : Int) + 0).toNat x) 1558 3 = n := by rw [upm_i (by omega), s1558]; exact h3
      obtain ⟨v', w', cp, mp, hh⟩ := gapBoth (L := L) (a := a) (t := t) hn hR 4 0 _ _ x (a_x false) (a_x false) (a_x false) (by decide) (by decide) P3 h3' hm0
      refine ⟨v', w', (((cp0.trans cp1).trans cp2).trans ?_).trans cp, ((mp1.trans mp2).trans mP_up).trans mp, ?_⟩
      · exact ⟨fun q _ hq => upm_rf (by omega), fun j _ _ _ _ _ _ _ _ => upm_r (by omega)⟩
      · have l5 : (upm v3 (R + 103 + 4 * n) 0 x) 19 5 = v3 19 5 := upm_r (by omega)
        have hc1 : a_m 57 [a_r 19, a_r R] (K0 L, v, G a, t) = a_X 57 80 [a_r 19, a_r R, a_r (R + 103 + 4 * n), a_i 0] [] (K0 L, upm v3 (R + 103 + 4 * n) 0 x, G a, t) := by
          simp (disch := first | assumption | omega) only [k19, k20, g19_0, kR0, kR9, kR10, kR11, kR102, gR0_0, gR0_1, gR0_2, gR0_3, gR10_0, gR11, gR102, kRl0, kRl1, kRl2, kRl3, gRl_2, gRl_3, gRl_4, E_X5_parseListener, B_X5_parseListener_0, B_X5_parseListener_6, B_X5_parseListener_44, B_X5_parseListener_29, B_X5_parseListener_14, B_X5_parseListener_58, B_X5_parseListener_65, B_X5_parseListener_91, B_X5_parseListener_99, Option.bind_some, back_v, Option.toList_some, Option.toList_none, List.cons_append, List.nil_append, Nat.reduceAdd, Int.reduceToNat, Int.reduceNeg, upm_eq, upm_r, upm_i, if_pos, if_neg, ite_self, true_or, or_true, true_and, and_true, false_or, or_false, false_and, and_false, wr_id, i10, i01, upr_f, upr_eq, thr58, upm_upr, upr_upr, lc_lt, lc_gt, lc_ge, lc_le, afit1, afit0, afitI, bifit, not_true_eq_false, not_false_eq_true, if_true, if_false, Bool.false_eq_true, reduceCtorEq, k1557, k1558, g1557_2, hC, hR4, hR41, Int.toNat_natCast, g0, c0, a1, z1]
        have hm1 : a_m 189 [a_r 1557] (K0 L, w, G a, t) = a_X 189 50 [a_r 1557, a_i n, a_i x, a_x false, a_x false, a_x false] [] (K0 L, upm w3 1558 (436 + 19 * (n : Int) + 0).toNat x, G a, t) := by
          simp (disch := first | assumption | omega) only [E_X11_hearsLine, B_X11_hearsLine_0, B_X11_hearsLine_23, B_X11_hearsLine_27, B_X11_hearsLine_34, B_X11_hearsLine_56, B_X11_hearsLine_65, B_X11_hearsLine_81, B_X11_hearsLine_85, B_X11_hearsLine_93, B_X11_hearsLine_104, B_X11_hearsLine_125, B_X11_hearsLine_139, B_X11_hearsLine_148, Option.bind_some, back_v, Option.toList_some, Option.toList_none, List.cons_append, List.nil_append, Nat.reduceAdd, Int.reduceToNat, Int.reduceNeg, upm_eq, upm_r, upm_i, if_pos, if_neg, ite_self, true_or, or_true, true_and, and_true, false_or, or_false, false_and, and_false, wr_id, i10, i01, upr_f, upr_eq, thr58, upm_upr, upr_upr, lc_lt, lc_gt, lc_ge, lc_le, afit1, afit0, afitI, bifit, not_true_eq_false, not_false_eq_true, if_true, if_false, Bool.false_eq_true, reduceCtorEq, k1557, k1558, g1557_2, h3, f0, mg, b1, e15, q1]
        rw [hc1, hm1]
        rcases hh with ⟨y1, y2, y3, y4, y5⟩ | hh
        · exact .inl ⟨y1, y2, y3, y4, by rw [l5] at y5; omega⟩
        · exact .inr hh
    · have e15 := F.2.2
      refine ⟨v3, w3, (cp0.trans cp1).trans cp2, mp1.trans mp2, .inr ⟨?_, ?_, F⟩⟩
      · simp (disch := first | assumption | omega) only [k19, k20, g19_0, kR0, kR9, kR10, kR11, kR102, gR0_0, gR0_1, gR0_2, gR0_3, gR10_0, gR11, gR102, kRl0, kRl1, kRl2, kRl3, gRl_2, gRl_3, gRl_4, E_X5_parseListener, B_X5_parseListener_0, B_X5_parseListener_6, B_X5_parseListener_44, B_X5_parseListener_29, B_X5_parseListener_14, B_X5_parseListener_58, B_X5_parseListener_65, B_X5_parseListener_91, B_X5_parseListener_99, Option.bind_some, back_v, Option.toList_some, Option.toList_none, List.cons_append, List.nil_append, Nat.reduceAdd, Int.reduceToNat, Int.reduceNeg, upm_eq, upm_r, upm_i, if_pos, if_neg, ite_self, true_or, or_true, true_and, and_true, false_or, or_false, false_and, and_false, wr_id, i10, i01, upr_f, upr_eq, thr58, upm_upr, upr_upr, lc_lt, lc_gt, lc_ge, lc_le, afit1, afit0, afitI, bifit, not_true_eq_false, not_false_eq_true, if_true, if_false, Bool.false_eq_true, reduceCtorEq, k1557, k1558, g1557_2, hC, hR4, hR41, Int.toNat_natCast, g0, c0, a1]
      · simp (disch := first | assumption | omega) only [E_X11_hearsLine, B_X11_hearsLine_0, B_X11_hearsLine_23, B_X11_hearsLine_27, B_X11_hearsLine_34, B_X11_hearsLine_56, B_X11_hearsLine_65, B_X11_hearsLine_81, B_X11_hearsLine_85, B_X11_hearsLine_93, B_X11_hearsLine_104, B_X11_hearsLine_125, B_X11_hearsLine_139, B_X11_hearsLine_148, Option.bind_some, back_v, Option.toList_some, Option.toList_none, List.cons_append, List.nil_append, Nat.reduceAdd, Int.reduceToNat, Int.reduceNeg, upm_eq, upm_r, upm_i, if_pos, if_neg, ite_self, true_or, or_true, true_and, and_true, false_or, or_false, false_and, and_false, wr_id, i10, i01, upr_f, upr_eq, thr58, upm_upr, upr_upr, lc_lt, lc_gt, lc_ge, lc_le, afit1, afit0, afitI, bifit, not_true_eq_false, not_false_eq_true, if_true, if_false, Bool.false_eq_true, reduceCtorEq, k1557, k1558, g1557_2, h3, f0, mg, b1, e15]
  · have n6 : (n : Int) = 6 := by omega
    obtain ⟨v', w', cp, mp, F, g0, _, g2, sF⟩ := failBoth (L := L) (a := a) (t := t) (c := 3) (by decide) h
    have hb := fun lo hi => M_takes_bad (L := L) (a := a) (t := t) (lo := lo) (hi := hi) F.2.2
    have hgo := M_goesOn_bad (L := L) (a := a) (t := t) F.2.2
    have e15 := F.2.2
    rw [n6] at h3 hR4
    refine ⟨v', w', cp, mp, .inr ⟨?_, ?_, F⟩⟩
    · simp (disch := first | assumption | omega) only [k19, k20, g19_0, kR0, kR9, kR10, kR11, kR102, gR0_0, gR0_1, gR0_2, gR0_3, gR10_0, gR11, gR102, kRl0, kRl1, kRl2, kRl3, gRl_2, gRl_3, gRl_4, E_X5_parseListener, B_X5_parseListener_0, B_X5_parseListener_6, B_X5_parseListener_44, B_X5_parseListener_29, B_X5_parseListener_14, B_X5_parseListener_58, B_X5_parseListener_65, B_X5_parseListener_91, B_X5_parseListener_99, Option.bind_some, back_v, Option.toList_some, Option.toList_none, List.cons_append, List.nil_append, Nat.reduceAdd, Int.reduceToNat, Int.reduceNeg, upm_eq, upm_r, upm_i, if_pos, if_neg, ite_self, true_or, or_true, true_and, and_true, false_or, or_false, false_and, and_false, wr_id, i10, i01, upr_f, upr_eq, thr58, upm_upr, upr_upr, lc_lt, lc_gt, lc_ge, lc_le, afit1, afit0, afitI, bifit, not_true_eq_false, not_false_eq_true, if_true, if_false, Bool.false_eq_true, reduceCtorEq, k1557, k1558, g1557_2, hC, hR4, g0]
    · simp (disch := first | assumption | omega) only [E_X11_hearsLine, B_X11_hearsLine_0, B_X11_hearsLine_23, B_X11_hearsLine_27, B_X11_hearsLine_34, B_X11_hearsLine_56, B_X11_hearsLine_65, B_X11_hearsLine_81, B_X11_hearsLine_85, B_X11_hearsLine_93, B_X11_hearsLine_104, B_X11_hearsLine_125, B_X11_hearsLine_139, B_X11_hearsLine_148, Option.bind_some, back_v, Option.toList_some, Option.toList_none, List.cons_append, List.nil_append, Nat.reduceAdd, Int.reduceToNat, Int.reduceNeg, upm_eq, upm_r, upm_i, if_pos, if_neg, ite_self, true_or, or_true, true_and, and_true, false_or, or_false, false_and, and_false, wr_id, i10, i01, upr_f, upr_eq, thr58, upm_upr, upr_upr, lc_lt, lc_gt, lc_ge, lc_le, afit1, afit0, afitI, bifit, not_true_eq_false, not_false_eq_true, if_true, if_false, Bool.false_eq_true, reduceCtorEq, k1557, k1558, g1557_2, h3, g2, hgo, hb, e15]
end HEA
