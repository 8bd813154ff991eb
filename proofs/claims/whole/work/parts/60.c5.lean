/-! ===== the class: a tick ===== -/
section C5
variable {L : Nat} {u : Nat → Nat → Int} {a : Nat → Nat → Nat} {t : Nat × Nat × Nat} {R : Nat}
/-- something goes on the air: what the machine did, and the relation -/
theorem air_rel {u u' : Nat → Nat → Int} {a a' : Nat → Nat → Nat} {C : List (Nat → Int)} {s : Nat → Int} {c w n len : Int} {q : Nat} {u1 : Nat → Nat → Int} (h : RelC (vw u R) (a R) C s) (hM : MI c s) (h4 : s 4 < 30) (h7 : s 7 < 1000000) (hw : w = 0 ∨ w = 1) (hn : 0 ≤ n ∧ n ≤ s 2) (hw0 : w = 0 → 1 ≤ n) (hlen : 1 ≤ len ∧ len ≤ 20) (hq : q ≤ (s 4).toNat) (ha : a' R = shA (a R) q (s 4).toNat (a R (s 4).toNat))
    (hu1 : u1 = upm (upm u (R + 12 + 3 * a R (s 4).toNat) 0 n) (R + 12 + 3 * a R (s 4).toNat) 1 (if w = 1 then -1 else vw u R 6 n.toNat))
    (hq1 : ∀ j, q ≤ j → j < (s 4).toNat → ahB u1 (R + 12 + 3 * a R (s 4).toNat) (R + 12 + 3 * a R j) = true) (hq2 : ∀ j, j + 1 = q → ahB u1 (R + 12 + 3 * a R (s 4).toNat) (R + 12 + 3 * a R j) = false)
    (hv : ∀ x, x < 127 → x ≠ 0 → x ≠ 10 → x ≠ 12 + 3 * a R (s 4).toNat → x ≠ 12 + 3 * a R (s 4).toNat + 1 → x ≠ 12 + 3 * a R (s 4).toNat + 2 → u' (R + x) = u (R + x))
    (hv0 : ∀ j, 4 ≤ j → j < 9 → j ≠ 7 → u' R j = u R j) (hv7 : u' R 7 = wr (s 5 + w)) (hv10 : u' (R + 10) 1 = s 4 + 1)
    (e0 : u' (R + 12 + 3 * a R (s 4).toNat) 0 = n) (e1 : u' (R + 12 + 3 * a R (s 4).toNat) 1 = if w = 1 then -1 else vw u R 6 n.toNat) (e2 : u' (R + 12 + 3 * a R (s 4).toNat) 2 = s 1) (e3 : u' (R + 12 + 3 * a R (s 4).toNat) 3 = len)
    (e4 : u' (R + 12 + 3 * a R (s 4).toNat) 4 = minW (s 3).toNat 0 (s 1 + 29) (fun l => s 1 + len + mLi s l 0)) (e5 : u' (R + 12 + 3 * a R (s 4).toNat) 5 = maxW (s 3).toNat 0 (s 1) (fun l => s 1 + len + mLi s l 0))
    (e6 : ∀ l, 0 ≤ l → l < s 3 → u' (R + 13 + 3 * a R (s 4).toNat) l.toNat = s 1 + len + mLi s l 0) (e7 : w = 1 → ∀ k, k < 12 → u' (R + 14 + 3 * a R (s 4).toNat) k = u (R + 9) k) : ∃ C', RelC (vw u' R) (a' R) C' (mAirs s w n len) := by
  have hA0 := hM.2.2.2.2.2.1.1
  have hClen := airR_len h.2.2.2.2.2.2
  have hb30 := h.2.2.2.2.2.2.1
  have hinj := h.2.2.2.2.2.2.2.1
  have hN : (s 4).toNat < 30 := by omega
  have hp := hb30 _ hN
  have hne : ∀ j, j < (s 4).toNat → a R j ≠ a R (s 4).toNat := fun j hj h9 => by have := hinj j (s 4).toNat (by omega) hN h9; omega
  have hah : ∀ j, j < (s 4).toNat → ahB u1 (R + 12 + 3 * a R (s 4).toNat) (R + 12 + 3 * a R j) = true → (n < vw u R (12 + 3 * a R j) 0 ∨ (n = vw u R (12 + 3 * a R j) 0 ∧ w ≠ 1 ∧ vw u R (12 + 3 * a R j) 1 = -1)) := by
    intro j hj hh
    have hjp := hb30 j (by omega)
    have hnj := hne j hj
    unfold ahB at hh
    rw [hu1] at hh
    rw [upm_i (by decide), upm_eq, upm_r (by omega), upm_r (by omega), upm_eq, upm_r (by omega), upm_r (by omega), vw_s0 u hjp] at hh
    simp only [Bool.or_eq_true, Bool.and_eq_true, decide_eq_true_eq, Bool.not_eq_true', decide_eq_false_iff_not] at hh
    rcases hh with hh | ⟨h1, h2, h3⟩
    · exact .inl hh
    · refine .inr ⟨h1, fun h9 => h2 (by rw [if_pos h9]), h3⟩
  have hah2 : ∀ j, j < (s 4).toNat → ahB u1 (R + 12 + 3 * a R (s 4).toNat) (R + 12 + 3 * a R j) = false → ¬ (n < vw u R (12 + 3 * a R j) 0 ∨ (n = vw u R (12 + 3 * a R j) 0 ∧ w ≠ 1 ∧ vw u R (12 + 3 * a R j) 1 = -1)) := by
    intro j hj hh h9
    have hjp := hb30 j (by omega)
    have hnj := hne j hj
    have : ahB u1 (R + 12 + 3 * a R (s 4).toNat) (R + 12 + 3 * a R j) = true := by
      unfold ahB
      rw [hu1, upm_i (by decide), upm_eq, upm_r (by omega), upm_r (by omega), upm_eq, upm_r (by omega), upm_r (by omega), vw_s0 u hjp]
      simp only [Bool.or_eq_true, Bool.and_eq_true, decide_eq_true_eq, Bool.not_eq_true', decide_eq_false_iff_not]
      rcases h9 with h9 | ⟨h1, h2, h3⟩
      · exact .inl h9
      · refine .inr ⟨h1, ?_, h3⟩
        rw [if_neg h2]
        have hw00 : w = 0 := by omega
        have := (h.2.2.1 n (hw0 hw00) hn.2).1
        omega
    rw [this] at hh; cases hh
  rw [ha]
  refine ⟨_, rel_airs (q := q) h hM h4 h7 hw hn hw0 hlen (by omega) (fun j hj hqj => hah j (by omega) (hq1 j hqj (by omega))) (fun j hj hjq => hah2 j (by omega) (hq2 j hjq)) (fun x h0 h10 h11 h12 h13 => ?_) (fun j j4 j9 j7 => ?_) ?_ ?_ ?_ ?_ ?_ ?_ ?_ ?_ (fun l l0 l1 => ?_) (fun hw1 k hk => ?_)⟩
  · by_cases hx : x < 127
    · rw [vw_at hx, vw_at hx]; exact hv x hx h0 h10 h11 h12 h13
    · funext j; simp [vw, hx]
  · rw [vw_at (by decide), vw_at (by decide)]; exact hv0 j j4 j9 j7
  · rw [vw_at (by decide)]; exact hv7
  · rw [vw_at (by decide)]; exact hv10
  · rw [← vw_s0 u' hp]; exact e0
  · rw [← vw_s0 u' hp]; exact e1
  · rw [← vw_s0 u' hp]; exact e2
  · rw [← vw_s0 u' hp]; exact e3
  · rw [← vw_s0 u' hp]; exact e4
  · rw [← vw_s0 u' hp]; exact e5
  · rw [← vw_s1 u' hp]; exact e6 l l0 l1
  · rw [← vw_s2 u' hp, vw_at (c := 9) (by decide)]; exact e7 hw1 k hk
theorem rel_facts {s : Nat → Int} {C : List (Nat → Int)} (h : RelC (vw u R) (a R) C s) : u R 4 = s 3 ∧ u R 5 = s 0 ∧ u R 6 = s 1 ∧ u R 7 = s 5 ∧ u R 8 = s 6 ∧ u (R + 1) 7 = s 2 ∧ u (R + 10) 1 = s 4 ∧ (∀ l, 0 ≤ l → l < s 3 → l ≤ 5 → u (R + 103 + 4 * l.toNat) 0 = mLi s l 0) := by
  obtain ⟨a1, a2, a3, a4, a5, a6, a7⟩ := h.1
  rw [vw_at (by decide)] at a1 a2 a3 a4 a5 a6 a7
  refine ⟨a1, a2, a3, a4, a5, a6, a7, fun l l0 l1 l5 => ?_⟩
  rw [vw_l0 u (by omega)]
  exact (h.2.2.2.2.2.1 l l0 l1).1
theorem C_sendWhole {C : List (Nat → Int)} {s : Nat → Int} {c len : Int} (hR : isRad R) (h : RelC (vw u R) (a R) C s) (hM : MI c s) (h4 : s 4 < 30) (h7 : s 7 < 1000000) (h1 : s 1 ≤ 20000) (hlen : 1 ≤ len ∧ len ≤ 20) :
    ∃ u' a' C', a_m 34 [a_r R, a_i len] (K0 L, u, G a, t) = some (.inl none, (K0 L, u', G a', t)) ∧ RelC (vw u' R) (a' R) C' (mAirs s 1 (s 2) len) ∧ outR R u u' ∧ (∀ Q, Q ≠ R → a' Q = a Q) := by
  have hA0 := hM.2.2.2.2.2.1.1
  have hM3 := hM.2.2.2.1
  have hM2 := hM.2.2.1
  have hM1 := hM.2.1
  have hL := hM.2.2.2.2.2.2.2
  have hb30 := h.2.2.2.2.2.2.1
  have hN : (s 4).toNat < 30 := by omega
  have hp := hb30 _ hN
  obtain ⟨f4, f5, f6, f7, f8, f17, f10, fl⟩ := rel_facts h
  obtain ⟨q, a', i0, i1, i2, i3, i4, i5⟩ := C_insert (L := L) (u := u) (a := a) (t := t) (x1 := s 2) (x2 := -1) hR hN hb30 (by rw [f10]; omega)
  generalize hP : a R (s 4).toNat = p at *
  generalize hu1 : upm (upm u (R + 12 + 3 * p) 0 (s 2)) (R + 12 + 3 * p) 1 (-1) = u1 at *
  generalize hu2 : upr (upm u1 (R + 10) 1 (((s 4).toNat : Int) + 1)) (R + 14 + 3 * p) (a_cpy (upm u1 (R + 10) 1 (((s 4).toNat : Int) + 1) (R + 9)) (upm u1 (R + 10) 1 (((s 4).toNat : Int) + 1) (R + 14 + 3 * p)) 0 0 12) = u2
  have k2 : ∀ x, x ≠ R + 12 + 3 * p → x ≠ R + 10 → x ≠ R + 14 + 3 * p → u2 x = u x := fun x x1 x2 x3 => by rw [← hu2, upr_rf x3, upm_rf x2, ← hu1, upm_rf x1, upm_rf x1]
  have k20 : u2 R = u R := k2 R (by omega) (by omega) (by omega)
  obtain ⟨u3, g1, g2, g3, g4, g5, g6, g7, g8, g9⟩ := C_send (L := L) (u := u2) (a := a') (t := t) (len := len) (T := s 1) (nl := s 3) (D := fun l => s 1 + len + mLi s l 0) hR hp (by omega) (by omega) (by omega) (by rw [k20]; exact f4) (by rw [k20]; exact f6) (fun l l0 l1 => by
    rw [k2 _ (by omega) (by omega) (by omega), fl l l0 l1 (by omega)]
    exact ⟨(hL l l0 l1).1, rfl⟩)
  have k3 : ∀ x, x ≠ R + 12 + 3 * p → x ≠ R + 13 + 3 * p → x ≠ R + 10 → x ≠ R + 14 + 3 * p → u3 x = u x := fun x x1 x2 x3 x4 => by rw [g2 x x1 x2, k2 x x1 x3 x4]
  have k30 : u3 R = u R := k3 R (by omega) (by omega) (by omega) (by omega)
  have ks : ∀ j, u2 (R + 12 + 3 * p) j = u1 (R + 12 + 3 * p) j := fun j => by rw [← hu2, upr_rf (by omega), upm_rf (by omega)]
  have hrel := air_rel (R := R) (u := u) (u' := upm u3 R 7 (wr (u R 7 + 1))) (a := a) (a' := a') (q := q) (w := 1) (n := s 2) (len := len) (u1 := u1) h hM h4 h7 (.inr rfl) ⟨hM2.1, Int.le_refl _⟩ (fun h9 => by omega) hlen i0 (by rw [hP]; exact i3) (by rw [hP, if_pos rfl]; exact hu1.symm) (fun j j1 j2 => by rw [hP]; exact i4 j j1 j2) (fun j j1 => by rw [hP]; exact i5 j j1)
    (fun x hx h0 h10 h11 h12 h13 => by rw [hP] at h11 h12 h13; rw [upm_rf (by omega), k3 _ (by omega) (by omega) (by omega) (by omega)])
    (fun j j4 j9 j7 => by rw [upm_i j7, k30]) (by rw [upm_eq, f7]) (by rw [upm_r (by omega), g2 _ (by omega) (by omega), ← hu2, upr_r (by omega), upm_eq]; omega)
    (by rw [hP, upm_r (by omega), g3, ks, ← hu1, upm_i (by decide), upm_eq]) (by rw [hP, upm_r (by omega), g4, ks, ← hu1, upm_eq, if_pos rfl]) (by rw [hP, upm_r (by omega)]; exact g5) (by rw [hP, upm_r (by omega)]; exact g6) (by rw [hP, upm_r (by omega)]; exact g7) (by rw [hP, upm_r (by omega)]; exact g8) (fun l l0 l1 => by rw [hP, upm_r (by omega)]; exact g9 l l0 l1)
    (fun _ k hk => by rw [hP, upm_r (by omega), g2 _ (by omega) (by omega), ← hu2, upr_eq, cpy_in (by omega) (by omega), upm_rf (by omega), ← hu1, upm_rf (by omega), upm_rf (by omega)]; congr 1; omega)
  obtain ⟨C', hC'⟩ := hrel
  refine ⟨upm u3 R 7 (wr (u R 7 + 1)), a', C', ?_, hC', ?_, i2⟩
  · rw [← hu1] at i1
    have f17' : u (R + 1) 7 = s 2 := f17
    have g1' := g1
    rw [← hu2, ← hu1] at g1'
    simp (disch := first | assumption | omega) only [kR0, kR9, kR10, kR11, kR102, gR0_0, gR0_1, gR0_2, gR0_3, gR10_0, gR11, gR102, kR1, kR2, kR3, kR4, kR5, kR6, kR7, kR8, gR1_0, gR1_1, gR1_2, gR1_3, gR1_4, gR1_5, gR1_6, kRs0, kRs1, kRs2, gRs_6, gRs_7, E_X4_sendWhole, B_X4_sendWhole_0, B_X4_sendWhole_15, B_X4_sendWhole_37, Option.bind_some, back_v, Option.toList_some, Option.toList_none, List.cons_append, List.nil_append, Nat.reduceAdd, Int.reduceToNat, Int.reduceNeg, upm_eq, upm_r, upm_i, if_pos, if_neg, ite_self, true_or, or_true, true_and, and_true, false_or, or_false, false_and, and_false, wr_id, i10, i01, upr_f, upr_eq, thr58, upm_upr, upr_upr, lc_lt, lc_gt, lc_ge, lc_le, afit1, afit0, afitI, bifit, not_true_eq_false, not_false_eq_true, if_true, if_false, Bool.false_eq_true, reduceCtorEq, k1557, k1558, g1557_2, f17', i1, g1', k30]
  · intro x hx
    rw [upm_rf (by omega), k3 _ (by omega) (by omega) (by omega) (by omega)]
theorem C_sendCor {C : List (Nat → Int)} {s : Nat → Int} {c n len : Int} (hR : isRad R) (h : RelC (vw u R) (a R) C s) (hM : MI c s) (h4 : s 4 < 30) (h7 : s 7 < 1000000) (h1 : s 1 ≤ 20000) (h5 : i32 (s 5)) (hn : 1 ≤ n ∧ n ≤ s 2) (hlen : 1 ≤ len ∧ len ≤ 20) :
    ∃ u' a' C', a_m 33 [a_r R, a_i n, a_i len] (K0 L, u, G a, t) = some (.inl none, (K0 L, u', G a', t)) ∧ RelC (vw u' R) (a' R) C' (mAirs s 0 n len) ∧ outR R u u' ∧ (∀ Q, Q ≠ R → a' Q = a Q) := by
  have hA0 := hM.2.2.2.2.2.1.1
  have hM3 := hM.2.2.2.1
  have hM2 := hM.2.2.1
  have hM1 := hM.2.1
  have hL := hM.2.2.2.2.2.2.2
  have hb30 := h.2.2.2.2.2.2.1
  have hN : (s 4).toNat < 30 := by omega
  have hp := hb30 _ hN
  obtain ⟨f4, f5, f6, f7, f8, f17, f10, fl⟩ := rel_facts h
  obtain ⟨q, a', i0, i1, i2, i3, i4, i5⟩ := C_insert (L := L) (u := u) (a := a) (t := t) (x1 := n) (x2 := u (R + 6) n.toNat) hR hN hb30 (by rw [f10]; omega)
  generalize hP : a R (s 4).toNat = p at *
  generalize hu1 : upm (upm u (R + 12 + 3 * p) 0 n) (R + 12 + 3 * p) 1 (u (R + 6) n.toNat) = u1 at *
  generalize hu2 : upm u1 (R + 10) 1 (((s 4).toNat : Int) + 1) = u2 at *
  have k2 : ∀ x, x ≠ R + 12 + 3 * p → x ≠ R + 10 → u2 x = u x := fun x x1 x2 => by rw [← hu2, upm_rf x2, ← hu1, upm_rf x1, upm_rf x1]
  have k20 : u2 R = u R := k2 R (by omega) (by omega)
  obtain ⟨u3, g1, g2, g3, g4, g5, g6, g7, g8, g9⟩ := C_send (L := L) (u := u2) (a := a') (t := t) (len := len) (T := s 1) (nl := s 3) (D := fun l => s 1 + len + mLi s l 0) hR hp (by omega) (by omega) (by omega) (by rw [k20]; exact f4) (by rw [k20]; exact f6) (fun l l0 l1 => by
    rw [k2 _ (by omega) (by omega), fl l l0 l1 (by omega)]
    exact ⟨(hL l l0 l1).1, rfl⟩)
  have k3 : ∀ x, x ≠ R + 12 + 3 * p → x ≠ R + 13 + 3 * p → x ≠ R + 10 → u3 x = u x := fun x x1 x2 x3 => by rw [g2 x x1 x2, k2 x x1 x3]
  have k30 : u3 R = u R := k3 R (by omega) (by omega) (by omega)
  have ks : ∀ j, u2 (R + 12 + 3 * p) j = u1 (R + 12 + 3 * p) j := fun j => by rw [← hu2, upm_rf (by omega)]
  have e6 : vw u R 6 n.toNat = u (R + 6) n.toNat := by rw [vw_at (by decide)]
  have hrel := air_rel (R := R) (u := u) (u' := u3) (a := a) (a' := a') (q := q) (w := 0) (n := n) (len := len) (u1 := u1) h hM h4 h7 (.inl rfl) ⟨by omega, hn.2⟩ (fun _ => hn.1) hlen i0 (by rw [hP]; exact i3) (by rw [hP, if_neg (by decide), e6]; exact hu1.symm) (fun j j1 j2 => by rw [hP]; exact i4 j j1 j2) (fun j j1 => by rw [hP]; exact i5 j j1)
    (fun x hx h0 h10 h11 h12 h13 => by rw [hP] at h11 h12 h13; rw [k3 _ (by omega) (by omega) (by omega)])
    (fun j j4 j9 j7 => by rw [k30]) (by rw [k30, f7, wr_0 h5]) (by rw [g2 _ (by omega) (by omega), ← hu2, upm_eq]; omega)
    (by rw [hP, g3, ks, ← hu1, upm_i (by decide), upm_eq]) (by rw [hP, g4, ks, ← hu1, upm_eq, if_neg (by decide), e6]) (by rw [hP]; exact g5) (by rw [hP]; exact g6) (by rw [hP]; exact g7) (by rw [hP]; exact g8) (fun l l0 l1 => by rw [hP]; exact g9 l l0 l1)
    (fun h9 => by omega)
  obtain ⟨C', hC'⟩ := hrel
  refine ⟨u3, a', C', ?_, hC', ?_, i2⟩
  · simp (disch := first | assumption | omega) only [kR0, kR9, kR10, kR11, kR102, gR0_0, gR0_1, gR0_2, gR0_3, gR10_0, gR11, gR102, kR1, kR2, kR3, kR4, kR5, kR6, kR7, kR8, gR1_0, gR1_1, gR1_2, gR1_3, gR1_4, gR1_5, gR1_6, kRs0, kRs1, kRs2, gRs_6, gRs_7, E_X4_sendCorrection, B_X4_sendCorrection_0, B_X4_sendCorrection_18, B_X4_sendCorrection_22, Option.bind_some, back_v, Option.toList_some, Option.toList_none, List.cons_append, List.nil_append, Nat.reduceAdd, Int.reduceToNat, Int.reduceNeg, upm_eq, upm_r, upm_i, if_pos, if_neg, ite_self, true_or, or_true, true_and, and_true, false_or, or_false, false_and, and_false, wr_id, i10, i01, upr_f, upr_eq, thr58, upm_upr, upr_upr, lc_lt, lc_gt, lc_ge, lc_le, afit1, afit0, afitI, bifit, not_true_eq_false, not_false_eq_true, if_true, if_false, Bool.false_eq_true, reduceCtorEq, k1557, k1558, g1557_2, i1, g1]
  · intro x hx
    rw [k3 _ (by omega) (by omega) (by omega)]
end C5
