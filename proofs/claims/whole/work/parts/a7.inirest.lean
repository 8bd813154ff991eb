/-! ===== the other constructors, the start of the law ===== -/
theorem kP_all {L : Nat} : kP L 1570 = K0 L := by
  funext q
  unfold kP
  by_cases h : q < 1570
  · rw [if_pos h]
  · rw [if_neg h]
    unfold K0
    rw [if_neg (by omega), if_neg (by omega), if_neg (by omega), if_neg (by omega), if_neg (by omega), if_neg (by omega), if_neg (by omega), if_neg (by omega), if_neg (by omega), if_neg (by omega), if_neg (by omega), if_neg (by omega), if_neg (by omega), if_neg (by omega), if_neg (by omega), if_neg (by omega), if_neg (by omega), if_neg (by omega), if_neg (by omega), if_neg (by omega), if_neg (by omega), if_neg (by omega), if_neg (by omega), if_neg (by omega), if_neg (by omega), if_neg (by omega), if_neg (by omega)]
section INK
variable {L : Nat} {u : Nat → Nat → Int} {g : Nat → Nat → Nat} {c s : Nat}
theorem I_rdr (hu : ∀ q, 19 ≤ q → u q = fun _ => 0) (hg : ∀ q, 19 ≤ q → g q = fun _ => 0) : a_m 52 [a_r 19] (kP L 20, u, g, (20, c, s)) = some (.inl none, (kP L 21, upm u 19 3 (-1), gQ g 19 2, (21, c + 1, s + 500))) := by
  have e : gQ g 19 2 = upm g 19 0 20 := by
    funext q j
    by_cases h : 19 ≤ q ∧ q < 19 + 2
    · rw [gQ_in h]
      have hq : q = 19 ∨ q = 20 := by omega
      rcases hq with rfl | rfl
      · by_cases hj : j = 0
        · subst hj; rw [upm_eq]; rfl
        · rw [upm_i hj, hg 19 (by omega)]
          simp [G, inR, G1, hj]
      · rw [upm_rf (by omega), hg 20 (by omega)]; rfl
    · rw [gQ_out h, upm_rf (by omega)]
  rw [e]
  have kk0 : K0 L 19 = (6, 0) := rfl
  have kk1 : K0 L 20 = (20, 500) := rfl
  simp (disch := first | assumption | omega | exact hu _ (by omega) | exact hg _ (by omega) | (simp (disch := omega) only [upm_rf]; exact hg _ (by omega))) only [E_X5_init, B_X5_init_0, B_X5_init_10, Option.bind_some, back_v, Option.toList_some, Option.toList_none, List.cons_append, List.nil_append, Nat.reduceAdd, Int.reduceToNat, Int.reduceNeg, upm_eq, upm_r, upm_i, if_pos, if_neg, ite_self, true_or, or_true, true_and, and_true, false_or, or_false, false_and, and_false, wr_id, i10, i01, upr_f, upr_eq, thr58, upm_upr, upr_upr, lc_lt, lc_gt, lc_ge, lc_le, afit1, afit0, afitI, bifit, not_true_eq_false, not_false_eq_true, if_true, if_false, Bool.false_eq_true, reduceCtorEq, k1557, k1558, g1557_2, kP_at, kk0, new_at]
theorem I_txt (hu : ∀ q, 1301 ≤ q → u q = fun _ => 0) (hg : ∀ q, 1301 ≤ q → g q = fun _ => 0) : a_m 73 [a_r 1301] (kP L 1302, u, g, (1302, c, s)) = some (.inl none, (kP L 1303, u, gQ g 1301 2, (1303, c + 1, s + 256))) := by
  have e : gQ g 1301 2 = upm g 1301 0 1302 := by
    funext q j
    by_cases h : 1301 ≤ q ∧ q < 1301 + 2
    · rw [gQ_in h]
      have hq : q = 1301 ∨ q = 1302 := by omega
      rcases hq with rfl | rfl
      · by_cases hj : j = 0
        · subst hj; rw [upm_eq]; rfl
        · rw [upm_i hj, hg 1301 (by omega)]
          simp [G, inR, G1, hj]
      · rw [upm_rf (by omega), hg 1302 (by omega)]
        simp [G, inR, G1]
    · rw [gQ_out h, upm_rf (by omega)]
  rw [e]
  have kk0 : K0 L 1301 = (8, 0) := rfl
  have kk1 : K0 L 1302 = (20, 256) := rfl
  simp (disch := first | assumption | omega | exact hu _ (by omega) | exact hg _ (by omega) | (simp (disch := omega) only [upm_rf]; exact hg _ (by omega))) only [E_X7_init, B_X7_init_0, B_X7_init_10, Option.bind_some, back_v, Option.toList_some, Option.toList_none, List.cons_append, List.nil_append, Nat.reduceAdd, Int.reduceToNat, Int.reduceNeg, upm_eq, upm_r, upm_i, if_pos, if_neg, ite_self, true_or, or_true, true_and, and_true, false_or, or_false, false_and, and_false, wr_id, i10, i01, upr_f, upr_eq, thr58, upm_upr, upr_upr, lc_lt, lc_gt, lc_ge, lc_le, afit1, afit0, afitI, bifit, not_true_eq_false, not_false_eq_true, if_true, if_false, Bool.false_eq_true, reduceCtorEq, k1557, k1558, g1557_2, kP_at, kk0, new_at]
theorem I_mrg (hu : ∀ q, 1295 ≤ q → u q = fun _ => 0) (hg : ∀ q, 1295 ≤ q → g q = fun _ => 0) : a_m 22 [a_r 1295] (kP L 1296, u, g, (1296, c, s)) = some (.inl none, (kP L 1301, u, gQ g 1295 6, (1301, c + 5, s + 60))) := by
  have e : gQ g 1295 6 = upm (upm (upm (upm (upm g 1295 0 1296) 1295 1 1297) 1295 2 1298) 1295 3 1299) 1295 5 1300 := by
    funext q j
    by_cases h : 1295 ≤ q ∧ q < 1295 + 6
    · rw [gQ_in h]
      by_cases hq : q = 1295
      · subst hq
        have hj : j = 0 ∨ j = 1 ∨ j = 2 ∨ j = 3 ∨ j = 4 ∨ j = 5 ∨ 6 ≤ j := by omega
        rcases hj with rfl | rfl | rfl | rfl | rfl | rfl | hj
        · rfl
        · rfl
        · rfl
        · rfl
        · rw [upm_i (by omega), upm_i (by omega), upm_i (by omega), upm_i (by omega), upm_i (by omega), hg 1295 (by omega)]; rfl
        · rfl
        · rw [upm_i (by omega), upm_i (by omega), upm_i (by omega), upm_i (by omega), upm_i (by omega), hg 1295 (by omega)]
          simp [G, inR, G1, show ¬ j < 4 from by omega, show ¬ j = 5 from by omega]
      · rw [upm_rf hq, upm_rf hq, upm_rf hq, upm_rf hq, upm_rf hq, hg q (by omega)]
        have hq : q = 1296 ∨ q = 1297 ∨ q = 1298 ∨ q = 1299 ∨ q = 1300 := by omega
        rcases hq with rfl | rfl | rfl | rfl | rfl <;> simp [G, inR, G1]
    · have hq : q ≠ 1295 := by omega
      rw [gQ_out h, upm_rf hq, upm_rf hq, upm_rf hq, upm_rf hq, upm_rf hq]
  rw [e]
  have kk0 : K0 L 1295 = (4, 0) := rfl
  have kk1 : K0 L 1296 = (20, 12) := rfl
  have kk2 : K0 L 1297 = (20, 12) := rfl
  have kk3 : K0 L 1298 = (20, 12) := rfl
  have kk4 : K0 L 1299 = (20, 12) := rfl
  have kk5 : K0 L 1300 = (20, 12) := rfl
  simp (disch := first | assumption | omega | exact hu _ (by omega) | exact hg _ (by omega) | (simp (disch := omega) only [upm_rf]; exact hg _ (by omega))) only [E_X3_init, B_X3_init_0, B_X3_init_9, B_X3_init_17, B_X3_init_25, B_X3_init_33, B_X3_init_41, Option.bind_some, back_v, Option.toList_some, Option.toList_none, List.cons_append, List.nil_append, Nat.reduceAdd, Int.reduceToNat, Int.reduceNeg, upm_eq, upm_r, upm_i, if_pos, if_neg, ite_self, true_or, or_true, true_and, and_true, false_or, or_false, false_and, and_false, wr_id, i10, i01, upr_f, upr_eq, thr58, upm_upr, upr_upr, lc_lt, lc_gt, lc_ge, lc_le, afit1, afit0, afitI, bifit, not_true_eq_false, not_false_eq_true, if_true, if_false, Bool.false_eq_true, reduceCtorEq, k1557, k1558, g1557_2, kP_at, kk0, new_at, Nat.add_assoc]
theorem I_mod (hu : ∀ q, 1558 ≤ q → u q = fun _ => 0) (hg : ∀ q, 1557 ≤ q → g q = fun _ => 0) : a_m 153 [a_r 1557] (kP L 1558, u, g, (1558, c, s)) = some (.inl none, (kP L 1568, upm u 1557 9 (-1), gQ g 1557 11, (1568, c + 10, s + 43590))) := by
  have e : gQ g 1557 11 = upm (upm (upm (upm (upm (upm (upm (upm (upm (upm g 1557 2 1558) 1557 3 1559) 1557 5 1560) 1557 6 1561) 1557 17 1562) 1557 18 1563) 1557 19 1564) 1557 20 1565) 1557 21 1566) 1557 23 1567 := by
    funext q j
    by_cases h : 1557 ≤ q ∧ q < 1557 + 11
    · rw [gQ_in h]
      by_cases hq : q = 1557
      · subst hq
        have hz : g 1557 j = 0 := by rw [hg 1557 (by omega)]
        have e1 : G a0 1557 j = G1 1557 j := rfl
        rw [e1]
        unfold upm
        rw [hz]
        simp only [G1, show ¬ (1557 : Nat) < 17 from by decide, show ¬ (1557 : Nat) = 18 from by decide, show ¬ (1557 : Nat) = 19 from by decide, show ¬ (1557 : Nat) = 275 from by decide, show ¬ (1557 : Nat) = 276 from by decide, show ¬ (1557 : Nat) = 1293 from by decide, show ¬ (1557 : Nat) = 1295 from by decide, show ¬ (1557 : Nat) = 1301 from by decide, if_false, if_true, true_and]
        have hj : (j = 2 ∨ j = 3 ∨ j = 5 ∨ j = 6 ∨ j = 17 ∨ j = 18 ∨ j = 19 ∨ j = 20 ∨ j = 21 ∨ j = 23) ∨ (j ≠ 2 ∧ j ≠ 3 ∧ j ≠ 5 ∧ j ≠ 6 ∧ j ≠ 17 ∧ j ≠ 18 ∧ j ≠ 19 ∧ j ≠ 20 ∧ j ≠ 21 ∧ j ≠ 23) := by omega
        rcases hj with (rfl | rfl | rfl | rfl | rfl | rfl | rfl | rfl | rfl | rfl) | ⟨j1, j2, j3, j4, j5, j6, j7, j8, j9, j10⟩
        · rfl
        · rfl
        · rfl
        · rfl
        · rfl
        · rfl
        · rfl
        · rfl
        · rfl
        · rfl
        · simp only [j1, j2, j3, j4, j5, j6, j7, j8, j9, j10, if_false]
      · rw [upm_rf hq, upm_rf hq, upm_rf hq, upm_rf hq, upm_rf hq, upm_rf hq, upm_rf hq, upm_rf hq, upm_rf hq, upm_rf hq, hg q (by omega)]
        have hq : q = 1558 ∨ q = 1559 ∨ q = 1560 ∨ q = 1561 ∨ q = 1562 ∨ q = 1563 ∨ q = 1564 ∨ q = 1565 ∨ q = 1566 ∨ q = 1567 := by omega
        rcases hq with rfl | rfl | rfl | rfl | rfl | rfl | rfl | rfl | rfl | rfl <;> simp [G, inR, G1]
    · have hq : q ≠ 1557 := by omega
      rw [gQ_out h, upm_rf hq, upm_rf hq, upm_rf hq, upm_rf hq, upm_rf hq, upm_rf hq, upm_rf hq, upm_rf hq, upm_rf hq, upm_rf hq]
  rw [e]
  have kk0 : K0 L 1557 = (11, 0) := rfl
  have kk1 : K0 L 1558 = (20, 3280) := rfl
  have kk2 : K0 L 1559 = (20, 36080) := rfl
  have kk3 : K0 L 1560 = (21, 2) := rfl
  have kk4 : K0 L 1561 = (20, 500) := rfl
  have kk5 : K0 L 1562 = (20, 3280) := rfl
  have kk6 : K0 L 1563 = (20, 12) := rfl
  have kk7 : K0 L 1564 = (20, 12) := rfl
  have kk8 : K0 L 1565 = (20, 12) := rfl
  have kk9 : K0 L 1566 = (20, 12) := rfl
  have kk10 : K0 L 1567 = (20, 400) := rfl
  simp (disch := first | assumption | omega | exact hu _ (by omega) | exact hg _ (by omega) | (simp (disch := omega) only [upm_rf]; first | exact hg _ (by omega) | exact hu _ (by omega))) only [E_X11_init, B_X11_init_0, B_X11_init_10, B_X11_init_18, B_X11_init_25, B_X11_init_34, B_X11_init_48, B_X11_init_56, B_X11_init_64, B_X11_init_72, B_X11_init_80, B_X11_init_89, Option.bind_some, back_v, Option.toList_some, Option.toList_none, List.cons_append, List.nil_append, Nat.reduceAdd, Int.reduceToNat, Int.reduceNeg, upm_eq, upm_r, upm_i, if_pos, if_neg, ite_self, true_or, or_true, true_and, and_true, false_or, or_false, false_and, and_false, wr_id, i10, i01, upr_f, upr_eq, thr58, upm_upr, upr_upr, lc_lt, lc_gt, lc_ge, lc_le, afit1, afit0, afitI, bifit, not_true_eq_false, not_false_eq_true, if_true, if_false, Bool.false_eq_true, reduceCtorEq, k1557, k1558, g1557_2, kP_at, kk0, new_at, Nat.add_assoc]
theorem I_his_loop (hA : g 275 0 = 276) (hu : ∀ q, 276 ≤ q → u q = fun _ => 0) (hg : ∀ q, 276 ≤ q → g q = fun _ => 0) : ∀ (d i c s : Nat), i + d = 8 → a_X 10 15 [a_r 275, a_i (i : Int)] [] (kP L (277 + 127 * i), u, gRow g 276 277 127 i, (277 + 127 * i, c, s)) = some (.inl none, (kP L 1293, u, gRow g 276 277 127 8, (1293, c + 127 * d, s + 1771 * d))) := by
  have kA : K0 L 275 = (2, 0) := rfl
  have kB : K0 L 276 = (34, 8) := rfl
  intro d
  induction d with
  | zero =>
    intro i c s hi
    have hi : i = 8 := by omega
    subst hi
    have ex : ((8 : Nat) : Int) ≥ 8 := by decide
    rw [B_X1_init_15, if_pos ex]
    rfl
  | succ d ih =>
    intro i c s hi
    have hi8 : i < 8 := by omega
    have hR : isRad (277 + 127 * i) := rPast hi8
    have hZ : ∀ q, 277 + 127 * i ≤ q → gRow g 276 277 127 i q = fun _ => 0 := gRow_Z (fun q hq => hg q (by omega)) (by omega) (by omega)
    have k1 := kR0 (L := L) hR
    have hn := new_at (c := c) (s := s) (sl := 9) k1 (hu (277 + 127 * i) (by omega)) (hZ _ (Nat.le_refl _))
    have h1 : a_m 28 [a_r (277 + 127 * i)] (kP L (277 + 127 * i + 1), u, gRow g 276 277 127 i, (277 + 127 * i + 1, c + 1, s + 9)) = some (.inl none, (kP L (277 + 127 * i + 127), u, gQ (gRow g 276 277 127 i) (277 + 127 * i) 127, (277 + 127 * i + 127, c + 1 + 126, s + 9 + 1762))) := I_rad hR (fun q hq => hu q (by omega)) hZ
    rw [show c + 1 + 126 = c + 127 from by omega, show s + 9 + 1762 = s + 1771 from by omega] at h1
    have hs := gRow_s (g := g) (q0 := 276) (B := 277) (w := 127) (i := i) (by omega)
    have ha : gRow g 276 277 127 i 275 0 = 276 := by unfold gRow; rw [if_neg (by omega), if_neg (by omega), hA]
    have e := ih (i + 1) (c + 127) (s + 1771) (by omega)
    rw [show 277 + 127 * (i + 1) = 277 + 127 * i + 127 from by omega, show c + 127 + 127 * d = c + 127 * (d + 1) from by omega, show s + 1771 + 1771 * d = s + 1771 * (d + 1) from by omega] at e
    refine Eq.trans ?_ e
    have ex : ¬ (i : Int) ≥ 8 := by omega
    have z1 : (i : Int) + 1 = ((i + 1 : Nat) : Int) := by omega
    have tn : ((i : Int)).toNat = i := by omega
    have i0 : 0 ≤ (i : Int) := by omega
    have i30 : (i : Int) < ((8 : Nat) : Int) := by omega
    rw [B_X1_init_15]
    simp (disch := first | assumption | omega) only [B_X1_init_29, B_X1_init_33, Option.bind_some, back_v, Option.toList_some, Option.toList_none, List.cons_append, List.nil_append, Nat.reduceAdd, Int.reduceToNat, Int.reduceNeg, upm_eq, upm_r, upm_i, if_pos, if_neg, ite_self, true_or, or_true, true_and, and_true, false_or, or_false, false_and, and_false, wr_id, i10, i01, upr_f, upr_eq, thr58, upm_upr, upr_upr, lc_lt, lc_gt, lc_ge, lc_le, afit1, afit0, afitI, bifit, not_true_eq_false, not_false_eq_true, if_true, if_false, Bool.false_eq_true, reduceCtorEq, k1557, k1558, g1557_2, kP_at, kA, kB, k1, hn, h1, ha, ex, hs, z1, tn]
theorem I_his (hu : ∀ q, 275 ≤ q → u q = fun _ => 0) (hg : ∀ q, 275 ≤ q → g q = fun _ => 0) : a_m 10 [a_r 275] (kP L 276, u, g, (276, c, s)) = some (.inl none, (kP L 1293, u, gQ g 275 1018, (1293, c + 1017, s + 14176))) := by
  have e : gQ g 275 1018 = gRow (upm g 275 0 276) 276 277 127 8 := by
    funext q j
    by_cases h : 275 ≤ q ∧ q < 275 + 1018
    · rw [gQ_in h]
      unfold gRow
      by_cases h1 : q = 276
      · rw [if_pos h1, h1]
        by_cases hj : j < 8
        · rw [if_pos hj]; exact g276 hj
        · rw [if_neg hj]; simp [G, inR, G1, hj]
      · rw [if_neg h1]
        by_cases h2 : q = 275
        · rw [if_neg (by omega), h2]
          by_cases hj : j = 0
          · subst hj; rw [upm_eq]; rfl
          · rw [upm_i hj, hg 275 (by omega)]
            simp [G, inR, G1, hj]
        · rw [if_pos (by omega)]
    · rw [gQ_out h]
      unfold gRow
      rw [if_neg (by omega), if_neg (by omega), upm_rf (by omega)]
  rw [e]
  have kk0 : K0 L 275 = (2, 0) := rfl
  have kk1 : K0 L 276 = (34, 8) := rfl
  have hl := I_his_loop (L := L) (u := u) (g := upm g 275 0 276) upm_eq (fun q hq => hu q (by omega)) (fun q hq => by rw [upm_rf (by omega)]; exact hg q (by omega)) 8 0 (c + 1) (s + 8) (by decide)
  rw [gRow_0 (by rw [upm_rf (by omega)]; exact hg _ (by omega)), Nat.mul_zero, Nat.add_zero, Int.natCast_zero, show c + 1 + 127 * 8 = c + 1017 from by omega, show s + 8 + 1771 * 8 = s + 14176 from by omega] at hl
  have hn := new_at (c := c) (s := s) (sl := 8) kk1 (hu 276 (by omega)) (hg _ (by omega))
  rw [show 276 + 1 = 277 from rfl] at hn
  rw [← hl]
  simp (disch := first | assumption | omega | exact hu _ (by omega) | exact hg _ (by omega) | (simp (disch := omega) only [upm_rf]; exact hg _ (by omega))) only [E_X1_init, B_X1_init_0, B_X1_init_10, Option.bind_some, back_v, Option.toList_some, Option.toList_none, List.cons_append, List.nil_append, Nat.reduceAdd, Int.reduceToNat, Int.reduceNeg, upm_eq, upm_r, upm_i, if_pos, if_neg, ite_self, true_or, or_true, true_and, and_true, false_or, or_false, false_and, and_false, wr_id, i10, i01, upr_f, upr_eq, thr58, upm_upr, upr_upr, lc_lt, lc_gt, lc_ge, lc_le, afit1, afit0, afitI, bifit, not_true_eq_false, not_false_eq_true, if_true, if_false, Bool.false_eq_true, reduceCtorEq, k1557, k1558, g1557_2, kP_at, kk0, hn]
theorem I_sav_loop (hA : g 18 4 = 1293) (h93 : g 1293 = fun _ => 0) (hu : ∀ q, 1303 ≤ q → u q = fun _ => 0) (hg : ∀ q, 1303 ≤ q → g q = fun _ => 0) : ∀ (d i c s : Nat), i + d = 2 → a_X 90 87 [a_r 18, a_i (i : Int)] [] (kP L (1303 + 127 * i), u, gRow g 1293 1303 127 i, (1303 + 127 * i, c, s)) = some (.inl none, (kP L 1557, u, gRow g 1293 1303 127 2, (1557, c + 127 * d, s + 1771 * d))) := by
  have kA : K0 L 18 = (10, 0) := rfl
  have kB : K0 L 1293 = (34, 2) := rfl
  intro d
  induction d with
  | zero =>
    intro i c s hi
    have hi : i = 2 := by omega
    subst hi
    have ex : ((2 : Nat) : Int) ≥ 2 := by decide
    rw [B_X10_init_87, if_pos ex]
    rfl
  | succ d ih =>
    intro i c s hi
    have hi8 : i < 2 := by omega
    have hR : isRad (1303 + 127 * i) := rSaved hi8
    have hZ : ∀ q, 1303 + 127 * i ≤ q → gRow g 1293 1303 127 i q = fun _ => 0 := gRow_Z (fun q hq => hg q (by omega)) (by omega) (by omega)
    have k1 := kR0 (L := L) hR
    have hn := new_at (c := c) (s := s) (sl := 9) k1 (hu (1303 + 127 * i) (by omega)) (hZ _ (Nat.le_refl _))
    have h1 : a_m 28 [a_r (1303 + 127 * i)] (kP L (1303 + 127 * i + 1), u, gRow g 1293 1303 127 i, (1303 + 127 * i + 1, c + 1, s + 9)) = some (.inl none, (kP L (1303 + 127 * i + 127), u, gQ (gRow g 1293 1303 127 i) (1303 + 127 * i) 127, (1303 + 127 * i + 127, c + 1 + 126, s + 9 + 1762))) := I_rad hR (fun q hq => hu q (by omega)) hZ
    rw [show c + 1 + 126 = c + 127 from by omega, show s + 9 + 1762 = s + 1771 from by omega] at h1
    have hs := gRow_s (g := g) (q0 := 1293) (B := 1303) (w := 127) (i := i) (by omega)
    have ha : gRow g 1293 1303 127 i 18 4 = 1293 := by unfold gRow; rw [if_neg (by omega), if_neg (by omega), hA]
    have e := ih (i + 1) (c + 127) (s + 1771) (by omega)
    rw [show 1303 + 127 * (i + 1) = 1303 + 127 * i + 127 from by omega, show c + 127 + 127 * d = c + 127 * (d + 1) from by omega, show s + 1771 + 1771 * d = s + 1771 * (d + 1) from by omega] at e
    refine Eq.trans ?_ e
    have ex : ¬ (i : Int) ≥ 2 := by omega
    have z1 : (i : Int) + 1 = ((i + 1 : Nat) : Int) := by omega
    have tn : ((i : Int)).toNat = i := by omega
    have i0 : 0 ≤ (i : Int) := by omega
    have i30 : (i : Int) < ((2 : Nat) : Int) := by omega
    rw [B_X10_init_87]
    simp (disch := first | assumption | omega) only [B_X10_init_100, B_X10_init_104, Option.bind_some, back_v, Option.toList_some, Option.toList_none, List.cons_append, List.nil_append, Nat.reduceAdd, Int.reduceToNat, Int.reduceNeg, upm_eq, upm_r, upm_i, if_pos, if_neg, ite_self, true_or, or_true, true_and, and_true, false_or, or_false, false_and, and_false, wr_id, i10, i01, upr_f, upr_eq, thr58, upm_upr, upr_upr, lc_lt, lc_gt, lc_ge, lc_le, afit1, afit0, afitI, bifit, not_true_eq_false, not_false_eq_true, if_true, if_false, Bool.false_eq_true, reduceCtorEq, k1557, k1558, g1557_2, kP_at, kA, kB, k1, hn, h1, ha, ex, hs, z1, tn]
end INK
