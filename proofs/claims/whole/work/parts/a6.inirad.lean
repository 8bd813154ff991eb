/-! ===== the constructors of a radio ===== -/
section INJ
variable {L : Nat} {u : Nat → Nat → Int} {g : Nat → Nat → Nat} {c s : Nat}
theorem I_lis {S : Nat} (k0 : K0 L S = (3, 0)) (k1 : K0 L (S + 1) = (20, 4)) (k2 : K0 L (S + 2) = (20, 4)) (k3 : K0 L (S + 3) = (20, 12)) (g0 : ∀ j, G a0 S j = if j = 2 then S + 1 else if j = 3 then S + 2 else if j = 4 then S + 3 else 0) (g1 : ∀ j, G a0 (S + 1) j = 0) (g2 : ∀ j, G a0 (S + 2) j = 0) (g3 : ∀ j, G a0 (S + 3) j = 0) (hu : ∀ q, S ≤ q → u q = fun _ => 0) (hg : ∀ q, S ≤ q → g q = fun _ => 0) : a_m 14 [a_r S] (kP L (S + 1), u, g, (S + 1, c, s)) = some (.inl none, (kP L (S + 4), u, gQ g S 4, (S + 4, c + 3, s + 20))) := by
  have e : gQ g S 4 = upm (upm (upm g S 2 (S + 1)) S 3 (S + 2)) S 4 (S + 3) := by
    funext q j
    unfold gQ upm
    by_cases h : S ≤ q ∧ q < S + 4
    · rw [if_pos h]
      have hz : g q j = 0 := by rw [hg q h.1]
      have hq : q = S ∨ q = S + 1 ∨ q = S + 2 ∨ q = S + 3 := by omega
      rw [hz]
      rcases hq with rfl | rfl | rfl | rfl
      · rw [g0]
        by_cases h6 : j = 2
        · subst h6; simp
        · by_cases h7 : j = 3
          · subst h7; simp
          · by_cases h8 : j = 4
            · subst h8; simp
            · simp [h6, h7, h8]
      · rw [g1, if_neg (by omega), if_neg (by omega), if_neg (by omega)]
      · rw [g2, if_neg (by omega), if_neg (by omega), if_neg (by omega)]
      · rw [g3, if_neg (by omega), if_neg (by omega), if_neg (by omega)]
    · rw [if_neg h, if_neg (by omega), if_neg (by omega), if_neg (by omega)]
  rw [e]
  simp (disch := first | assumption | omega | exact hu _ (by omega) | exact hg _ (by omega) | (simp (disch := omega) only [upm_rf]; exact hg _ (by omega))) only [E_X2_init, B_X2_init_0, B_X2_init_8, B_X2_init_15, B_X2_init_23, Option.bind_some, back_v, Option.toList_some, Option.toList_none, List.cons_append, List.nil_append, Nat.reduceAdd, Int.reduceToNat, Int.reduceNeg, upm_eq, upm_r, upm_i, if_pos, if_neg, ite_self, true_or, or_true, true_and, and_true, false_or, or_false, false_and, and_false, wr_id, i10, i01, upr_f, upr_eq, thr58, upm_upr, upr_upr, lc_lt, lc_gt, lc_ge, lc_le, afit1, afit0, afitI, bifit, not_true_eq_false, not_false_eq_true, if_true, if_false, Bool.false_eq_true, reduceCtorEq, k1557, k1558, g1557_2, kP_at, k0, new_at, Nat.add_assoc]
theorem I_told {T : Nat} (k0 : K0 L T = (9, 0)) (k1 : K0 L (T + 1) = (20, 111)) (k2 : K0 L (T + 2) = (20, 111)) (k3 : K0 L (T + 3) = (20, 111)) (k4 : K0 L (T + 4) = (20, 111)) (k5 : K0 L (T + 5) = (20, 100)) (k6 : K0 L (T + 6) = (20, 100)) (k7 : K0 L (T + 7) = (20, 100)) (g0 : ∀ j, G a0 T j = if j < 7 then T + 1 + j else 0) (g1 : ∀ q j, T < q → q < T + 8 → G a0 q j = 0) (hu : ∀ q, T ≤ q → u q = fun _ => 0) (hg : ∀ q, T ≤ q → g q = fun _ => 0) : a_m 78 [a_r T] (kP L (T + 1), u, g, (T + 1, c, s)) = some (.inl none, (kP L (T + 8), u, gQ g T 8, (T + 8, c + 7, s + 744))) := by
  have e : gQ g T 8 = upm (upm (upm (upm (upm (upm (upm g T 0 (T + 1)) T 1 (T + 2)) T 2 (T + 3)) T 3 (T + 4)) T 4 (T + 5)) T 5 (T + 6)) T 6 (T + 7) := by
    funext q j
    by_cases h : T ≤ q ∧ q < T + 8
    · rw [gQ_in h]
      by_cases hq : q = T
      · subst hq
        rw [g0]
        have hj : j = 0 ∨ j = 1 ∨ j = 2 ∨ j = 3 ∨ j = 4 ∨ j = 5 ∨ j = 6 ∨ 7 ≤ j := by omega
        rcases hj with rfl | rfl | rfl | rfl | rfl | rfl | rfl | hj
        · simp [upm]
        · simp [upm]
        · simp [upm]
        · simp [upm]
        · simp [upm]
        · simp [upm]
        · simp [upm]
        · rw [if_neg (by omega), upm_i (by omega), upm_i (by omega), upm_i (by omega), upm_i (by omega), upm_i (by omega), upm_i (by omega), upm_i (by omega), hg q (by omega)]
      · rw [g1 q j (by omega) h.2, upm_rf hq, upm_rf hq, upm_rf hq, upm_rf hq, upm_rf hq, upm_rf hq, upm_rf hq, hg q h.1]
    · have hq : q ≠ T := by omega
      rw [gQ_out h, upm_rf hq, upm_rf hq, upm_rf hq, upm_rf hq, upm_rf hq, upm_rf hq, upm_rf hq]
  rw [e]
  simp (disch := first | assumption | omega | exact hu _ (by omega) | exact hg _ (by omega) | (simp (disch := omega) only [upm_rf]; exact hg _ (by omega))) only [E_X8_init, B_X8_init_0, B_X8_init_9, B_X8_init_17, B_X8_init_25, B_X8_init_33, B_X8_init_41, B_X8_init_49, B_X8_init_57, Option.bind_some, back_v, Option.toList_some, Option.toList_none, List.cons_append, List.nil_append, Nat.reduceAdd, Int.reduceToNat, Int.reduceNeg, upm_eq, upm_r, upm_i, if_pos, if_neg, ite_self, true_or, or_true, true_and, and_true, false_or, or_false, false_and, and_false, wr_id, i10, i01, upr_f, upr_eq, thr58, upm_upr, upr_upr, lc_lt, lc_gt, lc_ge, lc_le, afit1, afit0, afitI, bifit, not_true_eq_false, not_false_eq_true, if_true, if_false, Bool.false_eq_true, reduceCtorEq, k1557, k1558, g1557_2, kP_at, k0, new_at, Nat.add_assoc]
theorem I_air_loop {A : Nat} (kA : K0 L A = (1, 0)) (kB : K0 L (A + 1) = (36, 30)) (kS : ∀ p, p < 30 → K0 L (A + 2 + 3 * p) = (7, 0) ∧ K0 L (A + 2 + 3 * p + 1) = (20, 6) ∧ K0 L (A + 2 + 3 * p + 2) = (20, 12)) (gS : ∀ p, p < 30 → (∀ j, G a0 (A + 2 + 3 * p) j = if j = 6 then A + 2 + 3 * p + 1 else if j = 7 then A + 2 + 3 * p + 2 else 0) ∧ (∀ j, G a0 (A + 2 + 3 * p + 1) j = 0) ∧ ∀ j, G a0 (A + 2 + 3 * p + 2) j = 0) (hA : g A 0 = A + 1) (hu : ∀ q, A ≤ q → u q = fun _ => 0) (hg : ∀ q, A < q → g q = fun _ => 0) : ∀ (d i c s : Nat), i + d = 30 → a_X 0 15 [a_r A, a_i (i : Int)] [] (kP L (A + 2 + 3 * i), u, gRow g (A + 1) (A + 2) 3 i, (A + 2 + 3 * i, c, s)) = some (.inl none, (kP L (A + 92), u, gRow g (A + 1) (A + 2) 3 30, (A + 92, c + 3 * d, s + 26 * d))) := by
  intro d
  induction d with
  | zero =>
    intro i c s hi
    have hi : i = 30 := by omega
    subst hi
    have ex : ((30 : Nat) : Int) ≥ 30 := by decide
    rw [show A + 2 + 3 * 30 = A + 92 from by omega, B_X0_init_15, if_pos ex]
    rfl
  | succ d ih =>
    intro i c s hi
    have hZ : ∀ q, A + 2 + 3 * i ≤ q → gRow g (A + 1) (A + 2) 3 i q = fun _ => 0 := gRow_Z (fun q hq => hg q (by omega)) (by omega) (by omega)
    obtain ⟨k1, k2, k3⟩ := kS i (by omega)
    obtain ⟨g1, g2, g3⟩ := gS i (by omega)
    have hn := new_at (c := c) (s := s) (sl := 8) k1 (hu (A + 2 + 3 * i) (by omega)) (hZ _ (Nat.le_refl _))
    have h1 : a_m 67 [a_r (A + 2 + 3 * i)] (kP L (A + 2 + 3 * i + 1), u, gRow g (A + 1) (A + 2) 3 i, (A + 2 + 3 * i + 1, c + 1, s + 8)) = some (.inl none, (kP L (A + 2 + 3 * i + 3), u, gQ (gRow g (A + 1) (A + 2) 3 i) (A + 2 + 3 * i) 3, (A + 2 + 3 * i + 3, c + 3, s + 26))) := I_sig k1 k2 k3 g1 g2 g3 (fun q hq => hu q (by omega)) hZ
    have hs := gRow_s (g := g) (q0 := A + 1) (B := A + 2) (w := 3) (i := i) (by omega)
    have ha : gRow g (A + 1) (A + 2) 3 i A 0 = A + 1 := by unfold gRow; rw [if_neg (by omega), if_neg (by omega), hA]
    have e := ih (i + 1) (c + 3) (s + 26) (by omega)
    rw [show A + 2 + 3 * (i + 1) = A + 2 + 3 * i + 3 from by omega, show c + 3 + 3 * d = c + 3 * (d + 1) from by omega, show s + 26 + 26 * d = s + 26 * (d + 1) from by omega] at e
    refine Eq.trans ?_ e
    have ex : ¬ (i : Int) ≥ 30 := by omega
    have z1 : (i : Int) + 1 = ((i + 1 : Nat) : Int) := by omega
    have tn : ((i : Int)).toNat = i := by omega
    have i0 : 0 ≤ (i : Int) := by omega
    have i30 : (i : Int) < ((30 : Nat) : Int) := by omega
    rw [B_X0_init_15]
    simp (disch := first | assumption | omega | exact hu _ (by omega) | exact hg _ (by omega) | (simp (disch := omega) only [upm_rf]; exact hg _ (by omega))) only [B_X0_init_29, B_X0_init_33, Option.bind_some, back_v, Option.toList_some, Option.toList_none, List.cons_append, List.nil_append, Nat.reduceAdd, Int.reduceToNat, Int.reduceNeg, upm_eq, upm_r, upm_i, if_pos, if_neg, ite_self, true_or, or_true, true_and, and_true, false_or, or_false, false_and, and_false, wr_id, i10, i01, upr_f, upr_eq, thr58, upm_upr, upr_upr, lc_lt, lc_gt, lc_ge, lc_le, afit1, afit0, afitI, bifit, not_true_eq_false, not_false_eq_true, if_true, if_false, Bool.false_eq_true, reduceCtorEq, k1557, k1558, g1557_2, kP_at, kA, kB, k1, hn, h1, ha, ex, hs, z1, tn]
theorem I_air {A : Nat} (kA : K0 L A = (1, 0)) (kB : K0 L (A + 1) = (36, 30)) (kS : ∀ p, p < 30 → K0 L (A + 2 + 3 * p) = (7, 0) ∧ K0 L (A + 2 + 3 * p + 1) = (20, 6) ∧ K0 L (A + 2 + 3 * p + 2) = (20, 12)) (gS : ∀ p, p < 30 → (∀ j, G a0 (A + 2 + 3 * p) j = if j = 6 then A + 2 + 3 * p + 1 else if j = 7 then A + 2 + 3 * p + 2 else 0) ∧ (∀ j, G a0 (A + 2 + 3 * p + 1) j = 0) ∧ ∀ j, G a0 (A + 2 + 3 * p + 2) j = 0) (g0 : ∀ j, G a0 A j = if j = 0 then A + 1 else 0) (g1 : ∀ j, G a0 (A + 1) j = if j < 30 then A + 2 + 3 * j else 0) (hu : ∀ q, A ≤ q → u q = fun _ => 0) (hg : ∀ q, A ≤ q → g q = fun _ => 0) : a_m 0 [a_r A] (kP L (A + 1), u, g, (A + 1, c, s)) = some (.inl none, (kP L (A + 92), u, gQ g A 92, (A + 92, c + 91, s + 810))) := by
  have e : gQ g A 92 = gRow (upm g A 0 (A + 1)) (A + 1) (A + 2) 3 30 := by
    funext q j
    unfold gQ gRow upm
    by_cases h : A ≤ q ∧ q < A + 92
    · rw [if_pos h]
      have hz : g q j = 0 := by rw [hg q h.1]
      rw [hz]
      by_cases h1 : q = A + 1
      · rw [if_pos h1, h1, g1]
      · rw [if_neg h1]
        by_cases h2 : q = A
        · rw [if_neg (by omega), h2, g0]
          by_cases hj : j = 0
          · rw [if_pos hj, if_pos ⟨rfl, hj⟩]
          · rw [if_neg hj, if_neg (fun z => hj z.2)]
        · rw [if_pos (by omega)]
    · rw [if_neg h, if_neg (by omega), if_neg (by omega), if_neg (by omega)]
  rw [e]
  have hl := I_air_loop (u := u) (g := upm g A 0 (A + 1)) kA kB kS gS upm_eq hu (fun q hq => by rw [upm_rf (by omega)]; exact hg q (by omega)) 30 0 (c + 1) (s + 30) (by decide)
  rw [gRow_0 (by rw [upm_rf (by omega)]; exact hg _ (by omega)), Nat.mul_zero, Nat.add_zero, Int.natCast_zero, show c + 1 + 3 * 30 = c + 91 from by omega, show s + 30 + 26 * 30 = s + 810 from by omega] at hl
  have hn := new_at (c := c) (s := s) (sl := 30) kB (hu (A + 1) (by omega)) (hg _ (by omega))
  rw [show A + 1 + 1 = A + 2 from rfl] at hn
  rw [← hl]
  simp (disch := first | assumption | omega | exact hu _ (by omega) | exact hg _ (by omega) | (simp (disch := omega) only [upm_rf]; exact hg _ (by omega))) only [E_X0_init, B_X0_init_0, B_X0_init_10, Option.bind_some, back_v, Option.toList_some, Option.toList_none, List.cons_append, List.nil_append, Nat.reduceAdd, Int.reduceToNat, Int.reduceNeg, upm_eq, upm_r, upm_i, if_pos, if_neg, ite_self, true_or, or_true, true_and, and_true, false_or, or_false, false_and, and_false, wr_id, i10, i01, upr_f, upr_eq, thr58, upm_upr, upr_upr, lc_lt, lc_gt, lc_ge, lc_le, afit1, afit0, afitI, bifit, not_true_eq_false, not_false_eq_true, if_true, if_false, Bool.false_eq_true, reduceCtorEq, k1557, k1558, g1557_2, kP_at, kA, hn]
/-! a radio -/
theorem G0_ta (R j : Nat) (hR : isRad R) : G a0 (R + 1) j = if j < 7 then R + 1 + 1 + j else 0 := by rw [G_rad hR (by decide)]; simp only [GR]; rfl
theorem G0_z {R q : Nat} (hR : isRad R) (j : Nat) (h : R + 1 < q ∧ q < R + 10) : G a0 q j = 0 := by
  obtain ⟨x, rfl⟩ : ∃ x, q = R + x := ⟨q - R, by omega⟩
  rw [G_rad hR (by omega)]
  have hx : x = 2 ∨ x = 3 ∨ x = 4 ∨ x = 5 ∨ x = 6 ∨ x = 7 ∨ x = 8 ∨ x = 9 := by omega
  rcases hx with rfl | rfl | rfl | rfl | rfl | rfl | rfl | rfl <;> simp [GR]
theorem G0_R {R : Nat} (hR : isRad R) (j : Nat) : G a0 R j = if j = 0 then R + 1 else if j = 1 then R + 9 else if j = 2 then R + 10 else if j = 3 then R + 102 else 0 := by
  have := G_rad (a := a0) (c := 0) (j := j) hR (by decide)
  rw [Nat.add_zero] at this
  rw [this]; rfl
theorem G0_sz {R x j : Nat} (hR : isRad R) (h1 : 12 ≤ x) (h2 : x < 102) (h3 : (x - 12) % 3 ≠ 0) : G a0 (R + x) j = 0 := by
  rw [G_rad hR (by omega), GR]
  simp only [show ¬ x = 0 from by omega, show ¬ x = 1 from by omega, show ¬ x = 10 from by omega, show ¬ x = 11 from by omega, h2, h3, and_false, if_true, if_false]
theorem G0_lz {R x j : Nat} (hR : isRad R) (h1 : 103 ≤ x) (h2 : x < 127) (h3 : (x - 103) % 4 ≠ 0) : G a0 (R + x) j = 0 := by
  rw [G_rad hR (by omega), GR]
  simp only [show ¬ x = 0 from by omega, show ¬ x = 1 from by omega, show ¬ x = 10 from by omega, show ¬ x = 11 from by omega, show ¬ x < 102 from by omega, show ¬ x = 102 from by omega, h3, if_false]
theorem G0_11 {R : Nat} (hR : isRad R) (j : Nat) : G a0 (R + 11) j = if j < 30 then R + 12 + 3 * j else 0 := by
  rw [G_rad hR (by decide)]; rfl
theorem G0_102 {R : Nat} (hR : isRad R) (j : Nat) : G a0 (R + 102) j = if j < 6 then R + 103 + 4 * j else 0 := by
  rw [G_rad hR (by decide)]; simp [GR]
theorem I_rad_loop {R : Nat} (hR : isRad R) (hA : g R 3 = R + 102) (hu : ∀ q, R < q → u q = fun _ => 0) (hg : ∀ q, R + 102 ≤ q → g q = fun _ => 0) : ∀ (d i c s : Nat), i + d = 6 → a_X 28 45 [a_r R, a_i (i : Int)] [] (kP L (R + 103 + 4 * i), u, gRow g (R + 102) (R + 103) 4 i, (R + 103 + 4 * i, c, s)) = some (.inl none, (kP L (R + 127), u, gRow g (R + 102) (R + 103) 4 6, (R + 127, c + 4 * d, s + 30 * d))) := by
  have kR := kR0 (L := L) hR
  have kB := kR102 (L := L) hR
  intro d
  induction d with
  | zero =>
    intro i c s hi
    have hi : i = 6 := by omega
    subst hi
    have ex : ((6 : Nat) : Int) ≥ 6 := by decide
    rw [show R + 103 + 4 * 6 = R + 127 from by omega, B_X4_init_45, if_pos ex]
    rfl
  | succ d ih =>
    intro i c s hi
    have hi6 : i < 6 := by omega
    have hZ : ∀ q, R + 103 + 4 * i ≤ q → gRow g (R + 102) (R + 103) 4 i q = fun _ => 0 := gRow_Z (fun q hq => hg q (by omega)) (by omega) (by omega)
    have k1 := kRl0 (L := L) hR hi6
    have k2 : K0 L (R + 103 + 4 * i + 1) = (20, 4) := by rw [show R + 103 + 4 * i + 1 = R + 104 + 4 * i from by omega]; exact kRl1 hR hi6
    have k3 : K0 L (R + 103 + 4 * i + 2) = (20, 4) := by rw [show R + 103 + 4 * i + 2 = R + 105 + 4 * i from by omega]; exact kRl2 hR hi6
    have k4 : K0 L (R + 103 + 4 * i + 3) = (20, 12) := by rw [show R + 103 + 4 * i + 3 = R + 106 + 4 * i from by omega]; exact kRl3 hR hi6
    have g1 : ∀ j, G a0 (R + 103 + 4 * i) j = if j = 2 then R + 103 + 4 * i + 1 else if j = 3 then R + 103 + 4 * i + 2 else if j = 4 then R + 103 + 4 * i + 3 else 0 := fun j => by
      rw [Nat.add_assoc, gRl_a hR (by omega) (by omega) (by omega)]
    have g2 : ∀ j, G a0 (R + 103 + 4 * i + 1) j = 0 := fun j => by rw [show R + 103 + 4 * i + 1 = R + (104 + 4 * i) from by omega]; exact G0_lz hR (by omega) (by omega) (by omega)
    have g3 : ∀ j, G a0 (R + 103 + 4 * i + 2) j = 0 := fun j => by rw [show R + 103 + 4 * i + 2 = R + (105 + 4 * i) from by omega]; exact G0_lz hR (by omega) (by omega) (by omega)
    have g4 : ∀ j, G a0 (R + 103 + 4 * i + 3) j = 0 := fun j => by rw [show R + 103 + 4 * i + 3 = R + (106 + 4 * i) from by omega]; exact G0_lz hR (by omega) (by omega) (by omega)
    have hn := new_at (c := c) (s := s) (sl := 10) k1 (hu (R + 103 + 4 * i) (by omega)) (hZ _ (Nat.le_refl _))
    have h1 : a_m 14 [a_r (R + 103 + 4 * i)] (kP L (R + 103 + 4 * i + 1), u, gRow g (R + 102) (R + 103) 4 i, (R + 103 + 4 * i + 1, c + 1, s + 10)) = some (.inl none, (kP L (R + 103 + 4 * i + 4), u, gQ (gRow g (R + 102) (R + 103) 4 i) (R + 103 + 4 * i) 4, (R + 103 + 4 * i + 4, c + 4, s + 30))) := I_lis k1 k2 k3 k4 g1 g2 g3 g4 (fun q hq => hu q (by omega)) hZ
    have hs := gRow_s (g := g) (q0 := R + 102) (B := R + 103) (w := 4) (i := i) (by omega)
    have ha : gRow g (R + 102) (R + 103) 4 i R 3 = R + 102 := by unfold gRow; rw [if_neg (by omega), if_neg (by omega), hA]
    have e := ih (i + 1) (c + 4) (s + 30) (by omega)
    rw [show R + 103 + 4 * (i + 1) = R + 103 + 4 * i + 4 from by omega, show c + 4 + 4 * d = c + 4 * (d + 1) from by omega, show s + 30 + 30 * d = s + 30 * (d + 1) from by omega] at e
    refine Eq.trans ?_ e
    have ex : ¬ (i : Int) ≥ 6 := by omega
    have z1 : (i : Int) + 1 = ((i + 1 : Nat) : Int) := by omega
    have tn : ((i : Int)).toNat = i := by omega
    have i0 : 0 ≤ (i : Int) := by omega
    have i30 : (i : Int) < ((6 : Nat) : Int) := by omega
    rw [B_X4_init_45]
    simp (disch := first | assumption | omega | exact hu _ (by omega) | exact hg _ (by omega) | (simp (disch := omega) only [upm_rf]; exact hg _ (by omega))) only [B_X4_init_59, B_X4_init_63, Option.bind_some, back_v, Option.toList_some, Option.toList_none, List.cons_append, List.nil_append, Nat.reduceAdd, Int.reduceToNat, Int.reduceNeg, upm_eq, upm_r, upm_i, if_pos, if_neg, ite_self, true_or, or_true, true_and, and_true, false_or, or_false, false_and, and_false, wr_id, i10, i01, upr_f, upr_eq, thr58, upm_upr, upr_upr, lc_lt, lc_gt, lc_ge, lc_le, afit1, afit0, afitI, bifit, not_true_eq_false, not_false_eq_true, if_true, if_false, Bool.false_eq_true, reduceCtorEq, k1557, k1558, g1557_2, kP_at, kR, kB, k1, hn, h1, ha, ex, hs, z1, tn]
theorem I_rad {R : Nat} (hR : isRad R) (hu : ∀ q, R < q → u q = fun _ => 0) (hg : ∀ q, R ≤ q → g q = fun _ => 0) : a_m 28 [a_r R] (kP L (R + 1), u, g, (R + 1, c, s)) = some (.inl none, (kP L (R + 127), u, gQ g R 127, (R + 127, c + 126, s + 1762))) := by
  have kk0 := kR0 (L := L) hR
  have kk1 := kR1 (L := L) hR
  have kk9 := kR9 (L := L) hR
  have kk10 := kR10 (L := L) hR
  have kk102 := kR102 (L := L) hR
  let g1 := gQ g (R + 1) 8
  let g2 := upm g1 R 0 (R + 1)
  let g3 := upm g2 R 1 (R + 9)
  let g4 := gQ g3 (R + 10) 92
  let g5 := upm g4 R 2 (R + 10)
  let g6 := upm g5 R 3 (R + 102)
  have z1 : ∀ q, R + 9 ≤ q → g1 q = fun _ => 0 := fun q hq => by show gQ g (R + 1) 8 q = _; rw [gQ_out (by omega)]; exact hg q (by omega)
  have z3 : ∀ q, R + 9 ≤ q → g3 q = fun _ => 0 := fun q hq => by show upm (upm g1 R 0 (R + 1)) R 1 (R + 9) q = _; rw [upm_rf (by omega), upm_rf (by omega)]; exact z1 q hq
  have z2 : ∀ q, R + 9 ≤ q → g2 q = fun _ => 0 := fun q hq => by show upm g1 R 0 (R + 1) q = _; rw [upm_rf (by omega)]; exact z1 q hq
  have z4 : ∀ q, R + 102 ≤ q → g4 q = fun _ => 0 := fun q hq => by show gQ g3 (R + 10) 92 q = _; rw [gQ_out (by omega)]; exact z3 q (by omega)
  have z5 : ∀ q, R + 102 ≤ q → g5 q = fun _ => 0 := fun q hq => by show upm g4 R 2 (R + 10) q = _; rw [upm_rf (by omega)]; exact z4 q hq
  have z6 : ∀ q, R + 102 ≤ q → g6 q = fun _ => 0 := fun q hq => by show upm g5 R 3 (R + 102) q = _; rw [upm_rf (by omega)]; exact z5 q hq
  have e : gQ g R 127 = gRow g6 (R + 102) (R + 103) 4 6 := by
    funext q j
    by_cases h : R ≤ q ∧ q < R + 127
    · rw [gQ_in h]
      unfold gRow
      by_cases h1 : q = R + 102
      · rw [if_pos h1, h1, G0_102 hR]
      · rw [if_neg h1]
        by_cases h2 : R + 103 ≤ q ∧ q < R + 103 + 4 * 6
        · rw [if_pos h2]
        · rw [if_neg h2]
          by_cases h3 : q = R
          · rw [h3, G0_R hR]
            show _ = upm (upm g4 R 2 (R + 10)) R 3 (R + 102) R j
            have g40 : ∀ j, g4 R j = upm (upm g1 R 0 (R + 1)) R 1 (R + 9) R j := fun j => by show gQ g3 (R + 10) 92 R j = _; rw [gQ_out (by omega)]
            have g10 : ∀ j, g1 R j = 0 := fun j => by show gQ g (R + 1) 8 R j = 0; rw [gQ_out (by omega), hg R (Nat.le_refl _)]
            by_cases j3 : j = 3
            · subst j3; rw [upm_eq]; rfl
            rw [upm_i j3]
            by_cases j2 : j = 2
            · subst j2; rw [upm_eq]; rfl
            rw [upm_i j2, g40]
            by_cases j1 : j = 1
            · subst j1; rw [upm_eq]; rfl
            rw [upm_i j1]
            by_cases j0 : j = 0
            · subst j0; rw [upm_eq]; rfl
            rw [upm_i j0, g10, if_neg j0, if_neg j1, if_neg j2, if_neg j3]
          · show _ = upm (upm g4 R 2 (R + 10)) R 3 (R + 102) q j
            rw [upm_rf h3, upm_rf h3]
            show _ = gQ g3 (R + 10) 92 q j
            by_cases h4 : R + 10 ≤ q
            · rw [gQ_in (by omega)]
            · rw [gQ_out (by omega)]
              show _ = upm (upm g1 R 0 (R + 1)) R 1 (R + 9) q j
              rw [upm_rf h3, upm_rf h3]
              show _ = gQ g (R + 1) 8 q j
              by_cases h5 : q = R + 9
              · rw [gQ_out (by omega), h5, hg (R + 9) (by omega)]
                exact G0_z hR j (by omega)
              · rw [gQ_in (by omega)]
    · have h3 : q ≠ R := by omega
      rw [gQ_out h]
      unfold gRow
      rw [if_neg (by omega), if_neg (by omega)]
      show _ = upm (upm g4 R 2 (R + 10)) R 3 (R + 102) q j
      rw [upm_rf h3, upm_rf h3]
      show _ = gQ g3 (R + 10) 92 q j
      rw [gQ_out (by omega)]
      show _ = upm (upm g1 R 0 (R + 1)) R 1 (R + 9) q j
      rw [upm_rf h3, upm_rf h3]
      show _ = gQ g (R + 1) 8 q j
      rw [gQ_out (by omega)]
  rw [e]
  have n1 := new_at (c := c) (s := s) (sl := 8) kk1 (hu (R + 1) (by omega)) (hg _ (by omega))
  rw [show R + 1 + 1 = R + 2 from rfl] at n1
  have t1 : a_m 78 [a_r (R + 1)] (kP L (R + 2), u, g, (R + 2, c + 1, s + 8)) = some (.inl none, (kP L (R + 9), u, g1, (R + 9, c + 8, s + 752))) := I_told (T := R + 1) kk1 (kR2 hR) (kR3 hR) (kR4 hR) (kR5 hR) (kR6 hR) (kR7 hR) (kR8 hR) (fun j => G0_ta R j hR) (fun q j q1 q2 => G0_z hR j (by omega)) (fun q hq => hu q (by omega)) (fun q hq => hg q (by omega))
  have n2 := new_at (c := c + 8) (s := s + 752) (sl := 12) kk9 (hu (R + 9) (by omega)) (z2 _ (by omega))
  rw [show R + 9 + 1 = R + 10 from rfl] at n2
  have n3 := new_at (c := c + 8 + 1) (s := s + 752 + 12) (sl := 2) kk10 (hu (R + 10) (by omega)) (z3 _ (by omega))
  rw [show R + 10 + 1 = R + 11 from rfl] at n3
  have t2 : a_m 0 [a_r (R + 10)] (kP L (R + 11), u, g3, (R + 11, c + 8 + 1 + 1, s + 752 + 12 + 2)) = some (.inl none, (kP L (R + 102), u, g4, (R + 102, c + 101, s + 1576))) := I_air (A := R + 10) kk10 (kR11 hR) (fun p hp => ⟨kRs0 hR hp, by rw [show R + 10 + 2 + 3 * p + 1 = R + 13 + 3 * p from by omega]; exact kRs1 hR hp, by rw [show R + 10 + 2 + 3 * p + 2 = R + 14 + 3 * p from by omega]; exact kRs2 hR hp⟩) (fun p hp => ⟨fun j => by
      rw [show R + 10 + 2 + 3 * p = R + (12 + 3 * p) from by omega, gRs_a hR (by omega) (by omega) (by omega)], fun j => by rw [show R + 10 + 2 + 3 * p + 1 = R + (13 + 3 * p) from by omega]; exact G0_sz hR (by omega) (by omega) (by omega), fun j => by rw [show R + 10 + 2 + 3 * p + 2 = R + (14 + 3 * p) from by omega]; exact G0_sz hR (by omega) (by omega) (by omega)⟩) (fun j => by rw [G_rad hR (by decide)]; rfl) (fun j => G0_11 hR j) (fun q hq => hu q (by omega)) (fun q hq => z3 q (by omega))
  have n4 := new_at (c := c + 101) (s := s + 1576) (sl := 6) kk102 (hu (R + 102) (by omega)) (z5 _ (by omega))
  rw [show R + 102 + 1 = R + 103 from rfl] at n4
  have hl := I_rad_loop (L := L) (u := u) (g := g6) hR upm_eq hu z6 6 0 (c + 101 + 1) (s + 1576 + 6) (by decide)
  rw [gRow_0 (z6 _ (by omega)), Nat.mul_zero, Nat.add_zero, Int.natCast_zero, show c + 101 + 1 + 4 * 6 = c + 126 from by omega, show s + 1576 + 6 + 30 * 6 = s + 1762 from by omega] at hl
  simp only [g2] at n2
  simp only [g3, g2] at n3 t2
  simp only [g5] at n4
  simp only [g6, g5] at hl ⊢
  rw [← hl]
  simp (disch := first | assumption | omega) only [E_X4_init, B_X4_init_0, B_X4_init_8, B_X4_init_12, B_X4_init_20, B_X4_init_27, B_X4_init_31, B_X4_init_40, Option.bind_some, back_v, Option.toList_some, Option.toList_none, List.cons_append, List.nil_append, Nat.reduceAdd, Int.reduceToNat, Int.reduceNeg, upm_eq, upm_r, upm_i, if_pos, if_neg, ite_self, true_or, or_true, true_and, and_true, false_or, or_false, false_and, and_false, wr_id, i10, i01, upr_f, upr_eq, thr58, upm_upr, upr_upr, lc_lt, lc_gt, lc_ge, lc_le, afit1, afit0, afitI, bifit, not_true_eq_false, not_false_eq_true, if_true, if_false, Bool.false_eq_true, reduceCtorEq, k1557, k1558, g1557_2, kP_at, kk0, kk1, kk10, n1, t1, n2, n3, t2, n4]
end INJ
