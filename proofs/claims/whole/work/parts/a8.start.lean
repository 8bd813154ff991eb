/-! ===== the class's constructor, the law up to its loop, the whole run ===== -/
section STA
variable {L : Nat} {u : Nat → Nat → Int} {g : Nat → Nat → Nat} {c s : Nat}
theorem I_app (hu : ∀ q, 18 ≤ q → u q = fun _ => 0) (hg : ∀ q, 18 ≤ q → g q = fun _ => 0) : a_m 90 [a_r 18] (kP L 19, u, g, (19, c, s)) = some (.inl none, (kP L 1557, upm u 19 3 (-1), gQ g 18 1539, (1557, c + 1538, s + 22103))) := by
  let h1 := gQ g 19 2
  let h2 := upm h1 18 0 19
  let h3 := gQ h2 21 127
  let h4 := upm h3 18 1 21
  let h5 := gQ h4 148 127
  let h6 := upm h5 18 2 148
  let h7 := gQ h6 275 1018
  let h8 := upm h7 18 3 275
  let h9 := upm h8 18 4 1293
  let h10 := upm h9 18 5 1294
  let h11 := gQ h10 1295 6
  let h12 := upm h11 18 6 1295
  let h13 := gQ h12 1301 2
  let h14 := upm h13 18 7 1301
  have u1 : ∀ q, 20 ≤ q → upm u 19 3 (-1) q = fun _ => 0 := fun q hq => by rw [upm_rf (by omega)]; exact hu q (by omega)
  have z1 : ∀ q, 21 ≤ q → h1 q = fun _ => 0 := gQ_Z (fun q hq => hg q (by omega)) (by decide)
  have z2 : ∀ q, 21 ≤ q → h2 q = fun _ => 0 := upm_Z z1 (by decide)
  have z3 : ∀ q, 148 ≤ q → h3 q = fun _ => 0 := gQ_Z (fun q hq => z2 q (by omega)) (by decide)
  have z4 : ∀ q, 148 ≤ q → h4 q = fun _ => 0 := upm_Z z3 (by decide)
  have z5 : ∀ q, 275 ≤ q → h5 q = fun _ => 0 := gQ_Z (fun q hq => z4 q (by omega)) (by decide)
  have z6 : ∀ q, 275 ≤ q → h6 q = fun _ => 0 := upm_Z z5 (by decide)
  have z7 : ∀ q, 1293 ≤ q → h7 q = fun _ => 0 := gQ_Z (fun q hq => z6 q (by omega)) (by decide)
  have z8 : ∀ q, 1293 ≤ q → h8 q = fun _ => 0 := upm_Z z7 (by decide)
  have z9 : ∀ q, 1293 ≤ q → h9 q = fun _ => 0 := upm_Z z8 (by decide)
  have z10 : ∀ q, 1293 ≤ q → h10 q = fun _ => 0 := upm_Z z9 (by decide)
  have z11 : ∀ q, 1301 ≤ q → h11 q = fun _ => 0 := gQ_Z (fun q hq => z10 q (by omega)) (by decide)
  have z12 : ∀ q, 1301 ≤ q → h12 q = fun _ => 0 := upm_Z z11 (by decide)
  have z13 : ∀ q, 1303 ≤ q → h13 q = fun _ => 0 := gQ_Z (fun q hq => z12 q (by omega)) (by decide)
  have z14 : ∀ q, 1303 ≤ q → h14 q = fun _ => 0 := upm_Z z13 (by decide)
  have hx : ∀ q j, q ≠ 18 → h14 q j = gQ (gQ (gQ (gQ (gQ (gQ g 19 2) 21 127) 148 127) 275 1018) 1295 6) 1301 2 q j := fun q j hq => by
    simp only [h14, h13, h12, h11, h10, h9, h8, h7, h6, h5, h4, h3, h2, h1, gQ, upm, hq, false_and, if_false]
  have h93 : h14 1293 = fun _ => 0 := by
    funext j
    rw [hx 1293 j (by decide), gQ_out (by decide), gQ_out (by decide), gQ_out (by decide), gQ_out (by decide), gQ_out (by decide), gQ_out (by decide), hg 1293 (by decide)]
  have h18 : ∀ j, h14 18 j = if j = 7 then 1301 else if j = 6 then 1295 else if j = 5 then 1294 else if j = 4 then 1293 else if j = 3 then 275 else if j = 2 then 148 else if j = 1 then 21 else if j = 0 then 19 else 0 := fun j => by
    simp [h14, h13, h12, h11, h10, h9, h8, h7, h6, h5, h4, h3, h2, h1, gQ, upm, hg 18 (Nat.le_refl _)]
  have e : gQ g 18 1539 = gRow h14 1293 1303 127 2 := by
    funext q j
    by_cases h : 18 ≤ q ∧ q < 18 + 1539
    · rw [gQ_in h]
      unfold gRow
      by_cases c1 : q = 1293
      · rw [if_pos c1, c1]
        by_cases hj : j < 2
        · rw [if_pos hj]; exact g1293 hj
        · rw [if_neg hj]; simp [G, inR, G1, hj]
      · rw [if_neg c1]
        by_cases c2 : 1303 ≤ q ∧ q < 1303 + 127 * 2
        · rw [if_pos c2]
        · rw [if_neg c2]
          by_cases c3 : q = 18
          · rw [c3, h18]
            have hj : j = 0 ∨ j = 1 ∨ j = 2 ∨ j = 3 ∨ j = 4 ∨ j = 5 ∨ j = 6 ∨ j = 7 ∨ 8 ≤ j := by omega
            rcases hj with rfl | rfl | rfl | rfl | rfl | rfl | rfl | rfl | hj
            · rfl
            · rfl
            · rfl
            · rfl
            · rfl
            · rfl
            · rfl
            · rfl
            · rw [if_neg (by omega), if_neg (by omega), if_neg (by omega), if_neg (by omega), if_neg (by omega), if_neg (by omega), if_neg (by omega), if_neg (by omega)]
              simp [G, inR, G1, show ¬ j = 0 from by omega, show ¬ j = 1 from by omega, show ¬ j = 2 from by omega, show ¬ j = 3 from by omega, show ¬ j = 4 from by omega, show ¬ j = 5 from by omega, show ¬ j = 6 from by omega, show ¬ j = 7 from by omega]
          · rw [hx q j c3]
            by_cases c4 : 1301 ≤ q ∧ q < 1301 + 2
            · rw [gQ_in c4]
            rw [gQ_out c4]
            by_cases c5 : 1295 ≤ q ∧ q < 1295 + 6
            · rw [gQ_in c5]
            rw [gQ_out c5]
            by_cases c6 : 275 ≤ q ∧ q < 275 + 1018
            · rw [gQ_in c6]
            rw [gQ_out c6]
            by_cases c7 : 148 ≤ q ∧ q < 148 + 127
            · rw [gQ_in c7]
            rw [gQ_out c7]
            by_cases c8 : 21 ≤ q ∧ q < 21 + 127
            · rw [gQ_in c8]
            rw [gQ_out c8]
            by_cases c9 : 19 ≤ q ∧ q < 19 + 2
            · rw [gQ_in c9]
            have c10 : q = 1294 := by omega
            rw [gQ_out c9, c10, hg 1294 (by omega)]
            simp [G, inR, G1]
    · rw [gQ_out h]
      unfold gRow
      rw [if_neg (by omega), if_neg (by omega), hx q j (by omega), gQ_out (by omega), gQ_out (by omega), gQ_out (by omega), gQ_out (by omega), gQ_out (by omega), gQ_out (by omega)]
  rw [e]
  have kk18 : K0 L 18 = (10, 0) := rfl
  have kk19 : K0 L 19 = (6, 0) := rfl
  have kk21 : K0 L 21 = (5, 0) := rfl
  have kk148 : K0 L 148 = (5, 0) := rfl
  have kk275 : K0 L 275 = (2, 0) := rfl
  have kk1293 : K0 L 1293 = (34, 2) := rfl
  have kk1294 : K0 L 1294 = (21, 2) := rfl
  have kk1295 : K0 L 1295 = (4, 0) := rfl
  have kk1301 : K0 L 1301 = (8, 0) := rfl
  have n1 : a_new (kP L 19, u, g, (19, c, s)) 6 0 11 = (kP L 20, u, g, (20, c + 1, s + 11)) := new_at kk19 (hu 19 (by decide)) (hg 19 (by decide))
  have t1 : a_m 52 [a_r 19] (kP L 20, u, g, (20, c + 1, s + 11)) = some (.inl none, (kP L 21, upm u 19 3 (-1), h1, (21, c + 2, s + 511))) := I_rdr (fun q hq => hu q (by omega)) (fun q hq => hg q (by omega))
  have n2 : a_new (kP L 21, upm u 19 3 (-1), h2, (21, c + 2, s + 511)) 5 0 9 = (kP L 22, upm u 19 3 (-1), h2, (22, c + 3, s + 520)) := new_at kk21 (u1 21 (by decide)) (z2 21 (by decide))
  have t2 : a_m 28 [a_r 21] (kP L 22, upm u 19 3 (-1), h2, (22, c + 3, s + 520)) = some (.inl none, (kP L 148, upm u 19 3 (-1), h3, (148, c + 129, s + 2282))) := I_rad r21 (fun q hq => u1 q (by omega)) (fun q hq => z2 q (by omega))
  have n3 : a_new (kP L 148, upm u 19 3 (-1), h4, (148, c + 129, s + 2282)) 5 0 9 = (kP L 149, upm u 19 3 (-1), h4, (149, c + 130, s + 2291)) := new_at kk148 (u1 148 (by decide)) (z4 148 (by decide))
  have t3 : a_m 28 [a_r 148] (kP L 149, upm u 19 3 (-1), h4, (149, c + 130, s + 2291)) = some (.inl none, (kP L 275, upm u 19 3 (-1), h5, (275, c + 256, s + 4053))) := I_rad r148 (fun q hq => u1 q (by omega)) (fun q hq => z4 q (by omega))
  have n4 : a_new (kP L 275, upm u 19 3 (-1), h6, (275, c + 256, s + 4053)) 2 0 3 = (kP L 276, upm u 19 3 (-1), h6, (276, c + 257, s + 4056)) := new_at kk275 (u1 275 (by decide)) (z6 275 (by decide))
  have t4 : a_m 10 [a_r 275] (kP L 276, upm u 19 3 (-1), h6, (276, c + 257, s + 4056)) = some (.inl none, (kP L 1293, upm u 19 3 (-1), h7, (1293, c + 257 + 1017, s + 4056 + 14176))) := I_his (fun q hq => u1 q (by omega)) (fun q hq => z6 q (by omega))
  have n5 : a_new (kP L 1293, upm u 19 3 (-1), h8, (1293, c + 257 + 1017, s + 4056 + 14176)) 34 2 2 = (kP L 1294, upm u 19 3 (-1), h8, (1294, c + 257 + 1017 + 1, s + 4056 + 14176 + 2)) := new_at kk1293 (u1 1293 (by decide)) (z8 1293 (by decide))
  have n6 : a_new (kP L 1294, upm u 19 3 (-1), h9, (1294, c + 257 + 1017 + 1, s + 4056 + 14176 + 2)) 21 2 2 = (kP L 1295, upm u 19 3 (-1), h9, (1295, c + 257 + 1017 + 2, s + 4056 + 14176 + 4)) := new_at kk1294 (u1 1294 (by decide)) (z9 1294 (by decide))
  have n7 : a_new (kP L 1295, upm u 19 3 (-1), h10, (1295, c + 257 + 1017 + 2, s + 4056 + 14176 + 4)) 4 0 7 = (kP L 1296, upm u 19 3 (-1), h10, (1296, c + 257 + 1017 + 3, s + 4056 + 14176 + 11)) := new_at kk1295 (u1 1295 (by decide)) (z10 1295 (by decide))
  have t5 : a_m 22 [a_r 1295] (kP L 1296, upm u 19 3 (-1), h10, (1296, c + 257 + 1017 + 3, s + 4056 + 14176 + 11)) = some (.inl none, (kP L 1301, upm u 19 3 (-1), h11, (1301, c + 257 + 1017 + 8, s + 4056 + 14176 + 71))) := I_mrg (fun q hq => u1 q (by omega)) (fun q hq => z10 q (by omega))
  have n8 : a_new (kP L 1301, upm u 19 3 (-1), h12, (1301, c + 257 + 1017 + 8, s + 4056 + 14176 + 71)) 8 0 2 = (kP L 1302, upm u 19 3 (-1), h12, (1302, c + 257 + 1017 + 9, s + 4056 + 14176 + 73)) := new_at kk1301 (u1 1301 (by decide)) (z12 1301 (by decide))
  have t6 : a_m 73 [a_r 1301] (kP L 1302, upm u 19 3 (-1), h12, (1302, c + 257 + 1017 + 9, s + 4056 + 14176 + 73)) = some (.inl none, (kP L 1303, upm u 19 3 (-1), h13, (1303, c + 257 + 1017 + 10, s + 4056 + 14176 + 329))) := I_txt (fun q hq => u1 q (by omega)) (fun q hq => z12 q (by omega))
  have hl := I_sav_loop (L := L) (u := upm u 19 3 (-1)) (g := h14) (by rw [h18]; rfl) h93 (fun q hq => u1 q (by omega)) z14 2 0 (c + 257 + 1017 + 10) (s + 4056 + 14176 + 329) (by decide)
  rw [gRow_0 h93, Nat.mul_zero, Nat.add_zero, Int.natCast_zero, show c + 257 + 1017 + 10 + 127 * 2 = c + 1538 from by omega, show s + 4056 + 14176 + 329 + 1771 * 2 = s + 22103 from by omega] at hl
  simp only [h2] at n2 t2
  simp only [h4] at n3 t3
  simp only [h6] at n4 t4
  simp only [h8] at n5
  simp only [h9, h8] at n6
  simp only [h10, h9, h8] at n7 t5
  simp only [h12] at n8 t6
  simp only [h14] at hl ⊢
  rw [← hl]
  simp (disch := first | assumption | omega) only [E_X10_init, B_X10_init_0, B_X10_init_8, B_X10_init_12, B_X10_init_19, B_X10_init_23, B_X10_init_30, B_X10_init_34, B_X10_init_41, B_X10_init_45, B_X10_init_53, B_X10_init_60, B_X10_init_67, B_X10_init_71, B_X10_init_78, B_X10_init_82, Option.bind_some, back_v, Option.toList_some, Option.toList_none, List.cons_append, List.nil_append, Nat.reduceAdd, Int.reduceToNat, Int.reduceNeg, upm_eq, upm_r, upm_i, if_pos, if_neg, ite_self, true_or, or_true, true_and, and_true, false_or, or_false, false_and, and_false, wr_id, i10, i01, upr_f, upr_eq, thr58, upm_upr, upr_upr, lc_lt, lc_gt, lc_ge, lc_le, afit1, afit0, afitI, bifit, not_true_eq_false, not_false_eq_true, if_true, if_false, Bool.false_eq_true, reduceCtorEq, k1557, k1558, g1557_2, kP_at, kk18, kk19, kk21, kk148, kk275, kk1295, kk1301, n1, t1, n2, t2, n3, t3, n4, t4, n5, n6, n7, t5, n8, t6]
def gS : Nat → Nat → Nat := fun q j => if q < 18 then G a0 q j else 0
theorem gS_Z : ∀ q, 18 ≤ q → gS q = fun _ => 0 := fun q hq => by funext j; exact if_neg (by omega)
theorem gS_all : gQ (gQ gS 18 1539) 1557 11 = G a0 := by
  funext q j
  by_cases h1 : 1557 ≤ q ∧ q < 1557 + 11
  · rw [gQ_in h1]
  rw [gQ_out h1]
  by_cases h2 : 18 ≤ q ∧ q < 18 + 1539
  · rw [gQ_in h2]
  rw [gQ_out h2]
  unfold gS
  by_cases h3 : q < 18
  · rw [if_pos h3]
  · rw [if_neg h3]
    have h4 : inR q = false := by
      simp only [inR, Bool.or_eq_false_iff, Bool.and_eq_false_iff, decide_eq_false_iff_not]
      omega
    rw [G, if_neg (by rw [h4]; decide), G1, if_neg (by omega), if_neg (by omega), if_neg (by omega), if_neg (by omega), if_neg (by omega), if_neg (by omega), if_neg (by omega), if_neg (by omega), if_neg (by omega)]
theorem I_law (hu : ∀ q, 18 ≤ q → u q = fun _ => 0) : a_m 350 [a_r 17] (kP L 18, u, gS, (18, 0, 0)) = a_X 350 28 [a_r 17, a_r 18, a_r 1557, a_r 1568, a_r 1569, a_i 0, a_x false, a_x false, a_x false] [] (K0 L, upm (upm u 19 3 (-1)) 1557 9 (-1), G a0, (1570, 1552, 65729)) := by
  have kk18 : K0 L 18 = (10, 0) := rfl
  have kk1557 : K0 L 1557 = (11, 0) := rfl
  have kk1568 : K0 L 1568 = (22, 1) := rfl
  have kk1569 : K0 L 1569 = (23, 1) := rfl
  have u1 : ∀ q, 20 ≤ q → upm u 19 3 (-1) q = fun _ => 0 := fun q hq => by rw [upm_rf (by omega)]; exact hu q (by omega)
  have u2 : ∀ q, 1558 ≤ q → upm (upm u 19 3 (-1)) 1557 9 (-1) q = fun _ => 0 := fun q hq => by rw [upm_rf (by omega)]; exact u1 q (by omega)
  have z1 : ∀ q, 1557 ≤ q → gQ gS 18 1539 q = fun _ => 0 := gQ_Z (fun q hq => gS_Z q (by omega)) (by decide)
  have z2 : ∀ q, 1568 ≤ q → gQ (gQ gS 18 1539) 1557 11 q = fun _ => 0 := gQ_Z (fun q hq => z1 q (by omega)) (by decide)
  have n1 : a_new (kP L 18, u, gS, (18, 0, 0)) 10 0 9 = (kP L 19, u, gS, (19, 1, 9)) := new_at kk18 (hu 18 (by decide)) (gS_Z 18 (by decide))
  have t1 : a_m 90 [a_r 18] (kP L 19, u, gS, (19, 1, 9)) = some (.inl none, (kP L 1557, upm u 19 3 (-1), gQ gS 18 1539, (1557, 1539, 22112))) := I_app hu gS_Z
  have n2 : a_new (kP L 1557, upm u 19 3 (-1), gQ gS 18 1539, (1557, 1539, 22112)) 11 0 25 = (kP L 1558, upm u 19 3 (-1), gQ gS 18 1539, (1558, 1540, 22137)) := new_at kk1557 (u1 1557 (by decide)) (z1 1557 (by decide))
  have t2 : a_m 153 [a_r 1557] (kP L 1558, upm u 19 3 (-1), gQ gS 18 1539, (1558, 1540, 22137)) = some (.inl none, (kP L 1568, upm (upm u 19 3 (-1)) 1557 9 (-1), gQ (gQ gS 18 1539) 1557 11, (1568, 1550, 65727))) := I_mod (fun q hq => u1 q (by omega)) z1
  have n3 : a_new (kP L 1568, upm (upm u 19 3 (-1)) 1557 9 (-1), gQ (gQ gS 18 1539) 1557 11, (1568, 1550, 65727)) 22 1 1 = (kP L 1569, upm (upm u 19 3 (-1)) 1557 9 (-1), gQ (gQ gS 18 1539) 1557 11, (1569, 1551, 65728)) := new_at kk1568 (u2 1568 (by decide)) (z2 1568 (by decide))
  have n4 : a_new (kP L 1569, upm (upm u 19 3 (-1)) 1557 9 (-1), gQ (gQ gS 18 1539) 1557 11, (1569, 1551, 65728)) 23 1 1 = (kP L 1570, upm (upm u 19 3 (-1)) 1557 9 (-1), gQ (gQ gS 18 1539) 1557 11, (1570, 1552, 65729)) := new_at kk1569 (u2 1569 (by decide)) (z2 1569 (by decide))
  rw [← kP_all, ← gS_all]
  simp (disch := first | assumption | omega) only [E_L_law, B_L_law_0, B_L_law_3, B_L_law_7, B_L_law_11, B_L_law_15, B_L_law_19, B_L_law_23, Option.bind_some, back_v, Option.toList_some, Option.toList_none, List.cons_append, List.nil_append, Nat.reduceAdd, Int.reduceToNat, Int.reduceNeg, upm_eq, upm_r, upm_i, if_pos, if_neg, ite_self, true_or, or_true, true_and, and_true, false_or, or_false, false_and, and_false, wr_id, i10, i01, upr_f, upr_eq, thr58, upm_upr, upr_upr, lc_lt, lc_gt, lc_ge, lc_le, afit1, afit0, afitI, bifit, not_true_eq_false, not_false_eq_true, if_true, if_false, Bool.false_eq_true, reduceCtorEq, k1557, k1558, g1557_2, kP_at, kk18, kk1557, n1, t1, n2, t2, n3, n4]
theorem XX_start (hu : ∀ q, 18 ≤ q → u q = fun _ => 0) (hs : strOK u) : XX 0 (upm (upm u 19 3 (-1)) 1557 9 (-1)) (upm (upm u 19 3 (-1)) 1557 9 (-1)) a0 := by
  have fz : ∀ q, 18 ≤ q → q ≠ 19 → q ≠ 1557 → upm (upm u 19 3 (-1)) 1557 9 (-1) q = fun _ => 0 := fun q q0 q1 q2 => by rw [upm_rf q2, upm_rf q1]; exact hu q q0
  have f19 : ∀ j, j ≠ 3 → upm (upm u 19 3 (-1)) 1557 9 (-1) 19 j = 0 := fun j hj => by rw [upm_rf (by decide), upm_i hj, hu 19 (by decide)]
  have f57 : ∀ j, j ≠ 9 → upm (upm u 19 3 (-1)) 1557 9 (-1) 1557 j = 0 := fun j hj => by rw [upm_i hj, upm_rf (by decide), hu 1557 (by decide)]
  have e19 : upm (upm u 19 3 (-1)) 1557 9 (-1) 19 3 = -1 := by rw [upm_rf (by decide), upm_eq]
  have e57 : upm (upm u 19 3 (-1)) 1557 9 (-1) 1557 9 = -1 := upm_eq
  have hS : strOK (upm (upm u 19 3 (-1)) 1557 9 (-1)) := strOK_congr (fun q q1 q2 => by rw [upm_rf (by omega), upm_rf (by omega)]) hs
  generalize upm (upm u 19 3 (-1)) 1557 9 (-1) = v at *
  have hid : okA (fun j => j) := ⟨fun p hp => hp, fun p q _ _ h => h⟩
  refine ⟨⟨?_, ?_, ?_, ?_, ?_, ?_, hS, hS⟩, ⟨?_, ?_, ?_⟩, ⟨?_, ?_, ?_, ?_⟩, ?_, ⟨?_, .inl ?_⟩, ?_, ?_, ⟨?_, ?_⟩, fun R _ => hid⟩
  · rw [f19 1 (by decide), f57 7 (by decide)]
  · rw [f19 1 (by decide)]; decide
  · rw [f19 2 (by decide), f57 8 (by decide)]
  · rw [e19, e57]
  · rw [fz 20 (by decide) (by decide) (by decide), fz 1561 (by decide) (by decide) (by decide)]
  · intro i; rw [fz 20 (by decide) (by decide) (by decide)]; exact (show (0 : Int) ≤ 0 ∧ (0 : Int) ≤ 255 by decide)
  · rw [fz 1301 (by decide) (by decide) (by decide), f57 24 (by decide)]
  · rw [fz 1301 (by decide) (by decide) (by decide)]; decide
  · intro i hi
    rw [fz 1301 (by decide) (by decide) (by decide)] at hi
    exact absurd (show (i : Int) < 0 from hi) (by omega)
  · rw [fz 275 (by decide) (by decide) (by decide), f57 4 (by decide)]
  · rw [f57 4 (by decide)]; decide
  · rw [fz 275 (by decide) (by decide) (by decide)]; decide
  · intro i hi
    rw [f57 4 (by decide)] at hi
    omega
  · intro x hx
    rw [fz 1294 (by decide) (by decide) (by decide), fz 1560 (by decide) (by decide) (by decide)]
    exact ⟨rfl, .inl rfl, fun h => absurd (show (0 : Int) = 1 from h) (by decide)⟩
  · rw [fz 18 (by decide) (by decide) (by decide), f57 1 (by decide)]
  · rw [fz 18 (by decide) (by decide) (by decide)]
  · intro h
    rw [fz 18 (by decide) (by decide) (by decide)] at h
    exact absurd h (by decide)
  · intro _
    rw [fz 1294 (by decide) (by decide) (by decide), f57 4 (by decide)]
    exact ⟨rfl, rfl, rfl⟩
  · intro j _; rw [fz 1558 (by decide) (by decide) (by decide)]
  · intro j _; rw [fz 1562 (by decide) (by decide) (by decide)]
theorem law_run (hL : L ≤ 3584) (hu : ∀ q, 18 ≤ q → u q = fun _ => 0) (hs : strOK u) (hi : ∀ j, i32 (u 17 j)) : ∃ (n : Nat) (σ1 : AS), a_run n 350 0 (a_entry 350 [a_r 17]) [] (kP L 18, u, gS, (18, 0, 0)) = some (.inl (some (a_i 1)), σ1) ∧ σ1.2.2.2.2.1 ≤ 601024 ∧ σ1.2.2.2.2.2 ≤ 7293034 := by
  obtain ⟨σ1, g1, g2, g3⟩ := law_loop hL (L / 7) 0 0 (upm (upm u 19 3 (-1)) 1557 9 (-1)) a0 (1570, 1552, 65729) (a_x false) (a_x false) (a_x false) (by decide) (by omega) (by omega) (by decide) (by decide) (XX_start hu hs) (fun j => by rw [upm_rf (by decide), upm_rf (by decide)]; exact hi j)
  have h := (I_law (L := L) hu).trans g1
  obtain ⟨n, hn⟩ := a_X_iff.mp h
  have g2' : σ1.2.2.2.2.1 ≤ 1552 + L / 7 := g2
  have g3' : σ1.2.2.2.2.2 ≤ 65729 + 6 * (L / 7) := g3
  exact ⟨n, σ1, hn, by omega, by omega⟩
end STA
