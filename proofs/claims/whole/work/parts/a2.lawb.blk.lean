/-! block equations, by wip/whole/gen_blocks.py -/
theorem E_L_law {σ : AS} {r0 : Nat} : a_m 350 [a_r (r0)] σ = a_X 350 0 [a_r (r0), a_x false, a_x false, a_x false, a_x false, a_x false, a_x false, a_x false, a_x false] [] σ := a_m_eq (by rw [a_entry, show m_maxL 350 = 9 from by decide +kernel]; rfl)
theorem B_L_law_0 {k : Nat → Nat × Nat} {u : Nat → Nat → Int} {g : Nat → Nat → Nat} {t : Nat × Nat × Nat} {r0 : Nat} {v1 : AV} {v2 : AV} {v3 : AV} {v4 : AV} {v5 : AV} {v6 : AV} {v7 : AV} {v8 : AV} : a_X 350 0 [a_r (r0), v1, v2, v3, v4, v5, v6, v7, v8] [] (k, u, g, t) = a_X 350 3 [a_r (r0), v1, v2, v3, v4, v5, v6, v7, v8] [a_r (t.1)] (a_new (k, u, g, t) 10 0 9) := by
  refine (X_new (m := 350) (pc := 0) (n := 8) (c := 9) (by decide +kernel) (by decide +kernel)).trans ?_
  rfl
theorem B_L_law_3 {k : Nat → Nat × Nat} {u : Nat → Nat → Int} {g : Nat → Nat → Nat} {t : Nat × Nat × Nat} {r0 : Nat} {v1 : AV} {v2 : AV} {v3 : AV} {v4 : AV} {v5 : AV} {v6 : AV} {v7 : AV} {v8 : AV} {q0 : Nat} : a_X 350 3 [a_r (r0), v1, v2, v3, v4, v5, v6, v7, v8] [a_r (q0)] (k, u, g, t) = if (k q0).1 = 10 then (a_m 90 [a_r (q0)] (k, u, g, t)).bind (a_back 350 4 3 [a_r (r0), v1, v2, v3, v4, v5, v6, v7, v8] [a_r (q0)]) else none := by
  refine (X_dup (m := 350) (pc := 3)  (by decide +kernel) rfl rfl).trans ?_
  refine (X_call_sp (m := 350) (pc := 4) (q := 168) (y := 90) (n := 1) (as := [a_r (q0)]) (rest := [a_r (q0)]) (by decide +kernel) (by decide +kernel) (by decide +kernel) (by decide +kernel) rfl rfl (Nat.le_of_ble_eq_true rfl) (Nat.le_of_ble_eq_true rfl) rfl (by rw [show m_maxL 90 = 2 from by decide +kernel]; exact Nat.le_of_ble_eq_true rfl)).trans ?_
  exact ite_congr (by simp [a_rcv, show m_recv 90 = 10 from by decide +kernel]) (fun _ => rfl) (fun _ => rfl)
theorem B_L_law_7 {k : Nat → Nat × Nat} {u : Nat → Nat → Int} {g : Nat → Nat → Nat} {t : Nat × Nat × Nat} {r0 : Nat} {v1 : AV} {v2 : AV} {v3 : AV} {v4 : AV} {v5 : AV} {v6 : AV} {v7 : AV} {v8 : AV} {q0 : Nat} : a_X 350 7 [a_r (r0), v1, v2, v3, v4, v5, v6, v7, v8] [a_r (q0)] (k, u, g, t) = a_X 350 11 [a_r (r0), a_r (q0), v2, v3, v4, v5, v6, v7, v8] [a_r (t.1)] (a_new (k, u, g, t) 11 0 25) := by
  refine (X_astore_n (m := 350) (pc := 7) (n := 1) (by decide +kernel) rfl (Nat.le_of_ble_eq_true rfl) rfl).trans ?_
  refine (X_new (m := 350) (pc := 8) (n := 169) (c := 10) (by decide +kernel) (by decide +kernel)).trans ?_
  rfl
theorem B_L_law_11 {k : Nat → Nat × Nat} {u : Nat → Nat → Int} {g : Nat → Nat → Nat} {t : Nat × Nat × Nat} {r0 : Nat} {r1 : Nat} {v2 : AV} {v3 : AV} {v4 : AV} {v5 : AV} {v6 : AV} {v7 : AV} {v8 : AV} {q0 : Nat} : a_X 350 11 [a_r (r0), a_r (r1), v2, v3, v4, v5, v6, v7, v8] [a_r (q0)] (k, u, g, t) = if (k q0).1 = 11 then (a_m 153 [a_r (q0)] (k, u, g, t)).bind (a_back 350 12 3 [a_r (r0), a_r (r1), v2, v3, v4, v5, v6, v7, v8] [a_r (q0)]) else none := by
  refine (X_dup (m := 350) (pc := 11)  (by decide +kernel) rfl rfl).trans ?_
  refine (X_call_sp (m := 350) (pc := 12) (q := 171) (y := 153) (n := 1) (as := [a_r (q0)]) (rest := [a_r (q0)]) (by decide +kernel) (by decide +kernel) (by decide +kernel) (by decide +kernel) rfl rfl (Nat.le_of_ble_eq_true rfl) (Nat.le_of_ble_eq_true rfl) rfl (by rw [show m_maxL 153 = 1 from by decide +kernel]; exact Nat.le_of_ble_eq_true rfl)).trans ?_
  exact ite_congr (by simp [a_rcv, show m_recv 153 = 11 from by decide +kernel]) (fun _ => rfl) (fun _ => rfl)
theorem B_L_law_15 {k : Nat → Nat × Nat} {u : Nat → Nat → Int} {g : Nat → Nat → Nat} {t : Nat × Nat × Nat} {r0 : Nat} {r1 : Nat} {v2 : AV} {v3 : AV} {v4 : AV} {v5 : AV} {v6 : AV} {v7 : AV} {v8 : AV} {q0 : Nat} : a_X 350 15 [a_r (r0), a_r (r1), v2, v3, v4, v5, v6, v7, v8] [a_r (q0)] (k, u, g, t) = if 0 ≤ (1 : Int) ∧ (1 : Int) ≤ 65536 then a_X 350 19 [a_r (r0), a_r (r1), a_r (q0), v3, v4, v5, v6, v7, v8] [a_r (t.1)] (a_new (k, u, g, t) 22 (1 : Int).toNat (1 : Int).toNat) else none := by
  refine (X_astore_n (m := 350) (pc := 15) (n := 2) (by decide +kernel) rfl (Nat.le_of_ble_eq_true rfl) rfl).trans ?_
  refine (X_iconst (m := 350) (pc := 16) (n := 1) (by decide +kernel) ).trans ?_
  refine (X_newa_long (m := 350) (pc := 17)  (by decide +kernel) ).trans ?_
  refine ite_congr rfl (fun _ => ?_) (fun _ => rfl)
  rfl
theorem B_L_law_19 {k : Nat → Nat × Nat} {u : Nat → Nat → Int} {g : Nat → Nat → Nat} {t : Nat × Nat × Nat} {r0 : Nat} {r1 : Nat} {r2 : Nat} {v3 : AV} {v4 : AV} {v5 : AV} {v6 : AV} {v7 : AV} {v8 : AV} {q0 : Nat} : a_X 350 19 [a_r (r0), a_r (r1), a_r (r2), v3, v4, v5, v6, v7, v8] [a_r (q0)] (k, u, g, t) = if 0 ≤ (1 : Int) ∧ (1 : Int) ≤ 65536 then a_X 350 23 [a_r (r0), a_r (r1), a_r (r2), a_r (q0), v4, v5, v6, v7, v8] [a_r (t.1)] (a_new (k, u, g, t) 23 (1 : Int).toNat (1 : Int).toNat) else none := by
  refine (X_astore_n (m := 350) (pc := 19) (n := 3) (by decide +kernel) rfl (Nat.le_of_ble_eq_true rfl) rfl).trans ?_
  refine (X_iconst (m := 350) (pc := 20) (n := 1) (by decide +kernel) ).trans ?_
  refine (X_newa_double (m := 350) (pc := 21)  (by decide +kernel) ).trans ?_
  refine ite_congr rfl (fun _ => ?_) (fun _ => rfl)
  rfl
theorem B_L_law_23 {k : Nat → Nat × Nat} {u : Nat → Nat → Int} {g : Nat → Nat → Nat} {t : Nat × Nat × Nat} {r0 : Nat} {r1 : Nat} {r2 : Nat} {r3 : Nat} {v4 : AV} {v5 : AV} {v6 : AV} {v7 : AV} {v8 : AV} {q0 : Nat} : a_X 350 23 [a_r (r0), a_r (r1), a_r (r2), a_r (r3), v4, v5, v6, v7, v8] [a_r (q0)] (k, u, g, t) = a_X 350 28 [a_r (r0), a_r (r1), a_r (r2), a_r (r3), a_r (q0), a_i (0), v6, v7, v8] [] (k, u, g, t) := by
  refine (X_astore (m := 350) (pc := 23) (n := 4) (by decide +kernel) rfl (Nat.le_of_ble_eq_true rfl) rfl).trans ?_
  refine (X_iconst (m := 350) (pc := 25) (n := 0) (by decide +kernel) ).trans ?_
  refine (X_istore (m := 350) (pc := 26) (n := 5) (by decide +kernel) rfl (Nat.le_of_ble_eq_true rfl) rfl).trans ?_
  rfl
theorem B_L_law_28 {k : Nat → Nat × Nat} {u : Nat → Nat → Int} {g : Nat → Nat → Nat} {t : Nat × Nat × Nat} {r0 : Nat} {r1 : Nat} {r2 : Nat} {r3 : Nat} {r4 : Nat} {x5 : Int} {v6 : AV} {v7 : AV} {v8 : AV} : a_X 350 28 [a_r (r0), a_r (r1), a_r (r2), a_r (r3), a_r (r4), a_i (x5), v6, v7, v8] [] (k, u, g, t) = if 20 ≤ (k r0).1 ∧ (k r0).1 ≠ 25 then if (x5 : Int) > (wr ((((k r0).2 : Int)) - 7) : Int) then some (.inl (some (a_i (1))), (k, u, g, t)) else if ((k r0).1 = 20 ∨ (k r0).1 = 24) ∧ 0 ≤ (x5 : Int) ∧ (x5 : Int) < ((k r0).2 : Int) then if (zand (u r0 (x5 : Int).toNat) (63)) = 0 then a_X 350 272 [a_r (r0), a_r (r1), a_r (r2), a_r (r3), a_r (r4), a_i (x5), v6, v7, v8] [] (k, u, g, t) else if (zand (u r0 (x5 : Int).toNat) (63)) = 1 then a_X 350 345 [a_r (r0), a_r (r1), a_r (r2), a_r (r3), a_r (r4), a_i (x5), v6, v7, v8] [] (k, u, g, t) else if (zand (u r0 (x5 : Int).toNat) (63)) = 2 then a_X 350 401 [a_r (r0), a_r (r1), a_r (r2), a_r (r3), a_r (r4), a_i (x5), v6, v7, v8] [] (k, u, g, t) else if (zand (u r0 (x5 : Int).toNat) (63)) = 3 then a_X 350 414 [a_r (r0), a_r (r1), a_r (r2), a_r (r3), a_r (r4), a_i (x5), v6, v7, v8] [] (k, u, g, t) else if (zand (u r0 (x5 : Int).toNat) (63)) = 4 then a_X 350 427 [a_r (r0), a_r (r1), a_r (r2), a_r (r3), a_r (r4), a_i (x5), v6, v7, v8] [] (k, u, g, t) else if (zand (u r0 (x5 : Int).toNat) (63)) = 5 then a_X 350 440 [a_r (r0), a_r (r1), a_r (r2), a_r (r3), a_r (r4), a_i (x5), v6, v7, v8] [] (k, u, g, t) else if (zand (u r0 (x5 : Int).toNat) (63)) = 6 then a_X 350 496 [a_r (r0), a_r (r1), a_r (r2), a_r (r3), a_r (r4), a_i (x5), v6, v7, v8] [] (k, u, g, t) else if (zand (u r0 (x5 : Int).toNat) (63)) = 7 then a_X 350 576 [a_r (r0), a_r (r1), a_r (r2), a_r (r3), a_r (r4), a_i (x5), v6, v7, v8] [] (k, u, g, t) else if (zand (u r0 (x5 : Int).toNat) (63)) = 8 then a_X 350 644 [a_r (r0), a_r (r1), a_r (r2), a_r (r3), a_r (r4), a_i (x5), v6, v7, v8] [] (k, u, g, t) else if (zand (u r0 (x5 : Int).toNat) (63)) = 9 then a_X 350 712 [a_r (r0), a_r (r1), a_r (r2), a_r (r3), a_r (r4), a_i (x5), v6, v7, v8] [] (k, u, g, t) else if (zand (u r0 (x5 : Int).toNat) (63)) = 10 then a_X 350 780 [a_r (r0), a_r (r1), a_r (r2), a_r (r3), a_r (r4), a_i (x5), v6, v7, v8] [] (k, u, g, t) else if (zand (u r0 (x5 : Int).toNat) (63)) = 11 then a_X 350 860 [a_r (r0), a_r (r1), a_r (r2), a_r (r3), a_r (r4), a_i (x5), v6, v7, v8] [] (k, u, g, t) else if (zand (u r0 (x5 : Int).toNat) (63)) = 12 then a_X 350 940 [a_r (r0), a_r (r1), a_r (r2), a_r (r3), a_r (r4), a_i (x5), v6, v7, v8] [] (k, u, g, t) else if (zand (u r0 (x5 : Int).toNat) (63)) = 13 then a_X 350 996 [a_r (r0), a_r (r1), a_r (r2), a_r (r3), a_r (r4), a_i (x5), v6, v7, v8] [] (k, u, g, t) else if (zand (u r0 (x5 : Int).toNat) (63)) = 14 then a_X 350 1064 [a_r (r0), a_r (r1), a_r (r2), a_r (r3), a_r (r4), a_i (x5), v6, v7, v8] [] (k, u, g, t) else if (zand (u r0 (x5 : Int).toNat) (63)) = 15 then a_X 350 1156 [a_r (r0), a_r (r1), a_r (r2), a_r (r3), a_r (r4), a_i (x5), v6, v7, v8] [] (k, u, g, t) else if (zand (u r0 (x5 : Int).toNat) (63)) = 16 then a_X 350 1224 [a_r (r0), a_r (r1), a_r (r2), a_r (r3), a_r (r4), a_i (x5), v6, v7, v8] [] (k, u, g, t) else if (zand (u r0 (x5 : Int).toNat) (63)) = 17 then a_X 350 1304 [a_r (r0), a_r (r1), a_r (r2), a_r (r3), a_r (r4), a_i (x5), v6, v7, v8] [] (k, u, g, t) else if (zand (u r0 (x5 : Int).toNat) (63)) = 18 then a_X 350 1379 [a_r (r0), a_r (r1), a_r (r2), a_r (r3), a_r (r4), a_i (x5), v6, v7, v8] [] (k, u, g, t) else if (zand (u r0 (x5 : Int).toNat) (63)) = 19 then a_X 350 1447 [a_r (r0), a_r (r1), a_r (r2), a_r (r3), a_r (r4), a_i (x5), v6, v7, v8] [] (k, u, g, t) else if (zand (u r0 (x5 : Int).toNat) (63)) = 20 then a_X 350 1522 [a_r (r0), a_r (r1), a_r (r2), a_r (r3), a_r (r4), a_i (x5), v6, v7, v8] [] (k, u, g, t) else if (zand (u r0 (x5 : Int).toNat) (63)) = 21 then a_X 350 1578 [a_r (r0), a_r (r1), a_r (r2), a_r (r3), a_r (r4), a_i (x5), v6, v7, v8] [] (k, u, g, t) else if (zand (u r0 (x5 : Int).toNat) (63)) = 22 then a_X 350 1622 [a_r (r0), a_r (r1), a_r (r2), a_r (r3), a_r (r4), a_i (x5), v6, v7, v8] [] (k, u, g, t) else if (zand (u r0 (x5 : Int).toNat) (63)) = 23 then a_X 350 1678 [a_r (r0), a_r (r1), a_r (r2), a_r (r3), a_r (r4), a_i (x5), v6, v7, v8] [] (k, u, g, t) else if (zand (u r0 (x5 : Int).toNat) (63)) = 24 then a_X 350 1734 [a_r (r0), a_r (r1), a_r (r2), a_r (r3), a_r (r4), a_i (x5), v6, v7, v8] [] (k, u, g, t) else if (zand (u r0 (x5 : Int).toNat) (63)) = 25 then a_X 350 1790 [a_r (r0), a_r (r1), a_r (r2), a_r (r3), a_r (r4), a_i (x5), v6, v7, v8] [] (k, u, g, t) else if (zand (u r0 (x5 : Int).toNat) (63)) = 26 then a_X 350 1834 [a_r (r0), a_r (r1), a_r (r2), a_r (r3), a_r (r4), a_i (x5), v6, v7, v8] [] (k, u, g, t) else if (zand (u r0 (x5 : Int).toNat) (63)) = 27 then a_X 350 1902 [a_r (r0), a_r (r1), a_r (r2), a_r (r3), a_r (r4), a_i (x5), v6, v7, v8] [] (k, u, g, t) else if (zand (u r0 (x5 : Int).toNat) (63)) = 28 then a_X 350 1970 [a_r (r0), a_r (r1), a_r (r2), a_r (r3), a_r (r4), a_i (x5), v6, v7, v8] [] (k, u, g, t) else if (zand (u r0 (x5 : Int).toNat) (63)) = 29 then a_X 350 2038 [a_r (r0), a_r (r1), a_r (r2), a_r (r3), a_r (r4), a_i (x5), v6, v7, v8] [] (k, u, g, t) else if (zand (u r0 (x5 : Int).toNat) (63)) = 30 then a_X 350 2082 [a_r (r0), a_r (r1), a_r (r2), a_r (r3), a_r (r4), a_i (x5), v6, v7, v8] [] (k, u, g, t) else if (zand (u r0 (x5 : Int).toNat) (63)) = 31 then a_X 350 2126 [a_r (r0), a_r (r1), a_r (r2), a_r (r3), a_r (r4), a_i (x5), v6, v7, v8] [] (k, u, g, t) else if (zand (u r0 (x5 : Int).toNat) (63)) = 32 then a_X 350 2182 [a_r (r0), a_r (r1), a_r (r2), a_r (r3), a_r (r4), a_i (x5), v6, v7, v8] [] (k, u, g, t) else if (zand (u r0 (x5 : Int).toNat) (63)) = 33 then a_X 350 2250 [a_r (r0), a_r (r1), a_r (r2), a_r (r3), a_r (r4), a_i (x5), v6, v7, v8] [] (k, u, g, t) else if (zand (u r0 (x5 : Int).toNat) (63)) = 34 then a_X 350 2306 [a_r (r0), a_r (r1), a_r (r2), a_r (r3), a_r (r4), a_i (x5), v6, v7, v8] [] (k, u, g, t) else if (zand (u r0 (x5 : Int).toNat) (63)) = 35 then a_X 350 2372 [a_r (r0), a_r (r1), a_r (r2), a_r (r3), a_r (r4), a_i (x5), v6, v7, v8] [] (k, u, g, t) else if (zand (u r0 (x5 : Int).toNat) (63)) = 36 then a_X 350 2437 [a_r (r0), a_r (r1), a_r (r2), a_r (r3), a_r (r4), a_i (x5), v6, v7, v8] [] (k, u, g, t) else if (zand (u r0 (x5 : Int).toNat) (63)) = 37 then a_X 350 2505 [a_r (r0), a_r (r1), a_r (r2), a_r (r3), a_r (r4), a_i (x5), v6, v7, v8] [] (k, u, g, t) else if (zand (u r0 (x5 : Int).toNat) (63)) = 38 then a_X 350 2561 [a_r (r0), a_r (r1), a_r (r2), a_r (r3), a_r (r4), a_i (x5), v6, v7, v8] [] (k, u, g, t) else if (zand (u r0 (x5 : Int).toNat) (63)) = 39 then a_X 350 2617 [a_r (r0), a_r (r1), a_r (r2), a_r (r3), a_r (r4), a_i (x5), v6, v7, v8] [] (k, u, g, t) else if (zand (u r0 (x5 : Int).toNat) (63)) = 40 then a_X 350 2735 [a_r (r0), a_r (r1), a_r (r2), a_r (r3), a_r (r4), a_i (x5), v6, v7, v8] [] (k, u, g, t) else if (zand (u r0 (x5 : Int).toNat) (63)) = 41 then a_X 350 2803 [a_r (r0), a_r (r1), a_r (r2), a_r (r3), a_r (r4), a_i (x5), v6, v7, v8] [] (k, u, g, t) else if (zand (u r0 (x5 : Int).toNat) (63)) = 42 then a_X 350 2871 [a_r (r0), a_r (r1), a_r (r2), a_r (r3), a_r (r4), a_i (x5), v6, v7, v8] [] (k, u, g, t) else if (zand (u r0 (x5 : Int).toNat) (63)) = 43 then a_X 350 2927 [a_r (r0), a_r (r1), a_r (r2), a_r (r3), a_r (r4), a_i (x5), v6, v7, v8] [] (k, u, g, t) else if (zand (u r0 (x5 : Int).toNat) (63)) = 44 then a_X 350 2983 [a_r (r0), a_r (r1), a_r (r2), a_r (r3), a_r (r4), a_i (x5), v6, v7, v8] [] (k, u, g, t) else if (zand (u r0 (x5 : Int).toNat) (63)) = 45 then a_X 350 3063 [a_r (r0), a_r (r1), a_r (r2), a_r (r3), a_r (r4), a_i (x5), v6, v7, v8] [] (k, u, g, t) else if (zand (u r0 (x5 : Int).toNat) (63)) = 46 then a_X 350 3131 [a_r (r0), a_r (r1), a_r (r2), a_r (r3), a_r (r4), a_i (x5), v6, v7, v8] [] (k, u, g, t) else if (zand (u r0 (x5 : Int).toNat) (63)) = 47 then a_X 350 3199 [a_r (r0), a_r (r1), a_r (r2), a_r (r3), a_r (r4), a_i (x5), v6, v7, v8] [] (k, u, g, t) else if (zand (u r0 (x5 : Int).toNat) (63)) = 48 then a_X 350 3255 [a_r (r0), a_r (r1), a_r (r2), a_r (r3), a_r (r4), a_i (x5), v6, v7, v8] [] (k, u, g, t) else if (zand (u r0 (x5 : Int).toNat) (63)) = 49 then a_X 350 3311 [a_r (r0), a_r (r1), a_r (r2), a_r (r3), a_r (r4), a_i (x5), v6, v7, v8] [] (k, u, g, t) else if (zand (u r0 (x5 : Int).toNat) (63)) = 50 then a_X 350 3355 [a_r (r0), a_r (r1), a_r (r2), a_r (r3), a_r (r4), a_i (x5), v6, v7, v8] [] (k, u, g, t) else if (zand (u r0 (x5 : Int).toNat) (63)) = 51 then a_X 350 3368 [a_r (r0), a_r (r1), a_r (r2), a_r (r3), a_r (r4), a_i (x5), v6, v7, v8] [] (k, u, g, t) else if (zand (u r0 (x5 : Int).toNat) (63)) = 52 then a_X 350 3424 [a_r (r0), a_r (r1), a_r (r2), a_r (r3), a_r (r4), a_i (x5), v6, v7, v8] [] (k, u, g, t) else a_X 350 3480 [a_r (r0), a_r (r1), a_r (r2), a_r (r3), a_r (r4), a_i (x5), v6, v7, v8] [] (k, u, g, t) else none else none := by
  refine (X_iload (m := 350) (pc := 28) (n := 5) (by decide +kernel) rfl).trans ?_
  refine (X_aload_n (m := 350) (pc := 30) (n := 0) (by decide +kernel) rfl).trans ?_
  refine (X_alen (m := 350) (pc := 31)  (by decide +kernel) ).trans ?_
  refine ite_congr rfl (fun _ => ?_) (fun _ => rfl)
  refine (X_bipush (m := 350) (pc := 32) (n := 7) (by decide +kernel) ).trans ?_
  refine (X_isub (m := 350) (pc := 34)  (by decide +kernel) ).trans ?_
  refine (X_ic_gt (m := 350) (pc := 35) (off := 3451) (tg := 3486) (by decide +kernel) (by decide +kernel)).trans ?_
  refine ite_congr rfl (fun _ => ?_) (fun _ => ?_)
  · refine (X_iconst (m := 350) (pc := 3486) (n := 1) (by decide +kernel) ).trans ?_
    exact X_ireturn (m := 350) (pc := 3487) (f := 2) (by decide +kernel) (by decide +kernel) rfl
  · refine (X_aload_n (m := 350) (pc := 38) (n := 0) (by decide +kernel) rfl).trans ?_
    refine (X_iload (m := 350) (pc := 39) (n := 5) (by decide +kernel) rfl).trans ?_
    refine (X_iaload (m := 350) (pc := 41)  (by decide +kernel) ).trans ?_
    refine ite_congr rfl (fun _ => ?_) (fun _ => rfl)
    refine (X_bipush (m := 350) (pc := 42) (n := 63) (by decide +kernel) ).trans ?_
    refine (X_iand (m := 350) (pc := 44)  (by decide +kernel) ).trans ?_
    rw [X_table (m := 350) (pc := 45) (d := 3435) (lo := 0) (hi := 52) (offs := #[227, 300, 356, 369, 382, 395, 451, 531, 599, 667, 735, 815, 895, 951, 1019, 1111, 1179, 1259, 1334, 1402, 1477, 1533, 1577, 1633, 1689, 1745, 1789, 1857, 1925, 1993, 2037, 2081, 2137, 2205, 2261, 2327, 2392, 2460, 2516, 2572, 2690, 2758, 2826, 2882, 2938, 3018, 3086, 3154, 3210, 3266, 3310, 3323, 3379]) (len := 227) (by decide +kernel)]
    by_cases hh : (zand (u r0 (x5 : Int).toNat) (63)) < 0 ∨ 52 < (zand (u r0 (x5 : Int).toNat) (63))
    · rw [if_pos hh]
      rw [if_neg (by omega)]
      rw [if_neg (by omega)]
      rw [if_neg (by omega)]
      rw [if_neg (by omega)]
      rw [if_neg (by omega)]
      rw [if_neg (by omega)]
      rw [if_neg (by omega)]
      rw [if_neg (by omega)]
      rw [if_neg (by omega)]
      rw [if_neg (by omega)]
      rw [if_neg (by omega)]
      rw [if_neg (by omega)]
      rw [if_neg (by omega)]
      rw [if_neg (by omega)]
      rw [if_neg (by omega)]
      rw [if_neg (by omega)]
      rw [if_neg (by omega)]
      rw [if_neg (by omega)]
      rw [if_neg (by omega)]
      rw [if_neg (by omega)]
      rw [if_neg (by omega)]
      rw [if_neg (by omega)]
      rw [if_neg (by omega)]
      rw [if_neg (by omega)]
      rw [if_neg (by omega)]
      rw [if_neg (by omega)]
      rw [if_neg (by omega)]
      rw [if_neg (by omega)]
      rw [if_neg (by omega)]
      rw [if_neg (by omega)]
      rw [if_neg (by omega)]
      rw [if_neg (by omega)]
      rw [if_neg (by omega)]
      rw [if_neg (by omega)]
      rw [if_neg (by omega)]
      rw [if_neg (by omega)]
      rw [if_neg (by omega)]
      rw [if_neg (by omega)]
      rw [if_neg (by omega)]
      rw [if_neg (by omega)]
      rw [if_neg (by omega)]
      rw [if_neg (by omega)]
      rw [if_neg (by omega)]
      rw [if_neg (by omega)]
      rw [if_neg (by omega)]
      rw [if_neg (by omega)]
      rw [if_neg (by omega)]
      rw [if_neg (by omega)]
      rw [if_neg (by omega)]
      rw [if_neg (by omega)]
      rw [if_neg (by omega)]
      rw [if_neg (by omega)]
      rw [if_neg (by omega)]
      rfl
    · rw [if_neg hh]
      generalize hx : (zand (u r0 (x5 : Int).toNat) (63)) = xx at hh ⊢
      have h9 : xx = 0 ∨ xx = 1 ∨ xx = 2 ∨ xx = 3 ∨ xx = 4 ∨ xx = 5 ∨ xx = 6 ∨ xx = 7 ∨ xx = 8 ∨ xx = 9 ∨ xx = 10 ∨ xx = 11 ∨ xx = 12 ∨ xx = 13 ∨ xx = 14 ∨ xx = 15 ∨ xx = 16 ∨ xx = 17 ∨ xx = 18 ∨ xx = 19 ∨ xx = 20 ∨ xx = 21 ∨ xx = 22 ∨ xx = 23 ∨ xx = 24 ∨ xx = 25 ∨ xx = 26 ∨ xx = 27 ∨ xx = 28 ∨ xx = 29 ∨ xx = 30 ∨ xx = 31 ∨ xx = 32 ∨ xx = 33 ∨ xx = 34 ∨ xx = 35 ∨ xx = 36 ∨ xx = 37 ∨ xx = 38 ∨ xx = 39 ∨ xx = 40 ∨ xx = 41 ∨ xx = 42 ∨ xx = 43 ∨ xx = 44 ∨ xx = 45 ∨ xx = 46 ∨ xx = 47 ∨ xx = 48 ∨ xx = 49 ∨ xx = 50 ∨ xx = 51 ∨ xx = 52 := by omega
      rcases h9 with rfl | rfl | rfl | rfl | rfl | rfl | rfl | rfl | rfl | rfl | rfl | rfl | rfl | rfl | rfl | rfl | rfl | rfl | rfl | rfl | rfl | rfl | rfl | rfl | rfl | rfl | rfl | rfl | rfl | rfl | rfl | rfl | rfl | rfl | rfl | rfl | rfl | rfl | rfl | rfl | rfl | rfl | rfl | rfl | rfl | rfl | rfl | rfl | rfl | rfl | rfl | rfl | rfl <;> rfl
theorem B_L_law_272 {k : Nat → Nat × Nat} {u : Nat → Nat → Int} {g : Nat → Nat → Nat} {t : Nat × Nat × Nat} {r0 : Nat} {r1 : Nat} {r2 : Nat} {r3 : Nat} {r4 : Nat} {x5 : Int} {v6 : AV} {v7 : AV} {v8 : AV} : a_X 350 272 [a_r (r0), a_r (r1), a_r (r2), a_r (r3), a_r (r4), a_i (x5), v6, v7, v8] [] (k, u, g, t) = if ((k r0).1 = 20 ∨ (k r0).1 = 24) ∧ 0 ≤ (wr (x5 + 1) : Int) ∧ (wr (x5 + 1) : Int) < ((k r0).2 : Int) then if ((k r0).1 = 20 ∨ (k r0).1 = 24) ∧ 0 ≤ (wr (x5 + 2) : Int) ∧ (wr (x5 + 2) : Int) < ((k r0).2 : Int) then if ((k r0).1 = 20 ∨ (k r0).1 = 24) ∧ 0 ≤ (wr (x5 + 3) : Int) ∧ (wr (x5 + 3) : Int) < ((k r0).2 : Int) then if ((k r0).1 = 20 ∨ (k r0).1 = 24) ∧ 0 ≤ (wr (x5 + 4) : Int) ∧ (wr (x5 + 4) : Int) < ((k r0).2 : Int) then if ((k r0).1 = 20 ∨ (k r0).1 = 24) ∧ 0 ≤ (wr (x5 + 5) : Int) ∧ (wr (x5 + 5) : Int) < ((k r0).2 : Int) then if (k r1).1 = 10 then (a_m 91 [a_r (r1), a_i (u r0 (wr (x5 + 1) : Int).toNat), a_i (u r0 (wr (x5 + 2) : Int).toNat), a_i (u r0 (wr (x5 + 3) : Int).toNat), a_i (u r0 (wr (x5 + 4) : Int).toNat), a_i (u r0 (wr (x5 + 5) : Int).toNat)] (k, u, g, t)).bind (a_back 350 303 3 [a_r (r0), a_r (r1), a_r (r2), a_r (r3), a_r (r4), a_i (x5), v6, v7, v8] []) else none else none else none else none else none else none := by
  refine (X_aload_n (m := 350) (pc := 272) (n := 1) (by decide +kernel) rfl).trans ?_
  refine (X_aload_n (m := 350) (pc := 273) (n := 0) (by decide +kernel) rfl).trans ?_
  refine (X_iload (m := 350) (pc := 274) (n := 5) (by decide +kernel) rfl).trans ?_
  refine (X_iconst (m := 350) (pc := 276) (n := 1) (by decide +kernel) ).trans ?_
  refine (X_iadd (m := 350) (pc := 277)  (by decide +kernel) ).trans ?_
  refine (X_iaload (m := 350) (pc := 278)  (by decide +kernel) ).trans ?_
  refine ite_congr rfl (fun _ => ?_) (fun _ => rfl)
  refine (X_aload_n (m := 350) (pc := 279) (n := 0) (by decide +kernel) rfl).trans ?_
  refine (X_iload (m := 350) (pc := 280) (n := 5) (by decide +kernel) rfl).trans ?_
  refine (X_iconst (m := 350) (pc := 282) (n := 2) (by decide +kernel) ).trans ?_
  refine (X_iadd (m := 350) (pc := 283)  (by decide +kernel) ).trans ?_
  refine (X_iaload (m := 350) (pc := 284)  (by decide +kernel) ).trans ?_
  refine ite_congr rfl (fun _ => ?_) (fun _ => rfl)
  refine (X_aload_n (m := 350) (pc := 285) (n := 0) (by decide +kernel) rfl).trans ?_
  refine (X_iload (m := 350) (pc := 286) (n := 5) (by decide +kernel) rfl).trans ?_
  refine (X_iconst (m := 350) (pc := 288) (n := 3) (by decide +kernel) ).trans ?_
  refine (X_iadd (m := 350) (pc := 289)  (by decide +kernel) ).trans ?_
  refine (X_iaload (m := 350) (pc := 290)  (by decide +kernel) ).trans ?_
  refine ite_congr rfl (fun _ => ?_) (fun _ => rfl)
  refine (X_aload_n (m := 350) (pc := 291) (n := 0) (by decide +kernel) rfl).trans ?_
  refine (X_iload (m := 350) (pc := 292) (n := 5) (by decide +kernel) rfl).trans ?_
  refine (X_iconst (m := 350) (pc := 294) (n := 4) (by decide +kernel) ).trans ?_
  refine (X_iadd (m := 350) (pc := 295)  (by decide +kernel) ).trans ?_
  refine (X_iaload (m := 350) (pc := 296)  (by decide +kernel) ).trans ?_
  refine ite_congr rfl (fun _ => ?_) (fun _ => rfl)
  refine (X_aload_n (m := 350) (pc := 297) (n := 0) (by decide +kernel) rfl).trans ?_
  refine (X_iload (m := 350) (pc := 298) (n := 5) (by decide +kernel) rfl).trans ?_
  refine (X_iconst (m := 350) (pc := 300) (n := 5) (by decide +kernel) ).trans ?_
  refine (X_iadd (m := 350) (pc := 301)  (by decide +kernel) ).trans ?_
  refine (X_iaload (m := 350) (pc := 302)  (by decide +kernel) ).trans ?_
  refine ite_congr rfl (fun _ => ?_) (fun _ => rfl)
  refine (X_call_vi (m := 350) (pc := 303) (q := 172) (y := 91) (n := 6) (as := [a_r (r1), a_i (u r0 (wr (x5 + 1) : Int).toNat), a_i (u r0 (wr (x5 + 2) : Int).toNat), a_i (u r0 (wr (x5 + 3) : Int).toNat), a_i (u r0 (wr (x5 + 4) : Int).toNat), a_i (u r0 (wr (x5 + 5) : Int).toNat)]) (rest := []) (by decide +kernel) (by decide +kernel) (by decide +kernel) (by decide +kernel) rfl rfl (Nat.le_of_ble_eq_true rfl) (Nat.le_of_ble_eq_true rfl) rfl (by rw [show m_maxL 91 = 6 from by decide +kernel]; exact Nat.le_of_ble_eq_true rfl)).trans ?_
  exact ite_congr (by simp [a_rcv, show m_recv 91 = 10 from by decide +kernel]) (fun _ => rfl) (fun _ => rfl)
theorem B_L_law_345 {k : Nat → Nat × Nat} {u : Nat → Nat → Int} {g : Nat → Nat → Nat} {t : Nat × Nat × Nat} {r0 : Nat} {r1 : Nat} {r2 : Nat} {r3 : Nat} {r4 : Nat} {x5 : Int} {v6 : AV} {v7 : AV} {v8 : AV} : a_X 350 345 [a_r (r0), a_r (r1), a_r (r2), a_r (r3), a_r (r4), a_i (x5), v6, v7, v8] [] (k, u, g, t) = if ((k r0).1 = 20 ∨ (k r0).1 = 24) ∧ 0 ≤ (wr (x5 + 1) : Int) ∧ (wr (x5 + 1) : Int) < ((k r0).2 : Int) then (a_m 302 [a_r (r1), a_i (u r0 (wr (x5 + 1) : Int).toNat), a_r (r3)] (k, u, g, t)).bind (a_back 350 353 3 [a_r (r0), a_r (r1), a_r (r2), a_r (r3), a_r (r4), a_i (x5), v6, v7, v8] []) else none := by
  refine (X_aload_n (m := 350) (pc := 345) (n := 1) (by decide +kernel) rfl).trans ?_
  refine (X_aload_n (m := 350) (pc := 346) (n := 0) (by decide +kernel) rfl).trans ?_
  refine (X_iload (m := 350) (pc := 347) (n := 5) (by decide +kernel) rfl).trans ?_
  refine (X_iconst (m := 350) (pc := 349) (n := 1) (by decide +kernel) ).trans ?_
  refine (X_iadd (m := 350) (pc := 350)  (by decide +kernel) ).trans ?_
  refine (X_iaload (m := 350) (pc := 351)  (by decide +kernel) ).trans ?_
  refine ite_congr rfl (fun _ => ?_) (fun _ => rfl)
  refine (X_aload_n (m := 350) (pc := 352) (n := 3) (by decide +kernel) rfl).trans ?_
  refine (X_call_st (m := 350) (pc := 353) (q := 177) (y := 302) (n := 3) (as := [a_r (r1), a_i (u r0 (wr (x5 + 1) : Int).toNat), a_r (r3)]) (rest := []) (by decide +kernel) (by decide +kernel) (by decide +kernel) (by decide +kernel) rfl rfl (Nat.le_of_ble_eq_true rfl) (Nat.le_of_ble_eq_true rfl) rfl (by rw [show m_maxL 302 = 4 from by decide +kernel]; exact Nat.le_of_ble_eq_true rfl)).trans ?_
  exact if_pos rfl
theorem B_L_law_401 {k : Nat → Nat × Nat} {u : Nat → Nat → Int} {g : Nat → Nat → Nat} {t : Nat × Nat × Nat} {r0 : Nat} {r1 : Nat} {r2 : Nat} {r3 : Nat} {r4 : Nat} {x5 : Int} {v6 : AV} {v7 : AV} {v8 : AV} : a_X 350 401 [a_r (r0), a_r (r1), a_r (r2), a_r (r3), a_r (r4), a_i (x5), v6, v7, v8] [] (k, u, g, t) = if (k r1).1 = 10 then (a_m 93 [a_r (r1)] (k, u, g, t)).bind (a_back 350 402 3 [a_r (r0), a_r (r1), a_r (r2), a_r (r3), a_r (r4), a_i (x5), v6, v7, v8] []) else none := by
  refine (X_aload_n (m := 350) (pc := 401) (n := 1) (by decide +kernel) rfl).trans ?_
  refine (X_call_vi (m := 350) (pc := 402) (q := 186) (y := 93) (n := 1) (as := [a_r (r1)]) (rest := []) (by decide +kernel) (by decide +kernel) (by decide +kernel) (by decide +kernel) rfl rfl (Nat.le_of_ble_eq_true rfl) (Nat.le_of_ble_eq_true rfl) rfl (by rw [show m_maxL 93 = 1 from by decide +kernel]; exact Nat.le_of_ble_eq_true rfl)).trans ?_
  exact ite_congr (by simp [a_rcv, show m_recv 93 = 10 from by decide +kernel]) (fun _ => rfl) (fun _ => rfl)
theorem B_L_law_414 {k : Nat → Nat × Nat} {u : Nat → Nat → Int} {g : Nat → Nat → Nat} {t : Nat × Nat × Nat} {r0 : Nat} {r1 : Nat} {r2 : Nat} {r3 : Nat} {r4 : Nat} {x5 : Int} {v6 : AV} {v7 : AV} {v8 : AV} : a_X 350 414 [a_r (r0), a_r (r1), a_r (r2), a_r (r3), a_r (r4), a_i (x5), v6, v7, v8] [] (k, u, g, t) = if (k r1).1 = 10 then (a_m 94 [a_r (r1)] (k, u, g, t)).bind (a_back 350 415 3 [a_r (r0), a_r (r1), a_r (r2), a_r (r3), a_r (r4), a_i (x5), v6, v7, v8] []) else none := by
  refine (X_aload_n (m := 350) (pc := 414) (n := 1) (by decide +kernel) rfl).trans ?_
  refine (X_call_vi (m := 350) (pc := 415) (q := 190) (y := 94) (n := 1) (as := [a_r (r1)]) (rest := []) (by decide +kernel) (by decide +kernel) (by decide +kernel) (by decide +kernel) rfl rfl (Nat.le_of_ble_eq_true rfl) (Nat.le_of_ble_eq_true rfl) rfl (by rw [show m_maxL 94 = 1 from by decide +kernel]; exact Nat.le_of_ble_eq_true rfl)).trans ?_
  exact ite_congr (by simp [a_rcv, show m_recv 94 = 10 from by decide +kernel]) (fun _ => rfl) (fun _ => rfl)
theorem B_L_law_427 {k : Nat → Nat × Nat} {u : Nat → Nat → Int} {g : Nat → Nat → Nat} {t : Nat × Nat × Nat} {r0 : Nat} {r1 : Nat} {r2 : Nat} {r3 : Nat} {r4 : Nat} {x5 : Int} {v6 : AV} {v7 : AV} {v8 : AV} : a_X 350 427 [a_r (r0), a_r (r1), a_r (r2), a_r (r3), a_r (r4), a_i (x5), v6, v7, v8] [] (k, u, g, t) = if (k r1).1 = 10 then (a_m 95 [a_r (r1)] (k, u, g, t)).bind (a_back 350 428 3 [a_r (r0), a_r (r1), a_r (r2), a_r (r3), a_r (r4), a_i (x5), v6, v7, v8] []) else none := by
  refine (X_aload_n (m := 350) (pc := 427) (n := 1) (by decide +kernel) rfl).trans ?_
  refine (X_call_vi (m := 350) (pc := 428) (q := 194) (y := 95) (n := 1) (as := [a_r (r1)]) (rest := []) (by decide +kernel) (by decide +kernel) (by decide +kernel) (by decide +kernel) rfl rfl (Nat.le_of_ble_eq_true rfl) (Nat.le_of_ble_eq_true rfl) rfl (by rw [show m_maxL 95 = 1 from by decide +kernel]; exact Nat.le_of_ble_eq_true rfl)).trans ?_
  exact ite_congr (by simp [a_rcv, show m_recv 95 = 10 from by decide +kernel]) (fun _ => rfl) (fun _ => rfl)
theorem B_L_law_440 {k : Nat → Nat × Nat} {u : Nat → Nat → Int} {g : Nat → Nat → Nat} {t : Nat × Nat × Nat} {r0 : Nat} {r1 : Nat} {r2 : Nat} {r3 : Nat} {r4 : Nat} {x5 : Int} {v6 : AV} {v7 : AV} {v8 : AV} : a_X 350 440 [a_r (r0), a_r (r1), a_r (r2), a_r (r3), a_r (r4), a_i (x5), v6, v7, v8] [] (k, u, g, t) = if ((k r0).1 = 20 ∨ (k r0).1 = 24) ∧ 0 ≤ (wr (x5 + 1) : Int) ∧ (wr (x5 + 1) : Int) < ((k r0).2 : Int) then (a_m 303 [a_r (r1), a_i (u r0 (wr (x5 + 1) : Int).toNat), a_r (r3)] (k, u, g, t)).bind (a_back 350 448 3 [a_r (r0), a_r (r1), a_r (r2), a_r (r3), a_r (r4), a_i (x5), v6, v7, v8] []) else none := by
  refine (X_aload_n (m := 350) (pc := 440) (n := 1) (by decide +kernel) rfl).trans ?_
  refine (X_aload_n (m := 350) (pc := 441) (n := 0) (by decide +kernel) rfl).trans ?_
  refine (X_iload (m := 350) (pc := 442) (n := 5) (by decide +kernel) rfl).trans ?_
  refine (X_iconst (m := 350) (pc := 444) (n := 1) (by decide +kernel) ).trans ?_
  refine (X_iadd (m := 350) (pc := 445)  (by decide +kernel) ).trans ?_
  refine (X_iaload (m := 350) (pc := 446)  (by decide +kernel) ).trans ?_
  refine ite_congr rfl (fun _ => ?_) (fun _ => rfl)
  refine (X_aload_n (m := 350) (pc := 447) (n := 3) (by decide +kernel) rfl).trans ?_
  refine (X_call_st (m := 350) (pc := 448) (q := 198) (y := 303) (n := 3) (as := [a_r (r1), a_i (u r0 (wr (x5 + 1) : Int).toNat), a_r (r3)]) (rest := []) (by decide +kernel) (by decide +kernel) (by decide +kernel) (by decide +kernel) rfl rfl (Nat.le_of_ble_eq_true rfl) (Nat.le_of_ble_eq_true rfl) rfl (by rw [show m_maxL 303 = 4 from by decide +kernel]; exact Nat.le_of_ble_eq_true rfl)).trans ?_
  exact if_pos rfl
theorem B_L_law_496 {k : Nat → Nat × Nat} {u : Nat → Nat → Int} {g : Nat → Nat → Nat} {t : Nat × Nat × Nat} {r0 : Nat} {r1 : Nat} {r2 : Nat} {r3 : Nat} {r4 : Nat} {x5 : Int} {v6 : AV} {v7 : AV} {v8 : AV} : a_X 350 496 [a_r (r0), a_r (r1), a_r (r2), a_r (r3), a_r (r4), a_i (x5), v6, v7, v8] [] (k, u, g, t) = if ((k r0).1 = 20 ∨ (k r0).1 = 24) ∧ 0 ≤ (wr (x5 + 1) : Int) ∧ (wr (x5 + 1) : Int) < ((k r0).2 : Int) then if ((k r0).1 = 20 ∨ (k r0).1 = 24) ∧ 0 ≤ (wr (x5 + 2) : Int) ∧ (wr (x5 + 2) : Int) < ((k r0).2 : Int) then if ((k r0).1 = 20 ∨ (k r0).1 = 24) ∧ 0 ≤ (wr (x5 + 3) : Int) ∧ (wr (x5 + 3) : Int) < ((k r0).2 : Int) then (a_m 304 [a_r (r1), a_i (u r0 (wr (x5 + 1) : Int).toNat), a_i (u r0 (wr (x5 + 2) : Int).toNat), a_i (u r0 (wr (x5 + 3) : Int).toNat), a_r (r3)] (k, u, g, t)).bind (a_back 350 516 3 [a_r (r0), a_r (r1), a_r (r2), a_r (r3), a_r (r4), a_i (x5), v6, v7, v8] []) else none else none else none := by
  refine (X_aload_n (m := 350) (pc := 496) (n := 1) (by decide +kernel) rfl).trans ?_
  refine (X_aload_n (m := 350) (pc := 497) (n := 0) (by decide +kernel) rfl).trans ?_
  refine (X_iload (m := 350) (pc := 498) (n := 5) (by decide +kernel) rfl).trans ?_
  refine (X_iconst (m := 350) (pc := 500) (n := 1) (by decide +kernel) ).trans ?_
  refine (X_iadd (m := 350) (pc := 501)  (by decide +kernel) ).trans ?_
  refine (X_iaload (m := 350) (pc := 502)  (by decide +kernel) ).trans ?_
  refine ite_congr rfl (fun _ => ?_) (fun _ => rfl)
  refine (X_aload_n (m := 350) (pc := 503) (n := 0) (by decide +kernel) rfl).trans ?_
  refine (X_iload (m := 350) (pc := 504) (n := 5) (by decide +kernel) rfl).trans ?_
  refine (X_iconst (m := 350) (pc := 506) (n := 2) (by decide +kernel) ).trans ?_
  refine (X_iadd (m := 350) (pc := 507)  (by decide +kernel) ).trans ?_
  refine (X_iaload (m := 350) (pc := 508)  (by decide +kernel) ).trans ?_
  refine ite_congr rfl (fun _ => ?_) (fun _ => rfl)
  refine (X_aload_n (m := 350) (pc := 509) (n := 0) (by decide +kernel) rfl).trans ?_
  refine (X_iload (m := 350) (pc := 510) (n := 5) (by decide +kernel) rfl).trans ?_
  refine (X_iconst (m := 350) (pc := 512) (n := 3) (by decide +kernel) ).trans ?_
  refine (X_iadd (m := 350) (pc := 513)  (by decide +kernel) ).trans ?_
  refine (X_iaload (m := 350) (pc := 514)  (by decide +kernel) ).trans ?_
  refine ite_congr rfl (fun _ => ?_) (fun _ => rfl)
  refine (X_aload_n (m := 350) (pc := 515) (n := 3) (by decide +kernel) rfl).trans ?_
  refine (X_call_st (m := 350) (pc := 516) (q := 201) (y := 304) (n := 5) (as := [a_r (r1), a_i (u r0 (wr (x5 + 1) : Int).toNat), a_i (u r0 (wr (x5 + 2) : Int).toNat), a_i (u r0 (wr (x5 + 3) : Int).toNat), a_r (r3)]) (rest := []) (by decide +kernel) (by decide +kernel) (by decide +kernel) (by decide +kernel) rfl rfl (Nat.le_of_ble_eq_true rfl) (Nat.le_of_ble_eq_true rfl) rfl (by rw [show m_maxL 304 = 6 from by decide +kernel]; exact Nat.le_of_ble_eq_true rfl)).trans ?_
  exact if_pos rfl
theorem B_L_law_576 {k : Nat → Nat × Nat} {u : Nat → Nat → Int} {g : Nat → Nat → Nat} {t : Nat × Nat × Nat} {r0 : Nat} {r1 : Nat} {r2 : Nat} {r3 : Nat} {r4 : Nat} {x5 : Int} {v6 : AV} {v7 : AV} {v8 : AV} : a_X 350 576 [a_r (r0), a_r (r1), a_r (r2), a_r (r3), a_r (r4), a_i (x5), v6, v7, v8] [] (k, u, g, t) = if ((k r0).1 = 20 ∨ (k r0).1 = 24) ∧ 0 ≤ (wr (x5 + 1) : Int) ∧ (wr (x5 + 1) : Int) < ((k r0).2 : Int) then if ((k r0).1 = 20 ∨ (k r0).1 = 24) ∧ 0 ≤ (wr (x5 + 2) : Int) ∧ (wr (x5 + 2) : Int) < ((k r0).2 : Int) then (a_m 305 [a_r (r1), a_i (u r0 (wr (x5 + 1) : Int).toNat), a_i (u r0 (wr (x5 + 2) : Int).toNat), a_r (r3)] (k, u, g, t)).bind (a_back 350 590 3 [a_r (r0), a_r (r1), a_r (r2), a_r (r3), a_r (r4), a_i (x5), v6, v7, v8] []) else none else none := by
  refine (X_aload_n (m := 350) (pc := 576) (n := 1) (by decide +kernel) rfl).trans ?_
  refine (X_aload_n (m := 350) (pc := 577) (n := 0) (by decide +kernel) rfl).trans ?_
  refine (X_iload (m := 350) (pc := 578) (n := 5) (by decide +kernel) rfl).trans ?_
  refine (X_iconst (m := 350) (pc := 580) (n := 1) (by decide +kernel) ).trans ?_
  refine (X_iadd (m := 350) (pc := 581)  (by decide +kernel) ).trans ?_
  refine (X_iaload (m := 350) (pc := 582)  (by decide +kernel) ).trans ?_
  refine ite_congr rfl (fun _ => ?_) (fun _ => rfl)
  refine (X_aload_n (m := 350) (pc := 583) (n := 0) (by decide +kernel) rfl).trans ?_
  refine (X_iload (m := 350) (pc := 584) (n := 5) (by decide +kernel) rfl).trans ?_
  refine (X_iconst (m := 350) (pc := 586) (n := 2) (by decide +kernel) ).trans ?_
  refine (X_iadd (m := 350) (pc := 587)  (by decide +kernel) ).trans ?_
  refine (X_iaload (m := 350) (pc := 588)  (by decide +kernel) ).trans ?_
  refine ite_congr rfl (fun _ => ?_) (fun _ => rfl)
  refine (X_aload_n (m := 350) (pc := 589) (n := 3) (by decide +kernel) rfl).trans ?_
  refine (X_call_st (m := 350) (pc := 590) (q := 205) (y := 305) (n := 4) (as := [a_r (r1), a_i (u r0 (wr (x5 + 1) : Int).toNat), a_i (u r0 (wr (x5 + 2) : Int).toNat), a_r (r3)]) (rest := []) (by decide +kernel) (by decide +kernel) (by decide +kernel) (by decide +kernel) rfl rfl (Nat.le_of_ble_eq_true rfl) (Nat.le_of_ble_eq_true rfl) rfl (by rw [show m_maxL 305 = 5 from by decide +kernel]; exact Nat.le_of_ble_eq_true rfl)).trans ?_
  exact if_pos rfl
theorem B_L_law_644 {k : Nat → Nat × Nat} {u : Nat → Nat → Int} {g : Nat → Nat → Nat} {t : Nat × Nat × Nat} {r0 : Nat} {r1 : Nat} {r2 : Nat} {r3 : Nat} {r4 : Nat} {x5 : Int} {v6 : AV} {v7 : AV} {v8 : AV} : a_X 350 644 [a_r (r0), a_r (r1), a_r (r2), a_r (r3), a_r (r4), a_i (x5), v6, v7, v8] [] (k, u, g, t) = if ((k r0).1 = 20 ∨ (k r0).1 = 24) ∧ 0 ≤ (wr (x5 + 1) : Int) ∧ (wr (x5 + 1) : Int) < ((k r0).2 : Int) then if ((k r0).1 = 20 ∨ (k r0).1 = 24) ∧ 0 ≤ (wr (x5 + 2) : Int) ∧ (wr (x5 + 2) : Int) < ((k r0).2 : Int) then (a_m 306 [a_r (r1), a_i (u r0 (wr (x5 + 1) : Int).toNat), a_i (u r0 (wr (x5 + 2) : Int).toNat), a_r (r3)] (k, u, g, t)).bind (a_back 350 658 3 [a_r (r0), a_r (r1), a_r (r2), a_r (r3), a_r (r4), a_i (x5), v6, v7, v8] []) else none else none := by
  refine (X_aload_n (m := 350) (pc := 644) (n := 1) (by decide +kernel) rfl).trans ?_
  refine (X_aload_n (m := 350) (pc := 645) (n := 0) (by decide +kernel) rfl).trans ?_
  refine (X_iload (m := 350) (pc := 646) (n := 5) (by decide +kernel) rfl).trans ?_
  refine (X_iconst (m := 350) (pc := 648) (n := 1) (by decide +kernel) ).trans ?_
  refine (X_iadd (m := 350) (pc := 649)  (by decide +kernel) ).trans ?_
  refine (X_iaload (m := 350) (pc := 650)  (by decide +kernel) ).trans ?_
  refine ite_congr rfl (fun _ => ?_) (fun _ => rfl)
  refine (X_aload_n (m := 350) (pc := 651) (n := 0) (by decide +kernel) rfl).trans ?_
  refine (X_iload (m := 350) (pc := 652) (n := 5) (by decide +kernel) rfl).trans ?_
  refine (X_iconst (m := 350) (pc := 654) (n := 2) (by decide +kernel) ).trans ?_
  refine (X_iadd (m := 350) (pc := 655)  (by decide +kernel) ).trans ?_
  refine (X_iaload (m := 350) (pc := 656)  (by decide +kernel) ).trans ?_
  refine ite_congr rfl (fun _ => ?_) (fun _ => rfl)
  refine (X_aload_n (m := 350) (pc := 657) (n := 3) (by decide +kernel) rfl).trans ?_
  refine (X_call_st (m := 350) (pc := 658) (q := 209) (y := 306) (n := 4) (as := [a_r (r1), a_i (u r0 (wr (x5 + 1) : Int).toNat), a_i (u r0 (wr (x5 + 2) : Int).toNat), a_r (r3)]) (rest := []) (by decide +kernel) (by decide +kernel) (by decide +kernel) (by decide +kernel) rfl rfl (Nat.le_of_ble_eq_true rfl) (Nat.le_of_ble_eq_true rfl) rfl (by rw [show m_maxL 306 = 5 from by decide +kernel]; exact Nat.le_of_ble_eq_true rfl)).trans ?_
  exact if_pos rfl
theorem B_L_law_712 {k : Nat → Nat × Nat} {u : Nat → Nat → Int} {g : Nat → Nat → Nat} {t : Nat × Nat × Nat} {r0 : Nat} {r1 : Nat} {r2 : Nat} {r3 : Nat} {r4 : Nat} {x5 : Int} {v6 : AV} {v7 : AV} {v8 : AV} : a_X 350 712 [a_r (r0), a_r (r1), a_r (r2), a_r (r3), a_r (r4), a_i (x5), v6, v7, v8] [] (k, u, g, t) = if ((k r0).1 = 20 ∨ (k r0).1 = 24) ∧ 0 ≤ (wr (x5 + 1) : Int) ∧ (wr (x5 + 1) : Int) < ((k r0).2 : Int) then if ((k r0).1 = 20 ∨ (k r0).1 = 24) ∧ 0 ≤ (wr (x5 + 2) : Int) ∧ (wr (x5 + 2) : Int) < ((k r0).2 : Int) then (a_m 307 [a_r (r1), a_i (u r0 (wr (x5 + 1) : Int).toNat), a_i (u r0 (wr (x5 + 2) : Int).toNat), a_r (r3)] (k, u, g, t)).bind (a_back 350 726 3 [a_r (r0), a_r (r1), a_r (r2), a_r (r3), a_r (r4), a_i (x5), v6, v7, v8] []) else none else none := by
  refine (X_aload_n (m := 350) (pc := 712) (n := 1) (by decide +kernel) rfl).trans ?_
  refine (X_aload_n (m := 350) (pc := 713) (n := 0) (by decide +kernel) rfl).trans ?_
  refine (X_iload (m := 350) (pc := 714) (n := 5) (by decide +kernel) rfl).trans ?_
  refine (X_iconst (m := 350) (pc := 716) (n := 1) (by decide +kernel) ).trans ?_
  refine (X_iadd (m := 350) (pc := 717)  (by decide +kernel) ).trans ?_
  refine (X_iaload (m := 350) (pc := 718)  (by decide +kernel) ).trans ?_
  refine ite_congr rfl (fun _ => ?_) (fun _ => rfl)
  refine (X_aload_n (m := 350) (pc := 719) (n := 0) (by decide +kernel) rfl).trans ?_
  refine (X_iload (m := 350) (pc := 720) (n := 5) (by decide +kernel) rfl).trans ?_
  refine (X_iconst (m := 350) (pc := 722) (n := 2) (by decide +kernel) ).trans ?_
  refine (X_iadd (m := 350) (pc := 723)  (by decide +kernel) ).trans ?_
  refine (X_iaload (m := 350) (pc := 724)  (by decide +kernel) ).trans ?_
  refine ite_congr rfl (fun _ => ?_) (fun _ => rfl)
  refine (X_aload_n (m := 350) (pc := 725) (n := 3) (by decide +kernel) rfl).trans ?_
  refine (X_call_st (m := 350) (pc := 726) (q := 212) (y := 307) (n := 4) (as := [a_r (r1), a_i (u r0 (wr (x5 + 1) : Int).toNat), a_i (u r0 (wr (x5 + 2) : Int).toNat), a_r (r3)]) (rest := []) (by decide +kernel) (by decide +kernel) (by decide +kernel) (by decide +kernel) rfl rfl (Nat.le_of_ble_eq_true rfl) (Nat.le_of_ble_eq_true rfl) rfl (by rw [show m_maxL 307 = 5 from by decide +kernel]; exact Nat.le_of_ble_eq_true rfl)).trans ?_
  exact if_pos rfl
theorem B_L_law_780 {k : Nat → Nat × Nat} {u : Nat → Nat → Int} {g : Nat → Nat → Nat} {t : Nat × Nat × Nat} {r0 : Nat} {r1 : Nat} {r2 : Nat} {r3 : Nat} {r4 : Nat} {x5 : Int} {v6 : AV} {v7 : AV} {v8 : AV} : a_X 350 780 [a_r (r0), a_r (r1), a_r (r2), a_r (r3), a_r (r4), a_i (x5), v6, v7, v8] [] (k, u, g, t) = if ((k r0).1 = 20 ∨ (k r0).1 = 24) ∧ 0 ≤ (wr (x5 + 1) : Int) ∧ (wr (x5 + 1) : Int) < ((k r0).2 : Int) then if ((k r0).1 = 20 ∨ (k r0).1 = 24) ∧ 0 ≤ (wr (x5 + 2) : Int) ∧ (wr (x5 + 2) : Int) < ((k r0).2 : Int) then if ((k r0).1 = 20 ∨ (k r0).1 = 24) ∧ 0 ≤ (wr (x5 + 3) : Int) ∧ (wr (x5 + 3) : Int) < ((k r0).2 : Int) then (a_m 308 [a_r (r1), a_i (u r0 (wr (x5 + 1) : Int).toNat), a_i (u r0 (wr (x5 + 2) : Int).toNat), a_i (u r0 (wr (x5 + 3) : Int).toNat), a_r (r3)] (k, u, g, t)).bind (a_back 350 800 3 [a_r (r0), a_r (r1), a_r (r2), a_r (r3), a_r (r4), a_i (x5), v6, v7, v8] []) else none else none else none := by
  refine (X_aload_n (m := 350) (pc := 780) (n := 1) (by decide +kernel) rfl).trans ?_
  refine (X_aload_n (m := 350) (pc := 781) (n := 0) (by decide +kernel) rfl).trans ?_
  refine (X_iload (m := 350) (pc := 782) (n := 5) (by decide +kernel) rfl).trans ?_
  refine (X_iconst (m := 350) (pc := 784) (n := 1) (by decide +kernel) ).trans ?_
  refine (X_iadd (m := 350) (pc := 785)  (by decide +kernel) ).trans ?_
  refine (X_iaload (m := 350) (pc := 786)  (by decide +kernel) ).trans ?_
  refine ite_congr rfl (fun _ => ?_) (fun _ => rfl)
  refine (X_aload_n (m := 350) (pc := 787) (n := 0) (by decide +kernel) rfl).trans ?_
  refine (X_iload (m := 350) (pc := 788) (n := 5) (by decide +kernel) rfl).trans ?_
  refine (X_iconst (m := 350) (pc := 790) (n := 2) (by decide +kernel) ).trans ?_
  refine (X_iadd (m := 350) (pc := 791)  (by decide +kernel) ).trans ?_
  refine (X_iaload (m := 350) (pc := 792)  (by decide +kernel) ).trans ?_
  refine ite_congr rfl (fun _ => ?_) (fun _ => rfl)
  refine (X_aload_n (m := 350) (pc := 793) (n := 0) (by decide +kernel) rfl).trans ?_
  refine (X_iload (m := 350) (pc := 794) (n := 5) (by decide +kernel) rfl).trans ?_
  refine (X_iconst (m := 350) (pc := 796) (n := 3) (by decide +kernel) ).trans ?_
  refine (X_iadd (m := 350) (pc := 797)  (by decide +kernel) ).trans ?_
  refine (X_iaload (m := 350) (pc := 798)  (by decide +kernel) ).trans ?_
  refine ite_congr rfl (fun _ => ?_) (fun _ => rfl)
  refine (X_aload_n (m := 350) (pc := 799) (n := 3) (by decide +kernel) rfl).trans ?_
  refine (X_call_st (m := 350) (pc := 800) (q := 215) (y := 308) (n := 5) (as := [a_r (r1), a_i (u r0 (wr (x5 + 1) : Int).toNat), a_i (u r0 (wr (x5 + 2) : Int).toNat), a_i (u r0 (wr (x5 + 3) : Int).toNat), a_r (r3)]) (rest := []) (by decide +kernel) (by decide +kernel) (by decide +kernel) (by decide +kernel) rfl rfl (Nat.le_of_ble_eq_true rfl) (Nat.le_of_ble_eq_true rfl) rfl (by rw [show m_maxL 308 = 6 from by decide +kernel]; exact Nat.le_of_ble_eq_true rfl)).trans ?_
  exact if_pos rfl
theorem B_L_law_860 {k : Nat → Nat × Nat} {u : Nat → Nat → Int} {g : Nat → Nat → Nat} {t : Nat × Nat × Nat} {r0 : Nat} {r1 : Nat} {r2 : Nat} {r3 : Nat} {r4 : Nat} {x5 : Int} {v6 : AV} {v7 : AV} {v8 : AV} : a_X 350 860 [a_r (r0), a_r (r1), a_r (r2), a_r (r3), a_r (r4), a_i (x5), v6, v7, v8] [] (k, u, g, t) = if ((k r0).1 = 20 ∨ (k r0).1 = 24) ∧ 0 ≤ (wr (x5 + 1) : Int) ∧ (wr (x5 + 1) : Int) < ((k r0).2 : Int) then if ((k r0).1 = 20 ∨ (k r0).1 = 24) ∧ 0 ≤ (wr (x5 + 2) : Int) ∧ (wr (x5 + 2) : Int) < ((k r0).2 : Int) then if ((k r0).1 = 20 ∨ (k r0).1 = 24) ∧ 0 ≤ (wr (x5 + 3) : Int) ∧ (wr (x5 + 3) : Int) < ((k r0).2 : Int) then (a_m 309 [a_r (r1), a_i (u r0 (wr (x5 + 1) : Int).toNat), a_i (u r0 (wr (x5 + 2) : Int).toNat), a_i (u r0 (wr (x5 + 3) : Int).toNat), a_r (r3)] (k, u, g, t)).bind (a_back 350 880 3 [a_r (r0), a_r (r1), a_r (r2), a_r (r3), a_r (r4), a_i (x5), v6, v7, v8] []) else none else none else none := by
  refine (X_aload_n (m := 350) (pc := 860) (n := 1) (by decide +kernel) rfl).trans ?_
  refine (X_aload_n (m := 350) (pc := 861) (n := 0) (by decide +kernel) rfl).trans ?_
  refine (X_iload (m := 350) (pc := 862) (n := 5) (by decide +kernel) rfl).trans ?_
  refine (X_iconst (m := 350) (pc := 864) (n := 1) (by decide +kernel) ).trans ?_
  refine (X_iadd (m := 350) (pc := 865)  (by decide +kernel) ).trans ?_
  refine (X_iaload (m := 350) (pc := 866)  (by decide +kernel) ).trans ?_
  refine ite_congr rfl (fun _ => ?_) (fun _ => rfl)
  refine (X_aload_n (m := 350) (pc := 867) (n := 0) (by decide +kernel) rfl).trans ?_
  refine (X_iload (m := 350) (pc := 868) (n := 5) (by decide +kernel) rfl).trans ?_
  refine (X_iconst (m := 350) (pc := 870) (n := 2) (by decide +kernel) ).trans ?_
  refine (X_iadd (m := 350) (pc := 871)  (by decide +kernel) ).trans ?_
  refine (X_iaload (m := 350) (pc := 872)  (by decide +kernel) ).trans ?_
  refine ite_congr rfl (fun _ => ?_) (fun _ => rfl)
  refine (X_aload_n (m := 350) (pc := 873) (n := 0) (by decide +kernel) rfl).trans ?_
  refine (X_iload (m := 350) (pc := 874) (n := 5) (by decide +kernel) rfl).trans ?_
  refine (X_iconst (m := 350) (pc := 876) (n := 3) (by decide +kernel) ).trans ?_
  refine (X_iadd (m := 350) (pc := 877)  (by decide +kernel) ).trans ?_
  refine (X_iaload (m := 350) (pc := 878)  (by decide +kernel) ).trans ?_
  refine ite_congr rfl (fun _ => ?_) (fun _ => rfl)
  refine (X_aload_n (m := 350) (pc := 879) (n := 3) (by decide +kernel) rfl).trans ?_
  refine (X_call_st (m := 350) (pc := 880) (q := 218) (y := 309) (n := 5) (as := [a_r (r1), a_i (u r0 (wr (x5 + 1) : Int).toNat), a_i (u r0 (wr (x5 + 2) : Int).toNat), a_i (u r0 (wr (x5 + 3) : Int).toNat), a_r (r3)]) (rest := []) (by decide +kernel) (by decide +kernel) (by decide +kernel) (by decide +kernel) rfl rfl (Nat.le_of_ble_eq_true rfl) (Nat.le_of_ble_eq_true rfl) rfl (by rw [show m_maxL 309 = 6 from by decide +kernel]; exact Nat.le_of_ble_eq_true rfl)).trans ?_
  exact if_pos rfl
theorem B_L_law_940 {k : Nat → Nat × Nat} {u : Nat → Nat → Int} {g : Nat → Nat → Nat} {t : Nat × Nat × Nat} {r0 : Nat} {r1 : Nat} {r2 : Nat} {r3 : Nat} {r4 : Nat} {x5 : Int} {v6 : AV} {v7 : AV} {v8 : AV} : a_X 350 940 [a_r (r0), a_r (r1), a_r (r2), a_r (r3), a_r (r4), a_i (x5), v6, v7, v8] [] (k, u, g, t) = if ((k r0).1 = 20 ∨ (k r0).1 = 24) ∧ 0 ≤ (wr (x5 + 1) : Int) ∧ (wr (x5 + 1) : Int) < ((k r0).2 : Int) then (a_m 310 [a_r (r1), a_i (u r0 (wr (x5 + 1) : Int).toNat), a_r (r3)] (k, u, g, t)).bind (a_back 350 948 3 [a_r (r0), a_r (r1), a_r (r2), a_r (r3), a_r (r4), a_i (x5), v6, v7, v8] []) else none := by
  refine (X_aload_n (m := 350) (pc := 940) (n := 1) (by decide +kernel) rfl).trans ?_
  refine (X_aload_n (m := 350) (pc := 941) (n := 0) (by decide +kernel) rfl).trans ?_
  refine (X_iload (m := 350) (pc := 942) (n := 5) (by decide +kernel) rfl).trans ?_
  refine (X_iconst (m := 350) (pc := 944) (n := 1) (by decide +kernel) ).trans ?_
  refine (X_iadd (m := 350) (pc := 945)  (by decide +kernel) ).trans ?_
  refine (X_iaload (m := 350) (pc := 946)  (by decide +kernel) ).trans ?_
  refine ite_congr rfl (fun _ => ?_) (fun _ => rfl)
  refine (X_aload_n (m := 350) (pc := 947) (n := 3) (by decide +kernel) rfl).trans ?_
  refine (X_call_st (m := 350) (pc := 948) (q := 221) (y := 310) (n := 3) (as := [a_r (r1), a_i (u r0 (wr (x5 + 1) : Int).toNat), a_r (r3)]) (rest := []) (by decide +kernel) (by decide +kernel) (by decide +kernel) (by decide +kernel) rfl rfl (Nat.le_of_ble_eq_true rfl) (Nat.le_of_ble_eq_true rfl) rfl (by rw [show m_maxL 310 = 4 from by decide +kernel]; exact Nat.le_of_ble_eq_true rfl)).trans ?_
  exact if_pos rfl
theorem B_L_law_996 {k : Nat → Nat × Nat} {u : Nat → Nat → Int} {g : Nat → Nat → Nat} {t : Nat × Nat × Nat} {r0 : Nat} {r1 : Nat} {r2 : Nat} {r3 : Nat} {r4 : Nat} {x5 : Int} {v6 : AV} {v7 : AV} {v8 : AV} : a_X 350 996 [a_r (r0), a_r (r1), a_r (r2), a_r (r3), a_r (r4), a_i (x5), v6, v7, v8] [] (k, u, g, t) = if ((k r0).1 = 20 ∨ (k r0).1 = 24) ∧ 0 ≤ (wr (x5 + 1) : Int) ∧ (wr (x5 + 1) : Int) < ((k r0).2 : Int) then if ((k r0).1 = 20 ∨ (k r0).1 = 24) ∧ 0 ≤ (wr (x5 + 2) : Int) ∧ (wr (x5 + 2) : Int) < ((k r0).2 : Int) then (a_m 311 [a_r (r1), a_i (u r0 (wr (x5 + 1) : Int).toNat), a_i (u r0 (wr (x5 + 2) : Int).toNat), a_r (r3)] (k, u, g, t)).bind (a_back 350 1010 3 [a_r (r0), a_r (r1), a_r (r2), a_r (r3), a_r (r4), a_i (x5), v6, v7, v8] []) else none else none := by
  refine (X_aload_n (m := 350) (pc := 996) (n := 1) (by decide +kernel) rfl).trans ?_
  refine (X_aload_n (m := 350) (pc := 997) (n := 0) (by decide +kernel) rfl).trans ?_
  refine (X_iload (m := 350) (pc := 998) (n := 5) (by decide +kernel) rfl).trans ?_
  refine (X_iconst (m := 350) (pc := 1000) (n := 1) (by decide +kernel) ).trans ?_
  refine (X_iadd (m := 350) (pc := 1001)  (by decide +kernel) ).trans ?_
  refine (X_iaload (m := 350) (pc := 1002)  (by decide +kernel) ).trans ?_
  refine ite_congr rfl (fun _ => ?_) (fun _ => rfl)
  refine (X_aload_n (m := 350) (pc := 1003) (n := 0) (by decide +kernel) rfl).trans ?_
  refine (X_iload (m := 350) (pc := 1004) (n := 5) (by decide +kernel) rfl).trans ?_
  refine (X_iconst (m := 350) (pc := 1006) (n := 2) (by decide +kernel) ).trans ?_
  refine (X_iadd (m := 350) (pc := 1007)  (by decide +kernel) ).trans ?_
  refine (X_iaload (m := 350) (pc := 1008)  (by decide +kernel) ).trans ?_
  refine ite_congr rfl (fun _ => ?_) (fun _ => rfl)
  refine (X_aload_n (m := 350) (pc := 1009) (n := 3) (by decide +kernel) rfl).trans ?_
  refine (X_call_st (m := 350) (pc := 1010) (q := 224) (y := 311) (n := 4) (as := [a_r (r1), a_i (u r0 (wr (x5 + 1) : Int).toNat), a_i (u r0 (wr (x5 + 2) : Int).toNat), a_r (r3)]) (rest := []) (by decide +kernel) (by decide +kernel) (by decide +kernel) (by decide +kernel) rfl rfl (Nat.le_of_ble_eq_true rfl) (Nat.le_of_ble_eq_true rfl) rfl (by rw [show m_maxL 311 = 5 from by decide +kernel]; exact Nat.le_of_ble_eq_true rfl)).trans ?_
  exact if_pos rfl
theorem B_L_law_1064 {k : Nat → Nat × Nat} {u : Nat → Nat → Int} {g : Nat → Nat → Nat} {t : Nat × Nat × Nat} {r0 : Nat} {r1 : Nat} {r2 : Nat} {r3 : Nat} {r4 : Nat} {x5 : Int} {v6 : AV} {v7 : AV} {v8 : AV} : a_X 350 1064 [a_r (r0), a_r (r1), a_r (r2), a_r (r3), a_r (r4), a_i (x5), v6, v7, v8] [] (k, u, g, t) = if ((k r0).1 = 20 ∨ (k r0).1 = 24) ∧ 0 ≤ (wr (x5 + 1) : Int) ∧ (wr (x5 + 1) : Int) < ((k r0).2 : Int) then if ((k r0).1 = 20 ∨ (k r0).1 = 24) ∧ 0 ≤ (wr (x5 + 2) : Int) ∧ (wr (x5 + 2) : Int) < ((k r0).2 : Int) then if ((k r0).1 = 20 ∨ (k r0).1 = 24) ∧ 0 ≤ (wr (x5 + 3) : Int) ∧ (wr (x5 + 3) : Int) < ((k r0).2 : Int) then if ((k r0).1 = 20 ∨ (k r0).1 = 24) ∧ 0 ≤ (wr (x5 + 4) : Int) ∧ (wr (x5 + 4) : Int) < ((k r0).2 : Int) then (a_m 312 [a_r (r1), a_i (u r0 (wr (x5 + 1) : Int).toNat), a_i (u r0 (wr (x5 + 2) : Int).toNat), a_i (u r0 (wr (x5 + 3) : Int).toNat), a_i (u r0 (wr (x5 + 4) : Int).toNat), a_r (r3)] (k, u, g, t)).bind (a_back 350 1090 3 [a_r (r0), a_r (r1), a_r (r2), a_r (r3), a_r (r4), a_i (x5), v6, v7, v8] []) else none else none else none else none := by
  refine (X_aload_n (m := 350) (pc := 1064) (n := 1) (by decide +kernel) rfl).trans ?_
  refine (X_aload_n (m := 350) (pc := 1065) (n := 0) (by decide +kernel) rfl).trans ?_
  refine (X_iload (m := 350) (pc := 1066) (n := 5) (by decide +kernel) rfl).trans ?_
  refine (X_iconst (m := 350) (pc := 1068) (n := 1) (by decide +kernel) ).trans ?_
  refine (X_iadd (m := 350) (pc := 1069)  (by decide +kernel) ).trans ?_
  refine (X_iaload (m := 350) (pc := 1070)  (by decide +kernel) ).trans ?_
  refine ite_congr rfl (fun _ => ?_) (fun _ => rfl)
  refine (X_aload_n (m := 350) (pc := 1071) (n := 0) (by decide +kernel) rfl).trans ?_
  refine (X_iload (m := 350) (pc := 1072) (n := 5) (by decide +kernel) rfl).trans ?_
  refine (X_iconst (m := 350) (pc := 1074) (n := 2) (by decide +kernel) ).trans ?_
  refine (X_iadd (m := 350) (pc := 1075)  (by decide +kernel) ).trans ?_
  refine (X_iaload (m := 350) (pc := 1076)  (by decide +kernel) ).trans ?_
  refine ite_congr rfl (fun _ => ?_) (fun _ => rfl)
  refine (X_aload_n (m := 350) (pc := 1077) (n := 0) (by decide +kernel) rfl).trans ?_
  refine (X_iload (m := 350) (pc := 1078) (n := 5) (by decide +kernel) rfl).trans ?_
  refine (X_iconst (m := 350) (pc := 1080) (n := 3) (by decide +kernel) ).trans ?_
  refine (X_iadd (m := 350) (pc := 1081)  (by decide +kernel) ).trans ?_
  refine (X_iaload (m := 350) (pc := 1082)  (by decide +kernel) ).trans ?_
  refine ite_congr rfl (fun _ => ?_) (fun _ => rfl)
  refine (X_aload_n (m := 350) (pc := 1083) (n := 0) (by decide +kernel) rfl).trans ?_
  refine (X_iload (m := 350) (pc := 1084) (n := 5) (by decide +kernel) rfl).trans ?_
  refine (X_iconst (m := 350) (pc := 1086) (n := 4) (by decide +kernel) ).trans ?_
  refine (X_iadd (m := 350) (pc := 1087)  (by decide +kernel) ).trans ?_
  refine (X_iaload (m := 350) (pc := 1088)  (by decide +kernel) ).trans ?_
  refine ite_congr rfl (fun _ => ?_) (fun _ => rfl)
  refine (X_aload_n (m := 350) (pc := 1089) (n := 3) (by decide +kernel) rfl).trans ?_
  refine (X_call_st (m := 350) (pc := 1090) (q := 227) (y := 312) (n := 6) (as := [a_r (r1), a_i (u r0 (wr (x5 + 1) : Int).toNat), a_i (u r0 (wr (x5 + 2) : Int).toNat), a_i (u r0 (wr (x5 + 3) : Int).toNat), a_i (u r0 (wr (x5 + 4) : Int).toNat), a_r (r3)]) (rest := []) (by decide +kernel) (by decide +kernel) (by decide +kernel) (by decide +kernel) rfl rfl (Nat.le_of_ble_eq_true rfl) (Nat.le_of_ble_eq_true rfl) rfl (by rw [show m_maxL 312 = 7 from by decide +kernel]; exact Nat.le_of_ble_eq_true rfl)).trans ?_
  exact if_pos rfl
theorem B_L_law_1156 {k : Nat → Nat × Nat} {u : Nat → Nat → Int} {g : Nat → Nat → Nat} {t : Nat × Nat × Nat} {r0 : Nat} {r1 : Nat} {r2 : Nat} {r3 : Nat} {r4 : Nat} {x5 : Int} {v6 : AV} {v7 : AV} {v8 : AV} : a_X 350 1156 [a_r (r0), a_r (r1), a_r (r2), a_r (r3), a_r (r4), a_i (x5), v6, v7, v8] [] (k, u, g, t) = if ((k r0).1 = 20 ∨ (k r0).1 = 24) ∧ 0 ≤ (wr (x5 + 1) : Int) ∧ (wr (x5 + 1) : Int) < ((k r0).2 : Int) then if ((k r0).1 = 20 ∨ (k r0).1 = 24) ∧ 0 ≤ (wr (x5 + 2) : Int) ∧ (wr (x5 + 2) : Int) < ((k r0).2 : Int) then (a_m 313 [a_r (r1), a_i (u r0 (wr (x5 + 1) : Int).toNat), a_i (u r0 (wr (x5 + 2) : Int).toNat), a_r (r3)] (k, u, g, t)).bind (a_back 350 1170 3 [a_r (r0), a_r (r1), a_r (r2), a_r (r3), a_r (r4), a_i (x5), v6, v7, v8] []) else none else none := by
  refine (X_aload_n (m := 350) (pc := 1156) (n := 1) (by decide +kernel) rfl).trans ?_
  refine (X_aload_n (m := 350) (pc := 1157) (n := 0) (by decide +kernel) rfl).trans ?_
  refine (X_iload (m := 350) (pc := 1158) (n := 5) (by decide +kernel) rfl).trans ?_
  refine (X_iconst (m := 350) (pc := 1160) (n := 1) (by decide +kernel) ).trans ?_
  refine (X_iadd (m := 350) (pc := 1161)  (by decide +kernel) ).trans ?_
  refine (X_iaload (m := 350) (pc := 1162)  (by decide +kernel) ).trans ?_
  refine ite_congr rfl (fun _ => ?_) (fun _ => rfl)
  refine (X_aload_n (m := 350) (pc := 1163) (n := 0) (by decide +kernel) rfl).trans ?_
  refine (X_iload (m := 350) (pc := 1164) (n := 5) (by decide +kernel) rfl).trans ?_
  refine (X_iconst (m := 350) (pc := 1166) (n := 2) (by decide +kernel) ).trans ?_
  refine (X_iadd (m := 350) (pc := 1167)  (by decide +kernel) ).trans ?_
  refine (X_iaload (m := 350) (pc := 1168)  (by decide +kernel) ).trans ?_
  refine ite_congr rfl (fun _ => ?_) (fun _ => rfl)
  refine (X_aload_n (m := 350) (pc := 1169) (n := 3) (by decide +kernel) rfl).trans ?_
  refine (X_call_st (m := 350) (pc := 1170) (q := 231) (y := 313) (n := 4) (as := [a_r (r1), a_i (u r0 (wr (x5 + 1) : Int).toNat), a_i (u r0 (wr (x5 + 2) : Int).toNat), a_r (r3)]) (rest := []) (by decide +kernel) (by decide +kernel) (by decide +kernel) (by decide +kernel) rfl rfl (Nat.le_of_ble_eq_true rfl) (Nat.le_of_ble_eq_true rfl) rfl (by rw [show m_maxL 313 = 5 from by decide +kernel]; exact Nat.le_of_ble_eq_true rfl)).trans ?_
  exact if_pos rfl
theorem B_L_law_1224 {k : Nat → Nat × Nat} {u : Nat → Nat → Int} {g : Nat → Nat → Nat} {t : Nat × Nat × Nat} {r0 : Nat} {r1 : Nat} {r2 : Nat} {r3 : Nat} {r4 : Nat} {x5 : Int} {v6 : AV} {v7 : AV} {v8 : AV} : a_X 350 1224 [a_r (r0), a_r (r1), a_r (r2), a_r (r3), a_r (r4), a_i (x5), v6, v7, v8] [] (k, u, g, t) = if ((k r0).1 = 20 ∨ (k r0).1 = 24) ∧ 0 ≤ (wr (x5 + 1) : Int) ∧ (wr (x5 + 1) : Int) < ((k r0).2 : Int) then if ((k r0).1 = 20 ∨ (k r0).1 = 24) ∧ 0 ≤ (wr (x5 + 2) : Int) ∧ (wr (x5 + 2) : Int) < ((k r0).2 : Int) then if ((k r0).1 = 20 ∨ (k r0).1 = 24) ∧ 0 ≤ (wr (x5 + 3) : Int) ∧ (wr (x5 + 3) : Int) < ((k r0).2 : Int) then (a_m 314 [a_r (r1), a_i (u r0 (wr (x5 + 1) : Int).toNat), a_i (u r0 (wr (x5 + 2) : Int).toNat), a_i (u r0 (wr (x5 + 3) : Int).toNat), a_r (r3)] (k, u, g, t)).bind (a_back 350 1244 3 [a_r (r0), a_r (r1), a_r (r2), a_r (r3), a_r (r4), a_i (x5), v6, v7, v8] []) else none else none else none := by
  refine (X_aload_n (m := 350) (pc := 1224) (n := 1) (by decide +kernel) rfl).trans ?_
  refine (X_aload_n (m := 350) (pc := 1225) (n := 0) (by decide +kernel) rfl).trans ?_
  refine (X_iload (m := 350) (pc := 1226) (n := 5) (by decide +kernel) rfl).trans ?_
  refine (X_iconst (m := 350) (pc := 1228) (n := 1) (by decide +kernel) ).trans ?_
  refine (X_iadd (m := 350) (pc := 1229)  (by decide +kernel) ).trans ?_
  refine (X_iaload (m := 350) (pc := 1230)  (by decide +kernel) ).trans ?_
  refine ite_congr rfl (fun _ => ?_) (fun _ => rfl)
  refine (X_aload_n (m := 350) (pc := 1231) (n := 0) (by decide +kernel) rfl).trans ?_
  refine (X_iload (m := 350) (pc := 1232) (n := 5) (by decide +kernel) rfl).trans ?_
  refine (X_iconst (m := 350) (pc := 1234) (n := 2) (by decide +kernel) ).trans ?_
  refine (X_iadd (m := 350) (pc := 1235)  (by decide +kernel) ).trans ?_
  refine (X_iaload (m := 350) (pc := 1236)  (by decide +kernel) ).trans ?_
  refine ite_congr rfl (fun _ => ?_) (fun _ => rfl)
  refine (X_aload_n (m := 350) (pc := 1237) (n := 0) (by decide +kernel) rfl).trans ?_
  refine (X_iload (m := 350) (pc := 1238) (n := 5) (by decide +kernel) rfl).trans ?_
  refine (X_iconst (m := 350) (pc := 1240) (n := 3) (by decide +kernel) ).trans ?_
  refine (X_iadd (m := 350) (pc := 1241)  (by decide +kernel) ).trans ?_
  refine (X_iaload (m := 350) (pc := 1242)  (by decide +kernel) ).trans ?_
  refine ite_congr rfl (fun _ => ?_) (fun _ => rfl)
  refine (X_aload_n (m := 350) (pc := 1243) (n := 3) (by decide +kernel) rfl).trans ?_
  refine (X_call_st (m := 350) (pc := 1244) (q := 234) (y := 314) (n := 5) (as := [a_r (r1), a_i (u r0 (wr (x5 + 1) : Int).toNat), a_i (u r0 (wr (x5 + 2) : Int).toNat), a_i (u r0 (wr (x5 + 3) : Int).toNat), a_r (r3)]) (rest := []) (by decide +kernel) (by decide +kernel) (by decide +kernel) (by decide +kernel) rfl rfl (Nat.le_of_ble_eq_true rfl) (Nat.le_of_ble_eq_true rfl) rfl (by rw [show m_maxL 314 = 6 from by decide +kernel]; exact Nat.le_of_ble_eq_true rfl)).trans ?_
  exact if_pos rfl
theorem B_L_law_1304 {k : Nat → Nat × Nat} {u : Nat → Nat → Int} {g : Nat → Nat → Nat} {t : Nat × Nat × Nat} {r0 : Nat} {r1 : Nat} {r2 : Nat} {r3 : Nat} {r4 : Nat} {x5 : Int} {v6 : AV} {v7 : AV} {v8 : AV} : a_X 350 1304 [a_r (r0), a_r (r1), a_r (r2), a_r (r3), a_r (r4), a_i (x5), v6, v7, v8] [] (k, u, g, t) = if ((k r0).1 = 20 ∨ (k r0).1 = 24) ∧ 0 ≤ (wr (x5 + 1) : Int) ∧ (wr (x5 + 1) : Int) < ((k r0).2 : Int) then if ((k r0).1 = 20 ∨ (k r0).1 = 24) ∧ 0 ≤ (wr (x5 + 2) : Int) ∧ (wr (x5 + 2) : Int) < ((k r0).2 : Int) then (a_m 315 [a_r (r1), a_i (u r0 (wr (x5 + 1) : Int).toNat), a_i (u r0 (wr (x5 + 2) : Int).toNat), a_r (r3)] (k, u, g, t)).bind (a_back 350 1318 3 [a_r (r0), a_r (r1), a_r (r2), a_r (r3), a_r (r4), a_i (x5), v6, v7, v8] []) else none else none := by
  refine (X_aload_n (m := 350) (pc := 1304) (n := 1) (by decide +kernel) rfl).trans ?_
  refine (X_aload_n (m := 350) (pc := 1305) (n := 0) (by decide +kernel) rfl).trans ?_
  refine (X_iload (m := 350) (pc := 1306) (n := 5) (by decide +kernel) rfl).trans ?_
  refine (X_iconst (m := 350) (pc := 1308) (n := 1) (by decide +kernel) ).trans ?_
  refine (X_iadd (m := 350) (pc := 1309)  (by decide +kernel) ).trans ?_
  refine (X_iaload (m := 350) (pc := 1310)  (by decide +kernel) ).trans ?_
  refine ite_congr rfl (fun _ => ?_) (fun _ => rfl)
  refine (X_aload_n (m := 350) (pc := 1311) (n := 0) (by decide +kernel) rfl).trans ?_
  refine (X_iload (m := 350) (pc := 1312) (n := 5) (by decide +kernel) rfl).trans ?_
  refine (X_iconst (m := 350) (pc := 1314) (n := 2) (by decide +kernel) ).trans ?_
  refine (X_iadd (m := 350) (pc := 1315)  (by decide +kernel) ).trans ?_
  refine (X_iaload (m := 350) (pc := 1316)  (by decide +kernel) ).trans ?_
  refine ite_congr rfl (fun _ => ?_) (fun _ => rfl)
  refine (X_aload_n (m := 350) (pc := 1317) (n := 3) (by decide +kernel) rfl).trans ?_
  refine (X_call_st (m := 350) (pc := 1318) (q := 237) (y := 315) (n := 4) (as := [a_r (r1), a_i (u r0 (wr (x5 + 1) : Int).toNat), a_i (u r0 (wr (x5 + 2) : Int).toNat), a_r (r3)]) (rest := []) (by decide +kernel) (by decide +kernel) (by decide +kernel) (by decide +kernel) rfl rfl (Nat.le_of_ble_eq_true rfl) (Nat.le_of_ble_eq_true rfl) rfl (by rw [show m_maxL 315 = 5 from by decide +kernel]; exact Nat.le_of_ble_eq_true rfl)).trans ?_
  exact if_pos rfl
theorem B_L_law_1379 {k : Nat → Nat × Nat} {u : Nat → Nat → Int} {g : Nat → Nat → Nat} {t : Nat × Nat × Nat} {r0 : Nat} {r1 : Nat} {r2 : Nat} {r3 : Nat} {r4 : Nat} {x5 : Int} {v6 : AV} {v7 : AV} {v8 : AV} : a_X 350 1379 [a_r (r0), a_r (r1), a_r (r2), a_r (r3), a_r (r4), a_i (x5), v6, v7, v8] [] (k, u, g, t) = if ((k r0).1 = 20 ∨ (k r0).1 = 24) ∧ 0 ≤ (wr (x5 + 1) : Int) ∧ (wr (x5 + 1) : Int) < ((k r0).2 : Int) then if ((k r0).1 = 20 ∨ (k r0).1 = 24) ∧ 0 ≤ (wr (x5 + 2) : Int) ∧ (wr (x5 + 2) : Int) < ((k r0).2 : Int) then (a_m 316 [a_r (r1), a_i (u r0 (wr (x5 + 1) : Int).toNat), a_i (u r0 (wr (x5 + 2) : Int).toNat), a_r (r3)] (k, u, g, t)).bind (a_back 350 1393 3 [a_r (r0), a_r (r1), a_r (r2), a_r (r3), a_r (r4), a_i (x5), v6, v7, v8] []) else none else none := by
  refine (X_aload_n (m := 350) (pc := 1379) (n := 1) (by decide +kernel) rfl).trans ?_
  refine (X_aload_n (m := 350) (pc := 1380) (n := 0) (by decide +kernel) rfl).trans ?_
  refine (X_iload (m := 350) (pc := 1381) (n := 5) (by decide +kernel) rfl).trans ?_
  refine (X_iconst (m := 350) (pc := 1383) (n := 1) (by decide +kernel) ).trans ?_
  refine (X_iadd (m := 350) (pc := 1384)  (by decide +kernel) ).trans ?_
  refine (X_iaload (m := 350) (pc := 1385)  (by decide +kernel) ).trans ?_
  refine ite_congr rfl (fun _ => ?_) (fun _ => rfl)
  refine (X_aload_n (m := 350) (pc := 1386) (n := 0) (by decide +kernel) rfl).trans ?_
  refine (X_iload (m := 350) (pc := 1387) (n := 5) (by decide +kernel) rfl).trans ?_
  refine (X_iconst (m := 350) (pc := 1389) (n := 2) (by decide +kernel) ).trans ?_
  refine (X_iadd (m := 350) (pc := 1390)  (by decide +kernel) ).trans ?_
  refine (X_iaload (m := 350) (pc := 1391)  (by decide +kernel) ).trans ?_
  refine ite_congr rfl (fun _ => ?_) (fun _ => rfl)
  refine (X_aload_n (m := 350) (pc := 1392) (n := 3) (by decide +kernel) rfl).trans ?_
  refine (X_call_st (m := 350) (pc := 1393) (q := 240) (y := 316) (n := 4) (as := [a_r (r1), a_i (u r0 (wr (x5 + 1) : Int).toNat), a_i (u r0 (wr (x5 + 2) : Int).toNat), a_r (r3)]) (rest := []) (by decide +kernel) (by decide +kernel) (by decide +kernel) (by decide +kernel) rfl rfl (Nat.le_of_ble_eq_true rfl) (Nat.le_of_ble_eq_true rfl) rfl (by rw [show m_maxL 316 = 5 from by decide +kernel]; exact Nat.le_of_ble_eq_true rfl)).trans ?_
  exact if_pos rfl
theorem B_L_law_1447 {k : Nat → Nat × Nat} {u : Nat → Nat → Int} {g : Nat → Nat → Nat} {t : Nat × Nat × Nat} {r0 : Nat} {r1 : Nat} {r2 : Nat} {r3 : Nat} {r4 : Nat} {x5 : Int} {v6 : AV} {v7 : AV} {v8 : AV} : a_X 350 1447 [a_r (r0), a_r (r1), a_r (r2), a_r (r3), a_r (r4), a_i (x5), v6, v7, v8] [] (k, u, g, t) = if ((k r0).1 = 20 ∨ (k r0).1 = 24) ∧ 0 ≤ (wr (x5 + 1) : Int) ∧ (wr (x5 + 1) : Int) < ((k r0).2 : Int) then if ((k r0).1 = 20 ∨ (k r0).1 = 24) ∧ 0 ≤ (wr (x5 + 2) : Int) ∧ (wr (x5 + 2) : Int) < ((k r0).2 : Int) then (a_m 317 [a_r (r1), a_i (u r0 (wr (x5 + 1) : Int).toNat), a_i (u r0 (wr (x5 + 2) : Int).toNat), a_r (r3)] (k, u, g, t)).bind (a_back 350 1461 3 [a_r (r0), a_r (r1), a_r (r2), a_r (r3), a_r (r4), a_i (x5), v6, v7, v8] []) else none else none := by
  refine (X_aload_n (m := 350) (pc := 1447) (n := 1) (by decide +kernel) rfl).trans ?_
  refine (X_aload_n (m := 350) (pc := 1448) (n := 0) (by decide +kernel) rfl).trans ?_
  refine (X_iload (m := 350) (pc := 1449) (n := 5) (by decide +kernel) rfl).trans ?_
  refine (X_iconst (m := 350) (pc := 1451) (n := 1) (by decide +kernel) ).trans ?_
  refine (X_iadd (m := 350) (pc := 1452)  (by decide +kernel) ).trans ?_
  refine (X_iaload (m := 350) (pc := 1453)  (by decide +kernel) ).trans ?_
  refine ite_congr rfl (fun _ => ?_) (fun _ => rfl)
  refine (X_aload_n (m := 350) (pc := 1454) (n := 0) (by decide +kernel) rfl).trans ?_
  refine (X_iload (m := 350) (pc := 1455) (n := 5) (by decide +kernel) rfl).trans ?_
  refine (X_iconst (m := 350) (pc := 1457) (n := 2) (by decide +kernel) ).trans ?_
  refine (X_iadd (m := 350) (pc := 1458)  (by decide +kernel) ).trans ?_
  refine (X_iaload (m := 350) (pc := 1459)  (by decide +kernel) ).trans ?_
  refine ite_congr rfl (fun _ => ?_) (fun _ => rfl)
  refine (X_aload_n (m := 350) (pc := 1460) (n := 3) (by decide +kernel) rfl).trans ?_
  refine (X_call_st (m := 350) (pc := 1461) (q := 243) (y := 317) (n := 4) (as := [a_r (r1), a_i (u r0 (wr (x5 + 1) : Int).toNat), a_i (u r0 (wr (x5 + 2) : Int).toNat), a_r (r3)]) (rest := []) (by decide +kernel) (by decide +kernel) (by decide +kernel) (by decide +kernel) rfl rfl (Nat.le_of_ble_eq_true rfl) (Nat.le_of_ble_eq_true rfl) rfl (by rw [show m_maxL 317 = 5 from by decide +kernel]; exact Nat.le_of_ble_eq_true rfl)).trans ?_
  exact if_pos rfl
theorem B_L_law_1522 {k : Nat → Nat × Nat} {u : Nat → Nat → Int} {g : Nat → Nat → Nat} {t : Nat × Nat × Nat} {r0 : Nat} {r1 : Nat} {r2 : Nat} {r3 : Nat} {r4 : Nat} {x5 : Int} {v6 : AV} {v7 : AV} {v8 : AV} : a_X 350 1522 [a_r (r0), a_r (r1), a_r (r2), a_r (r3), a_r (r4), a_i (x5), v6, v7, v8] [] (k, u, g, t) = if ((k r0).1 = 20 ∨ (k r0).1 = 24) ∧ 0 ≤ (wr (x5 + 1) : Int) ∧ (wr (x5 + 1) : Int) < ((k r0).2 : Int) then (a_m 318 [a_r (r1), a_i (u r0 (wr (x5 + 1) : Int).toNat), a_r (r3)] (k, u, g, t)).bind (a_back 350 1530 3 [a_r (r0), a_r (r1), a_r (r2), a_r (r3), a_r (r4), a_i (x5), v6, v7, v8] []) else none := by
  refine (X_aload_n (m := 350) (pc := 1522) (n := 1) (by decide +kernel) rfl).trans ?_
  refine (X_aload_n (m := 350) (pc := 1523) (n := 0) (by decide +kernel) rfl).trans ?_
  refine (X_iload (m := 350) (pc := 1524) (n := 5) (by decide +kernel) rfl).trans ?_
  refine (X_iconst (m := 350) (pc := 1526) (n := 1) (by decide +kernel) ).trans ?_
  refine (X_iadd (m := 350) (pc := 1527)  (by decide +kernel) ).trans ?_
  refine (X_iaload (m := 350) (pc := 1528)  (by decide +kernel) ).trans ?_
  refine ite_congr rfl (fun _ => ?_) (fun _ => rfl)
  refine (X_aload_n (m := 350) (pc := 1529) (n := 3) (by decide +kernel) rfl).trans ?_
  refine (X_call_st (m := 350) (pc := 1530) (q := 246) (y := 318) (n := 3) (as := [a_r (r1), a_i (u r0 (wr (x5 + 1) : Int).toNat), a_r (r3)]) (rest := []) (by decide +kernel) (by decide +kernel) (by decide +kernel) (by decide +kernel) rfl rfl (Nat.le_of_ble_eq_true rfl) (Nat.le_of_ble_eq_true rfl) rfl (by rw [show m_maxL 318 = 4 from by decide +kernel]; exact Nat.le_of_ble_eq_true rfl)).trans ?_
  exact if_pos rfl
theorem B_L_law_1578 {k : Nat → Nat × Nat} {u : Nat → Nat → Int} {g : Nat → Nat → Nat} {t : Nat × Nat × Nat} {r0 : Nat} {r1 : Nat} {r2 : Nat} {r3 : Nat} {r4 : Nat} {x5 : Int} {v6 : AV} {v7 : AV} {v8 : AV} : a_X 350 1578 [a_r (r0), a_r (r1), a_r (r2), a_r (r3), a_r (r4), a_i (x5), v6, v7, v8] [] (k, u, g, t) = (a_m 319 [a_r (r1), a_r (r3)] (k, u, g, t)).bind (a_back 350 1580 3 [a_r (r0), a_r (r1), a_r (r2), a_r (r3), a_r (r4), a_i (x5), v6, v7, v8] []) := by
  refine (X_aload_n (m := 350) (pc := 1578) (n := 1) (by decide +kernel) rfl).trans ?_
  refine (X_aload_n (m := 350) (pc := 1579) (n := 3) (by decide +kernel) rfl).trans ?_
  refine (X_call_st (m := 350) (pc := 1580) (q := 249) (y := 319) (n := 2) (as := [a_r (r1), a_r (r3)]) (rest := []) (by decide +kernel) (by decide +kernel) (by decide +kernel) (by decide +kernel) rfl rfl (Nat.le_of_ble_eq_true rfl) (Nat.le_of_ble_eq_true rfl) rfl (by rw [show m_maxL 319 = 3 from by decide +kernel]; exact Nat.le_of_ble_eq_true rfl)).trans ?_
  exact if_pos rfl
theorem B_L_law_1622 {k : Nat → Nat × Nat} {u : Nat → Nat → Int} {g : Nat → Nat → Nat} {t : Nat × Nat × Nat} {r0 : Nat} {r1 : Nat} {r2 : Nat} {r3 : Nat} {r4 : Nat} {x5 : Int} {v6 : AV} {v7 : AV} {v8 : AV} : a_X 350 1622 [a_r (r0), a_r (r1), a_r (r2), a_r (r3), a_r (r4), a_i (x5), v6, v7, v8] [] (k, u, g, t) = if ((k r0).1 = 20 ∨ (k r0).1 = 24) ∧ 0 ≤ (wr (x5 + 1) : Int) ∧ (wr (x5 + 1) : Int) < ((k r0).2 : Int) then (a_m 320 [a_r (r1), a_i (u r0 (wr (x5 + 1) : Int).toNat), a_r (r3)] (k, u, g, t)).bind (a_back 350 1630 3 [a_r (r0), a_r (r1), a_r (r2), a_r (r3), a_r (r4), a_i (x5), v6, v7, v8] []) else none := by
  refine (X_aload_n (m := 350) (pc := 1622) (n := 1) (by decide +kernel) rfl).trans ?_
  refine (X_aload_n (m := 350) (pc := 1623) (n := 0) (by decide +kernel) rfl).trans ?_
  refine (X_iload (m := 350) (pc := 1624) (n := 5) (by decide +kernel) rfl).trans ?_
  refine (X_iconst (m := 350) (pc := 1626) (n := 1) (by decide +kernel) ).trans ?_
  refine (X_iadd (m := 350) (pc := 1627)  (by decide +kernel) ).trans ?_
  refine (X_iaload (m := 350) (pc := 1628)  (by decide +kernel) ).trans ?_
  refine ite_congr rfl (fun _ => ?_) (fun _ => rfl)
  refine (X_aload_n (m := 350) (pc := 1629) (n := 3) (by decide +kernel) rfl).trans ?_
  refine (X_call_st (m := 350) (pc := 1630) (q := 253) (y := 320) (n := 3) (as := [a_r (r1), a_i (u r0 (wr (x5 + 1) : Int).toNat), a_r (r3)]) (rest := []) (by decide +kernel) (by decide +kernel) (by decide +kernel) (by decide +kernel) rfl rfl (Nat.le_of_ble_eq_true rfl) (Nat.le_of_ble_eq_true rfl) rfl (by rw [show m_maxL 320 = 4 from by decide +kernel]; exact Nat.le_of_ble_eq_true rfl)).trans ?_
  exact if_pos rfl
theorem B_L_law_1678 {k : Nat → Nat × Nat} {u : Nat → Nat → Int} {g : Nat → Nat → Nat} {t : Nat × Nat × Nat} {r0 : Nat} {r1 : Nat} {r2 : Nat} {r3 : Nat} {r4 : Nat} {x5 : Int} {v6 : AV} {v7 : AV} {v8 : AV} : a_X 350 1678 [a_r (r0), a_r (r1), a_r (r2), a_r (r3), a_r (r4), a_i (x5), v6, v7, v8] [] (k, u, g, t) = if ((k r0).1 = 20 ∨ (k r0).1 = 24) ∧ 0 ≤ (wr (x5 + 1) : Int) ∧ (wr (x5 + 1) : Int) < ((k r0).2 : Int) then (a_m 321 [a_r (r1), a_i (u r0 (wr (x5 + 1) : Int).toNat), a_r (r3)] (k, u, g, t)).bind (a_back 350 1686 3 [a_r (r0), a_r (r1), a_r (r2), a_r (r3), a_r (r4), a_i (x5), v6, v7, v8] []) else none := by
  refine (X_aload_n (m := 350) (pc := 1678) (n := 1) (by decide +kernel) rfl).trans ?_
  refine (X_aload_n (m := 350) (pc := 1679) (n := 0) (by decide +kernel) rfl).trans ?_
  refine (X_iload (m := 350) (pc := 1680) (n := 5) (by decide +kernel) rfl).trans ?_
  refine (X_iconst (m := 350) (pc := 1682) (n := 1) (by decide +kernel) ).trans ?_
  refine (X_iadd (m := 350) (pc := 1683)  (by decide +kernel) ).trans ?_
  refine (X_iaload (m := 350) (pc := 1684)  (by decide +kernel) ).trans ?_
  refine ite_congr rfl (fun _ => ?_) (fun _ => rfl)
  refine (X_aload_n (m := 350) (pc := 1685) (n := 3) (by decide +kernel) rfl).trans ?_
  refine (X_call_st (m := 350) (pc := 1686) (q := 256) (y := 321) (n := 3) (as := [a_r (r1), a_i (u r0 (wr (x5 + 1) : Int).toNat), a_r (r3)]) (rest := []) (by decide +kernel) (by decide +kernel) (by decide +kernel) (by decide +kernel) rfl rfl (Nat.le_of_ble_eq_true rfl) (Nat.le_of_ble_eq_true rfl) rfl (by rw [show m_maxL 321 = 4 from by decide +kernel]; exact Nat.le_of_ble_eq_true rfl)).trans ?_
  exact if_pos rfl
theorem B_L_law_1734 {k : Nat → Nat × Nat} {u : Nat → Nat → Int} {g : Nat → Nat → Nat} {t : Nat × Nat × Nat} {r0 : Nat} {r1 : Nat} {r2 : Nat} {r3 : Nat} {r4 : Nat} {x5 : Int} {v6 : AV} {v7 : AV} {v8 : AV} : a_X 350 1734 [a_r (r0), a_r (r1), a_r (r2), a_r (r3), a_r (r4), a_i (x5), v6, v7, v8] [] (k, u, g, t) = if ((k r0).1 = 20 ∨ (k r0).1 = 24) ∧ 0 ≤ (wr (x5 + 1) : Int) ∧ (wr (x5 + 1) : Int) < ((k r0).2 : Int) then (a_m 322 [a_r (r1), a_i (u r0 (wr (x5 + 1) : Int).toNat), a_r (r3)] (k, u, g, t)).bind (a_back 350 1742 3 [a_r (r0), a_r (r1), a_r (r2), a_r (r3), a_r (r4), a_i (x5), v6, v7, v8] []) else none := by
  refine (X_aload_n (m := 350) (pc := 1734) (n := 1) (by decide +kernel) rfl).trans ?_
  refine (X_aload_n (m := 350) (pc := 1735) (n := 0) (by decide +kernel) rfl).trans ?_
  refine (X_iload (m := 350) (pc := 1736) (n := 5) (by decide +kernel) rfl).trans ?_
  refine (X_iconst (m := 350) (pc := 1738) (n := 1) (by decide +kernel) ).trans ?_
  refine (X_iadd (m := 350) (pc := 1739)  (by decide +kernel) ).trans ?_
  refine (X_iaload (m := 350) (pc := 1740)  (by decide +kernel) ).trans ?_
  refine ite_congr rfl (fun _ => ?_) (fun _ => rfl)
  refine (X_aload_n (m := 350) (pc := 1741) (n := 3) (by decide +kernel) rfl).trans ?_
  refine (X_call_st (m := 350) (pc := 1742) (q := 259) (y := 322) (n := 3) (as := [a_r (r1), a_i (u r0 (wr (x5 + 1) : Int).toNat), a_r (r3)]) (rest := []) (by decide +kernel) (by decide +kernel) (by decide +kernel) (by decide +kernel) rfl rfl (Nat.le_of_ble_eq_true rfl) (Nat.le_of_ble_eq_true rfl) rfl (by rw [show m_maxL 322 = 4 from by decide +kernel]; exact Nat.le_of_ble_eq_true rfl)).trans ?_
  exact if_pos rfl
theorem B_L_law_1790 {k : Nat → Nat × Nat} {u : Nat → Nat → Int} {g : Nat → Nat → Nat} {t : Nat × Nat × Nat} {r0 : Nat} {r1 : Nat} {r2 : Nat} {r3 : Nat} {r4 : Nat} {x5 : Int} {v6 : AV} {v7 : AV} {v8 : AV} : a_X 350 1790 [a_r (r0), a_r (r1), a_r (r2), a_r (r3), a_r (r4), a_i (x5), v6, v7, v8] [] (k, u, g, t) = (a_m 323 [a_r (r1), a_r (r3)] (k, u, g, t)).bind (a_back 350 1792 3 [a_r (r0), a_r (r1), a_r (r2), a_r (r3), a_r (r4), a_i (x5), v6, v7, v8] []) := by
  refine (X_aload_n (m := 350) (pc := 1790) (n := 1) (by decide +kernel) rfl).trans ?_
  refine (X_aload_n (m := 350) (pc := 1791) (n := 3) (by decide +kernel) rfl).trans ?_
  refine (X_call_st (m := 350) (pc := 1792) (q := 262) (y := 323) (n := 2) (as := [a_r (r1), a_r (r3)]) (rest := []) (by decide +kernel) (by decide +kernel) (by decide +kernel) (by decide +kernel) rfl rfl (Nat.le_of_ble_eq_true rfl) (Nat.le_of_ble_eq_true rfl) rfl (by rw [show m_maxL 323 = 3 from by decide +kernel]; exact Nat.le_of_ble_eq_true rfl)).trans ?_
  exact if_pos rfl
theorem B_L_law_1834 {k : Nat → Nat × Nat} {u : Nat → Nat → Int} {g : Nat → Nat → Nat} {t : Nat × Nat × Nat} {r0 : Nat} {r1 : Nat} {r2 : Nat} {r3 : Nat} {r4 : Nat} {x5 : Int} {v6 : AV} {v7 : AV} {v8 : AV} : a_X 350 1834 [a_r (r0), a_r (r1), a_r (r2), a_r (r3), a_r (r4), a_i (x5), v6, v7, v8] [] (k, u, g, t) = if ((k r0).1 = 20 ∨ (k r0).1 = 24) ∧ 0 ≤ (wr (x5 + 1) : Int) ∧ (wr (x5 + 1) : Int) < ((k r0).2 : Int) then if ((k r0).1 = 20 ∨ (k r0).1 = 24) ∧ 0 ≤ (wr (x5 + 2) : Int) ∧ (wr (x5 + 2) : Int) < ((k r0).2 : Int) then (a_m 324 [a_r (r1), a_i (u r0 (wr (x5 + 1) : Int).toNat), a_i (u r0 (wr (x5 + 2) : Int).toNat), a_r (r3)] (k, u, g, t)).bind (a_back 350 1848 3 [a_r (r0), a_r (r1), a_r (r2), a_r (r3), a_r (r4), a_i (x5), v6, v7, v8] []) else none else none := by
  refine (X_aload_n (m := 350) (pc := 1834) (n := 1) (by decide +kernel) rfl).trans ?_
  refine (X_aload_n (m := 350) (pc := 1835) (n := 0) (by decide +kernel) rfl).trans ?_
  refine (X_iload (m := 350) (pc := 1836) (n := 5) (by decide +kernel) rfl).trans ?_
  refine (X_iconst (m := 350) (pc := 1838) (n := 1) (by decide +kernel) ).trans ?_
  refine (X_iadd (m := 350) (pc := 1839)  (by decide +kernel) ).trans ?_
  refine (X_iaload (m := 350) (pc := 1840)  (by decide +kernel) ).trans ?_
  refine ite_congr rfl (fun _ => ?_) (fun _ => rfl)
  refine (X_aload_n (m := 350) (pc := 1841) (n := 0) (by decide +kernel) rfl).trans ?_
  refine (X_iload (m := 350) (pc := 1842) (n := 5) (by decide +kernel) rfl).trans ?_
  refine (X_iconst (m := 350) (pc := 1844) (n := 2) (by decide +kernel) ).trans ?_
  refine (X_iadd (m := 350) (pc := 1845)  (by decide +kernel) ).trans ?_
  refine (X_iaload (m := 350) (pc := 1846)  (by decide +kernel) ).trans ?_
  refine ite_congr rfl (fun _ => ?_) (fun _ => rfl)
  refine (X_aload_n (m := 350) (pc := 1847) (n := 3) (by decide +kernel) rfl).trans ?_
  refine (X_call_st (m := 350) (pc := 1848) (q := 265) (y := 324) (n := 4) (as := [a_r (r1), a_i (u r0 (wr (x5 + 1) : Int).toNat), a_i (u r0 (wr (x5 + 2) : Int).toNat), a_r (r3)]) (rest := []) (by decide +kernel) (by decide +kernel) (by decide +kernel) (by decide +kernel) rfl rfl (Nat.le_of_ble_eq_true rfl) (Nat.le_of_ble_eq_true rfl) rfl (by rw [show m_maxL 324 = 5 from by decide +kernel]; exact Nat.le_of_ble_eq_true rfl)).trans ?_
  exact if_pos rfl
theorem B_L_law_1902 {k : Nat → Nat × Nat} {u : Nat → Nat → Int} {g : Nat → Nat → Nat} {t : Nat × Nat × Nat} {r0 : Nat} {r1 : Nat} {r2 : Nat} {r3 : Nat} {r4 : Nat} {x5 : Int} {v6 : AV} {v7 : AV} {v8 : AV} : a_X 350 1902 [a_r (r0), a_r (r1), a_r (r2), a_r (r3), a_r (r4), a_i (x5), v6, v7, v8] [] (k, u, g, t) = if ((k r0).1 = 20 ∨ (k r0).1 = 24) ∧ 0 ≤ (wr (x5 + 1) : Int) ∧ (wr (x5 + 1) : Int) < ((k r0).2 : Int) then if ((k r0).1 = 20 ∨ (k r0).1 = 24) ∧ 0 ≤ (wr (x5 + 2) : Int) ∧ (wr (x5 + 2) : Int) < ((k r0).2 : Int) then (a_m 325 [a_r (r1), a_i (u r0 (wr (x5 + 1) : Int).toNat), a_i (u r0 (wr (x5 + 2) : Int).toNat), a_r (r3)] (k, u, g, t)).bind (a_back 350 1916 3 [a_r (r0), a_r (r1), a_r (r2), a_r (r3), a_r (r4), a_i (x5), v6, v7, v8] []) else none else none := by
  refine (X_aload_n (m := 350) (pc := 1902) (n := 1) (by decide +kernel) rfl).trans ?_
  refine (X_aload_n (m := 350) (pc := 1903) (n := 0) (by decide +kernel) rfl).trans ?_
  refine (X_iload (m := 350) (pc := 1904) (n := 5) (by decide +kernel) rfl).trans ?_
  refine (X_iconst (m := 350) (pc := 1906) (n := 1) (by decide +kernel) ).trans ?_
  refine (X_iadd (m := 350) (pc := 1907)  (by decide +kernel) ).trans ?_
  refine (X_iaload (m := 350) (pc := 1908)  (by decide +kernel) ).trans ?_
  refine ite_congr rfl (fun _ => ?_) (fun _ => rfl)
  refine (X_aload_n (m := 350) (pc := 1909) (n := 0) (by decide +kernel) rfl).trans ?_
  refine (X_iload (m := 350) (pc := 1910) (n := 5) (by decide +kernel) rfl).trans ?_
  refine (X_iconst (m := 350) (pc := 1912) (n := 2) (by decide +kernel) ).trans ?_
  refine (X_iadd (m := 350) (pc := 1913)  (by decide +kernel) ).trans ?_
  refine (X_iaload (m := 350) (pc := 1914)  (by decide +kernel) ).trans ?_
  refine ite_congr rfl (fun _ => ?_) (fun _ => rfl)
  refine (X_aload_n (m := 350) (pc := 1915) (n := 3) (by decide +kernel) rfl).trans ?_
  refine (X_call_st (m := 350) (pc := 1916) (q := 268) (y := 325) (n := 4) (as := [a_r (r1), a_i (u r0 (wr (x5 + 1) : Int).toNat), a_i (u r0 (wr (x5 + 2) : Int).toNat), a_r (r3)]) (rest := []) (by decide +kernel) (by decide +kernel) (by decide +kernel) (by decide +kernel) rfl rfl (Nat.le_of_ble_eq_true rfl) (Nat.le_of_ble_eq_true rfl) rfl (by rw [show m_maxL 325 = 5 from by decide +kernel]; exact Nat.le_of_ble_eq_true rfl)).trans ?_
  exact if_pos rfl
theorem B_L_law_1970 {k : Nat → Nat × Nat} {u : Nat → Nat → Int} {g : Nat → Nat → Nat} {t : Nat × Nat × Nat} {r0 : Nat} {r1 : Nat} {r2 : Nat} {r3 : Nat} {r4 : Nat} {x5 : Int} {v6 : AV} {v7 : AV} {v8 : AV} : a_X 350 1970 [a_r (r0), a_r (r1), a_r (r2), a_r (r3), a_r (r4), a_i (x5), v6, v7, v8] [] (k, u, g, t) = if ((k r0).1 = 20 ∨ (k r0).1 = 24) ∧ 0 ≤ (wr (x5 + 1) : Int) ∧ (wr (x5 + 1) : Int) < ((k r0).2 : Int) then if ((k r0).1 = 20 ∨ (k r0).1 = 24) ∧ 0 ≤ (wr (x5 + 2) : Int) ∧ (wr (x5 + 2) : Int) < ((k r0).2 : Int) then (a_m 326 [a_r (r1), a_i (u r0 (wr (x5 + 1) : Int).toNat), a_i (u r0 (wr (x5 + 2) : Int).toNat), a_r (r3)] (k, u, g, t)).bind (a_back 350 1984 3 [a_r (r0), a_r (r1), a_r (r2), a_r (r3), a_r (r4), a_i (x5), v6, v7, v8] []) else none else none := by
  refine (X_aload_n (m := 350) (pc := 1970) (n := 1) (by decide +kernel) rfl).trans ?_
  refine (X_aload_n (m := 350) (pc := 1971) (n := 0) (by decide +kernel) rfl).trans ?_
  refine (X_iload (m := 350) (pc := 1972) (n := 5) (by decide +kernel) rfl).trans ?_
  refine (X_iconst (m := 350) (pc := 1974) (n := 1) (by decide +kernel) ).trans ?_
  refine (X_iadd (m := 350) (pc := 1975)  (by decide +kernel) ).trans ?_
  refine (X_iaload (m := 350) (pc := 1976)  (by decide +kernel) ).trans ?_
  refine ite_congr rfl (fun _ => ?_) (fun _ => rfl)
  refine (X_aload_n (m := 350) (pc := 1977) (n := 0) (by decide +kernel) rfl).trans ?_
  refine (X_iload (m := 350) (pc := 1978) (n := 5) (by decide +kernel) rfl).trans ?_
  refine (X_iconst (m := 350) (pc := 1980) (n := 2) (by decide +kernel) ).trans ?_
  refine (X_iadd (m := 350) (pc := 1981)  (by decide +kernel) ).trans ?_
  refine (X_iaload (m := 350) (pc := 1982)  (by decide +kernel) ).trans ?_
  refine ite_congr rfl (fun _ => ?_) (fun _ => rfl)
  refine (X_aload_n (m := 350) (pc := 1983) (n := 3) (by decide +kernel) rfl).trans ?_
  refine (X_call_st (m := 350) (pc := 1984) (q := 271) (y := 326) (n := 4) (as := [a_r (r1), a_i (u r0 (wr (x5 + 1) : Int).toNat), a_i (u r0 (wr (x5 + 2) : Int).toNat), a_r (r3)]) (rest := []) (by decide +kernel) (by decide +kernel) (by decide +kernel) (by decide +kernel) rfl rfl (Nat.le_of_ble_eq_true rfl) (Nat.le_of_ble_eq_true rfl) rfl (by rw [show m_maxL 326 = 5 from by decide +kernel]; exact Nat.le_of_ble_eq_true rfl)).trans ?_
  exact if_pos rfl
theorem B_L_law_2038 {k : Nat → Nat × Nat} {u : Nat → Nat → Int} {g : Nat → Nat → Nat} {t : Nat × Nat × Nat} {r0 : Nat} {r1 : Nat} {r2 : Nat} {r3 : Nat} {r4 : Nat} {x5 : Int} {v6 : AV} {v7 : AV} {v8 : AV} : a_X 350 2038 [a_r (r0), a_r (r1), a_r (r2), a_r (r3), a_r (r4), a_i (x5), v6, v7, v8] [] (k, u, g, t) = (a_m 327 [a_r (r1), a_r (r3)] (k, u, g, t)).bind (a_back 350 2040 3 [a_r (r0), a_r (r1), a_r (r2), a_r (r3), a_r (r4), a_i (x5), v6, v7, v8] []) := by
  refine (X_aload_n (m := 350) (pc := 2038) (n := 1) (by decide +kernel) rfl).trans ?_
  refine (X_aload_n (m := 350) (pc := 2039) (n := 3) (by decide +kernel) rfl).trans ?_
  refine (X_call_st (m := 350) (pc := 2040) (q := 274) (y := 327) (n := 2) (as := [a_r (r1), a_r (r3)]) (rest := []) (by decide +kernel) (by decide +kernel) (by decide +kernel) (by decide +kernel) rfl rfl (Nat.le_of_ble_eq_true rfl) (Nat.le_of_ble_eq_true rfl) rfl (by rw [show m_maxL 327 = 3 from by decide +kernel]; exact Nat.le_of_ble_eq_true rfl)).trans ?_
  exact if_pos rfl
theorem B_L_law_2082 {k : Nat → Nat × Nat} {u : Nat → Nat → Int} {g : Nat → Nat → Nat} {t : Nat × Nat × Nat} {r0 : Nat} {r1 : Nat} {r2 : Nat} {r3 : Nat} {r4 : Nat} {x5 : Int} {v6 : AV} {v7 : AV} {v8 : AV} : a_X 350 2082 [a_r (r0), a_r (r1), a_r (r2), a_r (r3), a_r (r4), a_i (x5), v6, v7, v8] [] (k, u, g, t) = (a_m 328 [a_r (r1), a_r (r3)] (k, u, g, t)).bind (a_back 350 2084 3 [a_r (r0), a_r (r1), a_r (r2), a_r (r3), a_r (r4), a_i (x5), v6, v7, v8] []) := by
  refine (X_aload_n (m := 350) (pc := 2082) (n := 1) (by decide +kernel) rfl).trans ?_
  refine (X_aload_n (m := 350) (pc := 2083) (n := 3) (by decide +kernel) rfl).trans ?_
  refine (X_call_st (m := 350) (pc := 2084) (q := 277) (y := 328) (n := 2) (as := [a_r (r1), a_r (r3)]) (rest := []) (by decide +kernel) (by decide +kernel) (by decide +kernel) (by decide +kernel) rfl rfl (Nat.le_of_ble_eq_true rfl) (Nat.le_of_ble_eq_true rfl) rfl (by rw [show m_maxL 328 = 3 from by decide +kernel]; exact Nat.le_of_ble_eq_true rfl)).trans ?_
  exact if_pos rfl
theorem B_L_law_2126 {k : Nat → Nat × Nat} {u : Nat → Nat → Int} {g : Nat → Nat → Nat} {t : Nat × Nat × Nat} {r0 : Nat} {r1 : Nat} {r2 : Nat} {r3 : Nat} {r4 : Nat} {x5 : Int} {v6 : AV} {v7 : AV} {v8 : AV} : a_X 350 2126 [a_r (r0), a_r (r1), a_r (r2), a_r (r3), a_r (r4), a_i (x5), v6, v7, v8] [] (k, u, g, t) = if ((k r0).1 = 20 ∨ (k r0).1 = 24) ∧ 0 ≤ (wr (x5 + 1) : Int) ∧ (wr (x5 + 1) : Int) < ((k r0).2 : Int) then (a_m 329 [a_r (r1), a_i (u r0 (wr (x5 + 1) : Int).toNat), a_r (r3)] (k, u, g, t)).bind (a_back 350 2134 3 [a_r (r0), a_r (r1), a_r (r2), a_r (r3), a_r (r4), a_i (x5), v6, v7, v8] []) else none := by
  refine (X_aload_n (m := 350) (pc := 2126) (n := 1) (by decide +kernel) rfl).trans ?_
  refine (X_aload_n (m := 350) (pc := 2127) (n := 0) (by decide +kernel) rfl).trans ?_
  refine (X_iload (m := 350) (pc := 2128) (n := 5) (by decide +kernel) rfl).trans ?_
  refine (X_iconst (m := 350) (pc := 2130) (n := 1) (by decide +kernel) ).trans ?_
  refine (X_iadd (m := 350) (pc := 2131)  (by decide +kernel) ).trans ?_
  refine (X_iaload (m := 350) (pc := 2132)  (by decide +kernel) ).trans ?_
  refine ite_congr rfl (fun _ => ?_) (fun _ => rfl)
  refine (X_aload_n (m := 350) (pc := 2133) (n := 3) (by decide +kernel) rfl).trans ?_
  refine (X_call_st (m := 350) (pc := 2134) (q := 280) (y := 329) (n := 3) (as := [a_r (r1), a_i (u r0 (wr (x5 + 1) : Int).toNat), a_r (r3)]) (rest := []) (by decide +kernel) (by decide +kernel) (by decide +kernel) (by decide +kernel) rfl rfl (Nat.le_of_ble_eq_true rfl) (Nat.le_of_ble_eq_true rfl) rfl (by rw [show m_maxL 329 = 4 from by decide +kernel]; exact Nat.le_of_ble_eq_true rfl)).trans ?_
  exact if_pos rfl
theorem B_L_law_2182 {k : Nat → Nat × Nat} {u : Nat → Nat → Int} {g : Nat → Nat → Nat} {t : Nat × Nat × Nat} {r0 : Nat} {r1 : Nat} {r2 : Nat} {r3 : Nat} {r4 : Nat} {x5 : Int} {v6 : AV} {v7 : AV} {v8 : AV} : a_X 350 2182 [a_r (r0), a_r (r1), a_r (r2), a_r (r3), a_r (r4), a_i (x5), v6, v7, v8] [] (k, u, g, t) = if ((k r0).1 = 20 ∨ (k r0).1 = 24) ∧ 0 ≤ (wr (x5 + 1) : Int) ∧ (wr (x5 + 1) : Int) < ((k r0).2 : Int) then if ((k r0).1 = 20 ∨ (k r0).1 = 24) ∧ 0 ≤ (wr (x5 + 2) : Int) ∧ (wr (x5 + 2) : Int) < ((k r0).2 : Int) then (a_m 330 [a_r (r1), a_i (u r0 (wr (x5 + 1) : Int).toNat), a_i (u r0 (wr (x5 + 2) : Int).toNat), a_r (r3)] (k, u, g, t)).bind (a_back 350 2196 3 [a_r (r0), a_r (r1), a_r (r2), a_r (r3), a_r (r4), a_i (x5), v6, v7, v8] []) else none else none := by
  refine (X_aload_n (m := 350) (pc := 2182) (n := 1) (by decide +kernel) rfl).trans ?_
  refine (X_aload_n (m := 350) (pc := 2183) (n := 0) (by decide +kernel) rfl).trans ?_
  refine (X_iload (m := 350) (pc := 2184) (n := 5) (by decide +kernel) rfl).trans ?_
  refine (X_iconst (m := 350) (pc := 2186) (n := 1) (by decide +kernel) ).trans ?_
  refine (X_iadd (m := 350) (pc := 2187)  (by decide +kernel) ).trans ?_
  refine (X_iaload (m := 350) (pc := 2188)  (by decide +kernel) ).trans ?_
  refine ite_congr rfl (fun _ => ?_) (fun _ => rfl)
  refine (X_aload_n (m := 350) (pc := 2189) (n := 0) (by decide +kernel) rfl).trans ?_
  refine (X_iload (m := 350) (pc := 2190) (n := 5) (by decide +kernel) rfl).trans ?_
  refine (X_iconst (m := 350) (pc := 2192) (n := 2) (by decide +kernel) ).trans ?_
  refine (X_iadd (m := 350) (pc := 2193)  (by decide +kernel) ).trans ?_
  refine (X_iaload (m := 350) (pc := 2194)  (by decide +kernel) ).trans ?_
  refine ite_congr rfl (fun _ => ?_) (fun _ => rfl)
  refine (X_aload_n (m := 350) (pc := 2195) (n := 3) (by decide +kernel) rfl).trans ?_
  refine (X_call_st (m := 350) (pc := 2196) (q := 283) (y := 330) (n := 4) (as := [a_r (r1), a_i (u r0 (wr (x5 + 1) : Int).toNat), a_i (u r0 (wr (x5 + 2) : Int).toNat), a_r (r3)]) (rest := []) (by decide +kernel) (by decide +kernel) (by decide +kernel) (by decide +kernel) rfl rfl (Nat.le_of_ble_eq_true rfl) (Nat.le_of_ble_eq_true rfl) rfl (by rw [show m_maxL 330 = 5 from by decide +kernel]; exact Nat.le_of_ble_eq_true rfl)).trans ?_
  exact if_pos rfl
theorem B_L_law_2250 {k : Nat → Nat × Nat} {u : Nat → Nat → Int} {g : Nat → Nat → Nat} {t : Nat × Nat × Nat} {r0 : Nat} {r1 : Nat} {r2 : Nat} {r3 : Nat} {r4 : Nat} {x5 : Int} {v6 : AV} {v7 : AV} {v8 : AV} : a_X 350 2250 [a_r (r0), a_r (r1), a_r (r2), a_r (r3), a_r (r4), a_i (x5), v6, v7, v8] [] (k, u, g, t) = if ((k r0).1 = 20 ∨ (k r0).1 = 24) ∧ 0 ≤ (wr (x5 + 1) : Int) ∧ (wr (x5 + 1) : Int) < ((k r0).2 : Int) then (a_m 331 [a_r (r1), a_i (u r0 (wr (x5 + 1) : Int).toNat), a_r (r3)] (k, u, g, t)).bind (a_back 350 2258 3 [a_r (r0), a_r (r1), a_r (r2), a_r (r3), a_r (r4), a_i (x5), v6, v7, v8] []) else none := by
  refine (X_aload_n (m := 350) (pc := 2250) (n := 1) (by decide +kernel) rfl).trans ?_
  refine (X_aload_n (m := 350) (pc := 2251) (n := 0) (by decide +kernel) rfl).trans ?_
  refine (X_iload (m := 350) (pc := 2252) (n := 5) (by decide +kernel) rfl).trans ?_
  refine (X_iconst (m := 350) (pc := 2254) (n := 1) (by decide +kernel) ).trans ?_
  refine (X_iadd (m := 350) (pc := 2255)  (by decide +kernel) ).trans ?_
  refine (X_iaload (m := 350) (pc := 2256)  (by decide +kernel) ).trans ?_
  refine ite_congr rfl (fun _ => ?_) (fun _ => rfl)
  refine (X_aload_n (m := 350) (pc := 2257) (n := 3) (by decide +kernel) rfl).trans ?_
  refine (X_call_st (m := 350) (pc := 2258) (q := 286) (y := 331) (n := 3) (as := [a_r (r1), a_i (u r0 (wr (x5 + 1) : Int).toNat), a_r (r3)]) (rest := []) (by decide +kernel) (by decide +kernel) (by decide +kernel) (by decide +kernel) rfl rfl (Nat.le_of_ble_eq_true rfl) (Nat.le_of_ble_eq_true rfl) rfl (by rw [show m_maxL 331 = 4 from by decide +kernel]; exact Nat.le_of_ble_eq_true rfl)).trans ?_
  exact if_pos rfl
theorem B_L_law_2306 {k : Nat → Nat × Nat} {u : Nat → Nat → Int} {g : Nat → Nat → Nat} {t : Nat × Nat × Nat} {r0 : Nat} {r1 : Nat} {r2 : Nat} {r3 : Nat} {r4 : Nat} {x5 : Int} {v6 : AV} {v7 : AV} {v8 : AV} : a_X 350 2306 [a_r (r0), a_r (r1), a_r (r2), a_r (r3), a_r (r4), a_i (x5), v6, v7, v8] [] (k, u, g, t) = (a_m 332 [a_r (r1), a_r (r4)] (k, u, g, t)).bind (a_back 350 2309 3 [a_r (r0), a_r (r1), a_r (r2), a_r (r3), a_r (r4), a_i (x5), v6, v7, v8] []) := by
  refine (X_aload_n (m := 350) (pc := 2306) (n := 1) (by decide +kernel) rfl).trans ?_
  refine (X_aload (m := 350) (pc := 2307) (n := 4) (by decide +kernel) rfl).trans ?_
  refine (X_call_st (m := 350) (pc := 2309) (q := 289) (y := 332) (n := 2) (as := [a_r (r1), a_r (r4)]) (rest := []) (by decide +kernel) (by decide +kernel) (by decide +kernel) (by decide +kernel) rfl rfl (Nat.le_of_ble_eq_true rfl) (Nat.le_of_ble_eq_true rfl) rfl (by rw [show m_maxL 332 = 3 from by decide +kernel]; exact Nat.le_of_ble_eq_true rfl)).trans ?_
  exact if_pos rfl
theorem B_L_law_2372 {k : Nat → Nat × Nat} {u : Nat → Nat → Int} {g : Nat → Nat → Nat} {t : Nat × Nat × Nat} {r0 : Nat} {r1 : Nat} {r2 : Nat} {r3 : Nat} {r4 : Nat} {x5 : Int} {v6 : AV} {v7 : AV} {v8 : AV} : a_X 350 2372 [a_r (r0), a_r (r1), a_r (r2), a_r (r3), a_r (r4), a_i (x5), v6, v7, v8] [] (k, u, g, t) = (a_m 333 [a_r (r1), a_r (r4)] (k, u, g, t)).bind (a_back 350 2375 3 [a_r (r0), a_r (r1), a_r (r2), a_r (r3), a_r (r4), a_i (x5), v6, v7, v8] []) := by
  refine (X_aload_n (m := 350) (pc := 2372) (n := 1) (by decide +kernel) rfl).trans ?_
  refine (X_aload (m := 350) (pc := 2373) (n := 4) (by decide +kernel) rfl).trans ?_
  refine (X_call_st (m := 350) (pc := 2375) (q := 293) (y := 333) (n := 2) (as := [a_r (r1), a_r (r4)]) (rest := []) (by decide +kernel) (by decide +kernel) (by decide +kernel) (by decide +kernel) rfl rfl (Nat.le_of_ble_eq_true rfl) (Nat.le_of_ble_eq_true rfl) rfl (by rw [show m_maxL 333 = 3 from by decide +kernel]; exact Nat.le_of_ble_eq_true rfl)).trans ?_
  exact if_pos rfl
theorem B_L_law_2437 {k : Nat → Nat × Nat} {u : Nat → Nat → Int} {g : Nat → Nat → Nat} {t : Nat × Nat × Nat} {r0 : Nat} {r1 : Nat} {r2 : Nat} {r3 : Nat} {r4 : Nat} {x5 : Int} {v6 : AV} {v7 : AV} {v8 : AV} : a_X 350 2437 [a_r (r0), a_r (r1), a_r (r2), a_r (r3), a_r (r4), a_i (x5), v6, v7, v8] [] (k, u, g, t) = if ((k r0).1 = 20 ∨ (k r0).1 = 24) ∧ 0 ≤ (wr (x5 + 1) : Int) ∧ (wr (x5 + 1) : Int) < ((k r0).2 : Int) then if ((k r0).1 = 20 ∨ (k r0).1 = 24) ∧ 0 ≤ (wr (x5 + 2) : Int) ∧ (wr (x5 + 2) : Int) < ((k r0).2 : Int) then (a_m 334 [a_r (r1), a_i (u r0 (wr (x5 + 1) : Int).toNat), a_i (u r0 (wr (x5 + 2) : Int).toNat), a_r (r3)] (k, u, g, t)).bind (a_back 350 2451 3 [a_r (r0), a_r (r1), a_r (r2), a_r (r3), a_r (r4), a_i (x5), v6, v7, v8] []) else none else none := by
  refine (X_aload_n (m := 350) (pc := 2437) (n := 1) (by decide +kernel) rfl).trans ?_
  refine (X_aload_n (m := 350) (pc := 2438) (n := 0) (by decide +kernel) rfl).trans ?_
  refine (X_iload (m := 350) (pc := 2439) (n := 5) (by decide +kernel) rfl).trans ?_
  refine (X_iconst (m := 350) (pc := 2441) (n := 1) (by decide +kernel) ).trans ?_
  refine (X_iadd (m := 350) (pc := 2442)  (by decide +kernel) ).trans ?_
  refine (X_iaload (m := 350) (pc := 2443)  (by decide +kernel) ).trans ?_
  refine ite_congr rfl (fun _ => ?_) (fun _ => rfl)
  refine (X_aload_n (m := 350) (pc := 2444) (n := 0) (by decide +kernel) rfl).trans ?_
  refine (X_iload (m := 350) (pc := 2445) (n := 5) (by decide +kernel) rfl).trans ?_
  refine (X_iconst (m := 350) (pc := 2447) (n := 2) (by decide +kernel) ).trans ?_
  refine (X_iadd (m := 350) (pc := 2448)  (by decide +kernel) ).trans ?_
  refine (X_iaload (m := 350) (pc := 2449)  (by decide +kernel) ).trans ?_
  refine ite_congr rfl (fun _ => ?_) (fun _ => rfl)
  refine (X_aload_n (m := 350) (pc := 2450) (n := 3) (by decide +kernel) rfl).trans ?_
  refine (X_call_st (m := 350) (pc := 2451) (q := 296) (y := 334) (n := 4) (as := [a_r (r1), a_i (u r0 (wr (x5 + 1) : Int).toNat), a_i (u r0 (wr (x5 + 2) : Int).toNat), a_r (r3)]) (rest := []) (by decide +kernel) (by decide +kernel) (by decide +kernel) (by decide +kernel) rfl rfl (Nat.le_of_ble_eq_true rfl) (Nat.le_of_ble_eq_true rfl) rfl (by rw [show m_maxL 334 = 5 from by decide +kernel]; exact Nat.le_of_ble_eq_true rfl)).trans ?_
  exact if_pos rfl
theorem B_L_law_2505 {k : Nat → Nat × Nat} {u : Nat → Nat → Int} {g : Nat → Nat → Nat} {t : Nat × Nat × Nat} {r0 : Nat} {r1 : Nat} {r2 : Nat} {r3 : Nat} {r4 : Nat} {x5 : Int} {v6 : AV} {v7 : AV} {v8 : AV} : a_X 350 2505 [a_r (r0), a_r (r1), a_r (r2), a_r (r3), a_r (r4), a_i (x5), v6, v7, v8] [] (k, u, g, t) = if ((k r0).1 = 20 ∨ (k r0).1 = 24) ∧ 0 ≤ (wr (x5 + 1) : Int) ∧ (wr (x5 + 1) : Int) < ((k r0).2 : Int) then (a_m 335 [a_r (r1), a_i (u r0 (wr (x5 + 1) : Int).toNat), a_r (r3)] (k, u, g, t)).bind (a_back 350 2513 3 [a_r (r0), a_r (r1), a_r (r2), a_r (r3), a_r (r4), a_i (x5), v6, v7, v8] []) else none := by
  refine (X_aload_n (m := 350) (pc := 2505) (n := 1) (by decide +kernel) rfl).trans ?_
  refine (X_aload_n (m := 350) (pc := 2506) (n := 0) (by decide +kernel) rfl).trans ?_
  refine (X_iload (m := 350) (pc := 2507) (n := 5) (by decide +kernel) rfl).trans ?_
  refine (X_iconst (m := 350) (pc := 2509) (n := 1) (by decide +kernel) ).trans ?_
  refine (X_iadd (m := 350) (pc := 2510)  (by decide +kernel) ).trans ?_
  refine (X_iaload (m := 350) (pc := 2511)  (by decide +kernel) ).trans ?_
  refine ite_congr rfl (fun _ => ?_) (fun _ => rfl)
  refine (X_aload_n (m := 350) (pc := 2512) (n := 3) (by decide +kernel) rfl).trans ?_
  refine (X_call_st (m := 350) (pc := 2513) (q := 299) (y := 335) (n := 3) (as := [a_r (r1), a_i (u r0 (wr (x5 + 1) : Int).toNat), a_r (r3)]) (rest := []) (by decide +kernel) (by decide +kernel) (by decide +kernel) (by decide +kernel) rfl rfl (Nat.le_of_ble_eq_true rfl) (Nat.le_of_ble_eq_true rfl) rfl (by rw [show m_maxL 335 = 4 from by decide +kernel]; exact Nat.le_of_ble_eq_true rfl)).trans ?_
  exact if_pos rfl
theorem B_L_law_2561 {k : Nat → Nat × Nat} {u : Nat → Nat → Int} {g : Nat → Nat → Nat} {t : Nat × Nat × Nat} {r0 : Nat} {r1 : Nat} {r2 : Nat} {r3 : Nat} {r4 : Nat} {x5 : Int} {v6 : AV} {v7 : AV} {v8 : AV} : a_X 350 2561 [a_r (r0), a_r (r1), a_r (r2), a_r (r3), a_r (r4), a_i (x5), v6, v7, v8] [] (k, u, g, t) = if ((k r0).1 = 20 ∨ (k r0).1 = 24) ∧ 0 ≤ (wr (x5 + 1) : Int) ∧ (wr (x5 + 1) : Int) < ((k r0).2 : Int) then (a_m 336 [a_r (r1), a_i (u r0 (wr (x5 + 1) : Int).toNat), a_r (r3)] (k, u, g, t)).bind (a_back 350 2569 3 [a_r (r0), a_r (r1), a_r (r2), a_r (r3), a_r (r4), a_i (x5), v6, v7, v8] []) else none := by
  refine (X_aload_n (m := 350) (pc := 2561) (n := 1) (by decide +kernel) rfl).trans ?_
  refine (X_aload_n (m := 350) (pc := 2562) (n := 0) (by decide +kernel) rfl).trans ?_
  refine (X_iload (m := 350) (pc := 2563) (n := 5) (by decide +kernel) rfl).trans ?_
  refine (X_iconst (m := 350) (pc := 2565) (n := 1) (by decide +kernel) ).trans ?_
  refine (X_iadd (m := 350) (pc := 2566)  (by decide +kernel) ).trans ?_
  refine (X_iaload (m := 350) (pc := 2567)  (by decide +kernel) ).trans ?_
  refine ite_congr rfl (fun _ => ?_) (fun _ => rfl)
  refine (X_aload_n (m := 350) (pc := 2568) (n := 3) (by decide +kernel) rfl).trans ?_
  refine (X_call_st (m := 350) (pc := 2569) (q := 302) (y := 336) (n := 3) (as := [a_r (r1), a_i (u r0 (wr (x5 + 1) : Int).toNat), a_r (r3)]) (rest := []) (by decide +kernel) (by decide +kernel) (by decide +kernel) (by decide +kernel) rfl rfl (Nat.le_of_ble_eq_true rfl) (Nat.le_of_ble_eq_true rfl) rfl (by rw [show m_maxL 336 = 4 from by decide +kernel]; exact Nat.le_of_ble_eq_true rfl)).trans ?_
  exact if_pos rfl
theorem B_L_law_2617 {k : Nat → Nat × Nat} {u : Nat → Nat → Int} {g : Nat → Nat → Nat} {t : Nat × Nat × Nat} {r0 : Nat} {r1 : Nat} {r2 : Nat} {r3 : Nat} {r4 : Nat} {x5 : Int} {v6 : AV} {v7 : AV} {v8 : AV} : a_X 350 2617 [a_r (r0), a_r (r1), a_r (r2), a_r (r3), a_r (r4), a_i (x5), v6, v7, v8] [] (k, u, g, t) = if ((k r0).1 = 20 ∨ (k r0).1 = 24) ∧ 0 ≤ (wr (x5 + 1) : Int) ∧ (wr (x5 + 1) : Int) < ((k r0).2 : Int) then if ((k r0).1 = 20 ∨ (k r0).1 = 24) ∧ 0 ≤ (wr (x5 + 2) : Int) ∧ (wr (x5 + 2) : Int) < ((k r0).2 : Int) then if ((k r0).1 = 20 ∨ (k r0).1 = 24) ∧ 0 ≤ (wr (x5 + 3) : Int) ∧ (wr (x5 + 3) : Int) < ((k r0).2 : Int) then if ((k r0).1 = 20 ∨ (k r0).1 = 24) ∧ 0 ≤ (wr (x5 + 4) : Int) ∧ (wr (x5 + 4) : Int) < ((k r0).2 : Int) then if ((k r0).1 = 20 ∨ (k r0).1 = 24) ∧ 0 ≤ (wr (x5 + 5) : Int) ∧ (wr (x5 + 5) : Int) < ((k r0).2 : Int) then if ((k r0).1 = 20 ∨ (k r0).1 = 24) ∧ 0 ≤ (wr (x5 + 6) : Int) ∧ (wr (x5 + 6) : Int) < ((k r0).2 : Int) then (a_m 337 [a_r (r1), a_i (u r0 (wr (x5 + 1) : Int).toNat), a_i (u r0 (wr (x5 + 2) : Int).toNat), a_i (u r0 (wr (x5 + 3) : Int).toNat), a_i (u r0 (wr (x5 + 4) : Int).toNat), a_i (u r0 (wr (x5 + 5) : Int).toNat), a_i (u r0 (wr (x5 + 6) : Int).toNat), a_r (r3)] (k, u, g, t)).bind (a_back 350 2656 3 [a_r (r0), a_r (r1), a_r (r2), a_r (r3), a_r (r4), a_i (x5), v6, v7, v8] []) else none else none else none else none else none else none := by
  refine (X_aload_n (m := 350) (pc := 2617) (n := 1) (by decide +kernel) rfl).trans ?_
  refine (X_aload_n (m := 350) (pc := 2618) (n := 0) (by decide +kernel) rfl).trans ?_
  refine (X_iload (m := 350) (pc := 2619) (n := 5) (by decide +kernel) rfl).trans ?_
  refine (X_iconst (m := 350) (pc := 2621) (n := 1) (by decide +kernel) ).trans ?_
  refine (X_iadd (m := 350) (pc := 2622)  (by decide +kernel) ).trans ?_
  refine (X_iaload (m := 350) (pc := 2623)  (by decide +kernel) ).trans ?_
  refine ite_congr rfl (fun _ => ?_) (fun _ => rfl)
  refine (X_aload_n (m := 350) (pc := 2624) (n := 0) (by decide +kernel) rfl).trans ?_
  refine (X_iload (m := 350) (pc := 2625) (n := 5) (by decide +kernel) rfl).trans ?_
  refine (X_iconst (m := 350) (pc := 2627) (n := 2) (by decide +kernel) ).trans ?_
  refine (X_iadd (m := 350) (pc := 2628)  (by decide +kernel) ).trans ?_
  refine (X_iaload (m := 350) (pc := 2629)  (by decide +kernel) ).trans ?_
  refine ite_congr rfl (fun _ => ?_) (fun _ => rfl)
  refine (X_aload_n (m := 350) (pc := 2630) (n := 0) (by decide +kernel) rfl).trans ?_
  refine (X_iload (m := 350) (pc := 2631) (n := 5) (by decide +kernel) rfl).trans ?_
  refine (X_iconst (m := 350) (pc := 2633) (n := 3) (by decide +kernel) ).trans ?_
  refine (X_iadd (m := 350) (pc := 2634)  (by decide +kernel) ).trans ?_
  refine (X_iaload (m := 350) (pc := 2635)  (by decide +kernel) ).trans ?_
  refine ite_congr rfl (fun _ => ?_) (fun _ => rfl)
  refine (X_aload_n (m := 350) (pc := 2636) (n := 0) (by decide +kernel) rfl).trans ?_
  refine (X_iload (m := 350) (pc := 2637) (n := 5) (by decide +kernel) rfl).trans ?_
  refine (X_iconst (m := 350) (pc := 2639) (n := 4) (by decide +kernel) ).trans ?_
  refine (X_iadd (m := 350) (pc := 2640)  (by decide +kernel) ).trans ?_
  refine (X_iaload (m := 350) (pc := 2641)  (by decide +kernel) ).trans ?_
  refine ite_congr rfl (fun _ => ?_) (fun _ => rfl)
  refine (X_aload_n (m := 350) (pc := 2642) (n := 0) (by decide +kernel) rfl).trans ?_
  refine (X_iload (m := 350) (pc := 2643) (n := 5) (by decide +kernel) rfl).trans ?_
  refine (X_iconst (m := 350) (pc := 2645) (n := 5) (by decide +kernel) ).trans ?_
  refine (X_iadd (m := 350) (pc := 2646)  (by decide +kernel) ).trans ?_
  refine (X_iaload (m := 350) (pc := 2647)  (by decide +kernel) ).trans ?_
  refine ite_congr rfl (fun _ => ?_) (fun _ => rfl)
  refine (X_aload_n (m := 350) (pc := 2648) (n := 0) (by decide +kernel) rfl).trans ?_
  refine (X_iload (m := 350) (pc := 2649) (n := 5) (by decide +kernel) rfl).trans ?_
  refine (X_bipush (m := 350) (pc := 2651) (n := 6) (by decide +kernel) ).trans ?_
  refine (X_iadd (m := 350) (pc := 2653)  (by decide +kernel) ).trans ?_
  refine (X_iaload (m := 350) (pc := 2654)  (by decide +kernel) ).trans ?_
  refine ite_congr rfl (fun _ => ?_) (fun _ => rfl)
  refine (X_aload_n (m := 350) (pc := 2655) (n := 3) (by decide +kernel) rfl).trans ?_
  refine (X_call_st (m := 350) (pc := 2656) (q := 305) (y := 337) (n := 8) (as := [a_r (r1), a_i (u r0 (wr (x5 + 1) : Int).toNat), a_i (u r0 (wr (x5 + 2) : Int).toNat), a_i (u r0 (wr (x5 + 3) : Int).toNat), a_i (u r0 (wr (x5 + 4) : Int).toNat), a_i (u r0 (wr (x5 + 5) : Int).toNat), a_i (u r0 (wr (x5 + 6) : Int).toNat), a_r (r3)]) (rest := []) (by decide +kernel) (by decide +kernel) (by decide +kernel) (by decide +kernel) rfl rfl (Nat.le_of_ble_eq_true rfl) (Nat.le_of_ble_eq_true rfl) rfl (by rw [show m_maxL 337 = 9 from by decide +kernel]; exact Nat.le_of_ble_eq_true rfl)).trans ?_
  exact if_pos rfl
theorem B_L_law_2735 {k : Nat → Nat × Nat} {u : Nat → Nat → Int} {g : Nat → Nat → Nat} {t : Nat × Nat × Nat} {r0 : Nat} {r1 : Nat} {r2 : Nat} {r3 : Nat} {r4 : Nat} {x5 : Int} {v6 : AV} {v7 : AV} {v8 : AV} : a_X 350 2735 [a_r (r0), a_r (r1), a_r (r2), a_r (r3), a_r (r4), a_i (x5), v6, v7, v8] [] (k, u, g, t) = if ((k r0).1 = 20 ∨ (k r0).1 = 24) ∧ 0 ≤ (wr (x5 + 1) : Int) ∧ (wr (x5 + 1) : Int) < ((k r0).2 : Int) then if ((k r0).1 = 20 ∨ (k r0).1 = 24) ∧ 0 ≤ (wr (x5 + 2) : Int) ∧ (wr (x5 + 2) : Int) < ((k r0).2 : Int) then (a_m 338 [a_r (r1), a_i (u r0 (wr (x5 + 1) : Int).toNat), a_i (u r0 (wr (x5 + 2) : Int).toNat), a_r (r3)] (k, u, g, t)).bind (a_back 350 2749 3 [a_r (r0), a_r (r1), a_r (r2), a_r (r3), a_r (r4), a_i (x5), v6, v7, v8] []) else none else none := by
  refine (X_aload_n (m := 350) (pc := 2735) (n := 1) (by decide +kernel) rfl).trans ?_
  refine (X_aload_n (m := 350) (pc := 2736) (n := 0) (by decide +kernel) rfl).trans ?_
  refine (X_iload (m := 350) (pc := 2737) (n := 5) (by decide +kernel) rfl).trans ?_
  refine (X_iconst (m := 350) (pc := 2739) (n := 1) (by decide +kernel) ).trans ?_
  refine (X_iadd (m := 350) (pc := 2740)  (by decide +kernel) ).trans ?_
  refine (X_iaload (m := 350) (pc := 2741)  (by decide +kernel) ).trans ?_
  refine ite_congr rfl (fun _ => ?_) (fun _ => rfl)
  refine (X_aload_n (m := 350) (pc := 2742) (n := 0) (by decide +kernel) rfl).trans ?_
  refine (X_iload (m := 350) (pc := 2743) (n := 5) (by decide +kernel) rfl).trans ?_
  refine (X_iconst (m := 350) (pc := 2745) (n := 2) (by decide +kernel) ).trans ?_
  refine (X_iadd (m := 350) (pc := 2746)  (by decide +kernel) ).trans ?_
  refine (X_iaload (m := 350) (pc := 2747)  (by decide +kernel) ).trans ?_
  refine ite_congr rfl (fun _ => ?_) (fun _ => rfl)
  refine (X_aload_n (m := 350) (pc := 2748) (n := 3) (by decide +kernel) rfl).trans ?_
  refine (X_call_st (m := 350) (pc := 2749) (q := 309) (y := 338) (n := 4) (as := [a_r (r1), a_i (u r0 (wr (x5 + 1) : Int).toNat), a_i (u r0 (wr (x5 + 2) : Int).toNat), a_r (r3)]) (rest := []) (by decide +kernel) (by decide +kernel) (by decide +kernel) (by decide +kernel) rfl rfl (Nat.le_of_ble_eq_true rfl) (Nat.le_of_ble_eq_true rfl) rfl (by rw [show m_maxL 338 = 5 from by decide +kernel]; exact Nat.le_of_ble_eq_true rfl)).trans ?_
  exact if_pos rfl
theorem B_L_law_2803 {k : Nat → Nat × Nat} {u : Nat → Nat → Int} {g : Nat → Nat → Nat} {t : Nat × Nat × Nat} {r0 : Nat} {r1 : Nat} {r2 : Nat} {r3 : Nat} {r4 : Nat} {x5 : Int} {v6 : AV} {v7 : AV} {v8 : AV} : a_X 350 2803 [a_r (r0), a_r (r1), a_r (r2), a_r (r3), a_r (r4), a_i (x5), v6, v7, v8] [] (k, u, g, t) = if ((k r0).1 = 20 ∨ (k r0).1 = 24) ∧ 0 ≤ (wr (x5 + 1) : Int) ∧ (wr (x5 + 1) : Int) < ((k r0).2 : Int) then if ((k r0).1 = 20 ∨ (k r0).1 = 24) ∧ 0 ≤ (wr (x5 + 2) : Int) ∧ (wr (x5 + 2) : Int) < ((k r0).2 : Int) then (a_m 339 [a_r (r1), a_i (u r0 (wr (x5 + 1) : Int).toNat), a_i (u r0 (wr (x5 + 2) : Int).toNat), a_r (r3)] (k, u, g, t)).bind (a_back 350 2817 3 [a_r (r0), a_r (r1), a_r (r2), a_r (r3), a_r (r4), a_i (x5), v6, v7, v8] []) else none else none := by
  refine (X_aload_n (m := 350) (pc := 2803) (n := 1) (by decide +kernel) rfl).trans ?_
  refine (X_aload_n (m := 350) (pc := 2804) (n := 0) (by decide +kernel) rfl).trans ?_
  refine (X_iload (m := 350) (pc := 2805) (n := 5) (by decide +kernel) rfl).trans ?_
  refine (X_iconst (m := 350) (pc := 2807) (n := 1) (by decide +kernel) ).trans ?_
  refine (X_iadd (m := 350) (pc := 2808)  (by decide +kernel) ).trans ?_
  refine (X_iaload (m := 350) (pc := 2809)  (by decide +kernel) ).trans ?_
  refine ite_congr rfl (fun _ => ?_) (fun _ => rfl)
  refine (X_aload_n (m := 350) (pc := 2810) (n := 0) (by decide +kernel) rfl).trans ?_
  refine (X_iload (m := 350) (pc := 2811) (n := 5) (by decide +kernel) rfl).trans ?_
  refine (X_iconst (m := 350) (pc := 2813) (n := 2) (by decide +kernel) ).trans ?_
  refine (X_iadd (m := 350) (pc := 2814)  (by decide +kernel) ).trans ?_
  refine (X_iaload (m := 350) (pc := 2815)  (by decide +kernel) ).trans ?_
  refine ite_congr rfl (fun _ => ?_) (fun _ => rfl)
  refine (X_aload_n (m := 350) (pc := 2816) (n := 3) (by decide +kernel) rfl).trans ?_
  refine (X_call_st (m := 350) (pc := 2817) (q := 312) (y := 339) (n := 4) (as := [a_r (r1), a_i (u r0 (wr (x5 + 1) : Int).toNat), a_i (u r0 (wr (x5 + 2) : Int).toNat), a_r (r3)]) (rest := []) (by decide +kernel) (by decide +kernel) (by decide +kernel) (by decide +kernel) rfl rfl (Nat.le_of_ble_eq_true rfl) (Nat.le_of_ble_eq_true rfl) rfl (by rw [show m_maxL 339 = 5 from by decide +kernel]; exact Nat.le_of_ble_eq_true rfl)).trans ?_
  exact if_pos rfl
theorem B_L_law_2871 {k : Nat → Nat × Nat} {u : Nat → Nat → Int} {g : Nat → Nat → Nat} {t : Nat × Nat × Nat} {r0 : Nat} {r1 : Nat} {r2 : Nat} {r3 : Nat} {r4 : Nat} {x5 : Int} {v6 : AV} {v7 : AV} {v8 : AV} : a_X 350 2871 [a_r (r0), a_r (r1), a_r (r2), a_r (r3), a_r (r4), a_i (x5), v6, v7, v8] [] (k, u, g, t) = if ((k r0).1 = 20 ∨ (k r0).1 = 24) ∧ 0 ≤ (wr (x5 + 1) : Int) ∧ (wr (x5 + 1) : Int) < ((k r0).2 : Int) then (a_m 340 [a_r (r1), a_i (u r0 (wr (x5 + 1) : Int).toNat), a_r (r3)] (k, u, g, t)).bind (a_back 350 2879 3 [a_r (r0), a_r (r1), a_r (r2), a_r (r3), a_r (r4), a_i (x5), v6, v7, v8] []) else none := by
  refine (X_aload_n (m := 350) (pc := 2871) (n := 1) (by decide +kernel) rfl).trans ?_
  refine (X_aload_n (m := 350) (pc := 2872) (n := 0) (by decide +kernel) rfl).trans ?_
  refine (X_iload (m := 350) (pc := 2873) (n := 5) (by decide +kernel) rfl).trans ?_
  refine (X_iconst (m := 350) (pc := 2875) (n := 1) (by decide +kernel) ).trans ?_
  refine (X_iadd (m := 350) (pc := 2876)  (by decide +kernel) ).trans ?_
  refine (X_iaload (m := 350) (pc := 2877)  (by decide +kernel) ).trans ?_
  refine ite_congr rfl (fun _ => ?_) (fun _ => rfl)
  refine (X_aload_n (m := 350) (pc := 2878) (n := 3) (by decide +kernel) rfl).trans ?_
  refine (X_call_st (m := 350) (pc := 2879) (q := 315) (y := 340) (n := 3) (as := [a_r (r1), a_i (u r0 (wr (x5 + 1) : Int).toNat), a_r (r3)]) (rest := []) (by decide +kernel) (by decide +kernel) (by decide +kernel) (by decide +kernel) rfl rfl (Nat.le_of_ble_eq_true rfl) (Nat.le_of_ble_eq_true rfl) rfl (by rw [show m_maxL 340 = 4 from by decide +kernel]; exact Nat.le_of_ble_eq_true rfl)).trans ?_
  exact if_pos rfl
theorem B_L_law_2927 {k : Nat → Nat × Nat} {u : Nat → Nat → Int} {g : Nat → Nat → Nat} {t : Nat × Nat × Nat} {r0 : Nat} {r1 : Nat} {r2 : Nat} {r3 : Nat} {r4 : Nat} {x5 : Int} {v6 : AV} {v7 : AV} {v8 : AV} : a_X 350 2927 [a_r (r0), a_r (r1), a_r (r2), a_r (r3), a_r (r4), a_i (x5), v6, v7, v8] [] (k, u, g, t) = if ((k r0).1 = 20 ∨ (k r0).1 = 24) ∧ 0 ≤ (wr (x5 + 1) : Int) ∧ (wr (x5 + 1) : Int) < ((k r0).2 : Int) then (a_m 341 [a_r (r1), a_i (u r0 (wr (x5 + 1) : Int).toNat), a_r (r3)] (k, u, g, t)).bind (a_back 350 2935 3 [a_r (r0), a_r (r1), a_r (r2), a_r (r3), a_r (r4), a_i (x5), v6, v7, v8] []) else none := by
  refine (X_aload_n (m := 350) (pc := 2927) (n := 1) (by decide +kernel) rfl).trans ?_
  refine (X_aload_n (m := 350) (pc := 2928) (n := 0) (by decide +kernel) rfl).trans ?_
  refine (X_iload (m := 350) (pc := 2929) (n := 5) (by decide +kernel) rfl).trans ?_
  refine (X_iconst (m := 350) (pc := 2931) (n := 1) (by decide +kernel) ).trans ?_
  refine (X_iadd (m := 350) (pc := 2932)  (by decide +kernel) ).trans ?_
  refine (X_iaload (m := 350) (pc := 2933)  (by decide +kernel) ).trans ?_
  refine ite_congr rfl (fun _ => ?_) (fun _ => rfl)
  refine (X_aload_n (m := 350) (pc := 2934) (n := 3) (by decide +kernel) rfl).trans ?_
  refine (X_call_st (m := 350) (pc := 2935) (q := 318) (y := 341) (n := 3) (as := [a_r (r1), a_i (u r0 (wr (x5 + 1) : Int).toNat), a_r (r3)]) (rest := []) (by decide +kernel) (by decide +kernel) (by decide +kernel) (by decide +kernel) rfl rfl (Nat.le_of_ble_eq_true rfl) (Nat.le_of_ble_eq_true rfl) rfl (by rw [show m_maxL 341 = 4 from by decide +kernel]; exact Nat.le_of_ble_eq_true rfl)).trans ?_
  exact if_pos rfl
theorem B_L_law_2983 {k : Nat → Nat × Nat} {u : Nat → Nat → Int} {g : Nat → Nat → Nat} {t : Nat × Nat × Nat} {r0 : Nat} {r1 : Nat} {r2 : Nat} {r3 : Nat} {r4 : Nat} {x5 : Int} {v6 : AV} {v7 : AV} {v8 : AV} : a_X 350 2983 [a_r (r0), a_r (r1), a_r (r2), a_r (r3), a_r (r4), a_i (x5), v6, v7, v8] [] (k, u, g, t) = if ((k r0).1 = 20 ∨ (k r0).1 = 24) ∧ 0 ≤ (wr (x5 + 1) : Int) ∧ (wr (x5 + 1) : Int) < ((k r0).2 : Int) then if ((k r0).1 = 20 ∨ (k r0).1 = 24) ∧ 0 ≤ (wr (x5 + 2) : Int) ∧ (wr (x5 + 2) : Int) < ((k r0).2 : Int) then if ((k r0).1 = 20 ∨ (k r0).1 = 24) ∧ 0 ≤ (wr (x5 + 3) : Int) ∧ (wr (x5 + 3) : Int) < ((k r0).2 : Int) then (a_m 342 [a_r (r1), a_i (u r0 (wr (x5 + 1) : Int).toNat), a_i (u r0 (wr (x5 + 2) : Int).toNat), a_i (u r0 (wr (x5 + 3) : Int).toNat), a_r (r3)] (k, u, g, t)).bind (a_back 350 3003 3 [a_r (r0), a_r (r1), a_r (r2), a_r (r3), a_r (r4), a_i (x5), v6, v7, v8] []) else none else none else none := by
  refine (X_aload_n (m := 350) (pc := 2983) (n := 1) (by decide +kernel) rfl).trans ?_
  refine (X_aload_n (m := 350) (pc := 2984) (n := 0) (by decide +kernel) rfl).trans ?_
  refine (X_iload (m := 350) (pc := 2985) (n := 5) (by decide +kernel) rfl).trans ?_
  refine (X_iconst (m := 350) (pc := 2987) (n := 1) (by decide +kernel) ).trans ?_
  refine (X_iadd (m := 350) (pc := 2988)  (by decide +kernel) ).trans ?_
  refine (X_iaload (m := 350) (pc := 2989)  (by decide +kernel) ).trans ?_
  refine ite_congr rfl (fun _ => ?_) (fun _ => rfl)
  refine (X_aload_n (m := 350) (pc := 2990) (n := 0) (by decide +kernel) rfl).trans ?_
  refine (X_iload (m := 350) (pc := 2991) (n := 5) (by decide +kernel) rfl).trans ?_
  refine (X_iconst (m := 350) (pc := 2993) (n := 2) (by decide +kernel) ).trans ?_
  refine (X_iadd (m := 350) (pc := 2994)  (by decide +kernel) ).trans ?_
  refine (X_iaload (m := 350) (pc := 2995)  (by decide +kernel) ).trans ?_
  refine ite_congr rfl (fun _ => ?_) (fun _ => rfl)
  refine (X_aload_n (m := 350) (pc := 2996) (n := 0) (by decide +kernel) rfl).trans ?_
  refine (X_iload (m := 350) (pc := 2997) (n := 5) (by decide +kernel) rfl).trans ?_
  refine (X_iconst (m := 350) (pc := 2999) (n := 3) (by decide +kernel) ).trans ?_
  refine (X_iadd (m := 350) (pc := 3000)  (by decide +kernel) ).trans ?_
  refine (X_iaload (m := 350) (pc := 3001)  (by decide +kernel) ).trans ?_
  refine ite_congr rfl (fun _ => ?_) (fun _ => rfl)
  refine (X_aload_n (m := 350) (pc := 3002) (n := 3) (by decide +kernel) rfl).trans ?_
  refine (X_call_st (m := 350) (pc := 3003) (q := 321) (y := 342) (n := 5) (as := [a_r (r1), a_i (u r0 (wr (x5 + 1) : Int).toNat), a_i (u r0 (wr (x5 + 2) : Int).toNat), a_i (u r0 (wr (x5 + 3) : Int).toNat), a_r (r3)]) (rest := []) (by decide +kernel) (by decide +kernel) (by decide +kernel) (by decide +kernel) rfl rfl (Nat.le_of_ble_eq_true rfl) (Nat.le_of_ble_eq_true rfl) rfl (by rw [show m_maxL 342 = 6 from by decide +kernel]; exact Nat.le_of_ble_eq_true rfl)).trans ?_
  exact if_pos rfl
theorem B_L_law_3063 {k : Nat → Nat × Nat} {u : Nat → Nat → Int} {g : Nat → Nat → Nat} {t : Nat × Nat × Nat} {r0 : Nat} {r1 : Nat} {r2 : Nat} {r3 : Nat} {r4 : Nat} {x5 : Int} {v6 : AV} {v7 : AV} {v8 : AV} : a_X 350 3063 [a_r (r0), a_r (r1), a_r (r2), a_r (r3), a_r (r4), a_i (x5), v6, v7, v8] [] (k, u, g, t) = if ((k r0).1 = 20 ∨ (k r0).1 = 24) ∧ 0 ≤ (wr (x5 + 1) : Int) ∧ (wr (x5 + 1) : Int) < ((k r0).2 : Int) then if ((k r0).1 = 20 ∨ (k r0).1 = 24) ∧ 0 ≤ (wr (x5 + 2) : Int) ∧ (wr (x5 + 2) : Int) < ((k r0).2 : Int) then (a_m 343 [a_r (r1), a_i (u r0 (wr (x5 + 1) : Int).toNat), a_i (u r0 (wr (x5 + 2) : Int).toNat), a_r (r3)] (k, u, g, t)).bind (a_back 350 3077 3 [a_r (r0), a_r (r1), a_r (r2), a_r (r3), a_r (r4), a_i (x5), v6, v7, v8] []) else none else none := by
  refine (X_aload_n (m := 350) (pc := 3063) (n := 1) (by decide +kernel) rfl).trans ?_
  refine (X_aload_n (m := 350) (pc := 3064) (n := 0) (by decide +kernel) rfl).trans ?_
  refine (X_iload (m := 350) (pc := 3065) (n := 5) (by decide +kernel) rfl).trans ?_
  refine (X_iconst (m := 350) (pc := 3067) (n := 1) (by decide +kernel) ).trans ?_
  refine (X_iadd (m := 350) (pc := 3068)  (by decide +kernel) ).trans ?_
  refine (X_iaload (m := 350) (pc := 3069)  (by decide +kernel) ).trans ?_
  refine ite_congr rfl (fun _ => ?_) (fun _ => rfl)
  refine (X_aload_n (m := 350) (pc := 3070) (n := 0) (by decide +kernel) rfl).trans ?_
  refine (X_iload (m := 350) (pc := 3071) (n := 5) (by decide +kernel) rfl).trans ?_
  refine (X_iconst (m := 350) (pc := 3073) (n := 2) (by decide +kernel) ).trans ?_
  refine (X_iadd (m := 350) (pc := 3074)  (by decide +kernel) ).trans ?_
  refine (X_iaload (m := 350) (pc := 3075)  (by decide +kernel) ).trans ?_
  refine ite_congr rfl (fun _ => ?_) (fun _ => rfl)
  refine (X_aload_n (m := 350) (pc := 3076) (n := 3) (by decide +kernel) rfl).trans ?_
  refine (X_call_st (m := 350) (pc := 3077) (q := 324) (y := 343) (n := 4) (as := [a_r (r1), a_i (u r0 (wr (x5 + 1) : Int).toNat), a_i (u r0 (wr (x5 + 2) : Int).toNat), a_r (r3)]) (rest := []) (by decide +kernel) (by decide +kernel) (by decide +kernel) (by decide +kernel) rfl rfl (Nat.le_of_ble_eq_true rfl) (Nat.le_of_ble_eq_true rfl) rfl (by rw [show m_maxL 343 = 5 from by decide +kernel]; exact Nat.le_of_ble_eq_true rfl)).trans ?_
  exact if_pos rfl
theorem B_L_law_3131 {k : Nat → Nat × Nat} {u : Nat → Nat → Int} {g : Nat → Nat → Nat} {t : Nat × Nat × Nat} {r0 : Nat} {r1 : Nat} {r2 : Nat} {r3 : Nat} {r4 : Nat} {x5 : Int} {v6 : AV} {v7 : AV} {v8 : AV} : a_X 350 3131 [a_r (r0), a_r (r1), a_r (r2), a_r (r3), a_r (r4), a_i (x5), v6, v7, v8] [] (k, u, g, t) = if ((k r0).1 = 20 ∨ (k r0).1 = 24) ∧ 0 ≤ (wr (x5 + 1) : Int) ∧ (wr (x5 + 1) : Int) < ((k r0).2 : Int) then if ((k r0).1 = 20 ∨ (k r0).1 = 24) ∧ 0 ≤ (wr (x5 + 2) : Int) ∧ (wr (x5 + 2) : Int) < ((k r0).2 : Int) then (a_m 344 [a_r (r1), a_i (u r0 (wr (x5 + 1) : Int).toNat), a_i (u r0 (wr (x5 + 2) : Int).toNat), a_r (r3)] (k, u, g, t)).bind (a_back 350 3145 3 [a_r (r0), a_r (r1), a_r (r2), a_r (r3), a_r (r4), a_i (x5), v6, v7, v8] []) else none else none := by
  refine (X_aload_n (m := 350) (pc := 3131) (n := 1) (by decide +kernel) rfl).trans ?_
  refine (X_aload_n (m := 350) (pc := 3132) (n := 0) (by decide +kernel) rfl).trans ?_
  refine (X_iload (m := 350) (pc := 3133) (n := 5) (by decide +kernel) rfl).trans ?_
  refine (X_iconst (m := 350) (pc := 3135) (n := 1) (by decide +kernel) ).trans ?_
  refine (X_iadd (m := 350) (pc := 3136)  (by decide +kernel) ).trans ?_
  refine (X_iaload (m := 350) (pc := 3137)  (by decide +kernel) ).trans ?_
  refine ite_congr rfl (fun _ => ?_) (fun _ => rfl)
  refine (X_aload_n (m := 350) (pc := 3138) (n := 0) (by decide +kernel) rfl).trans ?_
  refine (X_iload (m := 350) (pc := 3139) (n := 5) (by decide +kernel) rfl).trans ?_
  refine (X_iconst (m := 350) (pc := 3141) (n := 2) (by decide +kernel) ).trans ?_
  refine (X_iadd (m := 350) (pc := 3142)  (by decide +kernel) ).trans ?_
  refine (X_iaload (m := 350) (pc := 3143)  (by decide +kernel) ).trans ?_
  refine ite_congr rfl (fun _ => ?_) (fun _ => rfl)
  refine (X_aload_n (m := 350) (pc := 3144) (n := 3) (by decide +kernel) rfl).trans ?_
  refine (X_call_st (m := 350) (pc := 3145) (q := 327) (y := 344) (n := 4) (as := [a_r (r1), a_i (u r0 (wr (x5 + 1) : Int).toNat), a_i (u r0 (wr (x5 + 2) : Int).toNat), a_r (r3)]) (rest := []) (by decide +kernel) (by decide +kernel) (by decide +kernel) (by decide +kernel) rfl rfl (Nat.le_of_ble_eq_true rfl) (Nat.le_of_ble_eq_true rfl) rfl (by rw [show m_maxL 344 = 5 from by decide +kernel]; exact Nat.le_of_ble_eq_true rfl)).trans ?_
  exact if_pos rfl
theorem B_L_law_3199 {k : Nat → Nat × Nat} {u : Nat → Nat → Int} {g : Nat → Nat → Nat} {t : Nat × Nat × Nat} {r0 : Nat} {r1 : Nat} {r2 : Nat} {r3 : Nat} {r4 : Nat} {x5 : Int} {v6 : AV} {v7 : AV} {v8 : AV} : a_X 350 3199 [a_r (r0), a_r (r1), a_r (r2), a_r (r3), a_r (r4), a_i (x5), v6, v7, v8] [] (k, u, g, t) = if ((k r0).1 = 20 ∨ (k r0).1 = 24) ∧ 0 ≤ (wr (x5 + 1) : Int) ∧ (wr (x5 + 1) : Int) < ((k r0).2 : Int) then (a_m 345 [a_r (r1), a_i (u r0 (wr (x5 + 1) : Int).toNat), a_r (r3)] (k, u, g, t)).bind (a_back 350 3207 3 [a_r (r0), a_r (r1), a_r (r2), a_r (r3), a_r (r4), a_i (x5), v6, v7, v8] []) else none := by
  refine (X_aload_n (m := 350) (pc := 3199) (n := 1) (by decide +kernel) rfl).trans ?_
  refine (X_aload_n (m := 350) (pc := 3200) (n := 0) (by decide +kernel) rfl).trans ?_
  refine (X_iload (m := 350) (pc := 3201) (n := 5) (by decide +kernel) rfl).trans ?_
  refine (X_iconst (m := 350) (pc := 3203) (n := 1) (by decide +kernel) ).trans ?_
  refine (X_iadd (m := 350) (pc := 3204)  (by decide +kernel) ).trans ?_
  refine (X_iaload (m := 350) (pc := 3205)  (by decide +kernel) ).trans ?_
  refine ite_congr rfl (fun _ => ?_) (fun _ => rfl)
  refine (X_aload_n (m := 350) (pc := 3206) (n := 3) (by decide +kernel) rfl).trans ?_
  refine (X_call_st (m := 350) (pc := 3207) (q := 330) (y := 345) (n := 3) (as := [a_r (r1), a_i (u r0 (wr (x5 + 1) : Int).toNat), a_r (r3)]) (rest := []) (by decide +kernel) (by decide +kernel) (by decide +kernel) (by decide +kernel) rfl rfl (Nat.le_of_ble_eq_true rfl) (Nat.le_of_ble_eq_true rfl) rfl (by rw [show m_maxL 345 = 4 from by decide +kernel]; exact Nat.le_of_ble_eq_true rfl)).trans ?_
  exact if_pos rfl
theorem B_L_law_3255 {k : Nat → Nat × Nat} {u : Nat → Nat → Int} {g : Nat → Nat → Nat} {t : Nat × Nat × Nat} {r0 : Nat} {r1 : Nat} {r2 : Nat} {r3 : Nat} {r4 : Nat} {x5 : Int} {v6 : AV} {v7 : AV} {v8 : AV} : a_X 350 3255 [a_r (r0), a_r (r1), a_r (r2), a_r (r3), a_r (r4), a_i (x5), v6, v7, v8] [] (k, u, g, t) = if ((k r0).1 = 20 ∨ (k r0).1 = 24) ∧ 0 ≤ (wr (x5 + 1) : Int) ∧ (wr (x5 + 1) : Int) < ((k r0).2 : Int) then (a_m 346 [a_r (r1), a_i (u r0 (wr (x5 + 1) : Int).toNat), a_r (r3)] (k, u, g, t)).bind (a_back 350 3263 3 [a_r (r0), a_r (r1), a_r (r2), a_r (r3), a_r (r4), a_i (x5), v6, v7, v8] []) else none := by
  refine (X_aload_n (m := 350) (pc := 3255) (n := 1) (by decide +kernel) rfl).trans ?_
  refine (X_aload_n (m := 350) (pc := 3256) (n := 0) (by decide +kernel) rfl).trans ?_
  refine (X_iload (m := 350) (pc := 3257) (n := 5) (by decide +kernel) rfl).trans ?_
  refine (X_iconst (m := 350) (pc := 3259) (n := 1) (by decide +kernel) ).trans ?_
  refine (X_iadd (m := 350) (pc := 3260)  (by decide +kernel) ).trans ?_
  refine (X_iaload (m := 350) (pc := 3261)  (by decide +kernel) ).trans ?_
  refine ite_congr rfl (fun _ => ?_) (fun _ => rfl)
  refine (X_aload_n (m := 350) (pc := 3262) (n := 3) (by decide +kernel) rfl).trans ?_
  refine (X_call_st (m := 350) (pc := 3263) (q := 333) (y := 346) (n := 3) (as := [a_r (r1), a_i (u r0 (wr (x5 + 1) : Int).toNat), a_r (r3)]) (rest := []) (by decide +kernel) (by decide +kernel) (by decide +kernel) (by decide +kernel) rfl rfl (Nat.le_of_ble_eq_true rfl) (Nat.le_of_ble_eq_true rfl) rfl (by rw [show m_maxL 346 = 4 from by decide +kernel]; exact Nat.le_of_ble_eq_true rfl)).trans ?_
  exact if_pos rfl
theorem B_L_law_3311 {k : Nat → Nat × Nat} {u : Nat → Nat → Int} {g : Nat → Nat → Nat} {t : Nat × Nat × Nat} {r0 : Nat} {r1 : Nat} {r2 : Nat} {r3 : Nat} {r4 : Nat} {x5 : Int} {v6 : AV} {v7 : AV} {v8 : AV} : a_X 350 3311 [a_r (r0), a_r (r1), a_r (r2), a_r (r3), a_r (r4), a_i (x5), v6, v7, v8] [] (k, u, g, t) = (a_m 347 [a_r (r1), a_r (r3)] (k, u, g, t)).bind (a_back 350 3313 3 [a_r (r0), a_r (r1), a_r (r2), a_r (r3), a_r (r4), a_i (x5), v6, v7, v8] []) := by
  refine (X_aload_n (m := 350) (pc := 3311) (n := 1) (by decide +kernel) rfl).trans ?_
  refine (X_aload_n (m := 350) (pc := 3312) (n := 3) (by decide +kernel) rfl).trans ?_
  refine (X_call_st (m := 350) (pc := 3313) (q := 336) (y := 347) (n := 2) (as := [a_r (r1), a_r (r3)]) (rest := []) (by decide +kernel) (by decide +kernel) (by decide +kernel) (by decide +kernel) rfl rfl (Nat.le_of_ble_eq_true rfl) (Nat.le_of_ble_eq_true rfl) rfl (by rw [show m_maxL 347 = 3 from by decide +kernel]; exact Nat.le_of_ble_eq_true rfl)).trans ?_
  exact if_pos rfl
theorem B_L_law_3355 {k : Nat → Nat × Nat} {u : Nat → Nat → Int} {g : Nat → Nat → Nat} {t : Nat × Nat × Nat} {r0 : Nat} {r1 : Nat} {r2 : Nat} {r3 : Nat} {r4 : Nat} {x5 : Int} {v6 : AV} {v7 : AV} {v8 : AV} : a_X 350 3355 [a_r (r0), a_r (r1), a_r (r2), a_r (r3), a_r (r4), a_i (x5), v6, v7, v8] [] (k, u, g, t) = if (k r1).1 = 10 then (a_m 141 [a_r (r1)] (k, u, g, t)).bind (a_back 350 3356 3 [a_r (r0), a_r (r1), a_r (r2), a_r (r3), a_r (r4), a_i (x5), v6, v7, v8] []) else none := by
  refine (X_aload_n (m := 350) (pc := 3355) (n := 1) (by decide +kernel) rfl).trans ?_
  refine (X_call_vi (m := 350) (pc := 3356) (q := 339) (y := 141) (n := 1) (as := [a_r (r1)]) (rest := []) (by decide +kernel) (by decide +kernel) (by decide +kernel) (by decide +kernel) rfl rfl (Nat.le_of_ble_eq_true rfl) (Nat.le_of_ble_eq_true rfl) rfl (by rw [show m_maxL 141 = 1 from by decide +kernel]; exact Nat.le_of_ble_eq_true rfl)).trans ?_
  exact ite_congr (by simp [a_rcv, show m_recv 141 = 10 from by decide +kernel]) (fun _ => rfl) (fun _ => rfl)
theorem B_L_law_3368 {k : Nat → Nat × Nat} {u : Nat → Nat → Int} {g : Nat → Nat → Nat} {t : Nat × Nat × Nat} {r0 : Nat} {r1 : Nat} {r2 : Nat} {r3 : Nat} {r4 : Nat} {x5 : Int} {v6 : AV} {v7 : AV} {v8 : AV} : a_X 350 3368 [a_r (r0), a_r (r1), a_r (r2), a_r (r3), a_r (r4), a_i (x5), v6, v7, v8] [] (k, u, g, t) = if ((k r0).1 = 20 ∨ (k r0).1 = 24) ∧ 0 ≤ (wr (x5 + 1) : Int) ∧ (wr (x5 + 1) : Int) < ((k r0).2 : Int) then (a_m 348 [a_r (r1), a_i (u r0 (wr (x5 + 1) : Int).toNat), a_r (r3)] (k, u, g, t)).bind (a_back 350 3376 3 [a_r (r0), a_r (r1), a_r (r2), a_r (r3), a_r (r4), a_i (x5), v6, v7, v8] []) else none := by
  refine (X_aload_n (m := 350) (pc := 3368) (n := 1) (by decide +kernel) rfl).trans ?_
  refine (X_aload_n (m := 350) (pc := 3369) (n := 0) (by decide +kernel) rfl).trans ?_
  refine (X_iload (m := 350) (pc := 3370) (n := 5) (by decide +kernel) rfl).trans ?_
  refine (X_iconst (m := 350) (pc := 3372) (n := 1) (by decide +kernel) ).trans ?_
  refine (X_iadd (m := 350) (pc := 3373)  (by decide +kernel) ).trans ?_
  refine (X_iaload (m := 350) (pc := 3374)  (by decide +kernel) ).trans ?_
  refine ite_congr rfl (fun _ => ?_) (fun _ => rfl)
  refine (X_aload_n (m := 350) (pc := 3375) (n := 3) (by decide +kernel) rfl).trans ?_
  refine (X_call_st (m := 350) (pc := 3376) (q := 343) (y := 348) (n := 3) (as := [a_r (r1), a_i (u r0 (wr (x5 + 1) : Int).toNat), a_r (r3)]) (rest := []) (by decide +kernel) (by decide +kernel) (by decide +kernel) (by decide +kernel) rfl rfl (Nat.le_of_ble_eq_true rfl) (Nat.le_of_ble_eq_true rfl) rfl (by rw [show m_maxL 348 = 4 from by decide +kernel]; exact Nat.le_of_ble_eq_true rfl)).trans ?_
  exact if_pos rfl
theorem B_L_law_3424 {k : Nat → Nat × Nat} {u : Nat → Nat → Int} {g : Nat → Nat → Nat} {t : Nat × Nat × Nat} {r0 : Nat} {r1 : Nat} {r2 : Nat} {r3 : Nat} {r4 : Nat} {x5 : Int} {v6 : AV} {v7 : AV} {v8 : AV} : a_X 350 3424 [a_r (r0), a_r (r1), a_r (r2), a_r (r3), a_r (r4), a_i (x5), v6, v7, v8] [] (k, u, g, t) = if ((k r0).1 = 20 ∨ (k r0).1 = 24) ∧ 0 ≤ (wr (x5 + 1) : Int) ∧ (wr (x5 + 1) : Int) < ((k r0).2 : Int) then (a_m 349 [a_r (r1), a_i (u r0 (wr (x5 + 1) : Int).toNat), a_r (r3)] (k, u, g, t)).bind (a_back 350 3432 3 [a_r (r0), a_r (r1), a_r (r2), a_r (r3), a_r (r4), a_i (x5), v6, v7, v8] []) else none := by
  refine (X_aload_n (m := 350) (pc := 3424) (n := 1) (by decide +kernel) rfl).trans ?_
  refine (X_aload_n (m := 350) (pc := 3425) (n := 0) (by decide +kernel) rfl).trans ?_
  refine (X_iload (m := 350) (pc := 3426) (n := 5) (by decide +kernel) rfl).trans ?_
  refine (X_iconst (m := 350) (pc := 3428) (n := 1) (by decide +kernel) ).trans ?_
  refine (X_iadd (m := 350) (pc := 3429)  (by decide +kernel) ).trans ?_
  refine (X_iaload (m := 350) (pc := 3430)  (by decide +kernel) ).trans ?_
  refine ite_congr rfl (fun _ => ?_) (fun _ => rfl)
  refine (X_aload_n (m := 350) (pc := 3431) (n := 3) (by decide +kernel) rfl).trans ?_
  refine (X_call_st (m := 350) (pc := 3432) (q := 346) (y := 349) (n := 3) (as := [a_r (r1), a_i (u r0 (wr (x5 + 1) : Int).toNat), a_r (r3)]) (rest := []) (by decide +kernel) (by decide +kernel) (by decide +kernel) (by decide +kernel) rfl rfl (Nat.le_of_ble_eq_true rfl) (Nat.le_of_ble_eq_true rfl) rfl (by rw [show m_maxL 349 = 4 from by decide +kernel]; exact Nat.le_of_ble_eq_true rfl)).trans ?_
  exact if_pos rfl
theorem B_L_law_3480 {k : Nat → Nat × Nat} {u : Nat → Nat → Int} {g : Nat → Nat → Nat} {t : Nat × Nat × Nat} {r0 : Nat} {r1 : Nat} {r2 : Nat} {r3 : Nat} {r4 : Nat} {x5 : Int} {v6 : AV} {v7 : AV} {v8 : AV} : a_X 350 3480 [a_r (r0), a_r (r1), a_r (r2), a_r (r3), a_r (r4), a_i (x5), v6, v7, v8] [] (k, u, g, t) = a_X 350 28 [a_r (r0), a_r (r1), a_r (r2), a_r (r3), a_r (r4), a_i (wr (x5 + 7)), v6, v7, v8] [] (k, u, g, t) := by
  refine (X_iinc (m := 350) (pc := 3480) (n := 5) (c := 7) (by decide +kernel) rfl rfl (Nat.le_of_ble_eq_true rfl) rfl).trans ?_
  refine (X_goto (m := 350) (pc := 3483) (off := -3455) (tg := 28) (by decide +kernel) (by decide +kernel)).trans ?_
  rfl
theorem B_L_law_306 {k : Nat → Nat × Nat} {u : Nat → Nat → Int} {g : Nat → Nat → Nat} {t : Nat × Nat × Nat} {r0 : Nat} {r1 : Nat} {r2 : Nat} {r3 : Nat} {r4 : Nat} {x5 : Int} {v6 : AV} {v7 : AV} {v8 : AV} {y0 : Int} : a_X 350 306 [a_r (r0), a_r (r1), a_r (r2), a_r (r3), a_r (r4), a_i (x5), v6, v7, v8] [a_i (y0)] (k, u, g, t) = if ((k r0).1 = 20 ∨ (k r0).1 = 24) ∧ 0 ≤ (wr (x5 + 1) : Int) ∧ (wr (x5 + 1) : Int) < ((k r0).2 : Int) then if ((k r0).1 = 20 ∨ (k r0).1 = 24) ∧ 0 ≤ (wr (x5 + 2) : Int) ∧ (wr (x5 + 2) : Int) < ((k r0).2 : Int) then if ((k r0).1 = 20 ∨ (k r0).1 = 24) ∧ 0 ≤ (wr (x5 + 3) : Int) ∧ (wr (x5 + 3) : Int) < ((k r0).2 : Int) then if ((k r0).1 = 20 ∨ (k r0).1 = 24) ∧ 0 ≤ (wr (x5 + 4) : Int) ∧ (wr (x5 + 4) : Int) < ((k r0).2 : Int) then if ((k r0).1 = 20 ∨ (k r0).1 = 24) ∧ 0 ≤ (wr (x5 + 5) : Int) ∧ (wr (x5 + 5) : Int) < ((k r0).2 : Int) then if (k r2).1 = 11 then (a_m 175 [a_r (r2), a_i (u r0 (wr (x5 + 1) : Int).toNat), a_i (u r0 (wr (x5 + 2) : Int).toNat), a_i (u r0 (wr (x5 + 3) : Int).toNat), a_i (u r0 (wr (x5 + 4) : Int).toNat), a_i (u r0 (wr (x5 + 5) : Int).toNat)] (k, u, g, t)).bind (a_back 350 337 3 [a_r (r0), a_r (r1), a_r (r2), a_r (r3), a_r (r4), a_i (x5), v6, v7, v8] [a_i (y0)]) else none else none else none else none else none else none := by
  refine (X_aload_n (m := 350) (pc := 306) (n := 2) (by decide +kernel) rfl).trans ?_
  refine (X_aload_n (m := 350) (pc := 307) (n := 0) (by decide +kernel) rfl).trans ?_
  refine (X_iload (m := 350) (pc := 308) (n := 5) (by decide +kernel) rfl).trans ?_
  refine (X_iconst (m := 350) (pc := 310) (n := 1) (by decide +kernel) ).trans ?_
  refine (X_iadd (m := 350) (pc := 311)  (by decide +kernel) ).trans ?_
  refine (X_iaload (m := 350) (pc := 312)  (by decide +kernel) ).trans ?_
  refine ite_congr rfl (fun _ => ?_) (fun _ => rfl)
  refine (X_aload_n (m := 350) (pc := 313) (n := 0) (by decide +kernel) rfl).trans ?_
  refine (X_iload (m := 350) (pc := 314) (n := 5) (by decide +kernel) rfl).trans ?_
  refine (X_iconst (m := 350) (pc := 316) (n := 2) (by decide +kernel) ).trans ?_
  refine (X_iadd (m := 350) (pc := 317)  (by decide +kernel) ).trans ?_
  refine (X_iaload (m := 350) (pc := 318)  (by decide +kernel) ).trans ?_
  refine ite_congr rfl (fun _ => ?_) (fun _ => rfl)
  refine (X_aload_n (m := 350) (pc := 319) (n := 0) (by decide +kernel) rfl).trans ?_
  refine (X_iload (m := 350) (pc := 320) (n := 5) (by decide +kernel) rfl).trans ?_
  refine (X_iconst (m := 350) (pc := 322) (n := 3) (by decide +kernel) ).trans ?_
  refine (X_iadd (m := 350) (pc := 323)  (by decide +kernel) ).trans ?_
  refine (X_iaload (m := 350) (pc := 324)  (by decide +kernel) ).trans ?_
  refine ite_congr rfl (fun _ => ?_) (fun _ => rfl)
  refine (X_aload_n (m := 350) (pc := 325) (n := 0) (by decide +kernel) rfl).trans ?_
  refine (X_iload (m := 350) (pc := 326) (n := 5) (by decide +kernel) rfl).trans ?_
  refine (X_iconst (m := 350) (pc := 328) (n := 4) (by decide +kernel) ).trans ?_
  refine (X_iadd (m := 350) (pc := 329)  (by decide +kernel) ).trans ?_
  refine (X_iaload (m := 350) (pc := 330)  (by decide +kernel) ).trans ?_
  refine ite_congr rfl (fun _ => ?_) (fun _ => rfl)
  refine (X_aload_n (m := 350) (pc := 331) (n := 0) (by decide +kernel) rfl).trans ?_
  refine (X_iload (m := 350) (pc := 332) (n := 5) (by decide +kernel) rfl).trans ?_
  refine (X_iconst (m := 350) (pc := 334) (n := 5) (by decide +kernel) ).trans ?_
  refine (X_iadd (m := 350) (pc := 335)  (by decide +kernel) ).trans ?_
  refine (X_iaload (m := 350) (pc := 336)  (by decide +kernel) ).trans ?_
  refine ite_congr rfl (fun _ => ?_) (fun _ => rfl)
  refine (X_call_vi (m := 350) (pc := 337) (q := 176) (y := 175) (n := 6) (as := [a_r (r2), a_i (u r0 (wr (x5 + 1) : Int).toNat), a_i (u r0 (wr (x5 + 2) : Int).toNat), a_i (u r0 (wr (x5 + 3) : Int).toNat), a_i (u r0 (wr (x5 + 4) : Int).toNat), a_i (u r0 (wr (x5 + 5) : Int).toNat)]) (rest := [a_i (y0)]) (by decide +kernel) (by decide +kernel) (by decide +kernel) (by decide +kernel) rfl rfl (Nat.le_of_ble_eq_true rfl) (Nat.le_of_ble_eq_true rfl) rfl (by rw [show m_maxL 175 = 8 from by decide +kernel]; exact Nat.le_of_ble_eq_true rfl)).trans ?_
  exact ite_congr (by simp [a_rcv, show m_recv 175 = 11 from by decide +kernel]) (fun _ => rfl) (fun _ => rfl)
theorem B_L_law_356 {k : Nat → Nat × Nat} {u : Nat → Nat → Int} {g : Nat → Nat → Nat} {t : Nat × Nat × Nat} {r0 : Nat} {r1 : Nat} {r2 : Nat} {r3 : Nat} {r4 : Nat} {x5 : Int} {v6 : AV} {v7 : AV} {v8 : AV} {y0 : Int} : a_X 350 356 [a_r (r0), a_r (r1), a_r (r2), a_r (r3), a_r (r4), a_i (x5), v6, v7, v8] [a_i (y0)] (k, u, g, t) = if ((k r0).1 = 20 ∨ (k r0).1 = 24) ∧ 0 ≤ (wr (x5 + 1) : Int) ∧ (wr (x5 + 1) : Int) < ((k r0).2 : Int) then if (k r2).1 = 11 then (a_m 191 [a_r (r2), a_i (u r0 (wr (x5 + 1) : Int).toNat)] (k, u, g, t)).bind (a_back 350 365 3 [a_r (r0), a_r (r1), a_r (r2), a_r (r3), a_r (r4), a_i (x5), a_i (y0), v7, v8] []) else none else none := by
  refine (X_istore (m := 350) (pc := 356) (n := 6) (by decide +kernel) rfl (Nat.le_of_ble_eq_true rfl) rfl).trans ?_
  refine (X_aload_n (m := 350) (pc := 358) (n := 2) (by decide +kernel) rfl).trans ?_
  refine (X_aload_n (m := 350) (pc := 359) (n := 0) (by decide +kernel) rfl).trans ?_
  refine (X_iload (m := 350) (pc := 360) (n := 5) (by decide +kernel) rfl).trans ?_
  refine (X_iconst (m := 350) (pc := 362) (n := 1) (by decide +kernel) ).trans ?_
  refine (X_iadd (m := 350) (pc := 363)  (by decide +kernel) ).trans ?_
  refine (X_iaload (m := 350) (pc := 364)  (by decide +kernel) ).trans ?_
  refine ite_congr rfl (fun _ => ?_) (fun _ => rfl)
  refine (X_call_vi (m := 350) (pc := 365) (q := 182) (y := 191) (n := 2) (as := [a_r (r2), a_i (u r0 (wr (x5 + 1) : Int).toNat)]) (rest := []) (by decide +kernel) (by decide +kernel) (by decide +kernel) (by decide +kernel) rfl rfl (Nat.le_of_ble_eq_true rfl) (Nat.le_of_ble_eq_true rfl) rfl (by rw [show m_maxL 191 = 2 from by decide +kernel]; exact Nat.le_of_ble_eq_true rfl)).trans ?_
  exact ite_congr (by simp [a_rcv, show m_recv 191 = 11 from by decide +kernel]) (fun _ => rfl) (fun _ => rfl)
theorem B_L_law_405 {k : Nat → Nat × Nat} {u : Nat → Nat → Int} {g : Nat → Nat → Nat} {t : Nat × Nat × Nat} {r0 : Nat} {r1 : Nat} {r2 : Nat} {r3 : Nat} {r4 : Nat} {x5 : Int} {v6 : AV} {v7 : AV} {v8 : AV} {y0 : Int} : a_X 350 405 [a_r (r0), a_r (r1), a_r (r2), a_r (r3), a_r (r4), a_i (x5), v6, v7, v8] [a_i (y0)] (k, u, g, t) = if (k r2).1 = 11 then (a_m 177 [a_r (r2)] (k, u, g, t)).bind (a_back 350 406 3 [a_r (r0), a_r (r1), a_r (r2), a_r (r3), a_r (r4), a_i (x5), v6, v7, v8] [a_i (y0)]) else none := by
  refine (X_aload_n (m := 350) (pc := 405) (n := 2) (by decide +kernel) rfl).trans ?_
  refine (X_call_vi (m := 350) (pc := 406) (q := 189) (y := 177) (n := 1) (as := [a_r (r2)]) (rest := [a_i (y0)]) (by decide +kernel) (by decide +kernel) (by decide +kernel) (by decide +kernel) rfl rfl (Nat.le_of_ble_eq_true rfl) (Nat.le_of_ble_eq_true rfl) rfl (by rw [show m_maxL 177 = 1 from by decide +kernel]; exact Nat.le_of_ble_eq_true rfl)).trans ?_
  exact ite_congr (by simp [a_rcv, show m_recv 177 = 11 from by decide +kernel]) (fun _ => rfl) (fun _ => rfl)
theorem B_L_law_418 {k : Nat → Nat × Nat} {u : Nat → Nat → Int} {g : Nat → Nat → Nat} {t : Nat × Nat × Nat} {r0 : Nat} {r1 : Nat} {r2 : Nat} {r3 : Nat} {r4 : Nat} {x5 : Int} {v6 : AV} {v7 : AV} {v8 : AV} {y0 : Int} : a_X 350 418 [a_r (r0), a_r (r1), a_r (r2), a_r (r3), a_r (r4), a_i (x5), v6, v7, v8] [a_i (y0)] (k, u, g, t) = if (k r2).1 = 11 then (a_m 178 [a_r (r2)] (k, u, g, t)).bind (a_back 350 419 3 [a_r (r0), a_r (r1), a_r (r2), a_r (r3), a_r (r4), a_i (x5), v6, v7, v8] [a_i (y0)]) else none := by
  refine (X_aload_n (m := 350) (pc := 418) (n := 2) (by decide +kernel) rfl).trans ?_
  refine (X_call_vi (m := 350) (pc := 419) (q := 193) (y := 178) (n := 1) (as := [a_r (r2)]) (rest := [a_i (y0)]) (by decide +kernel) (by decide +kernel) (by decide +kernel) (by decide +kernel) rfl rfl (Nat.le_of_ble_eq_true rfl) (Nat.le_of_ble_eq_true rfl) rfl (by rw [show m_maxL 178 = 1 from by decide +kernel]; exact Nat.le_of_ble_eq_true rfl)).trans ?_
  exact ite_congr (by simp [a_rcv, show m_recv 178 = 11 from by decide +kernel]) (fun _ => rfl) (fun _ => rfl)
theorem B_L_law_431 {k : Nat → Nat × Nat} {u : Nat → Nat → Int} {g : Nat → Nat → Nat} {t : Nat × Nat × Nat} {r0 : Nat} {r1 : Nat} {r2 : Nat} {r3 : Nat} {r4 : Nat} {x5 : Int} {v6 : AV} {v7 : AV} {v8 : AV} {y0 : Int} : a_X 350 431 [a_r (r0), a_r (r1), a_r (r2), a_r (r3), a_r (r4), a_i (x5), v6, v7, v8] [a_i (y0)] (k, u, g, t) = if (k r2).1 = 11 then (a_m 176 [a_r (r2)] (k, u, g, t)).bind (a_back 350 432 3 [a_r (r0), a_r (r1), a_r (r2), a_r (r3), a_r (r4), a_i (x5), v6, v7, v8] [a_i (y0)]) else none := by
  refine (X_aload_n (m := 350) (pc := 431) (n := 2) (by decide +kernel) rfl).trans ?_
  refine (X_call_vi (m := 350) (pc := 432) (q := 197) (y := 176) (n := 1) (as := [a_r (r2)]) (rest := [a_i (y0)]) (by decide +kernel) (by decide +kernel) (by decide +kernel) (by decide +kernel) rfl rfl (Nat.le_of_ble_eq_true rfl) (Nat.le_of_ble_eq_true rfl) rfl (by rw [show m_maxL 176 = 1 from by decide +kernel]; exact Nat.le_of_ble_eq_true rfl)).trans ?_
  exact ite_congr (by simp [a_rcv, show m_recv 176 = 11 from by decide +kernel]) (fun _ => rfl) (fun _ => rfl)
theorem B_L_law_451 {k : Nat → Nat × Nat} {u : Nat → Nat → Int} {g : Nat → Nat → Nat} {t : Nat × Nat × Nat} {r0 : Nat} {r1 : Nat} {r2 : Nat} {r3 : Nat} {r4 : Nat} {x5 : Int} {v6 : AV} {v7 : AV} {v8 : AV} {y0 : Int} : a_X 350 451 [a_r (r0), a_r (r1), a_r (r2), a_r (r3), a_r (r4), a_i (x5), v6, v7, v8] [a_i (y0)] (k, u, g, t) = if ((k r0).1 = 20 ∨ (k r0).1 = 24) ∧ 0 ≤ (wr (x5 + 1) : Int) ∧ (wr (x5 + 1) : Int) < ((k r0).2 : Int) then if (k r2).1 = 11 then (a_m 215 [a_r (r2), a_i (u r0 (wr (x5 + 1) : Int).toNat)] (k, u, g, t)).bind (a_back 350 460 3 [a_r (r0), a_r (r1), a_r (r2), a_r (r3), a_r (r4), a_i (x5), a_i (y0), v7, v8] []) else none else none := by
  refine (X_istore (m := 350) (pc := 451) (n := 6) (by decide +kernel) rfl (Nat.le_of_ble_eq_true rfl) rfl).trans ?_
  refine (X_aload_n (m := 350) (pc := 453) (n := 2) (by decide +kernel) rfl).trans ?_
  refine (X_aload_n (m := 350) (pc := 454) (n := 0) (by decide +kernel) rfl).trans ?_
  refine (X_iload (m := 350) (pc := 455) (n := 5) (by decide +kernel) rfl).trans ?_
  refine (X_iconst (m := 350) (pc := 457) (n := 1) (by decide +kernel) ).trans ?_
  refine (X_iadd (m := 350) (pc := 458)  (by decide +kernel) ).trans ?_
  refine (X_iaload (m := 350) (pc := 459)  (by decide +kernel) ).trans ?_
  refine ite_congr rfl (fun _ => ?_) (fun _ => rfl)
  refine (X_call_vi (m := 350) (pc := 460) (q := 200) (y := 215) (n := 2) (as := [a_r (r2), a_i (u r0 (wr (x5 + 1) : Int).toNat)]) (rest := []) (by decide +kernel) (by decide +kernel) (by decide +kernel) (by decide +kernel) rfl rfl (Nat.le_of_ble_eq_true rfl) (Nat.le_of_ble_eq_true rfl) rfl (by rw [show m_maxL 215 = 2 from by decide +kernel]; exact Nat.le_of_ble_eq_true rfl)).trans ?_
  exact ite_congr (by simp [a_rcv, show m_recv 215 = 11 from by decide +kernel]) (fun _ => rfl) (fun _ => rfl)
theorem B_L_law_519 {k : Nat → Nat × Nat} {u : Nat → Nat → Int} {g : Nat → Nat → Nat} {t : Nat × Nat × Nat} {r0 : Nat} {r1 : Nat} {r2 : Nat} {r3 : Nat} {r4 : Nat} {x5 : Int} {v6 : AV} {v7 : AV} {v8 : AV} {y0 : Int} : a_X 350 519 [a_r (r0), a_r (r1), a_r (r2), a_r (r3), a_r (r4), a_i (x5), v6, v7, v8] [a_i (y0)] (k, u, g, t) = if ((k r0).1 = 20 ∨ (k r0).1 = 24) ∧ 0 ≤ (wr (x5 + 1) : Int) ∧ (wr (x5 + 1) : Int) < ((k r0).2 : Int) then if ((k r0).1 = 20 ∨ (k r0).1 = 24) ∧ 0 ≤ (wr (x5 + 2) : Int) ∧ (wr (x5 + 2) : Int) < ((k r0).2 : Int) then if ((k r0).1 = 20 ∨ (k r0).1 = 24) ∧ 0 ≤ (wr (x5 + 3) : Int) ∧ (wr (x5 + 3) : Int) < ((k r0).2 : Int) then if (k r2).1 = 11 then (a_m 216 [a_r (r2), a_i (u r0 (wr (x5 + 1) : Int).toNat), a_i (u r0 (wr (x5 + 2) : Int).toNat), a_i (u r0 (wr (x5 + 3) : Int).toNat)] (k, u, g, t)).bind (a_back 350 540 3 [a_r (r0), a_r (r1), a_r (r2), a_r (r3), a_r (r4), a_i (x5), a_i (y0), v7, v8] []) else none else none else none else none := by
  refine (X_istore (m := 350) (pc := 519) (n := 6) (by decide +kernel) rfl (Nat.le_of_ble_eq_true rfl) rfl).trans ?_
  refine (X_aload_n (m := 350) (pc := 521) (n := 2) (by decide +kernel) rfl).trans ?_
  refine (X_aload_n (m := 350) (pc := 522) (n := 0) (by decide +kernel) rfl).trans ?_
  refine (X_iload (m := 350) (pc := 523) (n := 5) (by decide +kernel) rfl).trans ?_
  refine (X_iconst (m := 350) (pc := 525) (n := 1) (by decide +kernel) ).trans ?_
  refine (X_iadd (m := 350) (pc := 526)  (by decide +kernel) ).trans ?_
  refine (X_iaload (m := 350) (pc := 527)  (by decide +kernel) ).trans ?_
  refine ite_congr rfl (fun _ => ?_) (fun _ => rfl)
  refine (X_aload_n (m := 350) (pc := 528) (n := 0) (by decide +kernel) rfl).trans ?_
  refine (X_iload (m := 350) (pc := 529) (n := 5) (by decide +kernel) rfl).trans ?_
  refine (X_iconst (m := 350) (pc := 531) (n := 2) (by decide +kernel) ).trans ?_
  refine (X_iadd (m := 350) (pc := 532)  (by decide +kernel) ).trans ?_
  refine (X_iaload (m := 350) (pc := 533)  (by decide +kernel) ).trans ?_
  refine ite_congr rfl (fun _ => ?_) (fun _ => rfl)
  refine (X_aload_n (m := 350) (pc := 534) (n := 0) (by decide +kernel) rfl).trans ?_
  refine (X_iload (m := 350) (pc := 535) (n := 5) (by decide +kernel) rfl).trans ?_
  refine (X_iconst (m := 350) (pc := 537) (n := 3) (by decide +kernel) ).trans ?_
  refine (X_iadd (m := 350) (pc := 538)  (by decide +kernel) ).trans ?_
  refine (X_iaload (m := 350) (pc := 539)  (by decide +kernel) ).trans ?_
  refine ite_congr rfl (fun _ => ?_) (fun _ => rfl)
  refine (X_call_vi (m := 350) (pc := 540) (q := 204) (y := 216) (n := 4) (as := [a_r (r2), a_i (u r0 (wr (x5 + 1) : Int).toNat), a_i (u r0 (wr (x5 + 2) : Int).toNat), a_i (u r0 (wr (x5 + 3) : Int).toNat)]) (rest := []) (by decide +kernel) (by decide +kernel) (by decide +kernel) (by decide +kernel) rfl rfl (Nat.le_of_ble_eq_true rfl) (Nat.le_of_ble_eq_true rfl) rfl (by rw [show m_maxL 216 = 4 from by decide +kernel]; exact Nat.le_of_ble_eq_true rfl)).trans ?_
  exact ite_congr (by simp [a_rcv, show m_recv 216 = 11 from by decide +kernel]) (fun _ => rfl) (fun _ => rfl)
theorem B_L_law_593 {k : Nat → Nat × Nat} {u : Nat → Nat → Int} {g : Nat → Nat → Nat} {t : Nat × Nat × Nat} {r0 : Nat} {r1 : Nat} {r2 : Nat} {r3 : Nat} {r4 : Nat} {x5 : Int} {v6 : AV} {v7 : AV} {v8 : AV} {y0 : Int} : a_X 350 593 [a_r (r0), a_r (r1), a_r (r2), a_r (r3), a_r (r4), a_i (x5), v6, v7, v8] [a_i (y0)] (k, u, g, t) = if ((k r0).1 = 20 ∨ (k r0).1 = 24) ∧ 0 ≤ (wr (x5 + 1) : Int) ∧ (wr (x5 + 1) : Int) < ((k r0).2 : Int) then if ((k r0).1 = 20 ∨ (k r0).1 = 24) ∧ 0 ≤ (wr (x5 + 2) : Int) ∧ (wr (x5 + 2) : Int) < ((k r0).2 : Int) then if (k r2).1 = 11 then (a_m 217 [a_r (r2), a_i (u r0 (wr (x5 + 1) : Int).toNat), a_i (u r0 (wr (x5 + 2) : Int).toNat)] (k, u, g, t)).bind (a_back 350 608 3 [a_r (r0), a_r (r1), a_r (r2), a_r (r3), a_r (r4), a_i (x5), a_i (y0), v7, v8] []) else none else none else none := by
  refine (X_istore (m := 350) (pc := 593) (n := 6) (by decide +kernel) rfl (Nat.le_of_ble_eq_true rfl) rfl).trans ?_
  refine (X_aload_n (m := 350) (pc := 595) (n := 2) (by decide +kernel) rfl).trans ?_
  refine (X_aload_n (m := 350) (pc := 596) (n := 0) (by decide +kernel) rfl).trans ?_
  refine (X_iload (m := 350) (pc := 597) (n := 5) (by decide +kernel) rfl).trans ?_
  refine (X_iconst (m := 350) (pc := 599) (n := 1) (by decide +kernel) ).trans ?_
  refine (X_iadd (m := 350) (pc := 600)  (by decide +kernel) ).trans ?_
  refine (X_iaload (m := 350) (pc := 601)  (by decide +kernel) ).trans ?_
  refine ite_congr rfl (fun _ => ?_) (fun _ => rfl)
  refine (X_aload_n (m := 350) (pc := 602) (n := 0) (by decide +kernel) rfl).trans ?_
  refine (X_iload (m := 350) (pc := 603) (n := 5) (by decide +kernel) rfl).trans ?_
  refine (X_iconst (m := 350) (pc := 605) (n := 2) (by decide +kernel) ).trans ?_
  refine (X_iadd (m := 350) (pc := 606)  (by decide +kernel) ).trans ?_
  refine (X_iaload (m := 350) (pc := 607)  (by decide +kernel) ).trans ?_
  refine ite_congr rfl (fun _ => ?_) (fun _ => rfl)
  refine (X_call_vi (m := 350) (pc := 608) (q := 208) (y := 217) (n := 3) (as := [a_r (r2), a_i (u r0 (wr (x5 + 1) : Int).toNat), a_i (u r0 (wr (x5 + 2) : Int).toNat)]) (rest := []) (by decide +kernel) (by decide +kernel) (by decide +kernel) (by decide +kernel) rfl rfl (Nat.le_of_ble_eq_true rfl) (Nat.le_of_ble_eq_true rfl) rfl (by rw [show m_maxL 217 = 4 from by decide +kernel]; exact Nat.le_of_ble_eq_true rfl)).trans ?_
  exact ite_congr (by simp [a_rcv, show m_recv 217 = 11 from by decide +kernel]) (fun _ => rfl) (fun _ => rfl)
theorem B_L_law_661 {k : Nat → Nat × Nat} {u : Nat → Nat → Int} {g : Nat → Nat → Nat} {t : Nat × Nat × Nat} {r0 : Nat} {r1 : Nat} {r2 : Nat} {r3 : Nat} {r4 : Nat} {x5 : Int} {v6 : AV} {v7 : AV} {v8 : AV} {y0 : Int} : a_X 350 661 [a_r (r0), a_r (r1), a_r (r2), a_r (r3), a_r (r4), a_i (x5), v6, v7, v8] [a_i (y0)] (k, u, g, t) = if ((k r0).1 = 20 ∨ (k r0).1 = 24) ∧ 0 ≤ (wr (x5 + 1) : Int) ∧ (wr (x5 + 1) : Int) < ((k r0).2 : Int) then if ((k r0).1 = 20 ∨ (k r0).1 = 24) ∧ 0 ≤ (wr (x5 + 2) : Int) ∧ (wr (x5 + 2) : Int) < ((k r0).2 : Int) then if (k r2).1 = 11 then (a_m 220 [a_r (r2), a_i (u r0 (wr (x5 + 1) : Int).toNat), a_i (u r0 (wr (x5 + 2) : Int).toNat)] (k, u, g, t)).bind (a_back 350 676 3 [a_r (r0), a_r (r1), a_r (r2), a_r (r3), a_r (r4), a_i (x5), a_i (y0), v7, v8] []) else none else none else none := by
  refine (X_istore (m := 350) (pc := 661) (n := 6) (by decide +kernel) rfl (Nat.le_of_ble_eq_true rfl) rfl).trans ?_
  refine (X_aload_n (m := 350) (pc := 663) (n := 2) (by decide +kernel) rfl).trans ?_
  refine (X_aload_n (m := 350) (pc := 664) (n := 0) (by decide +kernel) rfl).trans ?_
  refine (X_iload (m := 350) (pc := 665) (n := 5) (by decide +kernel) rfl).trans ?_
  refine (X_iconst (m := 350) (pc := 667) (n := 1) (by decide +kernel) ).trans ?_
  refine (X_iadd (m := 350) (pc := 668)  (by decide +kernel) ).trans ?_
  refine (X_iaload (m := 350) (pc := 669)  (by decide +kernel) ).trans ?_
  refine ite_congr rfl (fun _ => ?_) (fun _ => rfl)
  refine (X_aload_n (m := 350) (pc := 670) (n := 0) (by decide +kernel) rfl).trans ?_
  refine (X_iload (m := 350) (pc := 671) (n := 5) (by decide +kernel) rfl).trans ?_
  refine (X_iconst (m := 350) (pc := 673) (n := 2) (by decide +kernel) ).trans ?_
  refine (X_iadd (m := 350) (pc := 674)  (by decide +kernel) ).trans ?_
  refine (X_iaload (m := 350) (pc := 675)  (by decide +kernel) ).trans ?_
  refine ite_congr rfl (fun _ => ?_) (fun _ => rfl)
  refine (X_call_vi (m := 350) (pc := 676) (q := 211) (y := 220) (n := 3) (as := [a_r (r2), a_i (u r0 (wr (x5 + 1) : Int).toNat), a_i (u r0 (wr (x5 + 2) : Int).toNat)]) (rest := []) (by decide +kernel) (by decide +kernel) (by decide +kernel) (by decide +kernel) rfl rfl (Nat.le_of_ble_eq_true rfl) (Nat.le_of_ble_eq_true rfl) rfl (by rw [show m_maxL 220 = 3 from by decide +kernel]; exact Nat.le_of_ble_eq_true rfl)).trans ?_
  exact ite_congr (by simp [a_rcv, show m_recv 220 = 11 from by decide +kernel]) (fun _ => rfl) (fun _ => rfl)
theorem B_L_law_729 {k : Nat → Nat × Nat} {u : Nat → Nat → Int} {g : Nat → Nat → Nat} {t : Nat × Nat × Nat} {r0 : Nat} {r1 : Nat} {r2 : Nat} {r3 : Nat} {r4 : Nat} {x5 : Int} {v6 : AV} {v7 : AV} {v8 : AV} {y0 : Int} : a_X 350 729 [a_r (r0), a_r (r1), a_r (r2), a_r (r3), a_r (r4), a_i (x5), v6, v7, v8] [a_i (y0)] (k, u, g, t) = if ((k r0).1 = 20 ∨ (k r0).1 = 24) ∧ 0 ≤ (wr (x5 + 1) : Int) ∧ (wr (x5 + 1) : Int) < ((k r0).2 : Int) then if ((k r0).1 = 20 ∨ (k r0).1 = 24) ∧ 0 ≤ (wr (x5 + 2) : Int) ∧ (wr (x5 + 2) : Int) < ((k r0).2 : Int) then if (k r2).1 = 11 then (a_m 223 [a_r (r2), a_i (u r0 (wr (x5 + 1) : Int).toNat), a_i (u r0 (wr (x5 + 2) : Int).toNat)] (k, u, g, t)).bind (a_back 350 744 3 [a_r (r0), a_r (r1), a_r (r2), a_r (r3), a_r (r4), a_i (x5), a_i (y0), v7, v8] []) else none else none else none := by
  refine (X_istore (m := 350) (pc := 729) (n := 6) (by decide +kernel) rfl (Nat.le_of_ble_eq_true rfl) rfl).trans ?_
  refine (X_aload_n (m := 350) (pc := 731) (n := 2) (by decide +kernel) rfl).trans ?_
  refine (X_aload_n (m := 350) (pc := 732) (n := 0) (by decide +kernel) rfl).trans ?_
  refine (X_iload (m := 350) (pc := 733) (n := 5) (by decide +kernel) rfl).trans ?_
  refine (X_iconst (m := 350) (pc := 735) (n := 1) (by decide +kernel) ).trans ?_
  refine (X_iadd (m := 350) (pc := 736)  (by decide +kernel) ).trans ?_
  refine (X_iaload (m := 350) (pc := 737)  (by decide +kernel) ).trans ?_
  refine ite_congr rfl (fun _ => ?_) (fun _ => rfl)
  refine (X_aload_n (m := 350) (pc := 738) (n := 0) (by decide +kernel) rfl).trans ?_
  refine (X_iload (m := 350) (pc := 739) (n := 5) (by decide +kernel) rfl).trans ?_
  refine (X_iconst (m := 350) (pc := 741) (n := 2) (by decide +kernel) ).trans ?_
  refine (X_iadd (m := 350) (pc := 742)  (by decide +kernel) ).trans ?_
  refine (X_iaload (m := 350) (pc := 743)  (by decide +kernel) ).trans ?_
  refine ite_congr rfl (fun _ => ?_) (fun _ => rfl)
  refine (X_call_vi (m := 350) (pc := 744) (q := 214) (y := 223) (n := 3) (as := [a_r (r2), a_i (u r0 (wr (x5 + 1) : Int).toNat), a_i (u r0 (wr (x5 + 2) : Int).toNat)]) (rest := []) (by decide +kernel) (by decide +kernel) (by decide +kernel) (by decide +kernel) rfl rfl (Nat.le_of_ble_eq_true rfl) (Nat.le_of_ble_eq_true rfl) rfl (by rw [show m_maxL 223 = 6 from by decide +kernel]; exact Nat.le_of_ble_eq_true rfl)).trans ?_
  exact ite_congr (by simp [a_rcv, show m_recv 223 = 11 from by decide +kernel]) (fun _ => rfl) (fun _ => rfl)
theorem B_L_law_803 {k : Nat → Nat × Nat} {u : Nat → Nat → Int} {g : Nat → Nat → Nat} {t : Nat × Nat × Nat} {r0 : Nat} {r1 : Nat} {r2 : Nat} {r3 : Nat} {r4 : Nat} {x5 : Int} {v6 : AV} {v7 : AV} {v8 : AV} {y0 : Int} : a_X 350 803 [a_r (r0), a_r (r1), a_r (r2), a_r (r3), a_r (r4), a_i (x5), v6, v7, v8] [a_i (y0)] (k, u, g, t) = if ((k r0).1 = 20 ∨ (k r0).1 = 24) ∧ 0 ≤ (wr (x5 + 1) : Int) ∧ (wr (x5 + 1) : Int) < ((k r0).2 : Int) then if ((k r0).1 = 20 ∨ (k r0).1 = 24) ∧ 0 ≤ (wr (x5 + 2) : Int) ∧ (wr (x5 + 2) : Int) < ((k r0).2 : Int) then if ((k r0).1 = 20 ∨ (k r0).1 = 24) ∧ 0 ≤ (wr (x5 + 3) : Int) ∧ (wr (x5 + 3) : Int) < ((k r0).2 : Int) then if (k r2).1 = 11 then (a_m 225 [a_r (r2), a_i (u r0 (wr (x5 + 1) : Int).toNat), a_i (u r0 (wr (x5 + 2) : Int).toNat), a_i (u r0 (wr (x5 + 3) : Int).toNat)] (k, u, g, t)).bind (a_back 350 824 3 [a_r (r0), a_r (r1), a_r (r2), a_r (r3), a_r (r4), a_i (x5), a_i (y0), v7, v8] []) else none else none else none else none := by
  refine (X_istore (m := 350) (pc := 803) (n := 6) (by decide +kernel) rfl (Nat.le_of_ble_eq_true rfl) rfl).trans ?_
  refine (X_aload_n (m := 350) (pc := 805) (n := 2) (by decide +kernel) rfl).trans ?_
  refine (X_aload_n (m := 350) (pc := 806) (n := 0) (by decide +kernel) rfl).trans ?_
  refine (X_iload (m := 350) (pc := 807) (n := 5) (by decide +kernel) rfl).trans ?_
  refine (X_iconst (m := 350) (pc := 809) (n := 1) (by decide +kernel) ).trans ?_
  refine (X_iadd (m := 350) (pc := 810)  (by decide +kernel) ).trans ?_
  refine (X_iaload (m := 350) (pc := 811)  (by decide +kernel) ).trans ?_
  refine ite_congr rfl (fun _ => ?_) (fun _ => rfl)
  refine (X_aload_n (m := 350) (pc := 812) (n := 0) (by decide +kernel) rfl).trans ?_
  refine (X_iload (m := 350) (pc := 813) (n := 5) (by decide +kernel) rfl).trans ?_
  refine (X_iconst (m := 350) (pc := 815) (n := 2) (by decide +kernel) ).trans ?_
  refine (X_iadd (m := 350) (pc := 816)  (by decide +kernel) ).trans ?_
  refine (X_iaload (m := 350) (pc := 817)  (by decide +kernel) ).trans ?_
  refine ite_congr rfl (fun _ => ?_) (fun _ => rfl)
  refine (X_aload_n (m := 350) (pc := 818) (n := 0) (by decide +kernel) rfl).trans ?_
  refine (X_iload (m := 350) (pc := 819) (n := 5) (by decide +kernel) rfl).trans ?_
  refine (X_iconst (m := 350) (pc := 821) (n := 3) (by decide +kernel) ).trans ?_
  refine (X_iadd (m := 350) (pc := 822)  (by decide +kernel) ).trans ?_
  refine (X_iaload (m := 350) (pc := 823)  (by decide +kernel) ).trans ?_
  refine ite_congr rfl (fun _ => ?_) (fun _ => rfl)
  refine (X_call_vi (m := 350) (pc := 824) (q := 217) (y := 225) (n := 4) (as := [a_r (r2), a_i (u r0 (wr (x5 + 1) : Int).toNat), a_i (u r0 (wr (x5 + 2) : Int).toNat), a_i (u r0 (wr (x5 + 3) : Int).toNat)]) (rest := []) (by decide +kernel) (by decide +kernel) (by decide +kernel) (by decide +kernel) rfl rfl (Nat.le_of_ble_eq_true rfl) (Nat.le_of_ble_eq_true rfl) rfl (by rw [show m_maxL 225 = 4 from by decide +kernel]; exact Nat.le_of_ble_eq_true rfl)).trans ?_
  exact ite_congr (by simp [a_rcv, show m_recv 225 = 11 from by decide +kernel]) (fun _ => rfl) (fun _ => rfl)
theorem B_L_law_883 {k : Nat → Nat × Nat} {u : Nat → Nat → Int} {g : Nat → Nat → Nat} {t : Nat × Nat × Nat} {r0 : Nat} {r1 : Nat} {r2 : Nat} {r3 : Nat} {r4 : Nat} {x5 : Int} {v6 : AV} {v7 : AV} {v8 : AV} {y0 : Int} : a_X 350 883 [a_r (r0), a_r (r1), a_r (r2), a_r (r3), a_r (r4), a_i (x5), v6, v7, v8] [a_i (y0)] (k, u, g, t) = if ((k r0).1 = 20 ∨ (k r0).1 = 24) ∧ 0 ≤ (wr (x5 + 1) : Int) ∧ (wr (x5 + 1) : Int) < ((k r0).2 : Int) then if ((k r0).1 = 20 ∨ (k r0).1 = 24) ∧ 0 ≤ (wr (x5 + 2) : Int) ∧ (wr (x5 + 2) : Int) < ((k r0).2 : Int) then if ((k r0).1 = 20 ∨ (k r0).1 = 24) ∧ 0 ≤ (wr (x5 + 3) : Int) ∧ (wr (x5 + 3) : Int) < ((k r0).2 : Int) then if (k r2).1 = 11 then (a_m 226 [a_r (r2), a_i (u r0 (wr (x5 + 1) : Int).toNat), a_i (u r0 (wr (x5 + 2) : Int).toNat), a_i (u r0 (wr (x5 + 3) : Int).toNat)] (k, u, g, t)).bind (a_back 350 904 3 [a_r (r0), a_r (r1), a_r (r2), a_r (r3), a_r (r4), a_i (x5), a_i (y0), v7, v8] []) else none else none else none else none := by
  refine (X_istore (m := 350) (pc := 883) (n := 6) (by decide +kernel) rfl (Nat.le_of_ble_eq_true rfl) rfl).trans ?_
  refine (X_aload_n (m := 350) (pc := 885) (n := 2) (by decide +kernel) rfl).trans ?_
  refine (X_aload_n (m := 350) (pc := 886) (n := 0) (by decide +kernel) rfl).trans ?_
  refine (X_iload (m := 350) (pc := 887) (n := 5) (by decide +kernel) rfl).trans ?_
  refine (X_iconst (m := 350) (pc := 889) (n := 1) (by decide +kernel) ).trans ?_
  refine (X_iadd (m := 350) (pc := 890)  (by decide +kernel) ).trans ?_
  refine (X_iaload (m := 350) (pc := 891)  (by decide +kernel) ).trans ?_
  refine ite_congr rfl (fun _ => ?_) (fun _ => rfl)
  refine (X_aload_n (m := 350) (pc := 892) (n := 0) (by decide +kernel) rfl).trans ?_
  refine (X_iload (m := 350) (pc := 893) (n := 5) (by decide +kernel) rfl).trans ?_
  refine (X_iconst (m := 350) (pc := 895) (n := 2) (by decide +kernel) ).trans ?_
  refine (X_iadd (m := 350) (pc := 896)  (by decide +kernel) ).trans ?_
  refine (X_iaload (m := 350) (pc := 897)  (by decide +kernel) ).trans ?_
  refine ite_congr rfl (fun _ => ?_) (fun _ => rfl)
  refine (X_aload_n (m := 350) (pc := 898) (n := 0) (by decide +kernel) rfl).trans ?_
  refine (X_iload (m := 350) (pc := 899) (n := 5) (by decide +kernel) rfl).trans ?_
  refine (X_iconst (m := 350) (pc := 901) (n := 3) (by decide +kernel) ).trans ?_
  refine (X_iadd (m := 350) (pc := 902)  (by decide +kernel) ).trans ?_
  refine (X_iaload (m := 350) (pc := 903)  (by decide +kernel) ).trans ?_
  refine ite_congr rfl (fun _ => ?_) (fun _ => rfl)
  refine (X_call_vi (m := 350) (pc := 904) (q := 220) (y := 226) (n := 4) (as := [a_r (r2), a_i (u r0 (wr (x5 + 1) : Int).toNat), a_i (u r0 (wr (x5 + 2) : Int).toNat), a_i (u r0 (wr (x5 + 3) : Int).toNat)]) (rest := []) (by decide +kernel) (by decide +kernel) (by decide +kernel) (by decide +kernel) rfl rfl (Nat.le_of_ble_eq_true rfl) (Nat.le_of_ble_eq_true rfl) rfl (by rw [show m_maxL 226 = 5 from by decide +kernel]; exact Nat.le_of_ble_eq_true rfl)).trans ?_
  exact ite_congr (by simp [a_rcv, show m_recv 226 = 11 from by decide +kernel]) (fun _ => rfl) (fun _ => rfl)
theorem B_L_law_951 {k : Nat → Nat × Nat} {u : Nat → Nat → Int} {g : Nat → Nat → Nat} {t : Nat × Nat × Nat} {r0 : Nat} {r1 : Nat} {r2 : Nat} {r3 : Nat} {r4 : Nat} {x5 : Int} {v6 : AV} {v7 : AV} {v8 : AV} {y0 : Int} : a_X 350 951 [a_r (r0), a_r (r1), a_r (r2), a_r (r3), a_r (r4), a_i (x5), v6, v7, v8] [a_i (y0)] (k, u, g, t) = if ((k r0).1 = 20 ∨ (k r0).1 = 24) ∧ 0 ≤ (wr (x5 + 1) : Int) ∧ (wr (x5 + 1) : Int) < ((k r0).2 : Int) then if (k r2).1 = 11 then (a_m 228 [a_r (r2), a_i (u r0 (wr (x5 + 1) : Int).toNat)] (k, u, g, t)).bind (a_back 350 960 3 [a_r (r0), a_r (r1), a_r (r2), a_r (r3), a_r (r4), a_i (x5), a_i (y0), v7, v8] []) else none else none := by
  refine (X_istore (m := 350) (pc := 951) (n := 6) (by decide +kernel) rfl (Nat.le_of_ble_eq_true rfl) rfl).trans ?_
  refine (X_aload_n (m := 350) (pc := 953) (n := 2) (by decide +kernel) rfl).trans ?_
  refine (X_aload_n (m := 350) (pc := 954) (n := 0) (by decide +kernel) rfl).trans ?_
  refine (X_iload (m := 350) (pc := 955) (n := 5) (by decide +kernel) rfl).trans ?_
  refine (X_iconst (m := 350) (pc := 957) (n := 1) (by decide +kernel) ).trans ?_
  refine (X_iadd (m := 350) (pc := 958)  (by decide +kernel) ).trans ?_
  refine (X_iaload (m := 350) (pc := 959)  (by decide +kernel) ).trans ?_
  refine ite_congr rfl (fun _ => ?_) (fun _ => rfl)
  refine (X_call_vi (m := 350) (pc := 960) (q := 223) (y := 228) (n := 2) (as := [a_r (r2), a_i (u r0 (wr (x5 + 1) : Int).toNat)]) (rest := []) (by decide +kernel) (by decide +kernel) (by decide +kernel) (by decide +kernel) rfl rfl (Nat.le_of_ble_eq_true rfl) (Nat.le_of_ble_eq_true rfl) rfl (by rw [show m_maxL 228 = 5 from by decide +kernel]; exact Nat.le_of_ble_eq_true rfl)).trans ?_
  exact ite_congr (by simp [a_rcv, show m_recv 228 = 11 from by decide +kernel]) (fun _ => rfl) (fun _ => rfl)
theorem B_L_law_1013 {k : Nat → Nat × Nat} {u : Nat → Nat → Int} {g : Nat → Nat → Nat} {t : Nat × Nat × Nat} {r0 : Nat} {r1 : Nat} {r2 : Nat} {r3 : Nat} {r4 : Nat} {x5 : Int} {v6 : AV} {v7 : AV} {v8 : AV} {y0 : Int} : a_X 350 1013 [a_r (r0), a_r (r1), a_r (r2), a_r (r3), a_r (r4), a_i (x5), v6, v7, v8] [a_i (y0)] (k, u, g, t) = if ((k r0).1 = 20 ∨ (k r0).1 = 24) ∧ 0 ≤ (wr (x5 + 1) : Int) ∧ (wr (x5 + 1) : Int) < ((k r0).2 : Int) then if ((k r0).1 = 20 ∨ (k r0).1 = 24) ∧ 0 ≤ (wr (x5 + 2) : Int) ∧ (wr (x5 + 2) : Int) < ((k r0).2 : Int) then if (k r2).1 = 11 then (a_m 234 [a_r (r2), a_i (u r0 (wr (x5 + 1) : Int).toNat), a_i (u r0 (wr (x5 + 2) : Int).toNat)] (k, u, g, t)).bind (a_back 350 1028 3 [a_r (r0), a_r (r1), a_r (r2), a_r (r3), a_r (r4), a_i (x5), a_i (y0), v7, v8] []) else none else none else none := by
  refine (X_istore (m := 350) (pc := 1013) (n := 6) (by decide +kernel) rfl (Nat.le_of_ble_eq_true rfl) rfl).trans ?_
  refine (X_aload_n (m := 350) (pc := 1015) (n := 2) (by decide +kernel) rfl).trans ?_
  refine (X_aload_n (m := 350) (pc := 1016) (n := 0) (by decide +kernel) rfl).trans ?_
  refine (X_iload (m := 350) (pc := 1017) (n := 5) (by decide +kernel) rfl).trans ?_
  refine (X_iconst (m := 350) (pc := 1019) (n := 1) (by decide +kernel) ).trans ?_
  refine (X_iadd (m := 350) (pc := 1020)  (by decide +kernel) ).trans ?_
  refine (X_iaload (m := 350) (pc := 1021)  (by decide +kernel) ).trans ?_
  refine ite_congr rfl (fun _ => ?_) (fun _ => rfl)
  refine (X_aload_n (m := 350) (pc := 1022) (n := 0) (by decide +kernel) rfl).trans ?_
  refine (X_iload (m := 350) (pc := 1023) (n := 5) (by decide +kernel) rfl).trans ?_
  refine (X_iconst (m := 350) (pc := 1025) (n := 2) (by decide +kernel) ).trans ?_
  refine (X_iadd (m := 350) (pc := 1026)  (by decide +kernel) ).trans ?_
  refine (X_iaload (m := 350) (pc := 1027)  (by decide +kernel) ).trans ?_
  refine ite_congr rfl (fun _ => ?_) (fun _ => rfl)
  refine (X_call_vi (m := 350) (pc := 1028) (q := 226) (y := 234) (n := 3) (as := [a_r (r2), a_i (u r0 (wr (x5 + 1) : Int).toNat), a_i (u r0 (wr (x5 + 2) : Int).toNat)]) (rest := []) (by decide +kernel) (by decide +kernel) (by decide +kernel) (by decide +kernel) rfl rfl (Nat.le_of_ble_eq_true rfl) (Nat.le_of_ble_eq_true rfl) rfl (by rw [show m_maxL 234 = 3 from by decide +kernel]; exact Nat.le_of_ble_eq_true rfl)).trans ?_
  exact ite_congr (by simp [a_rcv, show m_recv 234 = 11 from by decide +kernel]) (fun _ => rfl) (fun _ => rfl)
theorem B_L_law_1093 {k : Nat → Nat × Nat} {u : Nat → Nat → Int} {g : Nat → Nat → Nat} {t : Nat × Nat × Nat} {r0 : Nat} {r1 : Nat} {r2 : Nat} {r3 : Nat} {r4 : Nat} {x5 : Int} {v6 : AV} {v7 : AV} {v8 : AV} {y0 : Int} : a_X 350 1093 [a_r (r0), a_r (r1), a_r (r2), a_r (r3), a_r (r4), a_i (x5), v6, v7, v8] [a_i (y0)] (k, u, g, t) = if ((k r0).1 = 20 ∨ (k r0).1 = 24) ∧ 0 ≤ (wr (x5 + 1) : Int) ∧ (wr (x5 + 1) : Int) < ((k r0).2 : Int) then if ((k r0).1 = 20 ∨ (k r0).1 = 24) ∧ 0 ≤ (wr (x5 + 2) : Int) ∧ (wr (x5 + 2) : Int) < ((k r0).2 : Int) then if ((k r0).1 = 20 ∨ (k r0).1 = 24) ∧ 0 ≤ (wr (x5 + 3) : Int) ∧ (wr (x5 + 3) : Int) < ((k r0).2 : Int) then if ((k r0).1 = 20 ∨ (k r0).1 = 24) ∧ 0 ≤ (wr (x5 + 4) : Int) ∧ (wr (x5 + 4) : Int) < ((k r0).2 : Int) then if (k r2).1 = 11 then (a_m 235 [a_r (r2), a_i (u r0 (wr (x5 + 1) : Int).toNat), a_i (u r0 (wr (x5 + 2) : Int).toNat), a_i (u r0 (wr (x5 + 3) : Int).toNat), a_i (u r0 (wr (x5 + 4) : Int).toNat)] (k, u, g, t)).bind (a_back 350 1120 3 [a_r (r0), a_r (r1), a_r (r2), a_r (r3), a_r (r4), a_i (x5), a_i (y0), v7, v8] []) else none else none else none else none else none := by
  refine (X_istore (m := 350) (pc := 1093) (n := 6) (by decide +kernel) rfl (Nat.le_of_ble_eq_true rfl) rfl).trans ?_
  refine (X_aload_n (m := 350) (pc := 1095) (n := 2) (by decide +kernel) rfl).trans ?_
  refine (X_aload_n (m := 350) (pc := 1096) (n := 0) (by decide +kernel) rfl).trans ?_
  refine (X_iload (m := 350) (pc := 1097) (n := 5) (by decide +kernel) rfl).trans ?_
  refine (X_iconst (m := 350) (pc := 1099) (n := 1) (by decide +kernel) ).trans ?_
  refine (X_iadd (m := 350) (pc := 1100)  (by decide +kernel) ).trans ?_
  refine (X_iaload (m := 350) (pc := 1101)  (by decide +kernel) ).trans ?_
  refine ite_congr rfl (fun _ => ?_) (fun _ => rfl)
  refine (X_aload_n (m := 350) (pc := 1102) (n := 0) (by decide +kernel) rfl).trans ?_
  refine (X_iload (m := 350) (pc := 1103) (n := 5) (by decide +kernel) rfl).trans ?_
  refine (X_iconst (m := 350) (pc := 1105) (n := 2) (by decide +kernel) ).trans ?_
  refine (X_iadd (m := 350) (pc := 1106)  (by decide +kernel) ).trans ?_
  refine (X_iaload (m := 350) (pc := 1107)  (by decide +kernel) ).trans ?_
  refine ite_congr rfl (fun _ => ?_) (fun _ => rfl)
  refine (X_aload_n (m := 350) (pc := 1108) (n := 0) (by decide +kernel) rfl).trans ?_
  refine (X_iload (m := 350) (pc := 1109) (n := 5) (by decide +kernel) rfl).trans ?_
  refine (X_iconst (m := 350) (pc := 1111) (n := 3) (by decide +kernel) ).trans ?_
  refine (X_iadd (m := 350) (pc := 1112)  (by decide +kernel) ).trans ?_
  refine (X_iaload (m := 350) (pc := 1113)  (by decide +kernel) ).trans ?_
  refine ite_congr rfl (fun _ => ?_) (fun _ => rfl)
  refine (X_aload_n (m := 350) (pc := 1114) (n := 0) (by decide +kernel) rfl).trans ?_
  refine (X_iload (m := 350) (pc := 1115) (n := 5) (by decide +kernel) rfl).trans ?_
  refine (X_iconst (m := 350) (pc := 1117) (n := 4) (by decide +kernel) ).trans ?_
  refine (X_iadd (m := 350) (pc := 1118)  (by decide +kernel) ).trans ?_
  refine (X_iaload (m := 350) (pc := 1119)  (by decide +kernel) ).trans ?_
  refine ite_congr rfl (fun _ => ?_) (fun _ => rfl)
  refine (X_call_vi (m := 350) (pc := 1120) (q := 230) (y := 235) (n := 5) (as := [a_r (r2), a_i (u r0 (wr (x5 + 1) : Int).toNat), a_i (u r0 (wr (x5 + 2) : Int).toNat), a_i (u r0 (wr (x5 + 3) : Int).toNat), a_i (u r0 (wr (x5 + 4) : Int).toNat)]) (rest := []) (by decide +kernel) (by decide +kernel) (by decide +kernel) (by decide +kernel) rfl rfl (Nat.le_of_ble_eq_true rfl) (Nat.le_of_ble_eq_true rfl) rfl (by rw [show m_maxL 235 = 5 from by decide +kernel]; exact Nat.le_of_ble_eq_true rfl)).trans ?_
  exact ite_congr (by simp [a_rcv, show m_recv 235 = 11 from by decide +kernel]) (fun _ => rfl) (fun _ => rfl)
theorem B_L_law_1173 {k : Nat → Nat × Nat} {u : Nat → Nat → Int} {g : Nat → Nat → Nat} {t : Nat × Nat × Nat} {r0 : Nat} {r1 : Nat} {r2 : Nat} {r3 : Nat} {r4 : Nat} {x5 : Int} {v6 : AV} {v7 : AV} {v8 : AV} {y0 : Int} : a_X 350 1173 [a_r (r0), a_r (r1), a_r (r2), a_r (r3), a_r (r4), a_i (x5), v6, v7, v8] [a_i (y0)] (k, u, g, t) = if ((k r0).1 = 20 ∨ (k r0).1 = 24) ∧ 0 ≤ (wr (x5 + 1) : Int) ∧ (wr (x5 + 1) : Int) < ((k r0).2 : Int) then if ((k r0).1 = 20 ∨ (k r0).1 = 24) ∧ 0 ≤ (wr (x5 + 2) : Int) ∧ (wr (x5 + 2) : Int) < ((k r0).2 : Int) then if (k r2).1 = 11 then (a_m 239 [a_r (r2), a_i (u r0 (wr (x5 + 1) : Int).toNat), a_i (u r0 (wr (x5 + 2) : Int).toNat)] (k, u, g, t)).bind (a_back 350 1188 3 [a_r (r0), a_r (r1), a_r (r2), a_r (r3), a_r (r4), a_i (x5), a_i (y0), v7, v8] []) else none else none else none := by
  refine (X_istore (m := 350) (pc := 1173) (n := 6) (by decide +kernel) rfl (Nat.le_of_ble_eq_true rfl) rfl).trans ?_
  refine (X_aload_n (m := 350) (pc := 1175) (n := 2) (by decide +kernel) rfl).trans ?_
  refine (X_aload_n (m := 350) (pc := 1176) (n := 0) (by decide +kernel) rfl).trans ?_
  refine (X_iload (m := 350) (pc := 1177) (n := 5) (by decide +kernel) rfl).trans ?_
  refine (X_iconst (m := 350) (pc := 1179) (n := 1) (by decide +kernel) ).trans ?_
  refine (X_iadd (m := 350) (pc := 1180)  (by decide +kernel) ).trans ?_
  refine (X_iaload (m := 350) (pc := 1181)  (by decide +kernel) ).trans ?_
  refine ite_congr rfl (fun _ => ?_) (fun _ => rfl)
  refine (X_aload_n (m := 350) (pc := 1182) (n := 0) (by decide +kernel) rfl).trans ?_
  refine (X_iload (m := 350) (pc := 1183) (n := 5) (by decide +kernel) rfl).trans ?_
  refine (X_iconst (m := 350) (pc := 1185) (n := 2) (by decide +kernel) ).trans ?_
  refine (X_iadd (m := 350) (pc := 1186)  (by decide +kernel) ).trans ?_
  refine (X_iaload (m := 350) (pc := 1187)  (by decide +kernel) ).trans ?_
  refine ite_congr rfl (fun _ => ?_) (fun _ => rfl)
  refine (X_call_vi (m := 350) (pc := 1188) (q := 233) (y := 239) (n := 3) (as := [a_r (r2), a_i (u r0 (wr (x5 + 1) : Int).toNat), a_i (u r0 (wr (x5 + 2) : Int).toNat)]) (rest := []) (by decide +kernel) (by decide +kernel) (by decide +kernel) (by decide +kernel) rfl rfl (Nat.le_of_ble_eq_true rfl) (Nat.le_of_ble_eq_true rfl) rfl (by rw [show m_maxL 239 = 3 from by decide +kernel]; exact Nat.le_of_ble_eq_true rfl)).trans ?_
  exact ite_congr (by simp [a_rcv, show m_recv 239 = 11 from by decide +kernel]) (fun _ => rfl) (fun _ => rfl)
theorem B_L_law_1247 {k : Nat → Nat × Nat} {u : Nat → Nat → Int} {g : Nat → Nat → Nat} {t : Nat × Nat × Nat} {r0 : Nat} {r1 : Nat} {r2 : Nat} {r3 : Nat} {r4 : Nat} {x5 : Int} {v6 : AV} {v7 : AV} {v8 : AV} {y0 : Int} : a_X 350 1247 [a_r (r0), a_r (r1), a_r (r2), a_r (r3), a_r (r4), a_i (x5), v6, v7, v8] [a_i (y0)] (k, u, g, t) = if ((k r0).1 = 20 ∨ (k r0).1 = 24) ∧ 0 ≤ (wr (x5 + 1) : Int) ∧ (wr (x5 + 1) : Int) < ((k r0).2 : Int) then if ((k r0).1 = 20 ∨ (k r0).1 = 24) ∧ 0 ≤ (wr (x5 + 2) : Int) ∧ (wr (x5 + 2) : Int) < ((k r0).2 : Int) then if ((k r0).1 = 20 ∨ (k r0).1 = 24) ∧ 0 ≤ (wr (x5 + 3) : Int) ∧ (wr (x5 + 3) : Int) < ((k r0).2 : Int) then if (k r2).1 = 11 then (a_m 240 [a_r (r2), a_i (u r0 (wr (x5 + 1) : Int).toNat), a_i (u r0 (wr (x5 + 2) : Int).toNat), a_i (u r0 (wr (x5 + 3) : Int).toNat)] (k, u, g, t)).bind (a_back 350 1268 3 [a_r (r0), a_r (r1), a_r (r2), a_r (r3), a_r (r4), a_i (x5), a_i (y0), v7, v8] []) else none else none else none else none := by
  refine (X_istore (m := 350) (pc := 1247) (n := 6) (by decide +kernel) rfl (Nat.le_of_ble_eq_true rfl) rfl).trans ?_
  refine (X_aload_n (m := 350) (pc := 1249) (n := 2) (by decide +kernel) rfl).trans ?_
  refine (X_aload_n (m := 350) (pc := 1250) (n := 0) (by decide +kernel) rfl).trans ?_
  refine (X_iload (m := 350) (pc := 1251) (n := 5) (by decide +kernel) rfl).trans ?_
  refine (X_iconst (m := 350) (pc := 1253) (n := 1) (by decide +kernel) ).trans ?_
  refine (X_iadd (m := 350) (pc := 1254)  (by decide +kernel) ).trans ?_
  refine (X_iaload (m := 350) (pc := 1255)  (by decide +kernel) ).trans ?_
  refine ite_congr rfl (fun _ => ?_) (fun _ => rfl)
  refine (X_aload_n (m := 350) (pc := 1256) (n := 0) (by decide +kernel) rfl).trans ?_
  refine (X_iload (m := 350) (pc := 1257) (n := 5) (by decide +kernel) rfl).trans ?_
  refine (X_iconst (m := 350) (pc := 1259) (n := 2) (by decide +kernel) ).trans ?_
  refine (X_iadd (m := 350) (pc := 1260)  (by decide +kernel) ).trans ?_
  refine (X_iaload (m := 350) (pc := 1261)  (by decide +kernel) ).trans ?_
  refine ite_congr rfl (fun _ => ?_) (fun _ => rfl)
  refine (X_aload_n (m := 350) (pc := 1262) (n := 0) (by decide +kernel) rfl).trans ?_
  refine (X_iload (m := 350) (pc := 1263) (n := 5) (by decide +kernel) rfl).trans ?_
  refine (X_iconst (m := 350) (pc := 1265) (n := 3) (by decide +kernel) ).trans ?_
  refine (X_iadd (m := 350) (pc := 1266)  (by decide +kernel) ).trans ?_
  refine (X_iaload (m := 350) (pc := 1267)  (by decide +kernel) ).trans ?_
  refine ite_congr rfl (fun _ => ?_) (fun _ => rfl)
  refine (X_call_vi (m := 350) (pc := 1268) (q := 236) (y := 240) (n := 4) (as := [a_r (r2), a_i (u r0 (wr (x5 + 1) : Int).toNat), a_i (u r0 (wr (x5 + 2) : Int).toNat), a_i (u r0 (wr (x5 + 3) : Int).toNat)]) (rest := []) (by decide +kernel) (by decide +kernel) (by decide +kernel) (by decide +kernel) rfl rfl (Nat.le_of_ble_eq_true rfl) (Nat.le_of_ble_eq_true rfl) rfl (by rw [show m_maxL 240 = 4 from by decide +kernel]; exact Nat.le_of_ble_eq_true rfl)).trans ?_
  exact ite_congr (by simp [a_rcv, show m_recv 240 = 11 from by decide +kernel]) (fun _ => rfl) (fun _ => rfl)
theorem B_L_law_1321 {k : Nat → Nat × Nat} {u : Nat → Nat → Int} {g : Nat → Nat → Nat} {t : Nat × Nat × Nat} {r0 : Nat} {r1 : Nat} {r2 : Nat} {r3 : Nat} {r4 : Nat} {x5 : Int} {v6 : AV} {v7 : AV} {v8 : AV} {y0 : Int} : a_X 350 1321 [a_r (r0), a_r (r1), a_r (r2), a_r (r3), a_r (r4), a_i (x5), v6, v7, v8] [a_i (y0)] (k, u, g, t) = if ((k r0).1 = 20 ∨ (k r0).1 = 24) ∧ 0 ≤ (wr (x5 + 1) : Int) ∧ (wr (x5 + 1) : Int) < ((k r0).2 : Int) then if ((k r0).1 = 20 ∨ (k r0).1 = 24) ∧ 0 ≤ (wr (x5 + 2) : Int) ∧ (wr (x5 + 2) : Int) < ((k r0).2 : Int) then if (k r2).1 = 11 then (a_m 241 [a_r (r2), a_i (u r0 (wr (x5 + 1) : Int).toNat), a_i (u r0 (wr (x5 + 2) : Int).toNat)] (k, u, g, t)).bind (a_back 350 1336 3 [a_r (r0), a_r (r1), a_r (r2), a_r (r3), a_r (r4), a_i (x5), a_i (y0), v7, v8] []) else none else none else none := by
  refine (X_istore (m := 350) (pc := 1321) (n := 6) (by decide +kernel) rfl (Nat.le_of_ble_eq_true rfl) rfl).trans ?_
  refine (X_aload_n (m := 350) (pc := 1323) (n := 2) (by decide +kernel) rfl).trans ?_
  refine (X_aload_n (m := 350) (pc := 1324) (n := 0) (by decide +kernel) rfl).trans ?_
  refine (X_iload (m := 350) (pc := 1325) (n := 5) (by decide +kernel) rfl).trans ?_
  refine (X_iconst (m := 350) (pc := 1327) (n := 1) (by decide +kernel) ).trans ?_
  refine (X_iadd (m := 350) (pc := 1328)  (by decide +kernel) ).trans ?_
  refine (X_iaload (m := 350) (pc := 1329)  (by decide +kernel) ).trans ?_
  refine ite_congr rfl (fun _ => ?_) (fun _ => rfl)
  refine (X_aload_n (m := 350) (pc := 1330) (n := 0) (by decide +kernel) rfl).trans ?_
  refine (X_iload (m := 350) (pc := 1331) (n := 5) (by decide +kernel) rfl).trans ?_
  refine (X_iconst (m := 350) (pc := 1333) (n := 2) (by decide +kernel) ).trans ?_
  refine (X_iadd (m := 350) (pc := 1334)  (by decide +kernel) ).trans ?_
  refine (X_iaload (m := 350) (pc := 1335)  (by decide +kernel) ).trans ?_
  refine ite_congr rfl (fun _ => ?_) (fun _ => rfl)
  refine (X_call_vi (m := 350) (pc := 1336) (q := 239) (y := 241) (n := 3) (as := [a_r (r2), a_i (u r0 (wr (x5 + 1) : Int).toNat), a_i (u r0 (wr (x5 + 2) : Int).toNat)]) (rest := []) (by decide +kernel) (by decide +kernel) (by decide +kernel) (by decide +kernel) rfl rfl (Nat.le_of_ble_eq_true rfl) (Nat.le_of_ble_eq_true rfl) rfl (by rw [show m_maxL 241 = 3 from by decide +kernel]; exact Nat.le_of_ble_eq_true rfl)).trans ?_
  exact ite_congr (by simp [a_rcv, show m_recv 241 = 11 from by decide +kernel]) (fun _ => rfl) (fun _ => rfl)
theorem B_L_law_1396 {k : Nat → Nat × Nat} {u : Nat → Nat → Int} {g : Nat → Nat → Nat} {t : Nat × Nat × Nat} {r0 : Nat} {r1 : Nat} {r2 : Nat} {r3 : Nat} {r4 : Nat} {x5 : Int} {v6 : AV} {v7 : AV} {v8 : AV} {y0 : Int} : a_X 350 1396 [a_r (r0), a_r (r1), a_r (r2), a_r (r3), a_r (r4), a_i (x5), v6, v7, v8] [a_i (y0)] (k, u, g, t) = if ((k r0).1 = 20 ∨ (k r0).1 = 24) ∧ 0 ≤ (wr (x5 + 1) : Int) ∧ (wr (x5 + 1) : Int) < ((k r0).2 : Int) then if ((k r0).1 = 20 ∨ (k r0).1 = 24) ∧ 0 ≤ (wr (x5 + 2) : Int) ∧ (wr (x5 + 2) : Int) < ((k r0).2 : Int) then if (k r2).1 = 11 then (a_m 242 [a_r (r2), a_i (u r0 (wr (x5 + 1) : Int).toNat), a_i (u r0 (wr (x5 + 2) : Int).toNat)] (k, u, g, t)).bind (a_back 350 1411 3 [a_r (r0), a_r (r1), a_r (r2), a_r (r3), a_r (r4), a_i (x5), a_i (y0), v7, v8] []) else none else none else none := by
  refine (X_istore (m := 350) (pc := 1396) (n := 6) (by decide +kernel) rfl (Nat.le_of_ble_eq_true rfl) rfl).trans ?_
  refine (X_aload_n (m := 350) (pc := 1398) (n := 2) (by decide +kernel) rfl).trans ?_
  refine (X_aload_n (m := 350) (pc := 1399) (n := 0) (by decide +kernel) rfl).trans ?_
  refine (X_iload (m := 350) (pc := 1400) (n := 5) (by decide +kernel) rfl).trans ?_
  refine (X_iconst (m := 350) (pc := 1402) (n := 1) (by decide +kernel) ).trans ?_
  refine (X_iadd (m := 350) (pc := 1403)  (by decide +kernel) ).trans ?_
  refine (X_iaload (m := 350) (pc := 1404)  (by decide +kernel) ).trans ?_
  refine ite_congr rfl (fun _ => ?_) (fun _ => rfl)
  refine (X_aload_n (m := 350) (pc := 1405) (n := 0) (by decide +kernel) rfl).trans ?_
  refine (X_iload (m := 350) (pc := 1406) (n := 5) (by decide +kernel) rfl).trans ?_
  refine (X_iconst (m := 350) (pc := 1408) (n := 2) (by decide +kernel) ).trans ?_
  refine (X_iadd (m := 350) (pc := 1409)  (by decide +kernel) ).trans ?_
  refine (X_iaload (m := 350) (pc := 1410)  (by decide +kernel) ).trans ?_
  refine ite_congr rfl (fun _ => ?_) (fun _ => rfl)
  refine (X_call_vi (m := 350) (pc := 1411) (q := 242) (y := 242) (n := 3) (as := [a_r (r2), a_i (u r0 (wr (x5 + 1) : Int).toNat), a_i (u r0 (wr (x5 + 2) : Int).toNat)]) (rest := []) (by decide +kernel) (by decide +kernel) (by decide +kernel) (by decide +kernel) rfl rfl (Nat.le_of_ble_eq_true rfl) (Nat.le_of_ble_eq_true rfl) rfl (by rw [show m_maxL 242 = 5 from by decide +kernel]; exact Nat.le_of_ble_eq_true rfl)).trans ?_
  exact ite_congr (by simp [a_rcv, show m_recv 242 = 11 from by decide +kernel]) (fun _ => rfl) (fun _ => rfl)
theorem B_L_law_1464 {k : Nat → Nat × Nat} {u : Nat → Nat → Int} {g : Nat → Nat → Nat} {t : Nat × Nat × Nat} {r0 : Nat} {r1 : Nat} {r2 : Nat} {r3 : Nat} {r4 : Nat} {x5 : Int} {v6 : AV} {v7 : AV} {v8 : AV} {y0 : Int} : a_X 350 1464 [a_r (r0), a_r (r1), a_r (r2), a_r (r3), a_r (r4), a_i (x5), v6, v7, v8] [a_i (y0)] (k, u, g, t) = if ((k r0).1 = 20 ∨ (k r0).1 = 24) ∧ 0 ≤ (wr (x5 + 1) : Int) ∧ (wr (x5 + 1) : Int) < ((k r0).2 : Int) then if ((k r0).1 = 20 ∨ (k r0).1 = 24) ∧ 0 ≤ (wr (x5 + 2) : Int) ∧ (wr (x5 + 2) : Int) < ((k r0).2 : Int) then if (k r2).1 = 11 then (a_m 243 [a_r (r2), a_i (u r0 (wr (x5 + 1) : Int).toNat), a_i (u r0 (wr (x5 + 2) : Int).toNat)] (k, u, g, t)).bind (a_back 350 1479 3 [a_r (r0), a_r (r1), a_r (r2), a_r (r3), a_r (r4), a_i (x5), a_i (y0), v7, v8] []) else none else none else none := by
  refine (X_istore (m := 350) (pc := 1464) (n := 6) (by decide +kernel) rfl (Nat.le_of_ble_eq_true rfl) rfl).trans ?_
  refine (X_aload_n (m := 350) (pc := 1466) (n := 2) (by decide +kernel) rfl).trans ?_
  refine (X_aload_n (m := 350) (pc := 1467) (n := 0) (by decide +kernel) rfl).trans ?_
  refine (X_iload (m := 350) (pc := 1468) (n := 5) (by decide +kernel) rfl).trans ?_
  refine (X_iconst (m := 350) (pc := 1470) (n := 1) (by decide +kernel) ).trans ?_
  refine (X_iadd (m := 350) (pc := 1471)  (by decide +kernel) ).trans ?_
  refine (X_iaload (m := 350) (pc := 1472)  (by decide +kernel) ).trans ?_
  refine ite_congr rfl (fun _ => ?_) (fun _ => rfl)
  refine (X_aload_n (m := 350) (pc := 1473) (n := 0) (by decide +kernel) rfl).trans ?_
  refine (X_iload (m := 350) (pc := 1474) (n := 5) (by decide +kernel) rfl).trans ?_
  refine (X_iconst (m := 350) (pc := 1476) (n := 2) (by decide +kernel) ).trans ?_
  refine (X_iadd (m := 350) (pc := 1477)  (by decide +kernel) ).trans ?_
  refine (X_iaload (m := 350) (pc := 1478)  (by decide +kernel) ).trans ?_
  refine ite_congr rfl (fun _ => ?_) (fun _ => rfl)
  refine (X_call_vi (m := 350) (pc := 1479) (q := 245) (y := 243) (n := 3) (as := [a_r (r2), a_i (u r0 (wr (x5 + 1) : Int).toNat), a_i (u r0 (wr (x5 + 2) : Int).toNat)]) (rest := []) (by decide +kernel) (by decide +kernel) (by decide +kernel) (by decide +kernel) rfl rfl (Nat.le_of_ble_eq_true rfl) (Nat.le_of_ble_eq_true rfl) rfl (by rw [show m_maxL 243 = 3 from by decide +kernel]; exact Nat.le_of_ble_eq_true rfl)).trans ?_
  exact ite_congr (by simp [a_rcv, show m_recv 243 = 11 from by decide +kernel]) (fun _ => rfl) (fun _ => rfl)
theorem B_L_law_1533 {k : Nat → Nat × Nat} {u : Nat → Nat → Int} {g : Nat → Nat → Nat} {t : Nat × Nat × Nat} {r0 : Nat} {r1 : Nat} {r2 : Nat} {r3 : Nat} {r4 : Nat} {x5 : Int} {v6 : AV} {v7 : AV} {v8 : AV} {y0 : Int} : a_X 350 1533 [a_r (r0), a_r (r1), a_r (r2), a_r (r3), a_r (r4), a_i (x5), v6, v7, v8] [a_i (y0)] (k, u, g, t) = if ((k r0).1 = 20 ∨ (k r0).1 = 24) ∧ 0 ≤ (wr (x5 + 1) : Int) ∧ (wr (x5 + 1) : Int) < ((k r0).2 : Int) then if (k r2).1 = 11 then (a_m 245 [a_r (r2), a_i (u r0 (wr (x5 + 1) : Int).toNat)] (k, u, g, t)).bind (a_back 350 1542 3 [a_r (r0), a_r (r1), a_r (r2), a_r (r3), a_r (r4), a_i (x5), a_i (y0), v7, v8] []) else none else none := by
  refine (X_istore (m := 350) (pc := 1533) (n := 6) (by decide +kernel) rfl (Nat.le_of_ble_eq_true rfl) rfl).trans ?_
  refine (X_aload_n (m := 350) (pc := 1535) (n := 2) (by decide +kernel) rfl).trans ?_
  refine (X_aload_n (m := 350) (pc := 1536) (n := 0) (by decide +kernel) rfl).trans ?_
  refine (X_iload (m := 350) (pc := 1537) (n := 5) (by decide +kernel) rfl).trans ?_
  refine (X_iconst (m := 350) (pc := 1539) (n := 1) (by decide +kernel) ).trans ?_
  refine (X_iadd (m := 350) (pc := 1540)  (by decide +kernel) ).trans ?_
  refine (X_iaload (m := 350) (pc := 1541)  (by decide +kernel) ).trans ?_
  refine ite_congr rfl (fun _ => ?_) (fun _ => rfl)
  refine (X_call_vi (m := 350) (pc := 1542) (q := 248) (y := 245) (n := 2) (as := [a_r (r2), a_i (u r0 (wr (x5 + 1) : Int).toNat)]) (rest := []) (by decide +kernel) (by decide +kernel) (by decide +kernel) (by decide +kernel) rfl rfl (Nat.le_of_ble_eq_true rfl) (Nat.le_of_ble_eq_true rfl) rfl (by rw [show m_maxL 245 = 2 from by decide +kernel]; exact Nat.le_of_ble_eq_true rfl)).trans ?_
  exact ite_congr (by simp [a_rcv, show m_recv 245 = 11 from by decide +kernel]) (fun _ => rfl) (fun _ => rfl)
theorem B_L_law_1583 {k : Nat → Nat × Nat} {u : Nat → Nat → Int} {g : Nat → Nat → Nat} {t : Nat × Nat × Nat} {r0 : Nat} {r1 : Nat} {r2 : Nat} {r3 : Nat} {r4 : Nat} {x5 : Int} {v6 : AV} {v7 : AV} {v8 : AV} {y0 : Int} : a_X 350 1583 [a_r (r0), a_r (r1), a_r (r2), a_r (r3), a_r (r4), a_i (x5), v6, v7, v8] [a_i (y0)] (k, u, g, t) = if (k r2).1 = 11 then (a_m 246 [a_r (r2)] (k, u, g, t)).bind (a_back 350 1586 3 [a_r (r0), a_r (r1), a_r (r2), a_r (r3), a_r (r4), a_i (x5), a_i (y0), v7, v8] []) else none := by
  refine (X_istore (m := 350) (pc := 1583) (n := 6) (by decide +kernel) rfl (Nat.le_of_ble_eq_true rfl) rfl).trans ?_
  refine (X_aload_n (m := 350) (pc := 1585) (n := 2) (by decide +kernel) rfl).trans ?_
  refine (X_call_vi (m := 350) (pc := 1586) (q := 252) (y := 246) (n := 1) (as := [a_r (r2)]) (rest := []) (by decide +kernel) (by decide +kernel) (by decide +kernel) (by decide +kernel) rfl rfl (Nat.le_of_ble_eq_true rfl) (Nat.le_of_ble_eq_true rfl) rfl (by rw [show m_maxL 246 = 5 from by decide +kernel]; exact Nat.le_of_ble_eq_true rfl)).trans ?_
  exact ite_congr (by simp [a_rcv, show m_recv 246 = 11 from by decide +kernel]) (fun _ => rfl) (fun _ => rfl)
theorem B_L_law_1633 {k : Nat → Nat × Nat} {u : Nat → Nat → Int} {g : Nat → Nat → Nat} {t : Nat × Nat × Nat} {r0 : Nat} {r1 : Nat} {r2 : Nat} {r3 : Nat} {r4 : Nat} {x5 : Int} {v6 : AV} {v7 : AV} {v8 : AV} {y0 : Int} : a_X 350 1633 [a_r (r0), a_r (r1), a_r (r2), a_r (r3), a_r (r4), a_i (x5), v6, v7, v8] [a_i (y0)] (k, u, g, t) = if ((k r0).1 = 20 ∨ (k r0).1 = 24) ∧ 0 ≤ (wr (x5 + 1) : Int) ∧ (wr (x5 + 1) : Int) < ((k r0).2 : Int) then if (k r2).1 = 11 then (a_m 248 [a_r (r2), a_i (u r0 (wr (x5 + 1) : Int).toNat)] (k, u, g, t)).bind (a_back 350 1642 3 [a_r (r0), a_r (r1), a_r (r2), a_r (r3), a_r (r4), a_i (x5), a_i (y0), v7, v8] []) else none else none := by
  refine (X_istore (m := 350) (pc := 1633) (n := 6) (by decide +kernel) rfl (Nat.le_of_ble_eq_true rfl) rfl).trans ?_
  refine (X_aload_n (m := 350) (pc := 1635) (n := 2) (by decide +kernel) rfl).trans ?_
  refine (X_aload_n (m := 350) (pc := 1636) (n := 0) (by decide +kernel) rfl).trans ?_
  refine (X_iload (m := 350) (pc := 1637) (n := 5) (by decide +kernel) rfl).trans ?_
  refine (X_iconst (m := 350) (pc := 1639) (n := 1) (by decide +kernel) ).trans ?_
  refine (X_iadd (m := 350) (pc := 1640)  (by decide +kernel) ).trans ?_
  refine (X_iaload (m := 350) (pc := 1641)  (by decide +kernel) ).trans ?_
  refine ite_congr rfl (fun _ => ?_) (fun _ => rfl)
  refine (X_call_vi (m := 350) (pc := 1642) (q := 255) (y := 248) (n := 2) (as := [a_r (r2), a_i (u r0 (wr (x5 + 1) : Int).toNat)]) (rest := []) (by decide +kernel) (by decide +kernel) (by decide +kernel) (by decide +kernel) rfl rfl (Nat.le_of_ble_eq_true rfl) (Nat.le_of_ble_eq_true rfl) rfl (by rw [show m_maxL 248 = 2 from by decide +kernel]; exact Nat.le_of_ble_eq_true rfl)).trans ?_
  exact ite_congr (by simp [a_rcv, show m_recv 248 = 11 from by decide +kernel]) (fun _ => rfl) (fun _ => rfl)
theorem B_L_law_1689 {k : Nat → Nat × Nat} {u : Nat → Nat → Int} {g : Nat → Nat → Nat} {t : Nat × Nat × Nat} {r0 : Nat} {r1 : Nat} {r2 : Nat} {r3 : Nat} {r4 : Nat} {x5 : Int} {v6 : AV} {v7 : AV} {v8 : AV} {y0 : Int} : a_X 350 1689 [a_r (r0), a_r (r1), a_r (r2), a_r (r3), a_r (r4), a_i (x5), v6, v7, v8] [a_i (y0)] (k, u, g, t) = if ((k r0).1 = 20 ∨ (k r0).1 = 24) ∧ 0 ≤ (wr (x5 + 1) : Int) ∧ (wr (x5 + 1) : Int) < ((k r0).2 : Int) then if (k r2).1 = 11 then (a_m 250 [a_r (r2), a_i (u r0 (wr (x5 + 1) : Int).toNat)] (k, u, g, t)).bind (a_back 350 1698 3 [a_r (r0), a_r (r1), a_r (r2), a_r (r3), a_r (r4), a_i (x5), a_i (y0), v7, v8] []) else none else none := by
  refine (X_istore (m := 350) (pc := 1689) (n := 6) (by decide +kernel) rfl (Nat.le_of_ble_eq_true rfl) rfl).trans ?_
  refine (X_aload_n (m := 350) (pc := 1691) (n := 2) (by decide +kernel) rfl).trans ?_
  refine (X_aload_n (m := 350) (pc := 1692) (n := 0) (by decide +kernel) rfl).trans ?_
  refine (X_iload (m := 350) (pc := 1693) (n := 5) (by decide +kernel) rfl).trans ?_
  refine (X_iconst (m := 350) (pc := 1695) (n := 1) (by decide +kernel) ).trans ?_
  refine (X_iadd (m := 350) (pc := 1696)  (by decide +kernel) ).trans ?_
  refine (X_iaload (m := 350) (pc := 1697)  (by decide +kernel) ).trans ?_
  refine ite_congr rfl (fun _ => ?_) (fun _ => rfl)
  refine (X_call_vi (m := 350) (pc := 1698) (q := 258) (y := 250) (n := 2) (as := [a_r (r2), a_i (u r0 (wr (x5 + 1) : Int).toNat)]) (rest := []) (by decide +kernel) (by decide +kernel) (by decide +kernel) (by decide +kernel) rfl rfl (Nat.le_of_ble_eq_true rfl) (Nat.le_of_ble_eq_true rfl) rfl (by rw [show m_maxL 250 = 5 from by decide +kernel]; exact Nat.le_of_ble_eq_true rfl)).trans ?_
  exact ite_congr (by simp [a_rcv, show m_recv 250 = 11 from by decide +kernel]) (fun _ => rfl) (fun _ => rfl)
theorem B_L_law_1745 {k : Nat → Nat × Nat} {u : Nat → Nat → Int} {g : Nat → Nat → Nat} {t : Nat × Nat × Nat} {r0 : Nat} {r1 : Nat} {r2 : Nat} {r3 : Nat} {r4 : Nat} {x5 : Int} {v6 : AV} {v7 : AV} {v8 : AV} {y0 : Int} : a_X 350 1745 [a_r (r0), a_r (r1), a_r (r2), a_r (r3), a_r (r4), a_i (x5), v6, v7, v8] [a_i (y0)] (k, u, g, t) = if ((k r0).1 = 20 ∨ (k r0).1 = 24) ∧ 0 ≤ (wr (x5 + 1) : Int) ∧ (wr (x5 + 1) : Int) < ((k r0).2 : Int) then if (k r2).1 = 11 then (a_m 254 [a_r (r2), a_i (u r0 (wr (x5 + 1) : Int).toNat)] (k, u, g, t)).bind (a_back 350 1754 3 [a_r (r0), a_r (r1), a_r (r2), a_r (r3), a_r (r4), a_i (x5), a_i (y0), v7, v8] []) else none else none := by
  refine (X_istore (m := 350) (pc := 1745) (n := 6) (by decide +kernel) rfl (Nat.le_of_ble_eq_true rfl) rfl).trans ?_
  refine (X_aload_n (m := 350) (pc := 1747) (n := 2) (by decide +kernel) rfl).trans ?_
  refine (X_aload_n (m := 350) (pc := 1748) (n := 0) (by decide +kernel) rfl).trans ?_
  refine (X_iload (m := 350) (pc := 1749) (n := 5) (by decide +kernel) rfl).trans ?_
  refine (X_iconst (m := 350) (pc := 1751) (n := 1) (by decide +kernel) ).trans ?_
  refine (X_iadd (m := 350) (pc := 1752)  (by decide +kernel) ).trans ?_
  refine (X_iaload (m := 350) (pc := 1753)  (by decide +kernel) ).trans ?_
  refine ite_congr rfl (fun _ => ?_) (fun _ => rfl)
  refine (X_call_vi (m := 350) (pc := 1754) (q := 261) (y := 254) (n := 2) (as := [a_r (r2), a_i (u r0 (wr (x5 + 1) : Int).toNat)]) (rest := []) (by decide +kernel) (by decide +kernel) (by decide +kernel) (by decide +kernel) rfl rfl (Nat.le_of_ble_eq_true rfl) (Nat.le_of_ble_eq_true rfl) rfl (by rw [show m_maxL 254 = 2 from by decide +kernel]; exact Nat.le_of_ble_eq_true rfl)).trans ?_
  exact ite_congr (by simp [a_rcv, show m_recv 254 = 11 from by decide +kernel]) (fun _ => rfl) (fun _ => rfl)
theorem B_L_law_1795 {k : Nat → Nat × Nat} {u : Nat → Nat → Int} {g : Nat → Nat → Nat} {t : Nat × Nat × Nat} {r0 : Nat} {r1 : Nat} {r2 : Nat} {r3 : Nat} {r4 : Nat} {x5 : Int} {v6 : AV} {v7 : AV} {v8 : AV} {y0 : Int} : a_X 350 1795 [a_r (r0), a_r (r1), a_r (r2), a_r (r3), a_r (r4), a_i (x5), v6, v7, v8] [a_i (y0)] (k, u, g, t) = if (k r2).1 = 11 then (a_m 256 [a_r (r2)] (k, u, g, t)).bind (a_back 350 1798 3 [a_r (r0), a_r (r1), a_r (r2), a_r (r3), a_r (r4), a_i (x5), a_i (y0), v7, v8] []) else none := by
  refine (X_istore (m := 350) (pc := 1795) (n := 6) (by decide +kernel) rfl (Nat.le_of_ble_eq_true rfl) rfl).trans ?_
  refine (X_aload_n (m := 350) (pc := 1797) (n := 2) (by decide +kernel) rfl).trans ?_
  refine (X_call_vi (m := 350) (pc := 1798) (q := 264) (y := 256) (n := 1) (as := [a_r (r2)]) (rest := []) (by decide +kernel) (by decide +kernel) (by decide +kernel) (by decide +kernel) rfl rfl (Nat.le_of_ble_eq_true rfl) (Nat.le_of_ble_eq_true rfl) rfl (by rw [show m_maxL 256 = 1 from by decide +kernel]; exact Nat.le_of_ble_eq_true rfl)).trans ?_
  exact ite_congr (by simp [a_rcv, show m_recv 256 = 11 from by decide +kernel]) (fun _ => rfl) (fun _ => rfl)
theorem B_L_law_1851 {k : Nat → Nat × Nat} {u : Nat → Nat → Int} {g : Nat → Nat → Nat} {t : Nat × Nat × Nat} {r0 : Nat} {r1 : Nat} {r2 : Nat} {r3 : Nat} {r4 : Nat} {x5 : Int} {v6 : AV} {v7 : AV} {v8 : AV} {y0 : Int} : a_X 350 1851 [a_r (r0), a_r (r1), a_r (r2), a_r (r3), a_r (r4), a_i (x5), v6, v7, v8] [a_i (y0)] (k, u, g, t) = if ((k r0).1 = 20 ∨ (k r0).1 = 24) ∧ 0 ≤ (wr (x5 + 1) : Int) ∧ (wr (x5 + 1) : Int) < ((k r0).2 : Int) then if ((k r0).1 = 20 ∨ (k r0).1 = 24) ∧ 0 ≤ (wr (x5 + 2) : Int) ∧ (wr (x5 + 2) : Int) < ((k r0).2 : Int) then if (k r2).1 = 11 then (a_m 258 [a_r (r2), a_i (u r0 (wr (x5 + 1) : Int).toNat), a_i (u r0 (wr (x5 + 2) : Int).toNat)] (k, u, g, t)).bind (a_back 350 1866 3 [a_r (r0), a_r (r1), a_r (r2), a_r (r3), a_r (r4), a_i (x5), a_i (y0), v7, v8] []) else none else none else none := by
  refine (X_istore (m := 350) (pc := 1851) (n := 6) (by decide +kernel) rfl (Nat.le_of_ble_eq_true rfl) rfl).trans ?_
  refine (X_aload_n (m := 350) (pc := 1853) (n := 2) (by decide +kernel) rfl).trans ?_
  refine (X_aload_n (m := 350) (pc := 1854) (n := 0) (by decide +kernel) rfl).trans ?_
  refine (X_iload (m := 350) (pc := 1855) (n := 5) (by decide +kernel) rfl).trans ?_
  refine (X_iconst (m := 350) (pc := 1857) (n := 1) (by decide +kernel) ).trans ?_
  refine (X_iadd (m := 350) (pc := 1858)  (by decide +kernel) ).trans ?_
  refine (X_iaload (m := 350) (pc := 1859)  (by decide +kernel) ).trans ?_
  refine ite_congr rfl (fun _ => ?_) (fun _ => rfl)
  refine (X_aload_n (m := 350) (pc := 1860) (n := 0) (by decide +kernel) rfl).trans ?_
  refine (X_iload (m := 350) (pc := 1861) (n := 5) (by decide +kernel) rfl).trans ?_
  refine (X_iconst (m := 350) (pc := 1863) (n := 2) (by decide +kernel) ).trans ?_
  refine (X_iadd (m := 350) (pc := 1864)  (by decide +kernel) ).trans ?_
  refine (X_iaload (m := 350) (pc := 1865)  (by decide +kernel) ).trans ?_
  refine ite_congr rfl (fun _ => ?_) (fun _ => rfl)
  refine (X_call_vi (m := 350) (pc := 1866) (q := 267) (y := 258) (n := 3) (as := [a_r (r2), a_i (u r0 (wr (x5 + 1) : Int).toNat), a_i (u r0 (wr (x5 + 2) : Int).toNat)]) (rest := []) (by decide +kernel) (by decide +kernel) (by decide +kernel) (by decide +kernel) rfl rfl (Nat.le_of_ble_eq_true rfl) (Nat.le_of_ble_eq_true rfl) rfl (by rw [show m_maxL 258 = 3 from by decide +kernel]; exact Nat.le_of_ble_eq_true rfl)).trans ?_
  exact ite_congr (by simp [a_rcv, show m_recv 258 = 11 from by decide +kernel]) (fun _ => rfl) (fun _ => rfl)
theorem B_L_law_1919 {k : Nat → Nat × Nat} {u : Nat → Nat → Int} {g : Nat → Nat → Nat} {t : Nat × Nat × Nat} {r0 : Nat} {r1 : Nat} {r2 : Nat} {r3 : Nat} {r4 : Nat} {x5 : Int} {v6 : AV} {v7 : AV} {v8 : AV} {y0 : Int} : a_X 350 1919 [a_r (r0), a_r (r1), a_r (r2), a_r (r3), a_r (r4), a_i (x5), v6, v7, v8] [a_i (y0)] (k, u, g, t) = if ((k r0).1 = 20 ∨ (k r0).1 = 24) ∧ 0 ≤ (wr (x5 + 1) : Int) ∧ (wr (x5 + 1) : Int) < ((k r0).2 : Int) then if ((k r0).1 = 20 ∨ (k r0).1 = 24) ∧ 0 ≤ (wr (x5 + 2) : Int) ∧ (wr (x5 + 2) : Int) < ((k r0).2 : Int) then if (k r2).1 = 11 then (a_m 260 [a_r (r2), a_i (u r0 (wr (x5 + 1) : Int).toNat), a_i (u r0 (wr (x5 + 2) : Int).toNat)] (k, u, g, t)).bind (a_back 350 1934 3 [a_r (r0), a_r (r1), a_r (r2), a_r (r3), a_r (r4), a_i (x5), a_i (y0), v7, v8] []) else none else none else none := by
  refine (X_istore (m := 350) (pc := 1919) (n := 6) (by decide +kernel) rfl (Nat.le_of_ble_eq_true rfl) rfl).trans ?_
  refine (X_aload_n (m := 350) (pc := 1921) (n := 2) (by decide +kernel) rfl).trans ?_
  refine (X_aload_n (m := 350) (pc := 1922) (n := 0) (by decide +kernel) rfl).trans ?_
  refine (X_iload (m := 350) (pc := 1923) (n := 5) (by decide +kernel) rfl).trans ?_
  refine (X_iconst (m := 350) (pc := 1925) (n := 1) (by decide +kernel) ).trans ?_
  refine (X_iadd (m := 350) (pc := 1926)  (by decide +kernel) ).trans ?_
  refine (X_iaload (m := 350) (pc := 1927)  (by decide +kernel) ).trans ?_
  refine ite_congr rfl (fun _ => ?_) (fun _ => rfl)
  refine (X_aload_n (m := 350) (pc := 1928) (n := 0) (by decide +kernel) rfl).trans ?_
  refine (X_iload (m := 350) (pc := 1929) (n := 5) (by decide +kernel) rfl).trans ?_
  refine (X_iconst (m := 350) (pc := 1931) (n := 2) (by decide +kernel) ).trans ?_
  refine (X_iadd (m := 350) (pc := 1932)  (by decide +kernel) ).trans ?_
  refine (X_iaload (m := 350) (pc := 1933)  (by decide +kernel) ).trans ?_
  refine ite_congr rfl (fun _ => ?_) (fun _ => rfl)
  refine (X_call_vi (m := 350) (pc := 1934) (q := 270) (y := 260) (n := 3) (as := [a_r (r2), a_i (u r0 (wr (x5 + 1) : Int).toNat), a_i (u r0 (wr (x5 + 2) : Int).toNat)]) (rest := []) (by decide +kernel) (by decide +kernel) (by decide +kernel) (by decide +kernel) rfl rfl (Nat.le_of_ble_eq_true rfl) (Nat.le_of_ble_eq_true rfl) rfl (by rw [show m_maxL 260 = 3 from by decide +kernel]; exact Nat.le_of_ble_eq_true rfl)).trans ?_
  exact ite_congr (by simp [a_rcv, show m_recv 260 = 11 from by decide +kernel]) (fun _ => rfl) (fun _ => rfl)
theorem B_L_law_1987 {k : Nat → Nat × Nat} {u : Nat → Nat → Int} {g : Nat → Nat → Nat} {t : Nat × Nat × Nat} {r0 : Nat} {r1 : Nat} {r2 : Nat} {r3 : Nat} {r4 : Nat} {x5 : Int} {v6 : AV} {v7 : AV} {v8 : AV} {y0 : Int} : a_X 350 1987 [a_r (r0), a_r (r1), a_r (r2), a_r (r3), a_r (r4), a_i (x5), v6, v7, v8] [a_i (y0)] (k, u, g, t) = if ((k r0).1 = 20 ∨ (k r0).1 = 24) ∧ 0 ≤ (wr (x5 + 1) : Int) ∧ (wr (x5 + 1) : Int) < ((k r0).2 : Int) then if ((k r0).1 = 20 ∨ (k r0).1 = 24) ∧ 0 ≤ (wr (x5 + 2) : Int) ∧ (wr (x5 + 2) : Int) < ((k r0).2 : Int) then if (k r2).1 = 11 then (a_m 261 [a_r (r2), a_i (u r0 (wr (x5 + 1) : Int).toNat), a_i (u r0 (wr (x5 + 2) : Int).toNat)] (k, u, g, t)).bind (a_back 350 2002 3 [a_r (r0), a_r (r1), a_r (r2), a_r (r3), a_r (r4), a_i (x5), a_i (y0), v7, v8] []) else none else none else none := by
  refine (X_istore (m := 350) (pc := 1987) (n := 6) (by decide +kernel) rfl (Nat.le_of_ble_eq_true rfl) rfl).trans ?_
  refine (X_aload_n (m := 350) (pc := 1989) (n := 2) (by decide +kernel) rfl).trans ?_
  refine (X_aload_n (m := 350) (pc := 1990) (n := 0) (by decide +kernel) rfl).trans ?_
  refine (X_iload (m := 350) (pc := 1991) (n := 5) (by decide +kernel) rfl).trans ?_
  refine (X_iconst (m := 350) (pc := 1993) (n := 1) (by decide +kernel) ).trans ?_
  refine (X_iadd (m := 350) (pc := 1994)  (by decide +kernel) ).trans ?_
  refine (X_iaload (m := 350) (pc := 1995)  (by decide +kernel) ).trans ?_
  refine ite_congr rfl (fun _ => ?_) (fun _ => rfl)
  refine (X_aload_n (m := 350) (pc := 1996) (n := 0) (by decide +kernel) rfl).trans ?_
  refine (X_iload (m := 350) (pc := 1997) (n := 5) (by decide +kernel) rfl).trans ?_
  refine (X_iconst (m := 350) (pc := 1999) (n := 2) (by decide +kernel) ).trans ?_
  refine (X_iadd (m := 350) (pc := 2000)  (by decide +kernel) ).trans ?_
  refine (X_iaload (m := 350) (pc := 2001)  (by decide +kernel) ).trans ?_
  refine ite_congr rfl (fun _ => ?_) (fun _ => rfl)
  refine (X_call_vi (m := 350) (pc := 2002) (q := 273) (y := 261) (n := 3) (as := [a_r (r2), a_i (u r0 (wr (x5 + 1) : Int).toNat), a_i (u r0 (wr (x5 + 2) : Int).toNat)]) (rest := []) (by decide +kernel) (by decide +kernel) (by decide +kernel) (by decide +kernel) rfl rfl (Nat.le_of_ble_eq_true rfl) (Nat.le_of_ble_eq_true rfl) rfl (by rw [show m_maxL 261 = 3 from by decide +kernel]; exact Nat.le_of_ble_eq_true rfl)).trans ?_
  exact ite_congr (by simp [a_rcv, show m_recv 261 = 11 from by decide +kernel]) (fun _ => rfl) (fun _ => rfl)
theorem B_L_law_2043 {k : Nat → Nat × Nat} {u : Nat → Nat → Int} {g : Nat → Nat → Nat} {t : Nat × Nat × Nat} {r0 : Nat} {r1 : Nat} {r2 : Nat} {r3 : Nat} {r4 : Nat} {x5 : Int} {v6 : AV} {v7 : AV} {v8 : AV} {y0 : Int} : a_X 350 2043 [a_r (r0), a_r (r1), a_r (r2), a_r (r3), a_r (r4), a_i (x5), v6, v7, v8] [a_i (y0)] (k, u, g, t) = if (k r2).1 = 11 then (a_m 263 [a_r (r2)] (k, u, g, t)).bind (a_back 350 2046 3 [a_r (r0), a_r (r1), a_r (r2), a_r (r3), a_r (r4), a_i (x5), a_i (y0), v7, v8] []) else none := by
  refine (X_istore (m := 350) (pc := 2043) (n := 6) (by decide +kernel) rfl (Nat.le_of_ble_eq_true rfl) rfl).trans ?_
  refine (X_aload_n (m := 350) (pc := 2045) (n := 2) (by decide +kernel) rfl).trans ?_
  refine (X_call_vi (m := 350) (pc := 2046) (q := 276) (y := 263) (n := 1) (as := [a_r (r2)]) (rest := []) (by decide +kernel) (by decide +kernel) (by decide +kernel) (by decide +kernel) rfl rfl (Nat.le_of_ble_eq_true rfl) (Nat.le_of_ble_eq_true rfl) rfl (by rw [show m_maxL 263 = 1 from by decide +kernel]; exact Nat.le_of_ble_eq_true rfl)).trans ?_
  exact ite_congr (by simp [a_rcv, show m_recv 263 = 11 from by decide +kernel]) (fun _ => rfl) (fun _ => rfl)
theorem B_L_law_2087 {k : Nat → Nat × Nat} {u : Nat → Nat → Int} {g : Nat → Nat → Nat} {t : Nat × Nat × Nat} {r0 : Nat} {r1 : Nat} {r2 : Nat} {r3 : Nat} {r4 : Nat} {x5 : Int} {v6 : AV} {v7 : AV} {v8 : AV} {y0 : Int} : a_X 350 2087 [a_r (r0), a_r (r1), a_r (r2), a_r (r3), a_r (r4), a_i (x5), v6, v7, v8] [a_i (y0)] (k, u, g, t) = if (k r2).1 = 11 then (a_m 264 [a_r (r2)] (k, u, g, t)).bind (a_back 350 2090 3 [a_r (r0), a_r (r1), a_r (r2), a_r (r3), a_r (r4), a_i (x5), a_i (y0), v7, v8] []) else none := by
  refine (X_istore (m := 350) (pc := 2087) (n := 6) (by decide +kernel) rfl (Nat.le_of_ble_eq_true rfl) rfl).trans ?_
  refine (X_aload_n (m := 350) (pc := 2089) (n := 2) (by decide +kernel) rfl).trans ?_
  refine (X_call_vi (m := 350) (pc := 2090) (q := 279) (y := 264) (n := 1) (as := [a_r (r2)]) (rest := []) (by decide +kernel) (by decide +kernel) (by decide +kernel) (by decide +kernel) rfl rfl (Nat.le_of_ble_eq_true rfl) (Nat.le_of_ble_eq_true rfl) rfl (by rw [show m_maxL 264 = 1 from by decide +kernel]; exact Nat.le_of_ble_eq_true rfl)).trans ?_
  exact ite_congr (by simp [a_rcv, show m_recv 264 = 11 from by decide +kernel]) (fun _ => rfl) (fun _ => rfl)
theorem B_L_law_2137 {k : Nat → Nat × Nat} {u : Nat → Nat → Int} {g : Nat → Nat → Nat} {t : Nat × Nat × Nat} {r0 : Nat} {r1 : Nat} {r2 : Nat} {r3 : Nat} {r4 : Nat} {x5 : Int} {v6 : AV} {v7 : AV} {v8 : AV} {y0 : Int} : a_X 350 2137 [a_r (r0), a_r (r1), a_r (r2), a_r (r3), a_r (r4), a_i (x5), v6, v7, v8] [a_i (y0)] (k, u, g, t) = if ((k r0).1 = 20 ∨ (k r0).1 = 24) ∧ 0 ≤ (wr (x5 + 1) : Int) ∧ (wr (x5 + 1) : Int) < ((k r0).2 : Int) then if (k r2).1 = 11 then (a_m 265 [a_r (r2), a_i (u r0 (wr (x5 + 1) : Int).toNat)] (k, u, g, t)).bind (a_back 350 2146 3 [a_r (r0), a_r (r1), a_r (r2), a_r (r3), a_r (r4), a_i (x5), a_i (y0), v7, v8] []) else none else none := by
  refine (X_istore (m := 350) (pc := 2137) (n := 6) (by decide +kernel) rfl (Nat.le_of_ble_eq_true rfl) rfl).trans ?_
  refine (X_aload_n (m := 350) (pc := 2139) (n := 2) (by decide +kernel) rfl).trans ?_
  refine (X_aload_n (m := 350) (pc := 2140) (n := 0) (by decide +kernel) rfl).trans ?_
  refine (X_iload (m := 350) (pc := 2141) (n := 5) (by decide +kernel) rfl).trans ?_
  refine (X_iconst (m := 350) (pc := 2143) (n := 1) (by decide +kernel) ).trans ?_
  refine (X_iadd (m := 350) (pc := 2144)  (by decide +kernel) ).trans ?_
  refine (X_iaload (m := 350) (pc := 2145)  (by decide +kernel) ).trans ?_
  refine ite_congr rfl (fun _ => ?_) (fun _ => rfl)
  refine (X_call_vi (m := 350) (pc := 2146) (q := 282) (y := 265) (n := 2) (as := [a_r (r2), a_i (u r0 (wr (x5 + 1) : Int).toNat)]) (rest := []) (by decide +kernel) (by decide +kernel) (by decide +kernel) (by decide +kernel) rfl rfl (Nat.le_of_ble_eq_true rfl) (Nat.le_of_ble_eq_true rfl) rfl (by rw [show m_maxL 265 = 2 from by decide +kernel]; exact Nat.le_of_ble_eq_true rfl)).trans ?_
  exact ite_congr (by simp [a_rcv, show m_recv 265 = 11 from by decide +kernel]) (fun _ => rfl) (fun _ => rfl)
theorem B_L_law_2199 {k : Nat → Nat × Nat} {u : Nat → Nat → Int} {g : Nat → Nat → Nat} {t : Nat × Nat × Nat} {r0 : Nat} {r1 : Nat} {r2 : Nat} {r3 : Nat} {r4 : Nat} {x5 : Int} {v6 : AV} {v7 : AV} {v8 : AV} {y0 : Int} : a_X 350 2199 [a_r (r0), a_r (r1), a_r (r2), a_r (r3), a_r (r4), a_i (x5), v6, v7, v8] [a_i (y0)] (k, u, g, t) = if ((k r0).1 = 20 ∨ (k r0).1 = 24) ∧ 0 ≤ (wr (x5 + 1) : Int) ∧ (wr (x5 + 1) : Int) < ((k r0).2 : Int) then if ((k r0).1 = 20 ∨ (k r0).1 = 24) ∧ 0 ≤ (wr (x5 + 2) : Int) ∧ (wr (x5 + 2) : Int) < ((k r0).2 : Int) then if (k r2).1 = 11 then (a_m 267 [a_r (r2), a_i (u r0 (wr (x5 + 1) : Int).toNat), a_i (u r0 (wr (x5 + 2) : Int).toNat)] (k, u, g, t)).bind (a_back 350 2214 3 [a_r (r0), a_r (r1), a_r (r2), a_r (r3), a_r (r4), a_i (x5), a_i (y0), v7, v8] []) else none else none else none := by
  refine (X_istore (m := 350) (pc := 2199) (n := 6) (by decide +kernel) rfl (Nat.le_of_ble_eq_true rfl) rfl).trans ?_
  refine (X_aload_n (m := 350) (pc := 2201) (n := 2) (by decide +kernel) rfl).trans ?_
  refine (X_aload_n (m := 350) (pc := 2202) (n := 0) (by decide +kernel) rfl).trans ?_
  refine (X_iload (m := 350) (pc := 2203) (n := 5) (by decide +kernel) rfl).trans ?_
  refine (X_iconst (m := 350) (pc := 2205) (n := 1) (by decide +kernel) ).trans ?_
  refine (X_iadd (m := 350) (pc := 2206)  (by decide +kernel) ).trans ?_
  refine (X_iaload (m := 350) (pc := 2207)  (by decide +kernel) ).trans ?_
  refine ite_congr rfl (fun _ => ?_) (fun _ => rfl)
  refine (X_aload_n (m := 350) (pc := 2208) (n := 0) (by decide +kernel) rfl).trans ?_
  refine (X_iload (m := 350) (pc := 2209) (n := 5) (by decide +kernel) rfl).trans ?_
  refine (X_iconst (m := 350) (pc := 2211) (n := 2) (by decide +kernel) ).trans ?_
  refine (X_iadd (m := 350) (pc := 2212)  (by decide +kernel) ).trans ?_
  refine (X_iaload (m := 350) (pc := 2213)  (by decide +kernel) ).trans ?_
  refine ite_congr rfl (fun _ => ?_) (fun _ => rfl)
  refine (X_call_vi (m := 350) (pc := 2214) (q := 285) (y := 267) (n := 3) (as := [a_r (r2), a_i (u r0 (wr (x5 + 1) : Int).toNat), a_i (u r0 (wr (x5 + 2) : Int).toNat)]) (rest := []) (by decide +kernel) (by decide +kernel) (by decide +kernel) (by decide +kernel) rfl rfl (Nat.le_of_ble_eq_true rfl) (Nat.le_of_ble_eq_true rfl) rfl (by rw [show m_maxL 267 = 3 from by decide +kernel]; exact Nat.le_of_ble_eq_true rfl)).trans ?_
  exact ite_congr (by simp [a_rcv, show m_recv 267 = 11 from by decide +kernel]) (fun _ => rfl) (fun _ => rfl)
theorem B_L_law_2261 {k : Nat → Nat × Nat} {u : Nat → Nat → Int} {g : Nat → Nat → Nat} {t : Nat × Nat × Nat} {r0 : Nat} {r1 : Nat} {r2 : Nat} {r3 : Nat} {r4 : Nat} {x5 : Int} {v6 : AV} {v7 : AV} {v8 : AV} {y0 : Int} : a_X 350 2261 [a_r (r0), a_r (r1), a_r (r2), a_r (r3), a_r (r4), a_i (x5), v6, v7, v8] [a_i (y0)] (k, u, g, t) = if ((k r0).1 = 20 ∨ (k r0).1 = 24) ∧ 0 ≤ (wr (x5 + 1) : Int) ∧ (wr (x5 + 1) : Int) < ((k r0).2 : Int) then if (k r2).1 = 11 then (a_m 268 [a_r (r2), a_i (u r0 (wr (x5 + 1) : Int).toNat)] (k, u, g, t)).bind (a_back 350 2270 3 [a_r (r0), a_r (r1), a_r (r2), a_r (r3), a_r (r4), a_i (x5), a_i (y0), v7, v8] []) else none else none := by
  refine (X_istore (m := 350) (pc := 2261) (n := 6) (by decide +kernel) rfl (Nat.le_of_ble_eq_true rfl) rfl).trans ?_
  refine (X_aload_n (m := 350) (pc := 2263) (n := 2) (by decide +kernel) rfl).trans ?_
  refine (X_aload_n (m := 350) (pc := 2264) (n := 0) (by decide +kernel) rfl).trans ?_
  refine (X_iload (m := 350) (pc := 2265) (n := 5) (by decide +kernel) rfl).trans ?_
  refine (X_iconst (m := 350) (pc := 2267) (n := 1) (by decide +kernel) ).trans ?_
  refine (X_iadd (m := 350) (pc := 2268)  (by decide +kernel) ).trans ?_
  refine (X_iaload (m := 350) (pc := 2269)  (by decide +kernel) ).trans ?_
  refine ite_congr rfl (fun _ => ?_) (fun _ => rfl)
  refine (X_call_vi (m := 350) (pc := 2270) (q := 288) (y := 268) (n := 2) (as := [a_r (r2), a_i (u r0 (wr (x5 + 1) : Int).toNat)]) (rest := []) (by decide +kernel) (by decide +kernel) (by decide +kernel) (by decide +kernel) rfl rfl (Nat.le_of_ble_eq_true rfl) (Nat.le_of_ble_eq_true rfl) rfl (by rw [show m_maxL 268 = 7 from by decide +kernel]; exact Nat.le_of_ble_eq_true rfl)).trans ?_
  exact ite_congr (by simp [a_rcv, show m_recv 268 = 11 from by decide +kernel]) (fun _ => rfl) (fun _ => rfl)
theorem B_L_law_2312 {k : Nat → Nat × Nat} {u : Nat → Nat → Int} {g : Nat → Nat → Nat} {t : Nat × Nat × Nat} {r0 : Nat} {r1 : Nat} {r2 : Nat} {r3 : Nat} {r4 : Nat} {x5 : Int} {v6 : AV} {v7 : AV} {v8 : AV} {y0 : Int} : a_X 350 2312 [a_r (r0), a_r (r1), a_r (r2), a_r (r3), a_r (r4), a_i (x5), v6, v7, v8] [a_i (y0)] (k, u, g, t) = if (k r2).1 = 11 then (a_m 269 [a_r (r2)] (k, u, g, t)).bind (a_back 350 2315 3 [a_r (r0), a_r (r1), a_r (r2), a_r (r3), a_r (r4), a_i (x5), a_i (y0), v7, v8] []) else none := by
  refine (X_istore (m := 350) (pc := 2312) (n := 6) (by decide +kernel) rfl (Nat.le_of_ble_eq_true rfl) rfl).trans ?_
  refine (X_aload_n (m := 350) (pc := 2314) (n := 2) (by decide +kernel) rfl).trans ?_
  refine (X_call_vi (m := 350) (pc := 2315) (q := 292) (y := 269) (n := 1) (as := [a_r (r2)]) (rest := []) (by decide +kernel) (by decide +kernel) (by decide +kernel) (by decide +kernel) rfl rfl (Nat.le_of_ble_eq_true rfl) (Nat.le_of_ble_eq_true rfl) rfl (by rw [show m_maxL 269 = 4 from by decide +kernel]; exact Nat.le_of_ble_eq_true rfl)).trans ?_
  exact ite_congr (by simp [a_rcv, show m_recv 269 = 11 from by decide +kernel]) (fun _ => rfl) (fun _ => rfl)
theorem B_L_law_2378 {k : Nat → Nat × Nat} {u : Nat → Nat → Int} {g : Nat → Nat → Nat} {t : Nat × Nat × Nat} {r0 : Nat} {r1 : Nat} {r2 : Nat} {r3 : Nat} {r4 : Nat} {x5 : Int} {v6 : AV} {v7 : AV} {v8 : AV} {y0 : Int} : a_X 350 2378 [a_r (r0), a_r (r1), a_r (r2), a_r (r3), a_r (r4), a_i (x5), v6, v7, v8] [a_i (y0)] (k, u, g, t) = if (k r2).1 = 11 then (a_m 270 [a_r (r2)] (k, u, g, t)).bind (a_back 350 2381 3 [a_r (r0), a_r (r1), a_r (r2), a_r (r3), a_r (r4), a_i (x5), a_i (y0), v7, v8] []) else none := by
  refine (X_istore (m := 350) (pc := 2378) (n := 6) (by decide +kernel) rfl (Nat.le_of_ble_eq_true rfl) rfl).trans ?_
  refine (X_aload_n (m := 350) (pc := 2380) (n := 2) (by decide +kernel) rfl).trans ?_
  refine (X_call_vi (m := 350) (pc := 2381) (q := 295) (y := 270) (n := 1) (as := [a_r (r2)]) (rest := []) (by decide +kernel) (by decide +kernel) (by decide +kernel) (by decide +kernel) rfl rfl (Nat.le_of_ble_eq_true rfl) (Nat.le_of_ble_eq_true rfl) rfl (by rw [show m_maxL 270 = 3 from by decide +kernel]; exact Nat.le_of_ble_eq_true rfl)).trans ?_
  exact ite_congr (by simp [a_rcv, show m_recv 270 = 11 from by decide +kernel]) (fun _ => rfl) (fun _ => rfl)
theorem B_L_law_2454 {k : Nat → Nat × Nat} {u : Nat → Nat → Int} {g : Nat → Nat → Nat} {t : Nat × Nat × Nat} {r0 : Nat} {r1 : Nat} {r2 : Nat} {r3 : Nat} {r4 : Nat} {x5 : Int} {v6 : AV} {v7 : AV} {v8 : AV} {y0 : Int} : a_X 350 2454 [a_r (r0), a_r (r1), a_r (r2), a_r (r3), a_r (r4), a_i (x5), v6, v7, v8] [a_i (y0)] (k, u, g, t) = if ((k r0).1 = 20 ∨ (k r0).1 = 24) ∧ 0 ≤ (wr (x5 + 1) : Int) ∧ (wr (x5 + 1) : Int) < ((k r0).2 : Int) then if ((k r0).1 = 20 ∨ (k r0).1 = 24) ∧ 0 ≤ (wr (x5 + 2) : Int) ∧ (wr (x5 + 2) : Int) < ((k r0).2 : Int) then if (k r2).1 = 11 then (a_m 273 [a_r (r2), a_i (u r0 (wr (x5 + 1) : Int).toNat), a_i (u r0 (wr (x5 + 2) : Int).toNat)] (k, u, g, t)).bind (a_back 350 2469 3 [a_r (r0), a_r (r1), a_r (r2), a_r (r3), a_r (r4), a_i (x5), a_i (y0), v7, v8] []) else none else none else none := by
  refine (X_istore (m := 350) (pc := 2454) (n := 6) (by decide +kernel) rfl (Nat.le_of_ble_eq_true rfl) rfl).trans ?_
  refine (X_aload_n (m := 350) (pc := 2456) (n := 2) (by decide +kernel) rfl).trans ?_
  refine (X_aload_n (m := 350) (pc := 2457) (n := 0) (by decide +kernel) rfl).trans ?_
  refine (X_iload (m := 350) (pc := 2458) (n := 5) (by decide +kernel) rfl).trans ?_
  refine (X_iconst (m := 350) (pc := 2460) (n := 1) (by decide +kernel) ).trans ?_
  refine (X_iadd (m := 350) (pc := 2461)  (by decide +kernel) ).trans ?_
  refine (X_iaload (m := 350) (pc := 2462)  (by decide +kernel) ).trans ?_
  refine ite_congr rfl (fun _ => ?_) (fun _ => rfl)
  refine (X_aload_n (m := 350) (pc := 2463) (n := 0) (by decide +kernel) rfl).trans ?_
  refine (X_iload (m := 350) (pc := 2464) (n := 5) (by decide +kernel) rfl).trans ?_
  refine (X_iconst (m := 350) (pc := 2466) (n := 2) (by decide +kernel) ).trans ?_
  refine (X_iadd (m := 350) (pc := 2467)  (by decide +kernel) ).trans ?_
  refine (X_iaload (m := 350) (pc := 2468)  (by decide +kernel) ).trans ?_
  refine ite_congr rfl (fun _ => ?_) (fun _ => rfl)
  refine (X_call_vi (m := 350) (pc := 2469) (q := 298) (y := 273) (n := 3) (as := [a_r (r2), a_i (u r0 (wr (x5 + 1) : Int).toNat), a_i (u r0 (wr (x5 + 2) : Int).toNat)]) (rest := []) (by decide +kernel) (by decide +kernel) (by decide +kernel) (by decide +kernel) rfl rfl (Nat.le_of_ble_eq_true rfl) (Nat.le_of_ble_eq_true rfl) rfl (by rw [show m_maxL 273 = 4 from by decide +kernel]; exact Nat.le_of_ble_eq_true rfl)).trans ?_
  exact ite_congr (by simp [a_rcv, show m_recv 273 = 11 from by decide +kernel]) (fun _ => rfl) (fun _ => rfl)
theorem B_L_law_2516 {k : Nat → Nat × Nat} {u : Nat → Nat → Int} {g : Nat → Nat → Nat} {t : Nat × Nat × Nat} {r0 : Nat} {r1 : Nat} {r2 : Nat} {r3 : Nat} {r4 : Nat} {x5 : Int} {v6 : AV} {v7 : AV} {v8 : AV} {y0 : Int} : a_X 350 2516 [a_r (r0), a_r (r1), a_r (r2), a_r (r3), a_r (r4), a_i (x5), v6, v7, v8] [a_i (y0)] (k, u, g, t) = if ((k r0).1 = 20 ∨ (k r0).1 = 24) ∧ 0 ≤ (wr (x5 + 1) : Int) ∧ (wr (x5 + 1) : Int) < ((k r0).2 : Int) then if (k r2).1 = 11 then (a_m 274 [a_r (r2), a_i (u r0 (wr (x5 + 1) : Int).toNat)] (k, u, g, t)).bind (a_back 350 2525 3 [a_r (r0), a_r (r1), a_r (r2), a_r (r3), a_r (r4), a_i (x5), a_i (y0), v7, v8] []) else none else none := by
  refine (X_istore (m := 350) (pc := 2516) (n := 6) (by decide +kernel) rfl (Nat.le_of_ble_eq_true rfl) rfl).trans ?_
  refine (X_aload_n (m := 350) (pc := 2518) (n := 2) (by decide +kernel) rfl).trans ?_
  refine (X_aload_n (m := 350) (pc := 2519) (n := 0) (by decide +kernel) rfl).trans ?_
  refine (X_iload (m := 350) (pc := 2520) (n := 5) (by decide +kernel) rfl).trans ?_
  refine (X_iconst (m := 350) (pc := 2522) (n := 1) (by decide +kernel) ).trans ?_
  refine (X_iadd (m := 350) (pc := 2523)  (by decide +kernel) ).trans ?_
  refine (X_iaload (m := 350) (pc := 2524)  (by decide +kernel) ).trans ?_
  refine ite_congr rfl (fun _ => ?_) (fun _ => rfl)
  refine (X_call_vi (m := 350) (pc := 2525) (q := 301) (y := 274) (n := 2) (as := [a_r (r2), a_i (u r0 (wr (x5 + 1) : Int).toNat)]) (rest := []) (by decide +kernel) (by decide +kernel) (by decide +kernel) (by decide +kernel) rfl rfl (Nat.le_of_ble_eq_true rfl) (Nat.le_of_ble_eq_true rfl) rfl (by rw [show m_maxL 274 = 4 from by decide +kernel]; exact Nat.le_of_ble_eq_true rfl)).trans ?_
  exact ite_congr (by simp [a_rcv, show m_recv 274 = 11 from by decide +kernel]) (fun _ => rfl) (fun _ => rfl)
theorem B_L_law_2572 {k : Nat → Nat × Nat} {u : Nat → Nat → Int} {g : Nat → Nat → Nat} {t : Nat × Nat × Nat} {r0 : Nat} {r1 : Nat} {r2 : Nat} {r3 : Nat} {r4 : Nat} {x5 : Int} {v6 : AV} {v7 : AV} {v8 : AV} {y0 : Int} : a_X 350 2572 [a_r (r0), a_r (r1), a_r (r2), a_r (r3), a_r (r4), a_i (x5), v6, v7, v8] [a_i (y0)] (k, u, g, t) = if ((k r0).1 = 20 ∨ (k r0).1 = 24) ∧ 0 ≤ (wr (x5 + 1) : Int) ∧ (wr (x5 + 1) : Int) < ((k r0).2 : Int) then if (k r2).1 = 11 then (a_m 275 [a_r (r2), a_i (u r0 (wr (x5 + 1) : Int).toNat)] (k, u, g, t)).bind (a_back 350 2581 3 [a_r (r0), a_r (r1), a_r (r2), a_r (r3), a_r (r4), a_i (x5), a_i (y0), v7, v8] []) else none else none := by
  refine (X_istore (m := 350) (pc := 2572) (n := 6) (by decide +kernel) rfl (Nat.le_of_ble_eq_true rfl) rfl).trans ?_
  refine (X_aload_n (m := 350) (pc := 2574) (n := 2) (by decide +kernel) rfl).trans ?_
  refine (X_aload_n (m := 350) (pc := 2575) (n := 0) (by decide +kernel) rfl).trans ?_
  refine (X_iload (m := 350) (pc := 2576) (n := 5) (by decide +kernel) rfl).trans ?_
  refine (X_iconst (m := 350) (pc := 2578) (n := 1) (by decide +kernel) ).trans ?_
  refine (X_iadd (m := 350) (pc := 2579)  (by decide +kernel) ).trans ?_
  refine (X_iaload (m := 350) (pc := 2580)  (by decide +kernel) ).trans ?_
  refine ite_congr rfl (fun _ => ?_) (fun _ => rfl)
  refine (X_call_vi (m := 350) (pc := 2581) (q := 304) (y := 275) (n := 2) (as := [a_r (r2), a_i (u r0 (wr (x5 + 1) : Int).toNat)]) (rest := []) (by decide +kernel) (by decide +kernel) (by decide +kernel) (by decide +kernel) rfl rfl (Nat.le_of_ble_eq_true rfl) (Nat.le_of_ble_eq_true rfl) rfl (by rw [show m_maxL 275 = 2 from by decide +kernel]; exact Nat.le_of_ble_eq_true rfl)).trans ?_
  exact ite_congr (by simp [a_rcv, show m_recv 275 = 11 from by decide +kernel]) (fun _ => rfl) (fun _ => rfl)
theorem B_L_law_2659 {k : Nat → Nat × Nat} {u : Nat → Nat → Int} {g : Nat → Nat → Nat} {t : Nat × Nat × Nat} {r0 : Nat} {r1 : Nat} {r2 : Nat} {r3 : Nat} {r4 : Nat} {x5 : Int} {v6 : AV} {v7 : AV} {v8 : AV} {y0 : Int} : a_X 350 2659 [a_r (r0), a_r (r1), a_r (r2), a_r (r3), a_r (r4), a_i (x5), v6, v7, v8] [a_i (y0)] (k, u, g, t) = if ((k r0).1 = 20 ∨ (k r0).1 = 24) ∧ 0 ≤ (wr (x5 + 1) : Int) ∧ (wr (x5 + 1) : Int) < ((k r0).2 : Int) then if ((k r0).1 = 20 ∨ (k r0).1 = 24) ∧ 0 ≤ (wr (x5 + 2) : Int) ∧ (wr (x5 + 2) : Int) < ((k r0).2 : Int) then if ((k r0).1 = 20 ∨ (k r0).1 = 24) ∧ 0 ≤ (wr (x5 + 3) : Int) ∧ (wr (x5 + 3) : Int) < ((k r0).2 : Int) then if ((k r0).1 = 20 ∨ (k r0).1 = 24) ∧ 0 ≤ (wr (x5 + 4) : Int) ∧ (wr (x5 + 4) : Int) < ((k r0).2 : Int) then if ((k r0).1 = 20 ∨ (k r0).1 = 24) ∧ 0 ≤ (wr (x5 + 5) : Int) ∧ (wr (x5 + 5) : Int) < ((k r0).2 : Int) then if ((k r0).1 = 20 ∨ (k r0).1 = 24) ∧ 0 ≤ (wr (x5 + 6) : Int) ∧ (wr (x5 + 6) : Int) < ((k r0).2 : Int) then if (k r2).1 = 11 then (a_m 281 [a_r (r2), a_i (u r0 (wr (x5 + 1) : Int).toNat), a_i (u r0 (wr (x5 + 2) : Int).toNat), a_i (u r0 (wr (x5 + 3) : Int).toNat), a_i (u r0 (wr (x5 + 4) : Int).toNat), a_i (u r0 (wr (x5 + 5) : Int).toNat), a_i (u r0 (wr (x5 + 6) : Int).toNat)] (k, u, g, t)).bind (a_back 350 2699 3 [a_r (r0), a_r (r1), a_r (r2), a_r (r3), a_r (r4), a_i (x5), a_i (y0), v7, v8] []) else none else none else none else none else none else none else none := by
  refine (X_istore (m := 350) (pc := 2659) (n := 6) (by decide +kernel) rfl (Nat.le_of_ble_eq_true rfl) rfl).trans ?_
  refine (X_aload_n (m := 350) (pc := 2661) (n := 2) (by decide +kernel) rfl).trans ?_
  refine (X_aload_n (m := 350) (pc := 2662) (n := 0) (by decide +kernel) rfl).trans ?_
  refine (X_iload (m := 350) (pc := 2663) (n := 5) (by decide +kernel) rfl).trans ?_
  refine (X_iconst (m := 350) (pc := 2665) (n := 1) (by decide +kernel) ).trans ?_
  refine (X_iadd (m := 350) (pc := 2666)  (by decide +kernel) ).trans ?_
  refine (X_iaload (m := 350) (pc := 2667)  (by decide +kernel) ).trans ?_
  refine ite_congr rfl (fun _ => ?_) (fun _ => rfl)
  refine (X_aload_n (m := 350) (pc := 2668) (n := 0) (by decide +kernel) rfl).trans ?_
  refine (X_iload (m := 350) (pc := 2669) (n := 5) (by decide +kernel) rfl).trans ?_
  refine (X_iconst (m := 350) (pc := 2671) (n := 2) (by decide +kernel) ).trans ?_
  refine (X_iadd (m := 350) (pc := 2672)  (by decide +kernel) ).trans ?_
  refine (X_iaload (m := 350) (pc := 2673)  (by decide +kernel) ).trans ?_
  refine ite_congr rfl (fun _ => ?_) (fun _ => rfl)
  refine (X_aload_n (m := 350) (pc := 2674) (n := 0) (by decide +kernel) rfl).trans ?_
  refine (X_iload (m := 350) (pc := 2675) (n := 5) (by decide +kernel) rfl).trans ?_
  refine (X_iconst (m := 350) (pc := 2677) (n := 3) (by decide +kernel) ).trans ?_
  refine (X_iadd (m := 350) (pc := 2678)  (by decide +kernel) ).trans ?_
  refine (X_iaload (m := 350) (pc := 2679)  (by decide +kernel) ).trans ?_
  refine ite_congr rfl (fun _ => ?_) (fun _ => rfl)
  refine (X_aload_n (m := 350) (pc := 2680) (n := 0) (by decide +kernel) rfl).trans ?_
  refine (X_iload (m := 350) (pc := 2681) (n := 5) (by decide +kernel) rfl).trans ?_
  refine (X_iconst (m := 350) (pc := 2683) (n := 4) (by decide +kernel) ).trans ?_
  refine (X_iadd (m := 350) (pc := 2684)  (by decide +kernel) ).trans ?_
  refine (X_iaload (m := 350) (pc := 2685)  (by decide +kernel) ).trans ?_
  refine ite_congr rfl (fun _ => ?_) (fun _ => rfl)
  refine (X_aload_n (m := 350) (pc := 2686) (n := 0) (by decide +kernel) rfl).trans ?_
  refine (X_iload (m := 350) (pc := 2687) (n := 5) (by decide +kernel) rfl).trans ?_
  refine (X_iconst (m := 350) (pc := 2689) (n := 5) (by decide +kernel) ).trans ?_
  refine (X_iadd (m := 350) (pc := 2690)  (by decide +kernel) ).trans ?_
  refine (X_iaload (m := 350) (pc := 2691)  (by decide +kernel) ).trans ?_
  refine ite_congr rfl (fun _ => ?_) (fun _ => rfl)
  refine (X_aload_n (m := 350) (pc := 2692) (n := 0) (by decide +kernel) rfl).trans ?_
  refine (X_iload (m := 350) (pc := 2693) (n := 5) (by decide +kernel) rfl).trans ?_
  refine (X_bipush (m := 350) (pc := 2695) (n := 6) (by decide +kernel) ).trans ?_
  refine (X_iadd (m := 350) (pc := 2697)  (by decide +kernel) ).trans ?_
  refine (X_iaload (m := 350) (pc := 2698)  (by decide +kernel) ).trans ?_
  refine ite_congr rfl (fun _ => ?_) (fun _ => rfl)
  refine (X_call_vi (m := 350) (pc := 2699) (q := 308) (y := 281) (n := 7) (as := [a_r (r2), a_i (u r0 (wr (x5 + 1) : Int).toNat), a_i (u r0 (wr (x5 + 2) : Int).toNat), a_i (u r0 (wr (x5 + 3) : Int).toNat), a_i (u r0 (wr (x5 + 4) : Int).toNat), a_i (u r0 (wr (x5 + 5) : Int).toNat), a_i (u r0 (wr (x5 + 6) : Int).toNat)]) (rest := []) (by decide +kernel) (by decide +kernel) (by decide +kernel) (by decide +kernel) rfl rfl (Nat.le_of_ble_eq_true rfl) (Nat.le_of_ble_eq_true rfl) rfl (by rw [show m_maxL 281 = 8 from by decide +kernel]; exact Nat.le_of_ble_eq_true rfl)).trans ?_
  exact ite_congr (by simp [a_rcv, show m_recv 281 = 11 from by decide +kernel]) (fun _ => rfl) (fun _ => rfl)
theorem B_L_law_2752 {k : Nat → Nat × Nat} {u : Nat → Nat → Int} {g : Nat → Nat → Nat} {t : Nat × Nat × Nat} {r0 : Nat} {r1 : Nat} {r2 : Nat} {r3 : Nat} {r4 : Nat} {x5 : Int} {v6 : AV} {v7 : AV} {v8 : AV} {y0 : Int} : a_X 350 2752 [a_r (r0), a_r (r1), a_r (r2), a_r (r3), a_r (r4), a_i (x5), v6, v7, v8] [a_i (y0)] (k, u, g, t) = if ((k r0).1 = 20 ∨ (k r0).1 = 24) ∧ 0 ≤ (wr (x5 + 1) : Int) ∧ (wr (x5 + 1) : Int) < ((k r0).2 : Int) then if ((k r0).1 = 20 ∨ (k r0).1 = 24) ∧ 0 ≤ (wr (x5 + 2) : Int) ∧ (wr (x5 + 2) : Int) < ((k r0).2 : Int) then if (k r2).1 = 11 then (a_m 282 [a_r (r2), a_i (u r0 (wr (x5 + 1) : Int).toNat), a_i (u r0 (wr (x5 + 2) : Int).toNat)] (k, u, g, t)).bind (a_back 350 2767 3 [a_r (r0), a_r (r1), a_r (r2), a_r (r3), a_r (r4), a_i (x5), a_i (y0), v7, v8] []) else none else none else none := by
  refine (X_istore (m := 350) (pc := 2752) (n := 6) (by decide +kernel) rfl (Nat.le_of_ble_eq_true rfl) rfl).trans ?_
  refine (X_aload_n (m := 350) (pc := 2754) (n := 2) (by decide +kernel) rfl).trans ?_
  refine (X_aload_n (m := 350) (pc := 2755) (n := 0) (by decide +kernel) rfl).trans ?_
  refine (X_iload (m := 350) (pc := 2756) (n := 5) (by decide +kernel) rfl).trans ?_
  refine (X_iconst (m := 350) (pc := 2758) (n := 1) (by decide +kernel) ).trans ?_
  refine (X_iadd (m := 350) (pc := 2759)  (by decide +kernel) ).trans ?_
  refine (X_iaload (m := 350) (pc := 2760)  (by decide +kernel) ).trans ?_
  refine ite_congr rfl (fun _ => ?_) (fun _ => rfl)
  refine (X_aload_n (m := 350) (pc := 2761) (n := 0) (by decide +kernel) rfl).trans ?_
  refine (X_iload (m := 350) (pc := 2762) (n := 5) (by decide +kernel) rfl).trans ?_
  refine (X_iconst (m := 350) (pc := 2764) (n := 2) (by decide +kernel) ).trans ?_
  refine (X_iadd (m := 350) (pc := 2765)  (by decide +kernel) ).trans ?_
  refine (X_iaload (m := 350) (pc := 2766)  (by decide +kernel) ).trans ?_
  refine ite_congr rfl (fun _ => ?_) (fun _ => rfl)
  refine (X_call_vi (m := 350) (pc := 2767) (q := 311) (y := 282) (n := 3) (as := [a_r (r2), a_i (u r0 (wr (x5 + 1) : Int).toNat), a_i (u r0 (wr (x5 + 2) : Int).toNat)]) (rest := []) (by decide +kernel) (by decide +kernel) (by decide +kernel) (by decide +kernel) rfl rfl (Nat.le_of_ble_eq_true rfl) (Nat.le_of_ble_eq_true rfl) rfl (by rw [show m_maxL 282 = 4 from by decide +kernel]; exact Nat.le_of_ble_eq_true rfl)).trans ?_
  exact ite_congr (by simp [a_rcv, show m_recv 282 = 11 from by decide +kernel]) (fun _ => rfl) (fun _ => rfl)
theorem B_L_law_2820 {k : Nat → Nat × Nat} {u : Nat → Nat → Int} {g : Nat → Nat → Nat} {t : Nat × Nat × Nat} {r0 : Nat} {r1 : Nat} {r2 : Nat} {r3 : Nat} {r4 : Nat} {x5 : Int} {v6 : AV} {v7 : AV} {v8 : AV} {y0 : Int} : a_X 350 2820 [a_r (r0), a_r (r1), a_r (r2), a_r (r3), a_r (r4), a_i (x5), v6, v7, v8] [a_i (y0)] (k, u, g, t) = if ((k r0).1 = 20 ∨ (k r0).1 = 24) ∧ 0 ≤ (wr (x5 + 1) : Int) ∧ (wr (x5 + 1) : Int) < ((k r0).2 : Int) then if ((k r0).1 = 20 ∨ (k r0).1 = 24) ∧ 0 ≤ (wr (x5 + 2) : Int) ∧ (wr (x5 + 2) : Int) < ((k r0).2 : Int) then if (k r2).1 = 11 then (a_m 283 [a_r (r2), a_i (u r0 (wr (x5 + 1) : Int).toNat), a_i (u r0 (wr (x5 + 2) : Int).toNat)] (k, u, g, t)).bind (a_back 350 2835 3 [a_r (r0), a_r (r1), a_r (r2), a_r (r3), a_r (r4), a_i (x5), a_i (y0), v7, v8] []) else none else none else none := by
  refine (X_istore (m := 350) (pc := 2820) (n := 6) (by decide +kernel) rfl (Nat.le_of_ble_eq_true rfl) rfl).trans ?_
  refine (X_aload_n (m := 350) (pc := 2822) (n := 2) (by decide +kernel) rfl).trans ?_
  refine (X_aload_n (m := 350) (pc := 2823) (n := 0) (by decide +kernel) rfl).trans ?_
  refine (X_iload (m := 350) (pc := 2824) (n := 5) (by decide +kernel) rfl).trans ?_
  refine (X_iconst (m := 350) (pc := 2826) (n := 1) (by decide +kernel) ).trans ?_
  refine (X_iadd (m := 350) (pc := 2827)  (by decide +kernel) ).trans ?_
  refine (X_iaload (m := 350) (pc := 2828)  (by decide +kernel) ).trans ?_
  refine ite_congr rfl (fun _ => ?_) (fun _ => rfl)
  refine (X_aload_n (m := 350) (pc := 2829) (n := 0) (by decide +kernel) rfl).trans ?_
  refine (X_iload (m := 350) (pc := 2830) (n := 5) (by decide +kernel) rfl).trans ?_
  refine (X_iconst (m := 350) (pc := 2832) (n := 2) (by decide +kernel) ).trans ?_
  refine (X_iadd (m := 350) (pc := 2833)  (by decide +kernel) ).trans ?_
  refine (X_iaload (m := 350) (pc := 2834)  (by decide +kernel) ).trans ?_
  refine ite_congr rfl (fun _ => ?_) (fun _ => rfl)
  refine (X_call_vi (m := 350) (pc := 2835) (q := 314) (y := 283) (n := 3) (as := [a_r (r2), a_i (u r0 (wr (x5 + 1) : Int).toNat), a_i (u r0 (wr (x5 + 2) : Int).toNat)]) (rest := []) (by decide +kernel) (by decide +kernel) (by decide +kernel) (by decide +kernel) rfl rfl (Nat.le_of_ble_eq_true rfl) (Nat.le_of_ble_eq_true rfl) rfl (by rw [show m_maxL 283 = 3 from by decide +kernel]; exact Nat.le_of_ble_eq_true rfl)).trans ?_
  exact ite_congr (by simp [a_rcv, show m_recv 283 = 11 from by decide +kernel]) (fun _ => rfl) (fun _ => rfl)
theorem B_L_law_2882 {k : Nat → Nat × Nat} {u : Nat → Nat → Int} {g : Nat → Nat → Nat} {t : Nat × Nat × Nat} {r0 : Nat} {r1 : Nat} {r2 : Nat} {r3 : Nat} {r4 : Nat} {x5 : Int} {v6 : AV} {v7 : AV} {v8 : AV} {y0 : Int} : a_X 350 2882 [a_r (r0), a_r (r1), a_r (r2), a_r (r3), a_r (r4), a_i (x5), v6, v7, v8] [a_i (y0)] (k, u, g, t) = if ((k r0).1 = 20 ∨ (k r0).1 = 24) ∧ 0 ≤ (wr (x5 + 1) : Int) ∧ (wr (x5 + 1) : Int) < ((k r0).2 : Int) then if (k r2).1 = 11 then (a_m 284 [a_r (r2), a_i (u r0 (wr (x5 + 1) : Int).toNat)] (k, u, g, t)).bind (a_back 350 2891 3 [a_r (r0), a_r (r1), a_r (r2), a_r (r3), a_r (r4), a_i (x5), a_i (y0), v7, v8] []) else none else none := by
  refine (X_istore (m := 350) (pc := 2882) (n := 6) (by decide +kernel) rfl (Nat.le_of_ble_eq_true rfl) rfl).trans ?_
  refine (X_aload_n (m := 350) (pc := 2884) (n := 2) (by decide +kernel) rfl).trans ?_
  refine (X_aload_n (m := 350) (pc := 2885) (n := 0) (by decide +kernel) rfl).trans ?_
  refine (X_iload (m := 350) (pc := 2886) (n := 5) (by decide +kernel) rfl).trans ?_
  refine (X_iconst (m := 350) (pc := 2888) (n := 1) (by decide +kernel) ).trans ?_
  refine (X_iadd (m := 350) (pc := 2889)  (by decide +kernel) ).trans ?_
  refine (X_iaload (m := 350) (pc := 2890)  (by decide +kernel) ).trans ?_
  refine ite_congr rfl (fun _ => ?_) (fun _ => rfl)
  refine (X_call_vi (m := 350) (pc := 2891) (q := 317) (y := 284) (n := 2) (as := [a_r (r2), a_i (u r0 (wr (x5 + 1) : Int).toNat)]) (rest := []) (by decide +kernel) (by decide +kernel) (by decide +kernel) (by decide +kernel) rfl rfl (Nat.le_of_ble_eq_true rfl) (Nat.le_of_ble_eq_true rfl) rfl (by rw [show m_maxL 284 = 2 from by decide +kernel]; exact Nat.le_of_ble_eq_true rfl)).trans ?_
  exact ite_congr (by simp [a_rcv, show m_recv 284 = 11 from by decide +kernel]) (fun _ => rfl) (fun _ => rfl)
theorem B_L_law_2938 {k : Nat → Nat × Nat} {u : Nat → Nat → Int} {g : Nat → Nat → Nat} {t : Nat × Nat × Nat} {r0 : Nat} {r1 : Nat} {r2 : Nat} {r3 : Nat} {r4 : Nat} {x5 : Int} {v6 : AV} {v7 : AV} {v8 : AV} {y0 : Int} : a_X 350 2938 [a_r (r0), a_r (r1), a_r (r2), a_r (r3), a_r (r4), a_i (x5), v6, v7, v8] [a_i (y0)] (k, u, g, t) = if ((k r0).1 = 20 ∨ (k r0).1 = 24) ∧ 0 ≤ (wr (x5 + 1) : Int) ∧ (wr (x5 + 1) : Int) < ((k r0).2 : Int) then if (k r2).1 = 11 then (a_m 285 [a_r (r2), a_i (u r0 (wr (x5 + 1) : Int).toNat)] (k, u, g, t)).bind (a_back 350 2947 3 [a_r (r0), a_r (r1), a_r (r2), a_r (r3), a_r (r4), a_i (x5), a_i (y0), v7, v8] []) else none else none := by
  refine (X_istore (m := 350) (pc := 2938) (n := 6) (by decide +kernel) rfl (Nat.le_of_ble_eq_true rfl) rfl).trans ?_
  refine (X_aload_n (m := 350) (pc := 2940) (n := 2) (by decide +kernel) rfl).trans ?_
  refine (X_aload_n (m := 350) (pc := 2941) (n := 0) (by decide +kernel) rfl).trans ?_
  refine (X_iload (m := 350) (pc := 2942) (n := 5) (by decide +kernel) rfl).trans ?_
  refine (X_iconst (m := 350) (pc := 2944) (n := 1) (by decide +kernel) ).trans ?_
  refine (X_iadd (m := 350) (pc := 2945)  (by decide +kernel) ).trans ?_
  refine (X_iaload (m := 350) (pc := 2946)  (by decide +kernel) ).trans ?_
  refine ite_congr rfl (fun _ => ?_) (fun _ => rfl)
  refine (X_call_vi (m := 350) (pc := 2947) (q := 320) (y := 285) (n := 2) (as := [a_r (r2), a_i (u r0 (wr (x5 + 1) : Int).toNat)]) (rest := []) (by decide +kernel) (by decide +kernel) (by decide +kernel) (by decide +kernel) rfl rfl (Nat.le_of_ble_eq_true rfl) (Nat.le_of_ble_eq_true rfl) rfl (by rw [show m_maxL 285 = 2 from by decide +kernel]; exact Nat.le_of_ble_eq_true rfl)).trans ?_
  exact ite_congr (by simp [a_rcv, show m_recv 285 = 11 from by decide +kernel]) (fun _ => rfl) (fun _ => rfl)
theorem B_L_law_3006 {k : Nat → Nat × Nat} {u : Nat → Nat → Int} {g : Nat → Nat → Nat} {t : Nat × Nat × Nat} {r0 : Nat} {r1 : Nat} {r2 : Nat} {r3 : Nat} {r4 : Nat} {x5 : Int} {v6 : AV} {v7 : AV} {v8 : AV} {y0 : Int} : a_X 350 3006 [a_r (r0), a_r (r1), a_r (r2), a_r (r3), a_r (r4), a_i (x5), v6, v7, v8] [a_i (y0)] (k, u, g, t) = if ((k r0).1 = 20 ∨ (k r0).1 = 24) ∧ 0 ≤ (wr (x5 + 1) : Int) ∧ (wr (x5 + 1) : Int) < ((k r0).2 : Int) then if ((k r0).1 = 20 ∨ (k r0).1 = 24) ∧ 0 ≤ (wr (x5 + 2) : Int) ∧ (wr (x5 + 2) : Int) < ((k r0).2 : Int) then if ((k r0).1 = 20 ∨ (k r0).1 = 24) ∧ 0 ≤ (wr (x5 + 3) : Int) ∧ (wr (x5 + 3) : Int) < ((k r0).2 : Int) then if (k r2).1 = 11 then (a_m 286 [a_r (r2), a_i (u r0 (wr (x5 + 1) : Int).toNat), a_i (u r0 (wr (x5 + 2) : Int).toNat), a_i (u r0 (wr (x5 + 3) : Int).toNat)] (k, u, g, t)).bind (a_back 350 3027 3 [a_r (r0), a_r (r1), a_r (r2), a_r (r3), a_r (r4), a_i (x5), a_i (y0), v7, v8] []) else none else none else none else none := by
  refine (X_istore (m := 350) (pc := 3006) (n := 6) (by decide +kernel) rfl (Nat.le_of_ble_eq_true rfl) rfl).trans ?_
  refine (X_aload_n (m := 350) (pc := 3008) (n := 2) (by decide +kernel) rfl).trans ?_
  refine (X_aload_n (m := 350) (pc := 3009) (n := 0) (by decide +kernel) rfl).trans ?_
  refine (X_iload (m := 350) (pc := 3010) (n := 5) (by decide +kernel) rfl).trans ?_
  refine (X_iconst (m := 350) (pc := 3012) (n := 1) (by decide +kernel) ).trans ?_
  refine (X_iadd (m := 350) (pc := 3013)  (by decide +kernel) ).trans ?_
  refine (X_iaload (m := 350) (pc := 3014)  (by decide +kernel) ).trans ?_
  refine ite_congr rfl (fun _ => ?_) (fun _ => rfl)
  refine (X_aload_n (m := 350) (pc := 3015) (n := 0) (by decide +kernel) rfl).trans ?_
  refine (X_iload (m := 350) (pc := 3016) (n := 5) (by decide +kernel) rfl).trans ?_
  refine (X_iconst (m := 350) (pc := 3018) (n := 2) (by decide +kernel) ).trans ?_
  refine (X_iadd (m := 350) (pc := 3019)  (by decide +kernel) ).trans ?_
  refine (X_iaload (m := 350) (pc := 3020)  (by decide +kernel) ).trans ?_
  refine ite_congr rfl (fun _ => ?_) (fun _ => rfl)
  refine (X_aload_n (m := 350) (pc := 3021) (n := 0) (by decide +kernel) rfl).trans ?_
  refine (X_iload (m := 350) (pc := 3022) (n := 5) (by decide +kernel) rfl).trans ?_
  refine (X_iconst (m := 350) (pc := 3024) (n := 3) (by decide +kernel) ).trans ?_
  refine (X_iadd (m := 350) (pc := 3025)  (by decide +kernel) ).trans ?_
  refine (X_iaload (m := 350) (pc := 3026)  (by decide +kernel) ).trans ?_
  refine ite_congr rfl (fun _ => ?_) (fun _ => rfl)
  refine (X_call_vi (m := 350) (pc := 3027) (q := 323) (y := 286) (n := 4) (as := [a_r (r2), a_i (u r0 (wr (x5 + 1) : Int).toNat), a_i (u r0 (wr (x5 + 2) : Int).toNat), a_i (u r0 (wr (x5 + 3) : Int).toNat)]) (rest := []) (by decide +kernel) (by decide +kernel) (by decide +kernel) (by decide +kernel) rfl rfl (Nat.le_of_ble_eq_true rfl) (Nat.le_of_ble_eq_true rfl) rfl (by rw [show m_maxL 286 = 5 from by decide +kernel]; exact Nat.le_of_ble_eq_true rfl)).trans ?_
  exact ite_congr (by simp [a_rcv, show m_recv 286 = 11 from by decide +kernel]) (fun _ => rfl) (fun _ => rfl)
theorem B_L_law_3080 {k : Nat → Nat × Nat} {u : Nat → Nat → Int} {g : Nat → Nat → Nat} {t : Nat × Nat × Nat} {r0 : Nat} {r1 : Nat} {r2 : Nat} {r3 : Nat} {r4 : Nat} {x5 : Int} {v6 : AV} {v7 : AV} {v8 : AV} {y0 : Int} : a_X 350 3080 [a_r (r0), a_r (r1), a_r (r2), a_r (r3), a_r (r4), a_i (x5), v6, v7, v8] [a_i (y0)] (k, u, g, t) = if ((k r0).1 = 20 ∨ (k r0).1 = 24) ∧ 0 ≤ (wr (x5 + 1) : Int) ∧ (wr (x5 + 1) : Int) < ((k r0).2 : Int) then if ((k r0).1 = 20 ∨ (k r0).1 = 24) ∧ 0 ≤ (wr (x5 + 2) : Int) ∧ (wr (x5 + 2) : Int) < ((k r0).2 : Int) then if (k r2).1 = 11 then (a_m 287 [a_r (r2), a_i (u r0 (wr (x5 + 1) : Int).toNat), a_i (u r0 (wr (x5 + 2) : Int).toNat)] (k, u, g, t)).bind (a_back 350 3095 3 [a_r (r0), a_r (r1), a_r (r2), a_r (r3), a_r (r4), a_i (x5), a_i (y0), v7, v8] []) else none else none else none := by
  refine (X_istore (m := 350) (pc := 3080) (n := 6) (by decide +kernel) rfl (Nat.le_of_ble_eq_true rfl) rfl).trans ?_
  refine (X_aload_n (m := 350) (pc := 3082) (n := 2) (by decide +kernel) rfl).trans ?_
  refine (X_aload_n (m := 350) (pc := 3083) (n := 0) (by decide +kernel) rfl).trans ?_
  refine (X_iload (m := 350) (pc := 3084) (n := 5) (by decide +kernel) rfl).trans ?_
  refine (X_iconst (m := 350) (pc := 3086) (n := 1) (by decide +kernel) ).trans ?_
  refine (X_iadd (m := 350) (pc := 3087)  (by decide +kernel) ).trans ?_
  refine (X_iaload (m := 350) (pc := 3088)  (by decide +kernel) ).trans ?_
  refine ite_congr rfl (fun _ => ?_) (fun _ => rfl)
  refine (X_aload_n (m := 350) (pc := 3089) (n := 0) (by decide +kernel) rfl).trans ?_
  refine (X_iload (m := 350) (pc := 3090) (n := 5) (by decide +kernel) rfl).trans ?_
  refine (X_iconst (m := 350) (pc := 3092) (n := 2) (by decide +kernel) ).trans ?_
  refine (X_iadd (m := 350) (pc := 3093)  (by decide +kernel) ).trans ?_
  refine (X_iaload (m := 350) (pc := 3094)  (by decide +kernel) ).trans ?_
  refine ite_congr rfl (fun _ => ?_) (fun _ => rfl)
  refine (X_call_vi (m := 350) (pc := 3095) (q := 326) (y := 287) (n := 3) (as := [a_r (r2), a_i (u r0 (wr (x5 + 1) : Int).toNat), a_i (u r0 (wr (x5 + 2) : Int).toNat)]) (rest := []) (by decide +kernel) (by decide +kernel) (by decide +kernel) (by decide +kernel) rfl rfl (Nat.le_of_ble_eq_true rfl) (Nat.le_of_ble_eq_true rfl) rfl (by rw [show m_maxL 287 = 4 from by decide +kernel]; exact Nat.le_of_ble_eq_true rfl)).trans ?_
  exact ite_congr (by simp [a_rcv, show m_recv 287 = 11 from by decide +kernel]) (fun _ => rfl) (fun _ => rfl)
theorem B_L_law_3148 {k : Nat → Nat × Nat} {u : Nat → Nat → Int} {g : Nat → Nat → Nat} {t : Nat × Nat × Nat} {r0 : Nat} {r1 : Nat} {r2 : Nat} {r3 : Nat} {r4 : Nat} {x5 : Int} {v6 : AV} {v7 : AV} {v8 : AV} {y0 : Int} : a_X 350 3148 [a_r (r0), a_r (r1), a_r (r2), a_r (r3), a_r (r4), a_i (x5), v6, v7, v8] [a_i (y0)] (k, u, g, t) = if ((k r0).1 = 20 ∨ (k r0).1 = 24) ∧ 0 ≤ (wr (x5 + 1) : Int) ∧ (wr (x5 + 1) : Int) < ((k r0).2 : Int) then if ((k r0).1 = 20 ∨ (k r0).1 = 24) ∧ 0 ≤ (wr (x5 + 2) : Int) ∧ (wr (x5 + 2) : Int) < ((k r0).2 : Int) then if (k r2).1 = 11 then (a_m 288 [a_r (r2), a_i (u r0 (wr (x5 + 1) : Int).toNat), a_i (u r0 (wr (x5 + 2) : Int).toNat)] (k, u, g, t)).bind (a_back 350 3163 3 [a_r (r0), a_r (r1), a_r (r2), a_r (r3), a_r (r4), a_i (x5), a_i (y0), v7, v8] []) else none else none else none := by
  refine (X_istore (m := 350) (pc := 3148) (n := 6) (by decide +kernel) rfl (Nat.le_of_ble_eq_true rfl) rfl).trans ?_
  refine (X_aload_n (m := 350) (pc := 3150) (n := 2) (by decide +kernel) rfl).trans ?_
  refine (X_aload_n (m := 350) (pc := 3151) (n := 0) (by decide +kernel) rfl).trans ?_
  refine (X_iload (m := 350) (pc := 3152) (n := 5) (by decide +kernel) rfl).trans ?_
  refine (X_iconst (m := 350) (pc := 3154) (n := 1) (by decide +kernel) ).trans ?_
  refine (X_iadd (m := 350) (pc := 3155)  (by decide +kernel) ).trans ?_
  refine (X_iaload (m := 350) (pc := 3156)  (by decide +kernel) ).trans ?_
  refine ite_congr rfl (fun _ => ?_) (fun _ => rfl)
  refine (X_aload_n (m := 350) (pc := 3157) (n := 0) (by decide +kernel) rfl).trans ?_
  refine (X_iload (m := 350) (pc := 3158) (n := 5) (by decide +kernel) rfl).trans ?_
  refine (X_iconst (m := 350) (pc := 3160) (n := 2) (by decide +kernel) ).trans ?_
  refine (X_iadd (m := 350) (pc := 3161)  (by decide +kernel) ).trans ?_
  refine (X_iaload (m := 350) (pc := 3162)  (by decide +kernel) ).trans ?_
  refine ite_congr rfl (fun _ => ?_) (fun _ => rfl)
  refine (X_call_vi (m := 350) (pc := 3163) (q := 329) (y := 288) (n := 3) (as := [a_r (r2), a_i (u r0 (wr (x5 + 1) : Int).toNat), a_i (u r0 (wr (x5 + 2) : Int).toNat)]) (rest := []) (by decide +kernel) (by decide +kernel) (by decide +kernel) (by decide +kernel) rfl rfl (Nat.le_of_ble_eq_true rfl) (Nat.le_of_ble_eq_true rfl) rfl (by rw [show m_maxL 288 = 4 from by decide +kernel]; exact Nat.le_of_ble_eq_true rfl)).trans ?_
  exact ite_congr (by simp [a_rcv, show m_recv 288 = 11 from by decide +kernel]) (fun _ => rfl) (fun _ => rfl)
theorem B_L_law_3210 {k : Nat → Nat × Nat} {u : Nat → Nat → Int} {g : Nat → Nat → Nat} {t : Nat × Nat × Nat} {r0 : Nat} {r1 : Nat} {r2 : Nat} {r3 : Nat} {r4 : Nat} {x5 : Int} {v6 : AV} {v7 : AV} {v8 : AV} {y0 : Int} : a_X 350 3210 [a_r (r0), a_r (r1), a_r (r2), a_r (r3), a_r (r4), a_i (x5), v6, v7, v8] [a_i (y0)] (k, u, g, t) = if ((k r0).1 = 20 ∨ (k r0).1 = 24) ∧ 0 ≤ (wr (x5 + 1) : Int) ∧ (wr (x5 + 1) : Int) < ((k r0).2 : Int) then if (k r2).1 = 11 then (a_m 289 [a_r (r2), a_i (u r0 (wr (x5 + 1) : Int).toNat)] (k, u, g, t)).bind (a_back 350 3219 3 [a_r (r0), a_r (r1), a_r (r2), a_r (r3), a_r (r4), a_i (x5), a_i (y0), v7, v8] []) else none else none := by
  refine (X_istore (m := 350) (pc := 3210) (n := 6) (by decide +kernel) rfl (Nat.le_of_ble_eq_true rfl) rfl).trans ?_
  refine (X_aload_n (m := 350) (pc := 3212) (n := 2) (by decide +kernel) rfl).trans ?_
  refine (X_aload_n (m := 350) (pc := 3213) (n := 0) (by decide +kernel) rfl).trans ?_
  refine (X_iload (m := 350) (pc := 3214) (n := 5) (by decide +kernel) rfl).trans ?_
  refine (X_iconst (m := 350) (pc := 3216) (n := 1) (by decide +kernel) ).trans ?_
  refine (X_iadd (m := 350) (pc := 3217)  (by decide +kernel) ).trans ?_
  refine (X_iaload (m := 350) (pc := 3218)  (by decide +kernel) ).trans ?_
  refine ite_congr rfl (fun _ => ?_) (fun _ => rfl)
  refine (X_call_vi (m := 350) (pc := 3219) (q := 332) (y := 289) (n := 2) (as := [a_r (r2), a_i (u r0 (wr (x5 + 1) : Int).toNat)]) (rest := []) (by decide +kernel) (by decide +kernel) (by decide +kernel) (by decide +kernel) rfl rfl (Nat.le_of_ble_eq_true rfl) (Nat.le_of_ble_eq_true rfl) rfl (by rw [show m_maxL 289 = 3 from by decide +kernel]; exact Nat.le_of_ble_eq_true rfl)).trans ?_
  exact ite_congr (by simp [a_rcv, show m_recv 289 = 11 from by decide +kernel]) (fun _ => rfl) (fun _ => rfl)
theorem B_L_law_3266 {k : Nat → Nat × Nat} {u : Nat → Nat → Int} {g : Nat → Nat → Nat} {t : Nat × Nat × Nat} {r0 : Nat} {r1 : Nat} {r2 : Nat} {r3 : Nat} {r4 : Nat} {x5 : Int} {v6 : AV} {v7 : AV} {v8 : AV} {y0 : Int} : a_X 350 3266 [a_r (r0), a_r (r1), a_r (r2), a_r (r3), a_r (r4), a_i (x5), v6, v7, v8] [a_i (y0)] (k, u, g, t) = if ((k r0).1 = 20 ∨ (k r0).1 = 24) ∧ 0 ≤ (wr (x5 + 1) : Int) ∧ (wr (x5 + 1) : Int) < ((k r0).2 : Int) then if (k r2).1 = 11 then (a_m 290 [a_r (r2), a_i (u r0 (wr (x5 + 1) : Int).toNat)] (k, u, g, t)).bind (a_back 350 3275 3 [a_r (r0), a_r (r1), a_r (r2), a_r (r3), a_r (r4), a_i (x5), a_i (y0), v7, v8] []) else none else none := by
  refine (X_istore (m := 350) (pc := 3266) (n := 6) (by decide +kernel) rfl (Nat.le_of_ble_eq_true rfl) rfl).trans ?_
  refine (X_aload_n (m := 350) (pc := 3268) (n := 2) (by decide +kernel) rfl).trans ?_
  refine (X_aload_n (m := 350) (pc := 3269) (n := 0) (by decide +kernel) rfl).trans ?_
  refine (X_iload (m := 350) (pc := 3270) (n := 5) (by decide +kernel) rfl).trans ?_
  refine (X_iconst (m := 350) (pc := 3272) (n := 1) (by decide +kernel) ).trans ?_
  refine (X_iadd (m := 350) (pc := 3273)  (by decide +kernel) ).trans ?_
  refine (X_iaload (m := 350) (pc := 3274)  (by decide +kernel) ).trans ?_
  refine ite_congr rfl (fun _ => ?_) (fun _ => rfl)
  refine (X_call_vi (m := 350) (pc := 3275) (q := 335) (y := 290) (n := 2) (as := [a_r (r2), a_i (u r0 (wr (x5 + 1) : Int).toNat)]) (rest := []) (by decide +kernel) (by decide +kernel) (by decide +kernel) (by decide +kernel) rfl rfl (Nat.le_of_ble_eq_true rfl) (Nat.le_of_ble_eq_true rfl) rfl (by rw [show m_maxL 290 = 4 from by decide +kernel]; exact Nat.le_of_ble_eq_true rfl)).trans ?_
  exact ite_congr (by simp [a_rcv, show m_recv 290 = 11 from by decide +kernel]) (fun _ => rfl) (fun _ => rfl)
theorem B_L_law_3316 {k : Nat → Nat × Nat} {u : Nat → Nat → Int} {g : Nat → Nat → Nat} {t : Nat × Nat × Nat} {r0 : Nat} {r1 : Nat} {r2 : Nat} {r3 : Nat} {r4 : Nat} {x5 : Int} {v6 : AV} {v7 : AV} {v8 : AV} {y0 : Int} : a_X 350 3316 [a_r (r0), a_r (r1), a_r (r2), a_r (r3), a_r (r4), a_i (x5), v6, v7, v8] [a_i (y0)] (k, u, g, t) = if (k r2).1 = 11 then (a_m 291 [a_r (r2)] (k, u, g, t)).bind (a_back 350 3319 3 [a_r (r0), a_r (r1), a_r (r2), a_r (r3), a_r (r4), a_i (x5), a_i (y0), v7, v8] []) else none := by
  refine (X_istore (m := 350) (pc := 3316) (n := 6) (by decide +kernel) rfl (Nat.le_of_ble_eq_true rfl) rfl).trans ?_
  refine (X_aload_n (m := 350) (pc := 3318) (n := 2) (by decide +kernel) rfl).trans ?_
  refine (X_call_vi (m := 350) (pc := 3319) (q := 338) (y := 291) (n := 1) (as := [a_r (r2)]) (rest := []) (by decide +kernel) (by decide +kernel) (by decide +kernel) (by decide +kernel) rfl rfl (Nat.le_of_ble_eq_true rfl) (Nat.le_of_ble_eq_true rfl) rfl (by rw [show m_maxL 291 = 1 from by decide +kernel]; exact Nat.le_of_ble_eq_true rfl)).trans ?_
  exact ite_congr (by simp [a_rcv, show m_recv 291 = 11 from by decide +kernel]) (fun _ => rfl) (fun _ => rfl)
theorem B_L_law_3359 {k : Nat → Nat × Nat} {u : Nat → Nat → Int} {g : Nat → Nat → Nat} {t : Nat × Nat × Nat} {r0 : Nat} {r1 : Nat} {r2 : Nat} {r3 : Nat} {r4 : Nat} {x5 : Int} {v6 : AV} {v7 : AV} {v8 : AV} {y0 : Int} : a_X 350 3359 [a_r (r0), a_r (r1), a_r (r2), a_r (r3), a_r (r4), a_i (x5), v6, v7, v8] [a_i (y0)] (k, u, g, t) = if (k r2).1 = 11 then (a_m 292 [a_r (r2)] (k, u, g, t)).bind (a_back 350 3360 3 [a_r (r0), a_r (r1), a_r (r2), a_r (r3), a_r (r4), a_i (x5), v6, v7, v8] [a_i (y0)]) else none := by
  refine (X_aload_n (m := 350) (pc := 3359) (n := 2) (by decide +kernel) rfl).trans ?_
  refine (X_call_vi (m := 350) (pc := 3360) (q := 342) (y := 292) (n := 1) (as := [a_r (r2)]) (rest := [a_i (y0)]) (by decide +kernel) (by decide +kernel) (by decide +kernel) (by decide +kernel) rfl rfl (Nat.le_of_ble_eq_true rfl) (Nat.le_of_ble_eq_true rfl) rfl (by rw [show m_maxL 292 = 1 from by decide +kernel]; exact Nat.le_of_ble_eq_true rfl)).trans ?_
  exact ite_congr (by simp [a_rcv, show m_recv 292 = 11 from by decide +kernel]) (fun _ => rfl) (fun _ => rfl)
theorem B_L_law_3379 {k : Nat → Nat × Nat} {u : Nat → Nat → Int} {g : Nat → Nat → Nat} {t : Nat × Nat × Nat} {r0 : Nat} {r1 : Nat} {r2 : Nat} {r3 : Nat} {r4 : Nat} {x5 : Int} {v6 : AV} {v7 : AV} {v8 : AV} {y0 : Int} : a_X 350 3379 [a_r (r0), a_r (r1), a_r (r2), a_r (r3), a_r (r4), a_i (x5), v6, v7, v8] [a_i (y0)] (k, u, g, t) = if ((k r0).1 = 20 ∨ (k r0).1 = 24) ∧ 0 ≤ (wr (x5 + 1) : Int) ∧ (wr (x5 + 1) : Int) < ((k r0).2 : Int) then if (k r2).1 = 11 then (a_m 293 [a_r (r2), a_i (u r0 (wr (x5 + 1) : Int).toNat)] (k, u, g, t)).bind (a_back 350 3388 3 [a_r (r0), a_r (r1), a_r (r2), a_r (r3), a_r (r4), a_i (x5), a_i (y0), v7, v8] []) else none else none := by
  refine (X_istore (m := 350) (pc := 3379) (n := 6) (by decide +kernel) rfl (Nat.le_of_ble_eq_true rfl) rfl).trans ?_
  refine (X_aload_n (m := 350) (pc := 3381) (n := 2) (by decide +kernel) rfl).trans ?_
  refine (X_aload_n (m := 350) (pc := 3382) (n := 0) (by decide +kernel) rfl).trans ?_
  refine (X_iload (m := 350) (pc := 3383) (n := 5) (by decide +kernel) rfl).trans ?_
  refine (X_iconst (m := 350) (pc := 3385) (n := 1) (by decide +kernel) ).trans ?_
  refine (X_iadd (m := 350) (pc := 3386)  (by decide +kernel) ).trans ?_
  refine (X_iaload (m := 350) (pc := 3387)  (by decide +kernel) ).trans ?_
  refine ite_congr rfl (fun _ => ?_) (fun _ => rfl)
  refine (X_call_vi (m := 350) (pc := 3388) (q := 345) (y := 293) (n := 2) (as := [a_r (r2), a_i (u r0 (wr (x5 + 1) : Int).toNat)]) (rest := []) (by decide +kernel) (by decide +kernel) (by decide +kernel) (by decide +kernel) rfl rfl (Nat.le_of_ble_eq_true rfl) (Nat.le_of_ble_eq_true rfl) rfl (by rw [show m_maxL 293 = 2 from by decide +kernel]; exact Nat.le_of_ble_eq_true rfl)).trans ?_
  exact ite_congr (by simp [a_rcv, show m_recv 293 = 11 from by decide +kernel]) (fun _ => rfl) (fun _ => rfl)
theorem B_L_law_3435 {k : Nat → Nat × Nat} {u : Nat → Nat → Int} {g : Nat → Nat → Nat} {t : Nat × Nat × Nat} {r0 : Nat} {r1 : Nat} {r2 : Nat} {r3 : Nat} {r4 : Nat} {x5 : Int} {v6 : AV} {v7 : AV} {v8 : AV} {y0 : Int} : a_X 350 3435 [a_r (r0), a_r (r1), a_r (r2), a_r (r3), a_r (r4), a_i (x5), v6, v7, v8] [a_i (y0)] (k, u, g, t) = if ((k r0).1 = 20 ∨ (k r0).1 = 24) ∧ 0 ≤ (wr (x5 + 1) : Int) ∧ (wr (x5 + 1) : Int) < ((k r0).2 : Int) then if (k r2).1 = 11 then (a_m 294 [a_r (r2), a_i (u r0 (wr (x5 + 1) : Int).toNat)] (k, u, g, t)).bind (a_back 350 3444 3 [a_r (r0), a_r (r1), a_r (r2), a_r (r3), a_r (r4), a_i (x5), a_i (y0), v7, v8] []) else none else none := by
  refine (X_istore (m := 350) (pc := 3435) (n := 6) (by decide +kernel) rfl (Nat.le_of_ble_eq_true rfl) rfl).trans ?_
  refine (X_aload_n (m := 350) (pc := 3437) (n := 2) (by decide +kernel) rfl).trans ?_
  refine (X_aload_n (m := 350) (pc := 3438) (n := 0) (by decide +kernel) rfl).trans ?_
  refine (X_iload (m := 350) (pc := 3439) (n := 5) (by decide +kernel) rfl).trans ?_
  refine (X_iconst (m := 350) (pc := 3441) (n := 1) (by decide +kernel) ).trans ?_
  refine (X_iadd (m := 350) (pc := 3442)  (by decide +kernel) ).trans ?_
  refine (X_iaload (m := 350) (pc := 3443)  (by decide +kernel) ).trans ?_
  refine ite_congr rfl (fun _ => ?_) (fun _ => rfl)
  refine (X_call_vi (m := 350) (pc := 3444) (q := 348) (y := 294) (n := 2) (as := [a_r (r2), a_i (u r0 (wr (x5 + 1) : Int).toNat)]) (rest := []) (by decide +kernel) (by decide +kernel) (by decide +kernel) (by decide +kernel) rfl rfl (Nat.le_of_ble_eq_true rfl) (Nat.le_of_ble_eq_true rfl) rfl (by rw [show m_maxL 294 = 2 from by decide +kernel]; exact Nat.le_of_ble_eq_true rfl)).trans ?_
  exact ite_congr (by simp [a_rcv, show m_recv 294 = 11 from by decide +kernel]) (fun _ => rfl) (fun _ => rfl)
theorem B_L_law_340 {k : Nat → Nat × Nat} {u : Nat → Nat → Int} {g : Nat → Nat → Nat} {t : Nat × Nat × Nat} {r0 : Nat} {r1 : Nat} {r2 : Nat} {r3 : Nat} {r4 : Nat} {x5 : Int} {v6 : AV} {v7 : AV} {v8 : AV} {y0 : Int} {y1 : Int} : a_X 350 340 [a_r (r0), a_r (r1), a_r (r2), a_r (r3), a_r (r4), a_i (x5), v6, v7, v8] [a_i (y1), a_i (y0)] (k, u, g, t) = if (y0 : Int) = (y1 : Int) then a_X 350 28 [a_r (r0), a_r (r1), a_r (r2), a_r (r3), a_r (r4), a_i (wr (x5 + 7)), v6, v7, v8] [] (k, u, g, t) else some (.inl (some (a_i (0))), (k, u, g, t)) := by
  refine (X_ic_eq (m := 350) (pc := 340) (off := 3140) (tg := 3480) (by decide +kernel) (by decide +kernel)).trans ?_
  refine ite_congr rfl (fun _ => ?_) (fun _ => ?_)
  · refine (X_iinc (m := 350) (pc := 3480) (n := 5) (c := 7) (by decide +kernel) rfl rfl (Nat.le_of_ble_eq_true rfl) rfl).trans ?_
    refine (X_goto (m := 350) (pc := 3483) (off := -3455) (tg := 28) (by decide +kernel) (by decide +kernel)).trans ?_
    rfl
  · refine (X_iconst (m := 350) (pc := 343) (n := 0) (by decide +kernel) ).trans ?_
    exact X_ireturn (m := 350) (pc := 344) (f := 2) (by decide +kernel) (by decide +kernel) rfl
theorem B_L_law_368 {k : Nat → Nat × Nat} {u : Nat → Nat → Int} {g : Nat → Nat → Nat} {t : Nat × Nat × Nat} {r0 : Nat} {r1 : Nat} {r2 : Nat} {r3 : Nat} {r4 : Nat} {x5 : Int} {x6 : Int} {v7 : AV} {v8 : AV} {y0 : Int} : a_X 350 368 [a_r (r0), a_r (r1), a_r (r2), a_r (r3), a_r (r4), a_i (x5), a_i (x6), v7, v8] [a_i (y0)] (k, u, g, t) = if (k r2).1 = 11 then (a_m 154 [a_r (r2)] (k, u, g, t)).bind (a_back 350 371 3 [a_r (r0), a_r (r1), a_r (r2), a_r (r3), a_r (r4), a_i (x5), a_i (x6), a_i (y0), v8] []) else none := by
  refine (X_istore (m := 350) (pc := 368) (n := 7) (by decide +kernel) rfl (Nat.le_of_ble_eq_true rfl) rfl).trans ?_
  refine (X_aload_n (m := 350) (pc := 370) (n := 2) (by decide +kernel) rfl).trans ?_
  refine (X_call_vi (m := 350) (pc := 371) (q := 183) (y := 154) (n := 1) (as := [a_r (r2)]) (rest := []) (by decide +kernel) (by decide +kernel) (by decide +kernel) (by decide +kernel) rfl rfl (Nat.le_of_ble_eq_true rfl) (Nat.le_of_ble_eq_true rfl) rfl (by rw [show m_maxL 154 = 1 from by decide +kernel]; exact Nat.le_of_ble_eq_true rfl)).trans ?_
  exact ite_congr (by simp [a_rcv, show m_recv 154 = 11 from by decide +kernel]) (fun _ => rfl) (fun _ => rfl)
theorem B_L_law_409 {k : Nat → Nat × Nat} {u : Nat → Nat → Int} {g : Nat → Nat → Nat} {t : Nat × Nat × Nat} {r0 : Nat} {r1 : Nat} {r2 : Nat} {r3 : Nat} {r4 : Nat} {x5 : Int} {v6 : AV} {v7 : AV} {v8 : AV} {y0 : Int} {y1 : Int} : a_X 350 409 [a_r (r0), a_r (r1), a_r (r2), a_r (r3), a_r (r4), a_i (x5), v6, v7, v8] [a_i (y1), a_i (y0)] (k, u, g, t) = if (y0 : Int) = (y1 : Int) then a_X 350 28 [a_r (r0), a_r (r1), a_r (r2), a_r (r3), a_r (r4), a_i (wr (x5 + 7)), v6, v7, v8] [] (k, u, g, t) else some (.inl (some (a_i (0))), (k, u, g, t)) := by
  refine (X_ic_eq (m := 350) (pc := 409) (off := 3071) (tg := 3480) (by decide +kernel) (by decide +kernel)).trans ?_
  refine ite_congr rfl (fun _ => ?_) (fun _ => ?_)
  · refine (X_iinc (m := 350) (pc := 3480) (n := 5) (c := 7) (by decide +kernel) rfl rfl (Nat.le_of_ble_eq_true rfl) rfl).trans ?_
    refine (X_goto (m := 350) (pc := 3483) (off := -3455) (tg := 28) (by decide +kernel) (by decide +kernel)).trans ?_
    rfl
  · refine (X_iconst (m := 350) (pc := 412) (n := 0) (by decide +kernel) ).trans ?_
    exact X_ireturn (m := 350) (pc := 413) (f := 2) (by decide +kernel) (by decide +kernel) rfl
theorem B_L_law_422 {k : Nat → Nat × Nat} {u : Nat → Nat → Int} {g : Nat → Nat → Nat} {t : Nat × Nat × Nat} {r0 : Nat} {r1 : Nat} {r2 : Nat} {r3 : Nat} {r4 : Nat} {x5 : Int} {v6 : AV} {v7 : AV} {v8 : AV} {y0 : Int} {y1 : Int} : a_X 350 422 [a_r (r0), a_r (r1), a_r (r2), a_r (r3), a_r (r4), a_i (x5), v6, v7, v8] [a_i (y1), a_i (y0)] (k, u, g, t) = if (y0 : Int) = (y1 : Int) then a_X 350 28 [a_r (r0), a_r (r1), a_r (r2), a_r (r3), a_r (r4), a_i (wr (x5 + 7)), v6, v7, v8] [] (k, u, g, t) else some (.inl (some (a_i (0))), (k, u, g, t)) := by
  refine (X_ic_eq (m := 350) (pc := 422) (off := 3058) (tg := 3480) (by decide +kernel) (by decide +kernel)).trans ?_
  refine ite_congr rfl (fun _ => ?_) (fun _ => ?_)
  · refine (X_iinc (m := 350) (pc := 3480) (n := 5) (c := 7) (by decide +kernel) rfl rfl (Nat.le_of_ble_eq_true rfl) rfl).trans ?_
    refine (X_goto (m := 350) (pc := 3483) (off := -3455) (tg := 28) (by decide +kernel) (by decide +kernel)).trans ?_
    rfl
  · refine (X_iconst (m := 350) (pc := 425) (n := 0) (by decide +kernel) ).trans ?_
    exact X_ireturn (m := 350) (pc := 426) (f := 2) (by decide +kernel) (by decide +kernel) rfl
theorem B_L_law_435 {k : Nat → Nat × Nat} {u : Nat → Nat → Int} {g : Nat → Nat → Nat} {t : Nat × Nat × Nat} {r0 : Nat} {r1 : Nat} {r2 : Nat} {r3 : Nat} {r4 : Nat} {x5 : Int} {v6 : AV} {v7 : AV} {v8 : AV} {y0 : Int} {y1 : Int} : a_X 350 435 [a_r (r0), a_r (r1), a_r (r2), a_r (r3), a_r (r4), a_i (x5), v6, v7, v8] [a_i (y1), a_i (y0)] (k, u, g, t) = if (y0 : Int) = (y1 : Int) then a_X 350 28 [a_r (r0), a_r (r1), a_r (r2), a_r (r3), a_r (r4), a_i (wr (x5 + 7)), v6, v7, v8] [] (k, u, g, t) else some (.inl (some (a_i (0))), (k, u, g, t)) := by
  refine (X_ic_eq (m := 350) (pc := 435) (off := 3045) (tg := 3480) (by decide +kernel) (by decide +kernel)).trans ?_
  refine ite_congr rfl (fun _ => ?_) (fun _ => ?_)
  · refine (X_iinc (m := 350) (pc := 3480) (n := 5) (c := 7) (by decide +kernel) rfl rfl (Nat.le_of_ble_eq_true rfl) rfl).trans ?_
    refine (X_goto (m := 350) (pc := 3483) (off := -3455) (tg := 28) (by decide +kernel) (by decide +kernel)).trans ?_
    rfl
  · refine (X_iconst (m := 350) (pc := 438) (n := 0) (by decide +kernel) ).trans ?_
    exact X_ireturn (m := 350) (pc := 439) (f := 2) (by decide +kernel) (by decide +kernel) rfl
theorem B_L_law_463 {k : Nat → Nat × Nat} {u : Nat → Nat → Int} {g : Nat → Nat → Nat} {t : Nat × Nat × Nat} {r0 : Nat} {r1 : Nat} {r2 : Nat} {r3 : Nat} {r4 : Nat} {x5 : Int} {x6 : Int} {v7 : AV} {v8 : AV} {y0 : Int} : a_X 350 463 [a_r (r0), a_r (r1), a_r (r2), a_r (r3), a_r (r4), a_i (x5), a_i (x6), v7, v8] [a_i (y0)] (k, u, g, t) = if (k r2).1 = 11 then (a_m 154 [a_r (r2)] (k, u, g, t)).bind (a_back 350 466 3 [a_r (r0), a_r (r1), a_r (r2), a_r (r3), a_r (r4), a_i (x5), a_i (x6), a_i (y0), v8] []) else none := by
  refine (X_istore (m := 350) (pc := 463) (n := 7) (by decide +kernel) rfl (Nat.le_of_ble_eq_true rfl) rfl).trans ?_
  refine (X_aload_n (m := 350) (pc := 465) (n := 2) (by decide +kernel) rfl).trans ?_
  refine (X_call_vi (m := 350) (pc := 466) (q := 183) (y := 154) (n := 1) (as := [a_r (r2)]) (rest := []) (by decide +kernel) (by decide +kernel) (by decide +kernel) (by decide +kernel) rfl rfl (Nat.le_of_ble_eq_true rfl) (Nat.le_of_ble_eq_true rfl) rfl (by rw [show m_maxL 154 = 1 from by decide +kernel]; exact Nat.le_of_ble_eq_true rfl)).trans ?_
  exact ite_congr (by simp [a_rcv, show m_recv 154 = 11 from by decide +kernel]) (fun _ => rfl) (fun _ => rfl)
theorem B_L_law_543 {k : Nat → Nat × Nat} {u : Nat → Nat → Int} {g : Nat → Nat → Nat} {t : Nat × Nat × Nat} {r0 : Nat} {r1 : Nat} {r2 : Nat} {r3 : Nat} {r4 : Nat} {x5 : Int} {x6 : Int} {v7 : AV} {v8 : AV} {y0 : Int} : a_X 350 543 [a_r (r0), a_r (r1), a_r (r2), a_r (r3), a_r (r4), a_i (x5), a_i (x6), v7, v8] [a_i (y0)] (k, u, g, t) = if (k r2).1 = 11 then (a_m 154 [a_r (r2)] (k, u, g, t)).bind (a_back 350 546 3 [a_r (r0), a_r (r1), a_r (r2), a_r (r3), a_r (r4), a_i (x5), a_i (x6), a_i (y0), v8] []) else none := by
  refine (X_istore (m := 350) (pc := 543) (n := 7) (by decide +kernel) rfl (Nat.le_of_ble_eq_true rfl) rfl).trans ?_
  refine (X_aload_n (m := 350) (pc := 545) (n := 2) (by decide +kernel) rfl).trans ?_
  refine (X_call_vi (m := 350) (pc := 546) (q := 183) (y := 154) (n := 1) (as := [a_r (r2)]) (rest := []) (by decide +kernel) (by decide +kernel) (by decide +kernel) (by decide +kernel) rfl rfl (Nat.le_of_ble_eq_true rfl) (Nat.le_of_ble_eq_true rfl) rfl (by rw [show m_maxL 154 = 1 from by decide +kernel]; exact Nat.le_of_ble_eq_true rfl)).trans ?_
  exact ite_congr (by simp [a_rcv, show m_recv 154 = 11 from by decide +kernel]) (fun _ => rfl) (fun _ => rfl)
theorem B_L_law_611 {k : Nat → Nat × Nat} {u : Nat → Nat → Int} {g : Nat → Nat → Nat} {t : Nat × Nat × Nat} {r0 : Nat} {r1 : Nat} {r2 : Nat} {r3 : Nat} {r4 : Nat} {x5 : Int} {x6 : Int} {v7 : AV} {v8 : AV} {y0 : Int} : a_X 350 611 [a_r (r0), a_r (r1), a_r (r2), a_r (r3), a_r (r4), a_i (x5), a_i (x6), v7, v8] [a_i (y0)] (k, u, g, t) = if (k r2).1 = 11 then (a_m 154 [a_r (r2)] (k, u, g, t)).bind (a_back 350 614 3 [a_r (r0), a_r (r1), a_r (r2), a_r (r3), a_r (r4), a_i (x5), a_i (x6), a_i (y0), v8] []) else none := by
  refine (X_istore (m := 350) (pc := 611) (n := 7) (by decide +kernel) rfl (Nat.le_of_ble_eq_true rfl) rfl).trans ?_
  refine (X_aload_n (m := 350) (pc := 613) (n := 2) (by decide +kernel) rfl).trans ?_
  refine (X_call_vi (m := 350) (pc := 614) (q := 183) (y := 154) (n := 1) (as := [a_r (r2)]) (rest := []) (by decide +kernel) (by decide +kernel) (by decide +kernel) (by decide +kernel) rfl rfl (Nat.le_of_ble_eq_true rfl) (Nat.le_of_ble_eq_true rfl) rfl (by rw [show m_maxL 154 = 1 from by decide +kernel]; exact Nat.le_of_ble_eq_true rfl)).trans ?_
  exact ite_congr (by simp [a_rcv, show m_recv 154 = 11 from by decide +kernel]) (fun _ => rfl) (fun _ => rfl)
theorem B_L_law_679 {k : Nat → Nat × Nat} {u : Nat → Nat → Int} {g : Nat → Nat → Nat} {t : Nat × Nat × Nat} {r0 : Nat} {r1 : Nat} {r2 : Nat} {r3 : Nat} {r4 : Nat} {x5 : Int} {x6 : Int} {v7 : AV} {v8 : AV} {y0 : Int} : a_X 350 679 [a_r (r0), a_r (r1), a_r (r2), a_r (r3), a_r (r4), a_i (x5), a_i (x6), v7, v8] [a_i (y0)] (k, u, g, t) = if (k r2).1 = 11 then (a_m 154 [a_r (r2)] (k, u, g, t)).bind (a_back 350 682 3 [a_r (r0), a_r (r1), a_r (r2), a_r (r3), a_r (r4), a_i (x5), a_i (x6), a_i (y0), v8] []) else none := by
  refine (X_istore (m := 350) (pc := 679) (n := 7) (by decide +kernel) rfl (Nat.le_of_ble_eq_true rfl) rfl).trans ?_
  refine (X_aload_n (m := 350) (pc := 681) (n := 2) (by decide +kernel) rfl).trans ?_
  refine (X_call_vi (m := 350) (pc := 682) (q := 183) (y := 154) (n := 1) (as := [a_r (r2)]) (rest := []) (by decide +kernel) (by decide +kernel) (by decide +kernel) (by decide +kernel) rfl rfl (Nat.le_of_ble_eq_true rfl) (Nat.le_of_ble_eq_true rfl) rfl (by rw [show m_maxL 154 = 1 from by decide +kernel]; exact Nat.le_of_ble_eq_true rfl)).trans ?_
  exact ite_congr (by simp [a_rcv, show m_recv 154 = 11 from by decide +kernel]) (fun _ => rfl) (fun _ => rfl)
theorem B_L_law_747 {k : Nat → Nat × Nat} {u : Nat → Nat → Int} {g : Nat → Nat → Nat} {t : Nat × Nat × Nat} {r0 : Nat} {r1 : Nat} {r2 : Nat} {r3 : Nat} {r4 : Nat} {x5 : Int} {x6 : Int} {v7 : AV} {v8 : AV} {y0 : Int} : a_X 350 747 [a_r (r0), a_r (r1), a_r (r2), a_r (r3), a_r (r4), a_i (x5), a_i (x6), v7, v8] [a_i (y0)] (k, u, g, t) = if (k r2).1 = 11 then (a_m 154 [a_r (r2)] (k, u, g, t)).bind (a_back 350 750 3 [a_r (r0), a_r (r1), a_r (r2), a_r (r3), a_r (r4), a_i (x5), a_i (x6), a_i (y0), v8] []) else none := by
  refine (X_istore (m := 350) (pc := 747) (n := 7) (by decide +kernel) rfl (Nat.le_of_ble_eq_true rfl) rfl).trans ?_
  refine (X_aload_n (m := 350) (pc := 749) (n := 2) (by decide +kernel) rfl).trans ?_
  refine (X_call_vi (m := 350) (pc := 750) (q := 183) (y := 154) (n := 1) (as := [a_r (r2)]) (rest := []) (by decide +kernel) (by decide +kernel) (by decide +kernel) (by decide +kernel) rfl rfl (Nat.le_of_ble_eq_true rfl) (Nat.le_of_ble_eq_true rfl) rfl (by rw [show m_maxL 154 = 1 from by decide +kernel]; exact Nat.le_of_ble_eq_true rfl)).trans ?_
  exact ite_congr (by simp [a_rcv, show m_recv 154 = 11 from by decide +kernel]) (fun _ => rfl) (fun _ => rfl)
theorem B_L_law_827 {k : Nat → Nat × Nat} {u : Nat → Nat → Int} {g : Nat → Nat → Nat} {t : Nat × Nat × Nat} {r0 : Nat} {r1 : Nat} {r2 : Nat} {r3 : Nat} {r4 : Nat} {x5 : Int} {x6 : Int} {v7 : AV} {v8 : AV} {y0 : Int} : a_X 350 827 [a_r (r0), a_r (r1), a_r (r2), a_r (r3), a_r (r4), a_i (x5), a_i (x6), v7, v8] [a_i (y0)] (k, u, g, t) = if (k r2).1 = 11 then (a_m 154 [a_r (r2)] (k, u, g, t)).bind (a_back 350 830 3 [a_r (r0), a_r (r1), a_r (r2), a_r (r3), a_r (r4), a_i (x5), a_i (x6), a_i (y0), v8] []) else none := by
  refine (X_istore (m := 350) (pc := 827) (n := 7) (by decide +kernel) rfl (Nat.le_of_ble_eq_true rfl) rfl).trans ?_
  refine (X_aload_n (m := 350) (pc := 829) (n := 2) (by decide +kernel) rfl).trans ?_
  refine (X_call_vi (m := 350) (pc := 830) (q := 183) (y := 154) (n := 1) (as := [a_r (r2)]) (rest := []) (by decide +kernel) (by decide +kernel) (by decide +kernel) (by decide +kernel) rfl rfl (Nat.le_of_ble_eq_true rfl) (Nat.le_of_ble_eq_true rfl) rfl (by rw [show m_maxL 154 = 1 from by decide +kernel]; exact Nat.le_of_ble_eq_true rfl)).trans ?_
  exact ite_congr (by simp [a_rcv, show m_recv 154 = 11 from by decide +kernel]) (fun _ => rfl) (fun _ => rfl)
theorem B_L_law_907 {k : Nat → Nat × Nat} {u : Nat → Nat → Int} {g : Nat → Nat → Nat} {t : Nat × Nat × Nat} {r0 : Nat} {r1 : Nat} {r2 : Nat} {r3 : Nat} {r4 : Nat} {x5 : Int} {x6 : Int} {v7 : AV} {v8 : AV} {y0 : Int} : a_X 350 907 [a_r (r0), a_r (r1), a_r (r2), a_r (r3), a_r (r4), a_i (x5), a_i (x6), v7, v8] [a_i (y0)] (k, u, g, t) = if (k r2).1 = 11 then (a_m 154 [a_r (r2)] (k, u, g, t)).bind (a_back 350 910 3 [a_r (r0), a_r (r1), a_r (r2), a_r (r3), a_r (r4), a_i (x5), a_i (x6), a_i (y0), v8] []) else none := by
  refine (X_istore (m := 350) (pc := 907) (n := 7) (by decide +kernel) rfl (Nat.le_of_ble_eq_true rfl) rfl).trans ?_
  refine (X_aload_n (m := 350) (pc := 909) (n := 2) (by decide +kernel) rfl).trans ?_
  refine (X_call_vi (m := 350) (pc := 910) (q := 183) (y := 154) (n := 1) (as := [a_r (r2)]) (rest := []) (by decide +kernel) (by decide +kernel) (by decide +kernel) (by decide +kernel) rfl rfl (Nat.le_of_ble_eq_true rfl) (Nat.le_of_ble_eq_true rfl) rfl (by rw [show m_maxL 154 = 1 from by decide +kernel]; exact Nat.le_of_ble_eq_true rfl)).trans ?_
  exact ite_congr (by simp [a_rcv, show m_recv 154 = 11 from by decide +kernel]) (fun _ => rfl) (fun _ => rfl)
theorem B_L_law_963 {k : Nat → Nat × Nat} {u : Nat → Nat → Int} {g : Nat → Nat → Nat} {t : Nat × Nat × Nat} {r0 : Nat} {r1 : Nat} {r2 : Nat} {r3 : Nat} {r4 : Nat} {x5 : Int} {x6 : Int} {v7 : AV} {v8 : AV} {y0 : Int} : a_X 350 963 [a_r (r0), a_r (r1), a_r (r2), a_r (r3), a_r (r4), a_i (x5), a_i (x6), v7, v8] [a_i (y0)] (k, u, g, t) = if (k r2).1 = 11 then (a_m 154 [a_r (r2)] (k, u, g, t)).bind (a_back 350 966 3 [a_r (r0), a_r (r1), a_r (r2), a_r (r3), a_r (r4), a_i (x5), a_i (x6), a_i (y0), v8] []) else none := by
  refine (X_istore (m := 350) (pc := 963) (n := 7) (by decide +kernel) rfl (Nat.le_of_ble_eq_true rfl) rfl).trans ?_
  refine (X_aload_n (m := 350) (pc := 965) (n := 2) (by decide +kernel) rfl).trans ?_
  refine (X_call_vi (m := 350) (pc := 966) (q := 183) (y := 154) (n := 1) (as := [a_r (r2)]) (rest := []) (by decide +kernel) (by decide +kernel) (by decide +kernel) (by decide +kernel) rfl rfl (Nat.le_of_ble_eq_true rfl) (Nat.le_of_ble_eq_true rfl) rfl (by rw [show m_maxL 154 = 1 from by decide +kernel]; exact Nat.le_of_ble_eq_true rfl)).trans ?_
  exact ite_congr (by simp [a_rcv, show m_recv 154 = 11 from by decide +kernel]) (fun _ => rfl) (fun _ => rfl)
theorem B_L_law_1031 {k : Nat → Nat × Nat} {u : Nat → Nat → Int} {g : Nat → Nat → Nat} {t : Nat × Nat × Nat} {r0 : Nat} {r1 : Nat} {r2 : Nat} {r3 : Nat} {r4 : Nat} {x5 : Int} {x6 : Int} {v7 : AV} {v8 : AV} {y0 : Int} : a_X 350 1031 [a_r (r0), a_r (r1), a_r (r2), a_r (r3), a_r (r4), a_i (x5), a_i (x6), v7, v8] [a_i (y0)] (k, u, g, t) = if (k r2).1 = 11 then (a_m 154 [a_r (r2)] (k, u, g, t)).bind (a_back 350 1034 3 [a_r (r0), a_r (r1), a_r (r2), a_r (r3), a_r (r4), a_i (x5), a_i (x6), a_i (y0), v8] []) else none := by
  refine (X_istore (m := 350) (pc := 1031) (n := 7) (by decide +kernel) rfl (Nat.le_of_ble_eq_true rfl) rfl).trans ?_
  refine (X_aload_n (m := 350) (pc := 1033) (n := 2) (by decide +kernel) rfl).trans ?_
  refine (X_call_vi (m := 350) (pc := 1034) (q := 183) (y := 154) (n := 1) (as := [a_r (r2)]) (rest := []) (by decide +kernel) (by decide +kernel) (by decide +kernel) (by decide +kernel) rfl rfl (Nat.le_of_ble_eq_true rfl) (Nat.le_of_ble_eq_true rfl) rfl (by rw [show m_maxL 154 = 1 from by decide +kernel]; exact Nat.le_of_ble_eq_true rfl)).trans ?_
  exact ite_congr (by simp [a_rcv, show m_recv 154 = 11 from by decide +kernel]) (fun _ => rfl) (fun _ => rfl)
theorem B_L_law_1123 {k : Nat → Nat × Nat} {u : Nat → Nat → Int} {g : Nat → Nat → Nat} {t : Nat × Nat × Nat} {r0 : Nat} {r1 : Nat} {r2 : Nat} {r3 : Nat} {r4 : Nat} {x5 : Int} {x6 : Int} {v7 : AV} {v8 : AV} {y0 : Int} : a_X 350 1123 [a_r (r0), a_r (r1), a_r (r2), a_r (r3), a_r (r4), a_i (x5), a_i (x6), v7, v8] [a_i (y0)] (k, u, g, t) = if (k r2).1 = 11 then (a_m 154 [a_r (r2)] (k, u, g, t)).bind (a_back 350 1126 3 [a_r (r0), a_r (r1), a_r (r2), a_r (r3), a_r (r4), a_i (x5), a_i (x6), a_i (y0), v8] []) else none := by
  refine (X_istore (m := 350) (pc := 1123) (n := 7) (by decide +kernel) rfl (Nat.le_of_ble_eq_true rfl) rfl).trans ?_
  refine (X_aload_n (m := 350) (pc := 1125) (n := 2) (by decide +kernel) rfl).trans ?_
  refine (X_call_vi (m := 350) (pc := 1126) (q := 183) (y := 154) (n := 1) (as := [a_r (r2)]) (rest := []) (by decide +kernel) (by decide +kernel) (by decide +kernel) (by decide +kernel) rfl rfl (Nat.le_of_ble_eq_true rfl) (Nat.le_of_ble_eq_true rfl) rfl (by rw [show m_maxL 154 = 1 from by decide +kernel]; exact Nat.le_of_ble_eq_true rfl)).trans ?_
  exact ite_congr (by simp [a_rcv, show m_recv 154 = 11 from by decide +kernel]) (fun _ => rfl) (fun _ => rfl)
theorem B_L_law_1191 {k : Nat → Nat × Nat} {u : Nat → Nat → Int} {g : Nat → Nat → Nat} {t : Nat × Nat × Nat} {r0 : Nat} {r1 : Nat} {r2 : Nat} {r3 : Nat} {r4 : Nat} {x5 : Int} {x6 : Int} {v7 : AV} {v8 : AV} {y0 : Int} : a_X 350 1191 [a_r (r0), a_r (r1), a_r (r2), a_r (r3), a_r (r4), a_i (x5), a_i (x6), v7, v8] [a_i (y0)] (k, u, g, t) = if (k r2).1 = 11 then (a_m 154 [a_r (r2)] (k, u, g, t)).bind (a_back 350 1194 3 [a_r (r0), a_r (r1), a_r (r2), a_r (r3), a_r (r4), a_i (x5), a_i (x6), a_i (y0), v8] []) else none := by
  refine (X_istore (m := 350) (pc := 1191) (n := 7) (by decide +kernel) rfl (Nat.le_of_ble_eq_true rfl) rfl).trans ?_
  refine (X_aload_n (m := 350) (pc := 1193) (n := 2) (by decide +kernel) rfl).trans ?_
  refine (X_call_vi (m := 350) (pc := 1194) (q := 183) (y := 154) (n := 1) (as := [a_r (r2)]) (rest := []) (by decide +kernel) (by decide +kernel) (by decide +kernel) (by decide +kernel) rfl rfl (Nat.le_of_ble_eq_true rfl) (Nat.le_of_ble_eq_true rfl) rfl (by rw [show m_maxL 154 = 1 from by decide +kernel]; exact Nat.le_of_ble_eq_true rfl)).trans ?_
  exact ite_congr (by simp [a_rcv, show m_recv 154 = 11 from by decide +kernel]) (fun _ => rfl) (fun _ => rfl)
theorem B_L_law_1271 {k : Nat → Nat × Nat} {u : Nat → Nat → Int} {g : Nat → Nat → Nat} {t : Nat × Nat × Nat} {r0 : Nat} {r1 : Nat} {r2 : Nat} {r3 : Nat} {r4 : Nat} {x5 : Int} {x6 : Int} {v7 : AV} {v8 : AV} {y0 : Int} : a_X 350 1271 [a_r (r0), a_r (r1), a_r (r2), a_r (r3), a_r (r4), a_i (x5), a_i (x6), v7, v8] [a_i (y0)] (k, u, g, t) = if (k r2).1 = 11 then (a_m 154 [a_r (r2)] (k, u, g, t)).bind (a_back 350 1274 3 [a_r (r0), a_r (r1), a_r (r2), a_r (r3), a_r (r4), a_i (x5), a_i (x6), a_i (y0), v8] []) else none := by
  refine (X_istore (m := 350) (pc := 1271) (n := 7) (by decide +kernel) rfl (Nat.le_of_ble_eq_true rfl) rfl).trans ?_
  refine (X_aload_n (m := 350) (pc := 1273) (n := 2) (by decide +kernel) rfl).trans ?_
  refine (X_call_vi (m := 350) (pc := 1274) (q := 183) (y := 154) (n := 1) (as := [a_r (r2)]) (rest := []) (by decide +kernel) (by decide +kernel) (by decide +kernel) (by decide +kernel) rfl rfl (Nat.le_of_ble_eq_true rfl) (Nat.le_of_ble_eq_true rfl) rfl (by rw [show m_maxL 154 = 1 from by decide +kernel]; exact Nat.le_of_ble_eq_true rfl)).trans ?_
  exact ite_congr (by simp [a_rcv, show m_recv 154 = 11 from by decide +kernel]) (fun _ => rfl) (fun _ => rfl)
theorem B_L_law_1339 {k : Nat → Nat × Nat} {u : Nat → Nat → Int} {g : Nat → Nat → Nat} {t : Nat × Nat × Nat} {r0 : Nat} {r1 : Nat} {r2 : Nat} {r3 : Nat} {r4 : Nat} {x5 : Int} {x6 : Int} {v7 : AV} {v8 : AV} {y0 : Int} : a_X 350 1339 [a_r (r0), a_r (r1), a_r (r2), a_r (r3), a_r (r4), a_i (x5), a_i (x6), v7, v8] [a_i (y0)] (k, u, g, t) = if (k r2).1 = 11 then (a_m 154 [a_r (r2)] (k, u, g, t)).bind (a_back 350 1342 3 [a_r (r0), a_r (r1), a_r (r2), a_r (r3), a_r (r4), a_i (x5), a_i (x6), a_i (y0), v8] []) else none := by
  refine (X_istore (m := 350) (pc := 1339) (n := 7) (by decide +kernel) rfl (Nat.le_of_ble_eq_true rfl) rfl).trans ?_
  refine (X_aload_n (m := 350) (pc := 1341) (n := 2) (by decide +kernel) rfl).trans ?_
  refine (X_call_vi (m := 350) (pc := 1342) (q := 183) (y := 154) (n := 1) (as := [a_r (r2)]) (rest := []) (by decide +kernel) (by decide +kernel) (by decide +kernel) (by decide +kernel) rfl rfl (Nat.le_of_ble_eq_true rfl) (Nat.le_of_ble_eq_true rfl) rfl (by rw [show m_maxL 154 = 1 from by decide +kernel]; exact Nat.le_of_ble_eq_true rfl)).trans ?_
  exact ite_congr (by simp [a_rcv, show m_recv 154 = 11 from by decide +kernel]) (fun _ => rfl) (fun _ => rfl)
theorem B_L_law_1414 {k : Nat → Nat × Nat} {u : Nat → Nat → Int} {g : Nat → Nat → Nat} {t : Nat × Nat × Nat} {r0 : Nat} {r1 : Nat} {r2 : Nat} {r3 : Nat} {r4 : Nat} {x5 : Int} {x6 : Int} {v7 : AV} {v8 : AV} {y0 : Int} : a_X 350 1414 [a_r (r0), a_r (r1), a_r (r2), a_r (r3), a_r (r4), a_i (x5), a_i (x6), v7, v8] [a_i (y0)] (k, u, g, t) = if (k r2).1 = 11 then (a_m 154 [a_r (r2)] (k, u, g, t)).bind (a_back 350 1417 3 [a_r (r0), a_r (r1), a_r (r2), a_r (r3), a_r (r4), a_i (x5), a_i (x6), a_i (y0), v8] []) else none := by
  refine (X_istore (m := 350) (pc := 1414) (n := 7) (by decide +kernel) rfl (Nat.le_of_ble_eq_true rfl) rfl).trans ?_
  refine (X_aload_n (m := 350) (pc := 1416) (n := 2) (by decide +kernel) rfl).trans ?_
  refine (X_call_vi (m := 350) (pc := 1417) (q := 183) (y := 154) (n := 1) (as := [a_r (r2)]) (rest := []) (by decide +kernel) (by decide +kernel) (by decide +kernel) (by decide +kernel) rfl rfl (Nat.le_of_ble_eq_true rfl) (Nat.le_of_ble_eq_true rfl) rfl (by rw [show m_maxL 154 = 1 from by decide +kernel]; exact Nat.le_of_ble_eq_true rfl)).trans ?_
  exact ite_congr (by simp [a_rcv, show m_recv 154 = 11 from by decide +kernel]) (fun _ => rfl) (fun _ => rfl)
theorem B_L_law_1482 {k : Nat → Nat × Nat} {u : Nat → Nat → Int} {g : Nat → Nat → Nat} {t : Nat × Nat × Nat} {r0 : Nat} {r1 : Nat} {r2 : Nat} {r3 : Nat} {r4 : Nat} {x5 : Int} {x6 : Int} {v7 : AV} {v8 : AV} {y0 : Int} : a_X 350 1482 [a_r (r0), a_r (r1), a_r (r2), a_r (r3), a_r (r4), a_i (x5), a_i (x6), v7, v8] [a_i (y0)] (k, u, g, t) = if (k r2).1 = 11 then (a_m 154 [a_r (r2)] (k, u, g, t)).bind (a_back 350 1485 3 [a_r (r0), a_r (r1), a_r (r2), a_r (r3), a_r (r4), a_i (x5), a_i (x6), a_i (y0), v8] []) else none := by
  refine (X_istore (m := 350) (pc := 1482) (n := 7) (by decide +kernel) rfl (Nat.le_of_ble_eq_true rfl) rfl).trans ?_
  refine (X_aload_n (m := 350) (pc := 1484) (n := 2) (by decide +kernel) rfl).trans ?_
  refine (X_call_vi (m := 350) (pc := 1485) (q := 183) (y := 154) (n := 1) (as := [a_r (r2)]) (rest := []) (by decide +kernel) (by decide +kernel) (by decide +kernel) (by decide +kernel) rfl rfl (Nat.le_of_ble_eq_true rfl) (Nat.le_of_ble_eq_true rfl) rfl (by rw [show m_maxL 154 = 1 from by decide +kernel]; exact Nat.le_of_ble_eq_true rfl)).trans ?_
  exact ite_congr (by simp [a_rcv, show m_recv 154 = 11 from by decide +kernel]) (fun _ => rfl) (fun _ => rfl)
theorem B_L_law_1545 {k : Nat → Nat × Nat} {u : Nat → Nat → Int} {g : Nat → Nat → Nat} {t : Nat × Nat × Nat} {r0 : Nat} {r1 : Nat} {r2 : Nat} {r3 : Nat} {r4 : Nat} {x5 : Int} {x6 : Int} {v7 : AV} {v8 : AV} {y0 : Int} : a_X 350 1545 [a_r (r0), a_r (r1), a_r (r2), a_r (r3), a_r (r4), a_i (x5), a_i (x6), v7, v8] [a_i (y0)] (k, u, g, t) = if (k r2).1 = 11 then (a_m 154 [a_r (r2)] (k, u, g, t)).bind (a_back 350 1548 3 [a_r (r0), a_r (r1), a_r (r2), a_r (r3), a_r (r4), a_i (x5), a_i (x6), a_i (y0), v8] []) else none := by
  refine (X_istore (m := 350) (pc := 1545) (n := 7) (by decide +kernel) rfl (Nat.le_of_ble_eq_true rfl) rfl).trans ?_
  refine (X_aload_n (m := 350) (pc := 1547) (n := 2) (by decide +kernel) rfl).trans ?_
  refine (X_call_vi (m := 350) (pc := 1548) (q := 183) (y := 154) (n := 1) (as := [a_r (r2)]) (rest := []) (by decide +kernel) (by decide +kernel) (by decide +kernel) (by decide +kernel) rfl rfl (Nat.le_of_ble_eq_true rfl) (Nat.le_of_ble_eq_true rfl) rfl (by rw [show m_maxL 154 = 1 from by decide +kernel]; exact Nat.le_of_ble_eq_true rfl)).trans ?_
  exact ite_congr (by simp [a_rcv, show m_recv 154 = 11 from by decide +kernel]) (fun _ => rfl) (fun _ => rfl)
theorem B_L_law_1589 {k : Nat → Nat × Nat} {u : Nat → Nat → Int} {g : Nat → Nat → Nat} {t : Nat × Nat × Nat} {r0 : Nat} {r1 : Nat} {r2 : Nat} {r3 : Nat} {r4 : Nat} {x5 : Int} {x6 : Int} {v7 : AV} {v8 : AV} {y0 : Int} : a_X 350 1589 [a_r (r0), a_r (r1), a_r (r2), a_r (r3), a_r (r4), a_i (x5), a_i (x6), v7, v8] [a_i (y0)] (k, u, g, t) = if (k r2).1 = 11 then (a_m 154 [a_r (r2)] (k, u, g, t)).bind (a_back 350 1592 3 [a_r (r0), a_r (r1), a_r (r2), a_r (r3), a_r (r4), a_i (x5), a_i (x6), a_i (y0), v8] []) else none := by
  refine (X_istore (m := 350) (pc := 1589) (n := 7) (by decide +kernel) rfl (Nat.le_of_ble_eq_true rfl) rfl).trans ?_
  refine (X_aload_n (m := 350) (pc := 1591) (n := 2) (by decide +kernel) rfl).trans ?_
  refine (X_call_vi (m := 350) (pc := 1592) (q := 183) (y := 154) (n := 1) (as := [a_r (r2)]) (rest := []) (by decide +kernel) (by decide +kernel) (by decide +kernel) (by decide +kernel) rfl rfl (Nat.le_of_ble_eq_true rfl) (Nat.le_of_ble_eq_true rfl) rfl (by rw [show m_maxL 154 = 1 from by decide +kernel]; exact Nat.le_of_ble_eq_true rfl)).trans ?_
  exact ite_congr (by simp [a_rcv, show m_recv 154 = 11 from by decide +kernel]) (fun _ => rfl) (fun _ => rfl)
theorem B_L_law_1645 {k : Nat → Nat × Nat} {u : Nat → Nat → Int} {g : Nat → Nat → Nat} {t : Nat × Nat × Nat} {r0 : Nat} {r1 : Nat} {r2 : Nat} {r3 : Nat} {r4 : Nat} {x5 : Int} {x6 : Int} {v7 : AV} {v8 : AV} {y0 : Int} : a_X 350 1645 [a_r (r0), a_r (r1), a_r (r2), a_r (r3), a_r (r4), a_i (x5), a_i (x6), v7, v8] [a_i (y0)] (k, u, g, t) = if (k r2).1 = 11 then (a_m 154 [a_r (r2)] (k, u, g, t)).bind (a_back 350 1648 3 [a_r (r0), a_r (r1), a_r (r2), a_r (r3), a_r (r4), a_i (x5), a_i (x6), a_i (y0), v8] []) else none := by
  refine (X_istore (m := 350) (pc := 1645) (n := 7) (by decide +kernel) rfl (Nat.le_of_ble_eq_true rfl) rfl).trans ?_
  refine (X_aload_n (m := 350) (pc := 1647) (n := 2) (by decide +kernel) rfl).trans ?_
  refine (X_call_vi (m := 350) (pc := 1648) (q := 183) (y := 154) (n := 1) (as := [a_r (r2)]) (rest := []) (by decide +kernel) (by decide +kernel) (by decide +kernel) (by decide +kernel) rfl rfl (Nat.le_of_ble_eq_true rfl) (Nat.le_of_ble_eq_true rfl) rfl (by rw [show m_maxL 154 = 1 from by decide +kernel]; exact Nat.le_of_ble_eq_true rfl)).trans ?_
  exact ite_congr (by simp [a_rcv, show m_recv 154 = 11 from by decide +kernel]) (fun _ => rfl) (fun _ => rfl)
theorem B_L_law_1701 {k : Nat → Nat × Nat} {u : Nat → Nat → Int} {g : Nat → Nat → Nat} {t : Nat × Nat × Nat} {r0 : Nat} {r1 : Nat} {r2 : Nat} {r3 : Nat} {r4 : Nat} {x5 : Int} {x6 : Int} {v7 : AV} {v8 : AV} {y0 : Int} : a_X 350 1701 [a_r (r0), a_r (r1), a_r (r2), a_r (r3), a_r (r4), a_i (x5), a_i (x6), v7, v8] [a_i (y0)] (k, u, g, t) = if (k r2).1 = 11 then (a_m 154 [a_r (r2)] (k, u, g, t)).bind (a_back 350 1704 3 [a_r (r0), a_r (r1), a_r (r2), a_r (r3), a_r (r4), a_i (x5), a_i (x6), a_i (y0), v8] []) else none := by
  refine (X_istore (m := 350) (pc := 1701) (n := 7) (by decide +kernel) rfl (Nat.le_of_ble_eq_true rfl) rfl).trans ?_
  refine (X_aload_n (m := 350) (pc := 1703) (n := 2) (by decide +kernel) rfl).trans ?_
  refine (X_call_vi (m := 350) (pc := 1704) (q := 183) (y := 154) (n := 1) (as := [a_r (r2)]) (rest := []) (by decide +kernel) (by decide +kernel) (by decide +kernel) (by decide +kernel) rfl rfl (Nat.le_of_ble_eq_true rfl) (Nat.le_of_ble_eq_true rfl) rfl (by rw [show m_maxL 154 = 1 from by decide +kernel]; exact Nat.le_of_ble_eq_true rfl)).trans ?_
  exact ite_congr (by simp [a_rcv, show m_recv 154 = 11 from by decide +kernel]) (fun _ => rfl) (fun _ => rfl)
theorem B_L_law_1757 {k : Nat → Nat × Nat} {u : Nat → Nat → Int} {g : Nat → Nat → Nat} {t : Nat × Nat × Nat} {r0 : Nat} {r1 : Nat} {r2 : Nat} {r3 : Nat} {r4 : Nat} {x5 : Int} {x6 : Int} {v7 : AV} {v8 : AV} {y0 : Int} : a_X 350 1757 [a_r (r0), a_r (r1), a_r (r2), a_r (r3), a_r (r4), a_i (x5), a_i (x6), v7, v8] [a_i (y0)] (k, u, g, t) = if (k r2).1 = 11 then (a_m 154 [a_r (r2)] (k, u, g, t)).bind (a_back 350 1760 3 [a_r (r0), a_r (r1), a_r (r2), a_r (r3), a_r (r4), a_i (x5), a_i (x6), a_i (y0), v8] []) else none := by
  refine (X_istore (m := 350) (pc := 1757) (n := 7) (by decide +kernel) rfl (Nat.le_of_ble_eq_true rfl) rfl).trans ?_
  refine (X_aload_n (m := 350) (pc := 1759) (n := 2) (by decide +kernel) rfl).trans ?_
  refine (X_call_vi (m := 350) (pc := 1760) (q := 183) (y := 154) (n := 1) (as := [a_r (r2)]) (rest := []) (by decide +kernel) (by decide +kernel) (by decide +kernel) (by decide +kernel) rfl rfl (Nat.le_of_ble_eq_true rfl) (Nat.le_of_ble_eq_true rfl) rfl (by rw [show m_maxL 154 = 1 from by decide +kernel]; exact Nat.le_of_ble_eq_true rfl)).trans ?_
  exact ite_congr (by simp [a_rcv, show m_recv 154 = 11 from by decide +kernel]) (fun _ => rfl) (fun _ => rfl)
theorem B_L_law_1801 {k : Nat → Nat × Nat} {u : Nat → Nat → Int} {g : Nat → Nat → Nat} {t : Nat × Nat × Nat} {r0 : Nat} {r1 : Nat} {r2 : Nat} {r3 : Nat} {r4 : Nat} {x5 : Int} {x6 : Int} {v7 : AV} {v8 : AV} {y0 : Int} : a_X 350 1801 [a_r (r0), a_r (r1), a_r (r2), a_r (r3), a_r (r4), a_i (x5), a_i (x6), v7, v8] [a_i (y0)] (k, u, g, t) = if (k r2).1 = 11 then (a_m 154 [a_r (r2)] (k, u, g, t)).bind (a_back 350 1804 3 [a_r (r0), a_r (r1), a_r (r2), a_r (r3), a_r (r4), a_i (x5), a_i (x6), a_i (y0), v8] []) else none := by
  refine (X_istore (m := 350) (pc := 1801) (n := 7) (by decide +kernel) rfl (Nat.le_of_ble_eq_true rfl) rfl).trans ?_
  refine (X_aload_n (m := 350) (pc := 1803) (n := 2) (by decide +kernel) rfl).trans ?_
  refine (X_call_vi (m := 350) (pc := 1804) (q := 183) (y := 154) (n := 1) (as := [a_r (r2)]) (rest := []) (by decide +kernel) (by decide +kernel) (by decide +kernel) (by decide +kernel) rfl rfl (Nat.le_of_ble_eq_true rfl) (Nat.le_of_ble_eq_true rfl) rfl (by rw [show m_maxL 154 = 1 from by decide +kernel]; exact Nat.le_of_ble_eq_true rfl)).trans ?_
  exact ite_congr (by simp [a_rcv, show m_recv 154 = 11 from by decide +kernel]) (fun _ => rfl) (fun _ => rfl)
theorem B_L_law_1869 {k : Nat → Nat × Nat} {u : Nat → Nat → Int} {g : Nat → Nat → Nat} {t : Nat × Nat × Nat} {r0 : Nat} {r1 : Nat} {r2 : Nat} {r3 : Nat} {r4 : Nat} {x5 : Int} {x6 : Int} {v7 : AV} {v8 : AV} {y0 : Int} : a_X 350 1869 [a_r (r0), a_r (r1), a_r (r2), a_r (r3), a_r (r4), a_i (x5), a_i (x6), v7, v8] [a_i (y0)] (k, u, g, t) = if (k r2).1 = 11 then (a_m 154 [a_r (r2)] (k, u, g, t)).bind (a_back 350 1872 3 [a_r (r0), a_r (r1), a_r (r2), a_r (r3), a_r (r4), a_i (x5), a_i (x6), a_i (y0), v8] []) else none := by
  refine (X_istore (m := 350) (pc := 1869) (n := 7) (by decide +kernel) rfl (Nat.le_of_ble_eq_true rfl) rfl).trans ?_
  refine (X_aload_n (m := 350) (pc := 1871) (n := 2) (by decide +kernel) rfl).trans ?_
  refine (X_call_vi (m := 350) (pc := 1872) (q := 183) (y := 154) (n := 1) (as := [a_r (r2)]) (rest := []) (by decide +kernel) (by decide +kernel) (by decide +kernel) (by decide +kernel) rfl rfl (Nat.le_of_ble_eq_true rfl) (Nat.le_of_ble_eq_true rfl) rfl (by rw [show m_maxL 154 = 1 from by decide +kernel]; exact Nat.le_of_ble_eq_true rfl)).trans ?_
  exact ite_congr (by simp [a_rcv, show m_recv 154 = 11 from by decide +kernel]) (fun _ => rfl) (fun _ => rfl)
theorem B_L_law_1937 {k : Nat → Nat × Nat} {u : Nat → Nat → Int} {g : Nat → Nat → Nat} {t : Nat × Nat × Nat} {r0 : Nat} {r1 : Nat} {r2 : Nat} {r3 : Nat} {r4 : Nat} {x5 : Int} {x6 : Int} {v7 : AV} {v8 : AV} {y0 : Int} : a_X 350 1937 [a_r (r0), a_r (r1), a_r (r2), a_r (r3), a_r (r4), a_i (x5), a_i (x6), v7, v8] [a_i (y0)] (k, u, g, t) = if (k r2).1 = 11 then (a_m 154 [a_r (r2)] (k, u, g, t)).bind (a_back 350 1940 3 [a_r (r0), a_r (r1), a_r (r2), a_r (r3), a_r (r4), a_i (x5), a_i (x6), a_i (y0), v8] []) else none := by
  refine (X_istore (m := 350) (pc := 1937) (n := 7) (by decide +kernel) rfl (Nat.le_of_ble_eq_true rfl) rfl).trans ?_
  refine (X_aload_n (m := 350) (pc := 1939) (n := 2) (by decide +kernel) rfl).trans ?_
  refine (X_call_vi (m := 350) (pc := 1940) (q := 183) (y := 154) (n := 1) (as := [a_r (r2)]) (rest := []) (by decide +kernel) (by decide +kernel) (by decide +kernel) (by decide +kernel) rfl rfl (Nat.le_of_ble_eq_true rfl) (Nat.le_of_ble_eq_true rfl) rfl (by rw [show m_maxL 154 = 1 from by decide +kernel]; exact Nat.le_of_ble_eq_true rfl)).trans ?_
  exact ite_congr (by simp [a_rcv, show m_recv 154 = 11 from by decide +kernel]) (fun _ => rfl) (fun _ => rfl)
theorem B_L_law_2005 {k : Nat → Nat × Nat} {u : Nat → Nat → Int} {g : Nat → Nat → Nat} {t : Nat × Nat × Nat} {r0 : Nat} {r1 : Nat} {r2 : Nat} {r3 : Nat} {r4 : Nat} {x5 : Int} {x6 : Int} {v7 : AV} {v8 : AV} {y0 : Int} : a_X 350 2005 [a_r (r0), a_r (r1), a_r (r2), a_r (r3), a_r (r4), a_i (x5), a_i (x6), v7, v8] [a_i (y0)] (k, u, g, t) = if (k r2).1 = 11 then (a_m 154 [a_r (r2)] (k, u, g, t)).bind (a_back 350 2008 3 [a_r (r0), a_r (r1), a_r (r2), a_r (r3), a_r (r4), a_i (x5), a_i (x6), a_i (y0), v8] []) else none := by
  refine (X_istore (m := 350) (pc := 2005) (n := 7) (by decide +kernel) rfl (Nat.le_of_ble_eq_true rfl) rfl).trans ?_
  refine (X_aload_n (m := 350) (pc := 2007) (n := 2) (by decide +kernel) rfl).trans ?_
  refine (X_call_vi (m := 350) (pc := 2008) (q := 183) (y := 154) (n := 1) (as := [a_r (r2)]) (rest := []) (by decide +kernel) (by decide +kernel) (by decide +kernel) (by decide +kernel) rfl rfl (Nat.le_of_ble_eq_true rfl) (Nat.le_of_ble_eq_true rfl) rfl (by rw [show m_maxL 154 = 1 from by decide +kernel]; exact Nat.le_of_ble_eq_true rfl)).trans ?_
  exact ite_congr (by simp [a_rcv, show m_recv 154 = 11 from by decide +kernel]) (fun _ => rfl) (fun _ => rfl)
theorem B_L_law_2049 {k : Nat → Nat × Nat} {u : Nat → Nat → Int} {g : Nat → Nat → Nat} {t : Nat × Nat × Nat} {r0 : Nat} {r1 : Nat} {r2 : Nat} {r3 : Nat} {r4 : Nat} {x5 : Int} {x6 : Int} {v7 : AV} {v8 : AV} {y0 : Int} : a_X 350 2049 [a_r (r0), a_r (r1), a_r (r2), a_r (r3), a_r (r4), a_i (x5), a_i (x6), v7, v8] [a_i (y0)] (k, u, g, t) = if (k r2).1 = 11 then (a_m 154 [a_r (r2)] (k, u, g, t)).bind (a_back 350 2052 3 [a_r (r0), a_r (r1), a_r (r2), a_r (r3), a_r (r4), a_i (x5), a_i (x6), a_i (y0), v8] []) else none := by
  refine (X_istore (m := 350) (pc := 2049) (n := 7) (by decide +kernel) rfl (Nat.le_of_ble_eq_true rfl) rfl).trans ?_
  refine (X_aload_n (m := 350) (pc := 2051) (n := 2) (by decide +kernel) rfl).trans ?_
  refine (X_call_vi (m := 350) (pc := 2052) (q := 183) (y := 154) (n := 1) (as := [a_r (r2)]) (rest := []) (by decide +kernel) (by decide +kernel) (by decide +kernel) (by decide +kernel) rfl rfl (Nat.le_of_ble_eq_true rfl) (Nat.le_of_ble_eq_true rfl) rfl (by rw [show m_maxL 154 = 1 from by decide +kernel]; exact Nat.le_of_ble_eq_true rfl)).trans ?_
  exact ite_congr (by simp [a_rcv, show m_recv 154 = 11 from by decide +kernel]) (fun _ => rfl) (fun _ => rfl)
theorem B_L_law_2093 {k : Nat → Nat × Nat} {u : Nat → Nat → Int} {g : Nat → Nat → Nat} {t : Nat × Nat × Nat} {r0 : Nat} {r1 : Nat} {r2 : Nat} {r3 : Nat} {r4 : Nat} {x5 : Int} {x6 : Int} {v7 : AV} {v8 : AV} {y0 : Int} : a_X 350 2093 [a_r (r0), a_r (r1), a_r (r2), a_r (r3), a_r (r4), a_i (x5), a_i (x6), v7, v8] [a_i (y0)] (k, u, g, t) = if (k r2).1 = 11 then (a_m 154 [a_r (r2)] (k, u, g, t)).bind (a_back 350 2096 3 [a_r (r0), a_r (r1), a_r (r2), a_r (r3), a_r (r4), a_i (x5), a_i (x6), a_i (y0), v8] []) else none := by
  refine (X_istore (m := 350) (pc := 2093) (n := 7) (by decide +kernel) rfl (Nat.le_of_ble_eq_true rfl) rfl).trans ?_
  refine (X_aload_n (m := 350) (pc := 2095) (n := 2) (by decide +kernel) rfl).trans ?_
  refine (X_call_vi (m := 350) (pc := 2096) (q := 183) (y := 154) (n := 1) (as := [a_r (r2)]) (rest := []) (by decide +kernel) (by decide +kernel) (by decide +kernel) (by decide +kernel) rfl rfl (Nat.le_of_ble_eq_true rfl) (Nat.le_of_ble_eq_true rfl) rfl (by rw [show m_maxL 154 = 1 from by decide +kernel]; exact Nat.le_of_ble_eq_true rfl)).trans ?_
  exact ite_congr (by simp [a_rcv, show m_recv 154 = 11 from by decide +kernel]) (fun _ => rfl) (fun _ => rfl)
theorem B_L_law_2149 {k : Nat → Nat × Nat} {u : Nat → Nat → Int} {g : Nat → Nat → Nat} {t : Nat × Nat × Nat} {r0 : Nat} {r1 : Nat} {r2 : Nat} {r3 : Nat} {r4 : Nat} {x5 : Int} {x6 : Int} {v7 : AV} {v8 : AV} {y0 : Int} : a_X 350 2149 [a_r (r0), a_r (r1), a_r (r2), a_r (r3), a_r (r4), a_i (x5), a_i (x6), v7, v8] [a_i (y0)] (k, u, g, t) = if (k r2).1 = 11 then (a_m 154 [a_r (r2)] (k, u, g, t)).bind (a_back 350 2152 3 [a_r (r0), a_r (r1), a_r (r2), a_r (r3), a_r (r4), a_i (x5), a_i (x6), a_i (y0), v8] []) else none := by
  refine (X_istore (m := 350) (pc := 2149) (n := 7) (by decide +kernel) rfl (Nat.le_of_ble_eq_true rfl) rfl).trans ?_
  refine (X_aload_n (m := 350) (pc := 2151) (n := 2) (by decide +kernel) rfl).trans ?_
  refine (X_call_vi (m := 350) (pc := 2152) (q := 183) (y := 154) (n := 1) (as := [a_r (r2)]) (rest := []) (by decide +kernel) (by decide +kernel) (by decide +kernel) (by decide +kernel) rfl rfl (Nat.le_of_ble_eq_true rfl) (Nat.le_of_ble_eq_true rfl) rfl (by rw [show m_maxL 154 = 1 from by decide +kernel]; exact Nat.le_of_ble_eq_true rfl)).trans ?_
  exact ite_congr (by simp [a_rcv, show m_recv 154 = 11 from by decide +kernel]) (fun _ => rfl) (fun _ => rfl)
theorem B_L_law_2217 {k : Nat → Nat × Nat} {u : Nat → Nat → Int} {g : Nat → Nat → Nat} {t : Nat × Nat × Nat} {r0 : Nat} {r1 : Nat} {r2 : Nat} {r3 : Nat} {r4 : Nat} {x5 : Int} {x6 : Int} {v7 : AV} {v8 : AV} {y0 : Int} : a_X 350 2217 [a_r (r0), a_r (r1), a_r (r2), a_r (r3), a_r (r4), a_i (x5), a_i (x6), v7, v8] [a_i (y0)] (k, u, g, t) = if (k r2).1 = 11 then (a_m 154 [a_r (r2)] (k, u, g, t)).bind (a_back 350 2220 3 [a_r (r0), a_r (r1), a_r (r2), a_r (r3), a_r (r4), a_i (x5), a_i (x6), a_i (y0), v8] []) else none := by
  refine (X_istore (m := 350) (pc := 2217) (n := 7) (by decide +kernel) rfl (Nat.le_of_ble_eq_true rfl) rfl).trans ?_
  refine (X_aload_n (m := 350) (pc := 2219) (n := 2) (by decide +kernel) rfl).trans ?_
  refine (X_call_vi (m := 350) (pc := 2220) (q := 183) (y := 154) (n := 1) (as := [a_r (r2)]) (rest := []) (by decide +kernel) (by decide +kernel) (by decide +kernel) (by decide +kernel) rfl rfl (Nat.le_of_ble_eq_true rfl) (Nat.le_of_ble_eq_true rfl) rfl (by rw [show m_maxL 154 = 1 from by decide +kernel]; exact Nat.le_of_ble_eq_true rfl)).trans ?_
  exact ite_congr (by simp [a_rcv, show m_recv 154 = 11 from by decide +kernel]) (fun _ => rfl) (fun _ => rfl)
theorem B_L_law_2273 {k : Nat → Nat × Nat} {u : Nat → Nat → Int} {g : Nat → Nat → Nat} {t : Nat × Nat × Nat} {r0 : Nat} {r1 : Nat} {r2 : Nat} {r3 : Nat} {r4 : Nat} {x5 : Int} {x6 : Int} {v7 : AV} {v8 : AV} {y0 : Int} : a_X 350 2273 [a_r (r0), a_r (r1), a_r (r2), a_r (r3), a_r (r4), a_i (x5), a_i (x6), v7, v8] [a_i (y0)] (k, u, g, t) = if (k r2).1 = 11 then (a_m 154 [a_r (r2)] (k, u, g, t)).bind (a_back 350 2276 3 [a_r (r0), a_r (r1), a_r (r2), a_r (r3), a_r (r4), a_i (x5), a_i (x6), a_i (y0), v8] []) else none := by
  refine (X_istore (m := 350) (pc := 2273) (n := 7) (by decide +kernel) rfl (Nat.le_of_ble_eq_true rfl) rfl).trans ?_
  refine (X_aload_n (m := 350) (pc := 2275) (n := 2) (by decide +kernel) rfl).trans ?_
  refine (X_call_vi (m := 350) (pc := 2276) (q := 183) (y := 154) (n := 1) (as := [a_r (r2)]) (rest := []) (by decide +kernel) (by decide +kernel) (by decide +kernel) (by decide +kernel) rfl rfl (Nat.le_of_ble_eq_true rfl) (Nat.le_of_ble_eq_true rfl) rfl (by rw [show m_maxL 154 = 1 from by decide +kernel]; exact Nat.le_of_ble_eq_true rfl)).trans ?_
  exact ite_congr (by simp [a_rcv, show m_recv 154 = 11 from by decide +kernel]) (fun _ => rfl) (fun _ => rfl)
theorem B_L_law_2318 {k : Nat → Nat × Nat} {u : Nat → Nat → Int} {g : Nat → Nat → Nat} {t : Nat × Nat × Nat} {r0 : Nat} {r1 : Nat} {r2 : Nat} {r3 : Nat} {r4 : Nat} {x5 : Int} {x6 : Int} {v7 : AV} {v8 : AV} {e0 : UInt32} : a_X 350 2318 [a_r (r0), a_r (r1), a_r (r2), a_r (r3), a_r (r4), a_i (x5), a_i (x6), v7, v8] [a_f (e0)] (k, u, g, t) = if (k r2).1 = 11 then (a_m 154 [a_r (r2)] (k, u, g, t)).bind (a_back 350 2321 3 [a_r (r0), a_r (r1), a_r (r2), a_r (r3), a_r (r4), a_i (x5), a_i (x6), a_f (e0), v8] []) else none := by
  refine (X_fstore (m := 350) (pc := 2318) (n := 7) (by decide +kernel) rfl (Nat.le_of_ble_eq_true rfl) rfl).trans ?_
  refine (X_aload_n (m := 350) (pc := 2320) (n := 2) (by decide +kernel) rfl).trans ?_
  refine (X_call_vi (m := 350) (pc := 2321) (q := 183) (y := 154) (n := 1) (as := [a_r (r2)]) (rest := []) (by decide +kernel) (by decide +kernel) (by decide +kernel) (by decide +kernel) rfl rfl (Nat.le_of_ble_eq_true rfl) (Nat.le_of_ble_eq_true rfl) rfl (by rw [show m_maxL 154 = 1 from by decide +kernel]; exact Nat.le_of_ble_eq_true rfl)).trans ?_
  exact ite_congr (by simp [a_rcv, show m_recv 154 = 11 from by decide +kernel]) (fun _ => rfl) (fun _ => rfl)
theorem B_L_law_2384 {k : Nat → Nat × Nat} {u : Nat → Nat → Int} {g : Nat → Nat → Nat} {t : Nat × Nat × Nat} {r0 : Nat} {r1 : Nat} {r2 : Nat} {r3 : Nat} {r4 : Nat} {x5 : Int} {x6 : Int} {v7 : AV} {v8 : AV} {c0 : UInt64} : a_X 350 2384 [a_r (r0), a_r (r1), a_r (r2), a_r (r3), a_r (r4), a_i (x5), a_i (x6), v7, v8] [a_d (c0)] (k, u, g, t) = if (k r2).1 = 11 then (a_m 154 [a_r (r2)] (k, u, g, t)).bind (a_back 350 2387 3 [a_r (r0), a_r (r1), a_r (r2), a_r (r3), a_r (r4), a_i (x5), a_i (x6), a_d (c0), a_x false] []) else none := by
  refine (X_dstore (m := 350) (pc := 2384) (n := 7) (by decide +kernel) rfl (Nat.le_of_ble_eq_true rfl) rfl).trans ?_
  refine (X_aload_n (m := 350) (pc := 2386) (n := 2) (by decide +kernel) rfl).trans ?_
  refine (X_call_vi (m := 350) (pc := 2387) (q := 183) (y := 154) (n := 1) (as := [a_r (r2)]) (rest := []) (by decide +kernel) (by decide +kernel) (by decide +kernel) (by decide +kernel) rfl rfl (Nat.le_of_ble_eq_true rfl) (Nat.le_of_ble_eq_true rfl) rfl (by rw [show m_maxL 154 = 1 from by decide +kernel]; exact Nat.le_of_ble_eq_true rfl)).trans ?_
  exact ite_congr (by simp [a_rcv, show m_recv 154 = 11 from by decide +kernel]) (fun _ => rfl) (fun _ => rfl)
theorem B_L_law_2472 {k : Nat → Nat × Nat} {u : Nat → Nat → Int} {g : Nat → Nat → Nat} {t : Nat × Nat × Nat} {r0 : Nat} {r1 : Nat} {r2 : Nat} {r3 : Nat} {r4 : Nat} {x5 : Int} {x6 : Int} {v7 : AV} {v8 : AV} {y0 : Int} : a_X 350 2472 [a_r (r0), a_r (r1), a_r (r2), a_r (r3), a_r (r4), a_i (x5), a_i (x6), v7, v8] [a_i (y0)] (k, u, g, t) = if (k r2).1 = 11 then (a_m 154 [a_r (r2)] (k, u, g, t)).bind (a_back 350 2475 3 [a_r (r0), a_r (r1), a_r (r2), a_r (r3), a_r (r4), a_i (x5), a_i (x6), a_i (y0), v8] []) else none := by
  refine (X_istore (m := 350) (pc := 2472) (n := 7) (by decide +kernel) rfl (Nat.le_of_ble_eq_true rfl) rfl).trans ?_
  refine (X_aload_n (m := 350) (pc := 2474) (n := 2) (by decide +kernel) rfl).trans ?_
  refine (X_call_vi (m := 350) (pc := 2475) (q := 183) (y := 154) (n := 1) (as := [a_r (r2)]) (rest := []) (by decide +kernel) (by decide +kernel) (by decide +kernel) (by decide +kernel) rfl rfl (Nat.le_of_ble_eq_true rfl) (Nat.le_of_ble_eq_true rfl) rfl (by rw [show m_maxL 154 = 1 from by decide +kernel]; exact Nat.le_of_ble_eq_true rfl)).trans ?_
  exact ite_congr (by simp [a_rcv, show m_recv 154 = 11 from by decide +kernel]) (fun _ => rfl) (fun _ => rfl)
theorem B_L_law_2528 {k : Nat → Nat × Nat} {u : Nat → Nat → Int} {g : Nat → Nat → Nat} {t : Nat × Nat × Nat} {r0 : Nat} {r1 : Nat} {r2 : Nat} {r3 : Nat} {r4 : Nat} {x5 : Int} {x6 : Int} {v7 : AV} {v8 : AV} {y0 : Int} : a_X 350 2528 [a_r (r0), a_r (r1), a_r (r2), a_r (r3), a_r (r4), a_i (x5), a_i (x6), v7, v8] [a_i (y0)] (k, u, g, t) = if (k r2).1 = 11 then (a_m 154 [a_r (r2)] (k, u, g, t)).bind (a_back 350 2531 3 [a_r (r0), a_r (r1), a_r (r2), a_r (r3), a_r (r4), a_i (x5), a_i (x6), a_i (y0), v8] []) else none := by
  refine (X_istore (m := 350) (pc := 2528) (n := 7) (by decide +kernel) rfl (Nat.le_of_ble_eq_true rfl) rfl).trans ?_
  refine (X_aload_n (m := 350) (pc := 2530) (n := 2) (by decide +kernel) rfl).trans ?_
  refine (X_call_vi (m := 350) (pc := 2531) (q := 183) (y := 154) (n := 1) (as := [a_r (r2)]) (rest := []) (by decide +kernel) (by decide +kernel) (by decide +kernel) (by decide +kernel) rfl rfl (Nat.le_of_ble_eq_true rfl) (Nat.le_of_ble_eq_true rfl) rfl (by rw [show m_maxL 154 = 1 from by decide +kernel]; exact Nat.le_of_ble_eq_true rfl)).trans ?_
  exact ite_congr (by simp [a_rcv, show m_recv 154 = 11 from by decide +kernel]) (fun _ => rfl) (fun _ => rfl)
theorem B_L_law_2584 {k : Nat → Nat × Nat} {u : Nat → Nat → Int} {g : Nat → Nat → Nat} {t : Nat × Nat × Nat} {r0 : Nat} {r1 : Nat} {r2 : Nat} {r3 : Nat} {r4 : Nat} {x5 : Int} {x6 : Int} {v7 : AV} {v8 : AV} {y0 : Int} : a_X 350 2584 [a_r (r0), a_r (r1), a_r (r2), a_r (r3), a_r (r4), a_i (x5), a_i (x6), v7, v8] [a_i (y0)] (k, u, g, t) = if (k r2).1 = 11 then (a_m 154 [a_r (r2)] (k, u, g, t)).bind (a_back 350 2587 3 [a_r (r0), a_r (r1), a_r (r2), a_r (r3), a_r (r4), a_i (x5), a_i (x6), a_i (y0), v8] []) else none := by
  refine (X_istore (m := 350) (pc := 2584) (n := 7) (by decide +kernel) rfl (Nat.le_of_ble_eq_true rfl) rfl).trans ?_
  refine (X_aload_n (m := 350) (pc := 2586) (n := 2) (by decide +kernel) rfl).trans ?_
  refine (X_call_vi (m := 350) (pc := 2587) (q := 183) (y := 154) (n := 1) (as := [a_r (r2)]) (rest := []) (by decide +kernel) (by decide +kernel) (by decide +kernel) (by decide +kernel) rfl rfl (Nat.le_of_ble_eq_true rfl) (Nat.le_of_ble_eq_true rfl) rfl (by rw [show m_maxL 154 = 1 from by decide +kernel]; exact Nat.le_of_ble_eq_true rfl)).trans ?_
  exact ite_congr (by simp [a_rcv, show m_recv 154 = 11 from by decide +kernel]) (fun _ => rfl) (fun _ => rfl)
theorem B_L_law_2702 {k : Nat → Nat × Nat} {u : Nat → Nat → Int} {g : Nat → Nat → Nat} {t : Nat × Nat × Nat} {r0 : Nat} {r1 : Nat} {r2 : Nat} {r3 : Nat} {r4 : Nat} {x5 : Int} {x6 : Int} {v7 : AV} {v8 : AV} {y0 : Int} : a_X 350 2702 [a_r (r0), a_r (r1), a_r (r2), a_r (r3), a_r (r4), a_i (x5), a_i (x6), v7, v8] [a_i (y0)] (k, u, g, t) = if (k r2).1 = 11 then (a_m 154 [a_r (r2)] (k, u, g, t)).bind (a_back 350 2705 3 [a_r (r0), a_r (r1), a_r (r2), a_r (r3), a_r (r4), a_i (x5), a_i (x6), a_i (y0), v8] []) else none := by
  refine (X_istore (m := 350) (pc := 2702) (n := 7) (by decide +kernel) rfl (Nat.le_of_ble_eq_true rfl) rfl).trans ?_
  refine (X_aload_n (m := 350) (pc := 2704) (n := 2) (by decide +kernel) rfl).trans ?_
  refine (X_call_vi (m := 350) (pc := 2705) (q := 183) (y := 154) (n := 1) (as := [a_r (r2)]) (rest := []) (by decide +kernel) (by decide +kernel) (by decide +kernel) (by decide +kernel) rfl rfl (Nat.le_of_ble_eq_true rfl) (Nat.le_of_ble_eq_true rfl) rfl (by rw [show m_maxL 154 = 1 from by decide +kernel]; exact Nat.le_of_ble_eq_true rfl)).trans ?_
  exact ite_congr (by simp [a_rcv, show m_recv 154 = 11 from by decide +kernel]) (fun _ => rfl) (fun _ => rfl)
theorem B_L_law_2770 {k : Nat → Nat × Nat} {u : Nat → Nat → Int} {g : Nat → Nat → Nat} {t : Nat × Nat × Nat} {r0 : Nat} {r1 : Nat} {r2 : Nat} {r3 : Nat} {r4 : Nat} {x5 : Int} {x6 : Int} {v7 : AV} {v8 : AV} {y0 : Int} : a_X 350 2770 [a_r (r0), a_r (r1), a_r (r2), a_r (r3), a_r (r4), a_i (x5), a_i (x6), v7, v8] [a_i (y0)] (k, u, g, t) = if (k r2).1 = 11 then (a_m 154 [a_r (r2)] (k, u, g, t)).bind (a_back 350 2773 3 [a_r (r0), a_r (r1), a_r (r2), a_r (r3), a_r (r4), a_i (x5), a_i (x6), a_i (y0), v8] []) else none := by
  refine (X_istore (m := 350) (pc := 2770) (n := 7) (by decide +kernel) rfl (Nat.le_of_ble_eq_true rfl) rfl).trans ?_
  refine (X_aload_n (m := 350) (pc := 2772) (n := 2) (by decide +kernel) rfl).trans ?_
  refine (X_call_vi (m := 350) (pc := 2773) (q := 183) (y := 154) (n := 1) (as := [a_r (r2)]) (rest := []) (by decide +kernel) (by decide +kernel) (by decide +kernel) (by decide +kernel) rfl rfl (Nat.le_of_ble_eq_true rfl) (Nat.le_of_ble_eq_true rfl) rfl (by rw [show m_maxL 154 = 1 from by decide +kernel]; exact Nat.le_of_ble_eq_true rfl)).trans ?_
  exact ite_congr (by simp [a_rcv, show m_recv 154 = 11 from by decide +kernel]) (fun _ => rfl) (fun _ => rfl)
theorem B_L_law_2838 {k : Nat → Nat × Nat} {u : Nat → Nat → Int} {g : Nat → Nat → Nat} {t : Nat × Nat × Nat} {r0 : Nat} {r1 : Nat} {r2 : Nat} {r3 : Nat} {r4 : Nat} {x5 : Int} {x6 : Int} {v7 : AV} {v8 : AV} {y0 : Int} : a_X 350 2838 [a_r (r0), a_r (r1), a_r (r2), a_r (r3), a_r (r4), a_i (x5), a_i (x6), v7, v8] [a_i (y0)] (k, u, g, t) = if (k r2).1 = 11 then (a_m 154 [a_r (r2)] (k, u, g, t)).bind (a_back 350 2841 3 [a_r (r0), a_r (r1), a_r (r2), a_r (r3), a_r (r4), a_i (x5), a_i (x6), a_i (y0), v8] []) else none := by
  refine (X_istore (m := 350) (pc := 2838) (n := 7) (by decide +kernel) rfl (Nat.le_of_ble_eq_true rfl) rfl).trans ?_
  refine (X_aload_n (m := 350) (pc := 2840) (n := 2) (by decide +kernel) rfl).trans ?_
  refine (X_call_vi (m := 350) (pc := 2841) (q := 183) (y := 154) (n := 1) (as := [a_r (r2)]) (rest := []) (by decide +kernel) (by decide +kernel) (by decide +kernel) (by decide +kernel) rfl rfl (Nat.le_of_ble_eq_true rfl) (Nat.le_of_ble_eq_true rfl) rfl (by rw [show m_maxL 154 = 1 from by decide +kernel]; exact Nat.le_of_ble_eq_true rfl)).trans ?_
  exact ite_congr (by simp [a_rcv, show m_recv 154 = 11 from by decide +kernel]) (fun _ => rfl) (fun _ => rfl)
theorem B_L_law_2894 {k : Nat → Nat × Nat} {u : Nat → Nat → Int} {g : Nat → Nat → Nat} {t : Nat × Nat × Nat} {r0 : Nat} {r1 : Nat} {r2 : Nat} {r3 : Nat} {r4 : Nat} {x5 : Int} {x6 : Int} {v7 : AV} {v8 : AV} {y0 : Int} : a_X 350 2894 [a_r (r0), a_r (r1), a_r (r2), a_r (r3), a_r (r4), a_i (x5), a_i (x6), v7, v8] [a_i (y0)] (k, u, g, t) = if (k r2).1 = 11 then (a_m 154 [a_r (r2)] (k, u, g, t)).bind (a_back 350 2897 3 [a_r (r0), a_r (r1), a_r (r2), a_r (r3), a_r (r4), a_i (x5), a_i (x6), a_i (y0), v8] []) else none := by
  refine (X_istore (m := 350) (pc := 2894) (n := 7) (by decide +kernel) rfl (Nat.le_of_ble_eq_true rfl) rfl).trans ?_
  refine (X_aload_n (m := 350) (pc := 2896) (n := 2) (by decide +kernel) rfl).trans ?_
  refine (X_call_vi (m := 350) (pc := 2897) (q := 183) (y := 154) (n := 1) (as := [a_r (r2)]) (rest := []) (by decide +kernel) (by decide +kernel) (by decide +kernel) (by decide +kernel) rfl rfl (Nat.le_of_ble_eq_true rfl) (Nat.le_of_ble_eq_true rfl) rfl (by rw [show m_maxL 154 = 1 from by decide +kernel]; exact Nat.le_of_ble_eq_true rfl)).trans ?_
  exact ite_congr (by simp [a_rcv, show m_recv 154 = 11 from by decide +kernel]) (fun _ => rfl) (fun _ => rfl)
theorem B_L_law_2950 {k : Nat → Nat × Nat} {u : Nat → Nat → Int} {g : Nat → Nat → Nat} {t : Nat × Nat × Nat} {r0 : Nat} {r1 : Nat} {r2 : Nat} {r3 : Nat} {r4 : Nat} {x5 : Int} {x6 : Int} {v7 : AV} {v8 : AV} {y0 : Int} : a_X 350 2950 [a_r (r0), a_r (r1), a_r (r2), a_r (r3), a_r (r4), a_i (x5), a_i (x6), v7, v8] [a_i (y0)] (k, u, g, t) = if (k r2).1 = 11 then (a_m 154 [a_r (r2)] (k, u, g, t)).bind (a_back 350 2953 3 [a_r (r0), a_r (r1), a_r (r2), a_r (r3), a_r (r4), a_i (x5), a_i (x6), a_i (y0), v8] []) else none := by
  refine (X_istore (m := 350) (pc := 2950) (n := 7) (by decide +kernel) rfl (Nat.le_of_ble_eq_true rfl) rfl).trans ?_
  refine (X_aload_n (m := 350) (pc := 2952) (n := 2) (by decide +kernel) rfl).trans ?_
  refine (X_call_vi (m := 350) (pc := 2953) (q := 183) (y := 154) (n := 1) (as := [a_r (r2)]) (rest := []) (by decide +kernel) (by decide +kernel) (by decide +kernel) (by decide +kernel) rfl rfl (Nat.le_of_ble_eq_true rfl) (Nat.le_of_ble_eq_true rfl) rfl (by rw [show m_maxL 154 = 1 from by decide +kernel]; exact Nat.le_of_ble_eq_true rfl)).trans ?_
  exact ite_congr (by simp [a_rcv, show m_recv 154 = 11 from by decide +kernel]) (fun _ => rfl) (fun _ => rfl)
theorem B_L_law_3030 {k : Nat → Nat × Nat} {u : Nat → Nat → Int} {g : Nat → Nat → Nat} {t : Nat × Nat × Nat} {r0 : Nat} {r1 : Nat} {r2 : Nat} {r3 : Nat} {r4 : Nat} {x5 : Int} {x6 : Int} {v7 : AV} {v8 : AV} {y0 : Int} : a_X 350 3030 [a_r (r0), a_r (r1), a_r (r2), a_r (r3), a_r (r4), a_i (x5), a_i (x6), v7, v8] [a_i (y0)] (k, u, g, t) = if (k r2).1 = 11 then (a_m 154 [a_r (r2)] (k, u, g, t)).bind (a_back 350 3033 3 [a_r (r0), a_r (r1), a_r (r2), a_r (r3), a_r (r4), a_i (x5), a_i (x6), a_i (y0), v8] []) else none := by
  refine (X_istore (m := 350) (pc := 3030) (n := 7) (by decide +kernel) rfl (Nat.le_of_ble_eq_true rfl) rfl).trans ?_
  refine (X_aload_n (m := 350) (pc := 3032) (n := 2) (by decide +kernel) rfl).trans ?_
  refine (X_call_vi (m := 350) (pc := 3033) (q := 183) (y := 154) (n := 1) (as := [a_r (r2)]) (rest := []) (by decide +kernel) (by decide +kernel) (by decide +kernel) (by decide +kernel) rfl rfl (Nat.le_of_ble_eq_true rfl) (Nat.le_of_ble_eq_true rfl) rfl (by rw [show m_maxL 154 = 1 from by decide +kernel]; exact Nat.le_of_ble_eq_true rfl)).trans ?_
  exact ite_congr (by simp [a_rcv, show m_recv 154 = 11 from by decide +kernel]) (fun _ => rfl) (fun _ => rfl)
theorem B_L_law_3098 {k : Nat → Nat × Nat} {u : Nat → Nat → Int} {g : Nat → Nat → Nat} {t : Nat × Nat × Nat} {r0 : Nat} {r1 : Nat} {r2 : Nat} {r3 : Nat} {r4 : Nat} {x5 : Int} {x6 : Int} {v7 : AV} {v8 : AV} {y0 : Int} : a_X 350 3098 [a_r (r0), a_r (r1), a_r (r2), a_r (r3), a_r (r4), a_i (x5), a_i (x6), v7, v8] [a_i (y0)] (k, u, g, t) = if (k r2).1 = 11 then (a_m 154 [a_r (r2)] (k, u, g, t)).bind (a_back 350 3101 3 [a_r (r0), a_r (r1), a_r (r2), a_r (r3), a_r (r4), a_i (x5), a_i (x6), a_i (y0), v8] []) else none := by
  refine (X_istore (m := 350) (pc := 3098) (n := 7) (by decide +kernel) rfl (Nat.le_of_ble_eq_true rfl) rfl).trans ?_
  refine (X_aload_n (m := 350) (pc := 3100) (n := 2) (by decide +kernel) rfl).trans ?_
  refine (X_call_vi (m := 350) (pc := 3101) (q := 183) (y := 154) (n := 1) (as := [a_r (r2)]) (rest := []) (by decide +kernel) (by decide +kernel) (by decide +kernel) (by decide +kernel) rfl rfl (Nat.le_of_ble_eq_true rfl) (Nat.le_of_ble_eq_true rfl) rfl (by rw [show m_maxL 154 = 1 from by decide +kernel]; exact Nat.le_of_ble_eq_true rfl)).trans ?_
  exact ite_congr (by simp [a_rcv, show m_recv 154 = 11 from by decide +kernel]) (fun _ => rfl) (fun _ => rfl)
theorem B_L_law_3166 {k : Nat → Nat × Nat} {u : Nat → Nat → Int} {g : Nat → Nat → Nat} {t : Nat × Nat × Nat} {r0 : Nat} {r1 : Nat} {r2 : Nat} {r3 : Nat} {r4 : Nat} {x5 : Int} {x6 : Int} {v7 : AV} {v8 : AV} {y0 : Int} : a_X 350 3166 [a_r (r0), a_r (r1), a_r (r2), a_r (r3), a_r (r4), a_i (x5), a_i (x6), v7, v8] [a_i (y0)] (k, u, g, t) = if (k r2).1 = 11 then (a_m 154 [a_r (r2)] (k, u, g, t)).bind (a_back 350 3169 3 [a_r (r0), a_r (r1), a_r (r2), a_r (r3), a_r (r4), a_i (x5), a_i (x6), a_i (y0), v8] []) else none := by
  refine (X_istore (m := 350) (pc := 3166) (n := 7) (by decide +kernel) rfl (Nat.le_of_ble_eq_true rfl) rfl).trans ?_
  refine (X_aload_n (m := 350) (pc := 3168) (n := 2) (by decide +kernel) rfl).trans ?_
  refine (X_call_vi (m := 350) (pc := 3169) (q := 183) (y := 154) (n := 1) (as := [a_r (r2)]) (rest := []) (by decide +kernel) (by decide +kernel) (by decide +kernel) (by decide +kernel) rfl rfl (Nat.le_of_ble_eq_true rfl) (Nat.le_of_ble_eq_true rfl) rfl (by rw [show m_maxL 154 = 1 from by decide +kernel]; exact Nat.le_of_ble_eq_true rfl)).trans ?_
  exact ite_congr (by simp [a_rcv, show m_recv 154 = 11 from by decide +kernel]) (fun _ => rfl) (fun _ => rfl)
theorem B_L_law_3222 {k : Nat → Nat × Nat} {u : Nat → Nat → Int} {g : Nat → Nat → Nat} {t : Nat × Nat × Nat} {r0 : Nat} {r1 : Nat} {r2 : Nat} {r3 : Nat} {r4 : Nat} {x5 : Int} {x6 : Int} {v7 : AV} {v8 : AV} {y0 : Int} : a_X 350 3222 [a_r (r0), a_r (r1), a_r (r2), a_r (r3), a_r (r4), a_i (x5), a_i (x6), v7, v8] [a_i (y0)] (k, u, g, t) = if (k r2).1 = 11 then (a_m 154 [a_r (r2)] (k, u, g, t)).bind (a_back 350 3225 3 [a_r (r0), a_r (r1), a_r (r2), a_r (r3), a_r (r4), a_i (x5), a_i (x6), a_i (y0), v8] []) else none := by
  refine (X_istore (m := 350) (pc := 3222) (n := 7) (by decide +kernel) rfl (Nat.le_of_ble_eq_true rfl) rfl).trans ?_
  refine (X_aload_n (m := 350) (pc := 3224) (n := 2) (by decide +kernel) rfl).trans ?_
  refine (X_call_vi (m := 350) (pc := 3225) (q := 183) (y := 154) (n := 1) (as := [a_r (r2)]) (rest := []) (by decide +kernel) (by decide +kernel) (by decide +kernel) (by decide +kernel) rfl rfl (Nat.le_of_ble_eq_true rfl) (Nat.le_of_ble_eq_true rfl) rfl (by rw [show m_maxL 154 = 1 from by decide +kernel]; exact Nat.le_of_ble_eq_true rfl)).trans ?_
  exact ite_congr (by simp [a_rcv, show m_recv 154 = 11 from by decide +kernel]) (fun _ => rfl) (fun _ => rfl)
theorem B_L_law_3278 {k : Nat → Nat × Nat} {u : Nat → Nat → Int} {g : Nat → Nat → Nat} {t : Nat × Nat × Nat} {r0 : Nat} {r1 : Nat} {r2 : Nat} {r3 : Nat} {r4 : Nat} {x5 : Int} {x6 : Int} {v7 : AV} {v8 : AV} {y0 : Int} : a_X 350 3278 [a_r (r0), a_r (r1), a_r (r2), a_r (r3), a_r (r4), a_i (x5), a_i (x6), v7, v8] [a_i (y0)] (k, u, g, t) = if (k r2).1 = 11 then (a_m 154 [a_r (r2)] (k, u, g, t)).bind (a_back 350 3281 3 [a_r (r0), a_r (r1), a_r (r2), a_r (r3), a_r (r4), a_i (x5), a_i (x6), a_i (y0), v8] []) else none := by
  refine (X_istore (m := 350) (pc := 3278) (n := 7) (by decide +kernel) rfl (Nat.le_of_ble_eq_true rfl) rfl).trans ?_
  refine (X_aload_n (m := 350) (pc := 3280) (n := 2) (by decide +kernel) rfl).trans ?_
  refine (X_call_vi (m := 350) (pc := 3281) (q := 183) (y := 154) (n := 1) (as := [a_r (r2)]) (rest := []) (by decide +kernel) (by decide +kernel) (by decide +kernel) (by decide +kernel) rfl rfl (Nat.le_of_ble_eq_true rfl) (Nat.le_of_ble_eq_true rfl) rfl (by rw [show m_maxL 154 = 1 from by decide +kernel]; exact Nat.le_of_ble_eq_true rfl)).trans ?_
  exact ite_congr (by simp [a_rcv, show m_recv 154 = 11 from by decide +kernel]) (fun _ => rfl) (fun _ => rfl)
theorem B_L_law_3322 {k : Nat → Nat × Nat} {u : Nat → Nat → Int} {g : Nat → Nat → Nat} {t : Nat × Nat × Nat} {r0 : Nat} {r1 : Nat} {r2 : Nat} {r3 : Nat} {r4 : Nat} {x5 : Int} {x6 : Int} {v7 : AV} {v8 : AV} {y0 : Int} : a_X 350 3322 [a_r (r0), a_r (r1), a_r (r2), a_r (r3), a_r (r4), a_i (x5), a_i (x6), v7, v8] [a_i (y0)] (k, u, g, t) = if (k r2).1 = 11 then (a_m 154 [a_r (r2)] (k, u, g, t)).bind (a_back 350 3325 3 [a_r (r0), a_r (r1), a_r (r2), a_r (r3), a_r (r4), a_i (x5), a_i (x6), a_i (y0), v8] []) else none := by
  refine (X_istore (m := 350) (pc := 3322) (n := 7) (by decide +kernel) rfl (Nat.le_of_ble_eq_true rfl) rfl).trans ?_
  refine (X_aload_n (m := 350) (pc := 3324) (n := 2) (by decide +kernel) rfl).trans ?_
  refine (X_call_vi (m := 350) (pc := 3325) (q := 183) (y := 154) (n := 1) (as := [a_r (r2)]) (rest := []) (by decide +kernel) (by decide +kernel) (by decide +kernel) (by decide +kernel) rfl rfl (Nat.le_of_ble_eq_true rfl) (Nat.le_of_ble_eq_true rfl) rfl (by rw [show m_maxL 154 = 1 from by decide +kernel]; exact Nat.le_of_ble_eq_true rfl)).trans ?_
  exact ite_congr (by simp [a_rcv, show m_recv 154 = 11 from by decide +kernel]) (fun _ => rfl) (fun _ => rfl)
theorem B_L_law_3363 {k : Nat → Nat × Nat} {u : Nat → Nat → Int} {g : Nat → Nat → Nat} {t : Nat × Nat × Nat} {r0 : Nat} {r1 : Nat} {r2 : Nat} {r3 : Nat} {r4 : Nat} {x5 : Int} {v6 : AV} {v7 : AV} {v8 : AV} {y0 : Int} {y1 : Int} : a_X 350 3363 [a_r (r0), a_r (r1), a_r (r2), a_r (r3), a_r (r4), a_i (x5), v6, v7, v8] [a_i (y1), a_i (y0)] (k, u, g, t) = if (y0 : Int) = (y1 : Int) then a_X 350 28 [a_r (r0), a_r (r1), a_r (r2), a_r (r3), a_r (r4), a_i (wr (x5 + 7)), v6, v7, v8] [] (k, u, g, t) else some (.inl (some (a_i (0))), (k, u, g, t)) := by
  refine (X_ic_eq (m := 350) (pc := 3363) (off := 117) (tg := 3480) (by decide +kernel) (by decide +kernel)).trans ?_
  refine ite_congr rfl (fun _ => ?_) (fun _ => ?_)
  · refine (X_iinc (m := 350) (pc := 3480) (n := 5) (c := 7) (by decide +kernel) rfl rfl (Nat.le_of_ble_eq_true rfl) rfl).trans ?_
    refine (X_goto (m := 350) (pc := 3483) (off := -3455) (tg := 28) (by decide +kernel) (by decide +kernel)).trans ?_
    rfl
  · refine (X_iconst (m := 350) (pc := 3366) (n := 0) (by decide +kernel) ).trans ?_
    exact X_ireturn (m := 350) (pc := 3367) (f := 2) (by decide +kernel) (by decide +kernel) rfl
theorem B_L_law_3391 {k : Nat → Nat × Nat} {u : Nat → Nat → Int} {g : Nat → Nat → Nat} {t : Nat × Nat × Nat} {r0 : Nat} {r1 : Nat} {r2 : Nat} {r3 : Nat} {r4 : Nat} {x5 : Int} {x6 : Int} {v7 : AV} {v8 : AV} {y0 : Int} : a_X 350 3391 [a_r (r0), a_r (r1), a_r (r2), a_r (r3), a_r (r4), a_i (x5), a_i (x6), v7, v8] [a_i (y0)] (k, u, g, t) = if (k r2).1 = 11 then (a_m 154 [a_r (r2)] (k, u, g, t)).bind (a_back 350 3394 3 [a_r (r0), a_r (r1), a_r (r2), a_r (r3), a_r (r4), a_i (x5), a_i (x6), a_i (y0), v8] []) else none := by
  refine (X_istore (m := 350) (pc := 3391) (n := 7) (by decide +kernel) rfl (Nat.le_of_ble_eq_true rfl) rfl).trans ?_
  refine (X_aload_n (m := 350) (pc := 3393) (n := 2) (by decide +kernel) rfl).trans ?_
  refine (X_call_vi (m := 350) (pc := 3394) (q := 183) (y := 154) (n := 1) (as := [a_r (r2)]) (rest := []) (by decide +kernel) (by decide +kernel) (by decide +kernel) (by decide +kernel) rfl rfl (Nat.le_of_ble_eq_true rfl) (Nat.le_of_ble_eq_true rfl) rfl (by rw [show m_maxL 154 = 1 from by decide +kernel]; exact Nat.le_of_ble_eq_true rfl)).trans ?_
  exact ite_congr (by simp [a_rcv, show m_recv 154 = 11 from by decide +kernel]) (fun _ => rfl) (fun _ => rfl)
theorem B_L_law_3447 {k : Nat → Nat × Nat} {u : Nat → Nat → Int} {g : Nat → Nat → Nat} {t : Nat × Nat × Nat} {r0 : Nat} {r1 : Nat} {r2 : Nat} {r3 : Nat} {r4 : Nat} {x5 : Int} {x6 : Int} {v7 : AV} {v8 : AV} {y0 : Int} : a_X 350 3447 [a_r (r0), a_r (r1), a_r (r2), a_r (r3), a_r (r4), a_i (x5), a_i (x6), v7, v8] [a_i (y0)] (k, u, g, t) = if (k r2).1 = 11 then (a_m 154 [a_r (r2)] (k, u, g, t)).bind (a_back 350 3450 3 [a_r (r0), a_r (r1), a_r (r2), a_r (r3), a_r (r4), a_i (x5), a_i (x6), a_i (y0), v8] []) else none := by
  refine (X_istore (m := 350) (pc := 3447) (n := 7) (by decide +kernel) rfl (Nat.le_of_ble_eq_true rfl) rfl).trans ?_
  refine (X_aload_n (m := 350) (pc := 3449) (n := 2) (by decide +kernel) rfl).trans ?_
  refine (X_call_vi (m := 350) (pc := 3450) (q := 183) (y := 154) (n := 1) (as := [a_r (r2)]) (rest := []) (by decide +kernel) (by decide +kernel) (by decide +kernel) (by decide +kernel) rfl rfl (Nat.le_of_ble_eq_true rfl) (Nat.le_of_ble_eq_true rfl) rfl (by rw [show m_maxL 154 = 1 from by decide +kernel]; exact Nat.le_of_ble_eq_true rfl)).trans ?_
  exact ite_congr (by simp [a_rcv, show m_recv 154 = 11 from by decide +kernel]) (fun _ => rfl) (fun _ => rfl)
theorem B_L_law_374 {k : Nat → Nat × Nat} {u : Nat → Nat → Int} {g : Nat → Nat → Nat} {t : Nat × Nat × Nat} {r0 : Nat} {r1 : Nat} {r2 : Nat} {r3 : Nat} {r4 : Nat} {x5 : Int} {x6 : Int} {x7 : Int} {v8 : AV} {y0 : Int} : a_X 350 374 [a_r (r0), a_r (r1), a_r (r2), a_r (r3), a_r (r4), a_i (x5), a_i (x6), a_i (x7), v8] [a_i (y0)] (k, u, g, t) = if (y0 : Int) = (x6 : Int) then if (x6 : Int) ≠ 0 then a_X 350 28 [a_r (r0), a_r (r1), a_r (r2), a_r (r3), a_r (r4), a_i (wr (x5 + 7)), a_i (x6), a_i (x7), v8] [] (k, u, g, t) else if (k r3).1 = 22 ∧ 0 ≤ (0 : Int) ∧ (0 : Int) < ((k r3).2 : Int) then if (if (u r3 (0 : Int).toNat) < (x7) then -1 else if (u r3 (0 : Int).toNat) = (x7) then 0 else 1 : Int) = 0 then a_X 350 28 [a_r (r0), a_r (r1), a_r (r2), a_r (r3), a_r (r4), a_i (wr (x5 + 7)), a_i (x6), a_i (x7), v8] [] (k, u, g, t) else some (.inl (some (a_i (0))), (k, u, g, t)) else none else some (.inl (some (a_i (0))), (k, u, g, t)) := by
  refine (X_iload (m := 350) (pc := 374) (n := 6) (by decide +kernel) rfl).trans ?_
  refine (X_ic_eq (m := 350) (pc := 376) (off := 5) (tg := 381) (by decide +kernel) (by decide +kernel)).trans ?_
  refine ite_congr rfl (fun _ => ?_) (fun _ => ?_)
  · refine (X_iload (m := 350) (pc := 381) (n := 6) (by decide +kernel) rfl).trans ?_
    refine (X_if_ne (m := 350) (pc := 383) (off := 15) (tg := 398) (by decide +kernel) (by decide +kernel)).trans ?_
    refine ite_congr rfl (fun _ => ?_) (fun _ => ?_)
    · refine (X_goto (m := 350) (pc := 398) (off := 3082) (tg := 3480) (by decide +kernel) (by decide +kernel)).trans ?_
      refine (X_iinc (m := 350) (pc := 3480) (n := 5) (c := 7) (by decide +kernel) rfl rfl (Nat.le_of_ble_eq_true rfl) rfl).trans ?_
      refine (X_goto (m := 350) (pc := 3483) (off := -3455) (tg := 28) (by decide +kernel) (by decide +kernel)).trans ?_
      rfl
    · refine (X_aload_n (m := 350) (pc := 386) (n := 3) (by decide +kernel) rfl).trans ?_
      refine (X_iconst (m := 350) (pc := 387) (n := 0) (by decide +kernel) ).trans ?_
      refine (X_laload (m := 350) (pc := 388)  (by decide +kernel) ).trans ?_
      refine ite_congr rfl (fun _ => ?_) (fun _ => rfl)
      refine (X_iload (m := 350) (pc := 389) (n := 7) (by decide +kernel) rfl).trans ?_
      refine (X_i2l (m := 350) (pc := 391)  (by decide +kernel) ).trans ?_
      refine (X_lcmp (m := 350) (pc := 392)  (by decide +kernel) ).trans ?_
      refine (X_if_eq (m := 350) (pc := 393) (off := 5) (tg := 398) (by decide +kernel) (by decide +kernel)).trans ?_
      refine ite_congr rfl (fun _ => ?_) (fun _ => ?_)
      · refine (X_goto (m := 350) (pc := 398) (off := 3082) (tg := 3480) (by decide +kernel) (by decide +kernel)).trans ?_
        refine (X_iinc (m := 350) (pc := 3480) (n := 5) (c := 7) (by decide +kernel) rfl rfl (Nat.le_of_ble_eq_true rfl) rfl).trans ?_
        refine (X_goto (m := 350) (pc := 3483) (off := -3455) (tg := 28) (by decide +kernel) (by decide +kernel)).trans ?_
        rfl
      · refine (X_iconst (m := 350) (pc := 396) (n := 0) (by decide +kernel) ).trans ?_
        exact X_ireturn (m := 350) (pc := 397) (f := 2) (by decide +kernel) (by decide +kernel) rfl
  · refine (X_iconst (m := 350) (pc := 379) (n := 0) (by decide +kernel) ).trans ?_
    exact X_ireturn (m := 350) (pc := 380) (f := 2) (by decide +kernel) (by decide +kernel) rfl
theorem B_L_law_469 {k : Nat → Nat × Nat} {u : Nat → Nat → Int} {g : Nat → Nat → Nat} {t : Nat × Nat × Nat} {r0 : Nat} {r1 : Nat} {r2 : Nat} {r3 : Nat} {r4 : Nat} {x5 : Int} {x6 : Int} {x7 : Int} {v8 : AV} {y0 : Int} : a_X 350 469 [a_r (r0), a_r (r1), a_r (r2), a_r (r3), a_r (r4), a_i (x5), a_i (x6), a_i (x7), v8] [a_i (y0)] (k, u, g, t) = if (y0 : Int) = (x6 : Int) then if (x6 : Int) ≠ 0 then a_X 350 28 [a_r (r0), a_r (r1), a_r (r2), a_r (r3), a_r (r4), a_i (wr (x5 + 7)), a_i (x6), a_i (x7), v8] [] (k, u, g, t) else if (k r3).1 = 22 ∧ 0 ≤ (0 : Int) ∧ (0 : Int) < ((k r3).2 : Int) then if (if (u r3 (0 : Int).toNat) < (x7) then -1 else if (u r3 (0 : Int).toNat) = (x7) then 0 else 1 : Int) = 0 then a_X 350 28 [a_r (r0), a_r (r1), a_r (r2), a_r (r3), a_r (r4), a_i (wr (x5 + 7)), a_i (x6), a_i (x7), v8] [] (k, u, g, t) else some (.inl (some (a_i (0))), (k, u, g, t)) else none else some (.inl (some (a_i (0))), (k, u, g, t)) := by
  refine (X_iload (m := 350) (pc := 469) (n := 6) (by decide +kernel) rfl).trans ?_
  refine (X_ic_eq (m := 350) (pc := 471) (off := 5) (tg := 476) (by decide +kernel) (by decide +kernel)).trans ?_
  refine ite_congr rfl (fun _ => ?_) (fun _ => ?_)
  · refine (X_iload (m := 350) (pc := 476) (n := 6) (by decide +kernel) rfl).trans ?_
    refine (X_if_ne (m := 350) (pc := 478) (off := 15) (tg := 493) (by decide +kernel) (by decide +kernel)).trans ?_
    refine ite_congr rfl (fun _ => ?_) (fun _ => ?_)
    · refine (X_goto (m := 350) (pc := 493) (off := 2987) (tg := 3480) (by decide +kernel) (by decide +kernel)).trans ?_
      refine (X_iinc (m := 350) (pc := 3480) (n := 5) (c := 7) (by decide +kernel) rfl rfl (Nat.le_of_ble_eq_true rfl) rfl).trans ?_
      refine (X_goto (m := 350) (pc := 3483) (off := -3455) (tg := 28) (by decide +kernel) (by decide +kernel)).trans ?_
      rfl
    · refine (X_aload_n (m := 350) (pc := 481) (n := 3) (by decide +kernel) rfl).trans ?_
      refine (X_iconst (m := 350) (pc := 482) (n := 0) (by decide +kernel) ).trans ?_
      refine (X_laload (m := 350) (pc := 483)  (by decide +kernel) ).trans ?_
      refine ite_congr rfl (fun _ => ?_) (fun _ => rfl)
      refine (X_iload (m := 350) (pc := 484) (n := 7) (by decide +kernel) rfl).trans ?_
      refine (X_i2l (m := 350) (pc := 486)  (by decide +kernel) ).trans ?_
      refine (X_lcmp (m := 350) (pc := 487)  (by decide +kernel) ).trans ?_
      refine (X_if_eq (m := 350) (pc := 488) (off := 5) (tg := 493) (by decide +kernel) (by decide +kernel)).trans ?_
      refine ite_congr rfl (fun _ => ?_) (fun _ => ?_)
      · refine (X_goto (m := 350) (pc := 493) (off := 2987) (tg := 3480) (by decide +kernel) (by decide +kernel)).trans ?_
        refine (X_iinc (m := 350) (pc := 3480) (n := 5) (c := 7) (by decide +kernel) rfl rfl (Nat.le_of_ble_eq_true rfl) rfl).trans ?_
        refine (X_goto (m := 350) (pc := 3483) (off := -3455) (tg := 28) (by decide +kernel) (by decide +kernel)).trans ?_
        rfl
      · refine (X_iconst (m := 350) (pc := 491) (n := 0) (by decide +kernel) ).trans ?_
        exact X_ireturn (m := 350) (pc := 492) (f := 2) (by decide +kernel) (by decide +kernel) rfl
  · refine (X_iconst (m := 350) (pc := 474) (n := 0) (by decide +kernel) ).trans ?_
    exact X_ireturn (m := 350) (pc := 475) (f := 2) (by decide +kernel) (by decide +kernel) rfl
theorem B_L_law_549 {k : Nat → Nat × Nat} {u : Nat → Nat → Int} {g : Nat → Nat → Nat} {t : Nat × Nat × Nat} {r0 : Nat} {r1 : Nat} {r2 : Nat} {r3 : Nat} {r4 : Nat} {x5 : Int} {x6 : Int} {x7 : Int} {v8 : AV} {y0 : Int} : a_X 350 549 [a_r (r0), a_r (r1), a_r (r2), a_r (r3), a_r (r4), a_i (x5), a_i (x6), a_i (x7), v8] [a_i (y0)] (k, u, g, t) = if (y0 : Int) = (x6 : Int) then if (x6 : Int) ≠ 0 then a_X 350 28 [a_r (r0), a_r (r1), a_r (r2), a_r (r3), a_r (r4), a_i (wr (x5 + 7)), a_i (x6), a_i (x7), v8] [] (k, u, g, t) else if (k r3).1 = 22 ∧ 0 ≤ (0 : Int) ∧ (0 : Int) < ((k r3).2 : Int) then if (if (u r3 (0 : Int).toNat) < (x7) then -1 else if (u r3 (0 : Int).toNat) = (x7) then 0 else 1 : Int) = 0 then a_X 350 28 [a_r (r0), a_r (r1), a_r (r2), a_r (r3), a_r (r4), a_i (wr (x5 + 7)), a_i (x6), a_i (x7), v8] [] (k, u, g, t) else some (.inl (some (a_i (0))), (k, u, g, t)) else none else some (.inl (some (a_i (0))), (k, u, g, t)) := by
  refine (X_iload (m := 350) (pc := 549) (n := 6) (by decide +kernel) rfl).trans ?_
  refine (X_ic_eq (m := 350) (pc := 551) (off := 5) (tg := 556) (by decide +kernel) (by decide +kernel)).trans ?_
  refine ite_congr rfl (fun _ => ?_) (fun _ => ?_)
  · refine (X_iload (m := 350) (pc := 556) (n := 6) (by decide +kernel) rfl).trans ?_
    refine (X_if_ne (m := 350) (pc := 558) (off := 15) (tg := 573) (by decide +kernel) (by decide +kernel)).trans ?_
    refine ite_congr rfl (fun _ => ?_) (fun _ => ?_)
    · refine (X_goto (m := 350) (pc := 573) (off := 2907) (tg := 3480) (by decide +kernel) (by decide +kernel)).trans ?_
      refine (X_iinc (m := 350) (pc := 3480) (n := 5) (c := 7) (by decide +kernel) rfl rfl (Nat.le_of_ble_eq_true rfl) rfl).trans ?_
      refine (X_goto (m := 350) (pc := 3483) (off := -3455) (tg := 28) (by decide +kernel) (by decide +kernel)).trans ?_
      rfl
    · refine (X_aload_n (m := 350) (pc := 561) (n := 3) (by decide +kernel) rfl).trans ?_
      refine (X_iconst (m := 350) (pc := 562) (n := 0) (by decide +kernel) ).trans ?_
      refine (X_laload (m := 350) (pc := 563)  (by decide +kernel) ).trans ?_
      refine ite_congr rfl (fun _ => ?_) (fun _ => rfl)
      refine (X_iload (m := 350) (pc := 564) (n := 7) (by decide +kernel) rfl).trans ?_
      refine (X_i2l (m := 350) (pc := 566)  (by decide +kernel) ).trans ?_
      refine (X_lcmp (m := 350) (pc := 567)  (by decide +kernel) ).trans ?_
      refine (X_if_eq (m := 350) (pc := 568) (off := 5) (tg := 573) (by decide +kernel) (by decide +kernel)).trans ?_
      refine ite_congr rfl (fun _ => ?_) (fun _ => ?_)
      · refine (X_goto (m := 350) (pc := 573) (off := 2907) (tg := 3480) (by decide +kernel) (by decide +kernel)).trans ?_
        refine (X_iinc (m := 350) (pc := 3480) (n := 5) (c := 7) (by decide +kernel) rfl rfl (Nat.le_of_ble_eq_true rfl) rfl).trans ?_
        refine (X_goto (m := 350) (pc := 3483) (off := -3455) (tg := 28) (by decide +kernel) (by decide +kernel)).trans ?_
        rfl
      · refine (X_iconst (m := 350) (pc := 571) (n := 0) (by decide +kernel) ).trans ?_
        exact X_ireturn (m := 350) (pc := 572) (f := 2) (by decide +kernel) (by decide +kernel) rfl
  · refine (X_iconst (m := 350) (pc := 554) (n := 0) (by decide +kernel) ).trans ?_
    exact X_ireturn (m := 350) (pc := 555) (f := 2) (by decide +kernel) (by decide +kernel) rfl
theorem B_L_law_617 {k : Nat → Nat × Nat} {u : Nat → Nat → Int} {g : Nat → Nat → Nat} {t : Nat × Nat × Nat} {r0 : Nat} {r1 : Nat} {r2 : Nat} {r3 : Nat} {r4 : Nat} {x5 : Int} {x6 : Int} {x7 : Int} {v8 : AV} {y0 : Int} : a_X 350 617 [a_r (r0), a_r (r1), a_r (r2), a_r (r3), a_r (r4), a_i (x5), a_i (x6), a_i (x7), v8] [a_i (y0)] (k, u, g, t) = if (y0 : Int) = (x6 : Int) then if (x6 : Int) ≠ 0 then a_X 350 28 [a_r (r0), a_r (r1), a_r (r2), a_r (r3), a_r (r4), a_i (wr (x5 + 7)), a_i (x6), a_i (x7), v8] [] (k, u, g, t) else if (k r3).1 = 22 ∧ 0 ≤ (0 : Int) ∧ (0 : Int) < ((k r3).2 : Int) then if (if (u r3 (0 : Int).toNat) < (x7) then -1 else if (u r3 (0 : Int).toNat) = (x7) then 0 else 1 : Int) = 0 then a_X 350 28 [a_r (r0), a_r (r1), a_r (r2), a_r (r3), a_r (r4), a_i (wr (x5 + 7)), a_i (x6), a_i (x7), v8] [] (k, u, g, t) else some (.inl (some (a_i (0))), (k, u, g, t)) else none else some (.inl (some (a_i (0))), (k, u, g, t)) := by
  refine (X_iload (m := 350) (pc := 617) (n := 6) (by decide +kernel) rfl).trans ?_
  refine (X_ic_eq (m := 350) (pc := 619) (off := 5) (tg := 624) (by decide +kernel) (by decide +kernel)).trans ?_
  refine ite_congr rfl (fun _ => ?_) (fun _ => ?_)
  · refine (X_iload (m := 350) (pc := 624) (n := 6) (by decide +kernel) rfl).trans ?_
    refine (X_if_ne (m := 350) (pc := 626) (off := 15) (tg := 641) (by decide +kernel) (by decide +kernel)).trans ?_
    refine ite_congr rfl (fun _ => ?_) (fun _ => ?_)
    · refine (X_goto (m := 350) (pc := 641) (off := 2839) (tg := 3480) (by decide +kernel) (by decide +kernel)).trans ?_
      refine (X_iinc (m := 350) (pc := 3480) (n := 5) (c := 7) (by decide +kernel) rfl rfl (Nat.le_of_ble_eq_true rfl) rfl).trans ?_
      refine (X_goto (m := 350) (pc := 3483) (off := -3455) (tg := 28) (by decide +kernel) (by decide +kernel)).trans ?_
      rfl
    · refine (X_aload_n (m := 350) (pc := 629) (n := 3) (by decide +kernel) rfl).trans ?_
      refine (X_iconst (m := 350) (pc := 630) (n := 0) (by decide +kernel) ).trans ?_
      refine (X_laload (m := 350) (pc := 631)  (by decide +kernel) ).trans ?_
      refine ite_congr rfl (fun _ => ?_) (fun _ => rfl)
      refine (X_iload (m := 350) (pc := 632) (n := 7) (by decide +kernel) rfl).trans ?_
      refine (X_i2l (m := 350) (pc := 634)  (by decide +kernel) ).trans ?_
      refine (X_lcmp (m := 350) (pc := 635)  (by decide +kernel) ).trans ?_
      refine (X_if_eq (m := 350) (pc := 636) (off := 5) (tg := 641) (by decide +kernel) (by decide +kernel)).trans ?_
      refine ite_congr rfl (fun _ => ?_) (fun _ => ?_)
      · refine (X_goto (m := 350) (pc := 641) (off := 2839) (tg := 3480) (by decide +kernel) (by decide +kernel)).trans ?_
        refine (X_iinc (m := 350) (pc := 3480) (n := 5) (c := 7) (by decide +kernel) rfl rfl (Nat.le_of_ble_eq_true rfl) rfl).trans ?_
        refine (X_goto (m := 350) (pc := 3483) (off := -3455) (tg := 28) (by decide +kernel) (by decide +kernel)).trans ?_
        rfl
      · refine (X_iconst (m := 350) (pc := 639) (n := 0) (by decide +kernel) ).trans ?_
        exact X_ireturn (m := 350) (pc := 640) (f := 2) (by decide +kernel) (by decide +kernel) rfl
  · refine (X_iconst (m := 350) (pc := 622) (n := 0) (by decide +kernel) ).trans ?_
    exact X_ireturn (m := 350) (pc := 623) (f := 2) (by decide +kernel) (by decide +kernel) rfl
theorem B_L_law_685 {k : Nat → Nat × Nat} {u : Nat → Nat → Int} {g : Nat → Nat → Nat} {t : Nat × Nat × Nat} {r0 : Nat} {r1 : Nat} {r2 : Nat} {r3 : Nat} {r4 : Nat} {x5 : Int} {x6 : Int} {x7 : Int} {v8 : AV} {y0 : Int} : a_X 350 685 [a_r (r0), a_r (r1), a_r (r2), a_r (r3), a_r (r4), a_i (x5), a_i (x6), a_i (x7), v8] [a_i (y0)] (k, u, g, t) = if (y0 : Int) = (x6 : Int) then if (x6 : Int) ≠ 0 then a_X 350 28 [a_r (r0), a_r (r1), a_r (r2), a_r (r3), a_r (r4), a_i (wr (x5 + 7)), a_i (x6), a_i (x7), v8] [] (k, u, g, t) else if (k r3).1 = 22 ∧ 0 ≤ (0 : Int) ∧ (0 : Int) < ((k r3).2 : Int) then if (if (u r3 (0 : Int).toNat) < (x7) then -1 else if (u r3 (0 : Int).toNat) = (x7) then 0 else 1 : Int) = 0 then a_X 350 28 [a_r (r0), a_r (r1), a_r (r2), a_r (r3), a_r (r4), a_i (wr (x5 + 7)), a_i (x6), a_i (x7), v8] [] (k, u, g, t) else some (.inl (some (a_i (0))), (k, u, g, t)) else none else some (.inl (some (a_i (0))), (k, u, g, t)) := by
  refine (X_iload (m := 350) (pc := 685) (n := 6) (by decide +kernel) rfl).trans ?_
  refine (X_ic_eq (m := 350) (pc := 687) (off := 5) (tg := 692) (by decide +kernel) (by decide +kernel)).trans ?_
  refine ite_congr rfl (fun _ => ?_) (fun _ => ?_)
  · refine (X_iload (m := 350) (pc := 692) (n := 6) (by decide +kernel) rfl).trans ?_
    refine (X_if_ne (m := 350) (pc := 694) (off := 15) (tg := 709) (by decide +kernel) (by decide +kernel)).trans ?_
    refine ite_congr rfl (fun _ => ?_) (fun _ => ?_)
    · refine (X_goto (m := 350) (pc := 709) (off := 2771) (tg := 3480) (by decide +kernel) (by decide +kernel)).trans ?_
      refine (X_iinc (m := 350) (pc := 3480) (n := 5) (c := 7) (by decide +kernel) rfl rfl (Nat.le_of_ble_eq_true rfl) rfl).trans ?_
      refine (X_goto (m := 350) (pc := 3483) (off := -3455) (tg := 28) (by decide +kernel) (by decide +kernel)).trans ?_
      rfl
    · refine (X_aload_n (m := 350) (pc := 697) (n := 3) (by decide +kernel) rfl).trans ?_
      refine (X_iconst (m := 350) (pc := 698) (n := 0) (by decide +kernel) ).trans ?_
      refine (X_laload (m := 350) (pc := 699)  (by decide +kernel) ).trans ?_
      refine ite_congr rfl (fun _ => ?_) (fun _ => rfl)
      refine (X_iload (m := 350) (pc := 700) (n := 7) (by decide +kernel) rfl).trans ?_
      refine (X_i2l (m := 350) (pc := 702)  (by decide +kernel) ).trans ?_
      refine (X_lcmp (m := 350) (pc := 703)  (by decide +kernel) ).trans ?_
      refine (X_if_eq (m := 350) (pc := 704) (off := 5) (tg := 709) (by decide +kernel) (by decide +kernel)).trans ?_
      refine ite_congr rfl (fun _ => ?_) (fun _ => ?_)
      · refine (X_goto (m := 350) (pc := 709) (off := 2771) (tg := 3480) (by decide +kernel) (by decide +kernel)).trans ?_
        refine (X_iinc (m := 350) (pc := 3480) (n := 5) (c := 7) (by decide +kernel) rfl rfl (Nat.le_of_ble_eq_true rfl) rfl).trans ?_
        refine (X_goto (m := 350) (pc := 3483) (off := -3455) (tg := 28) (by decide +kernel) (by decide +kernel)).trans ?_
        rfl
      · refine (X_iconst (m := 350) (pc := 707) (n := 0) (by decide +kernel) ).trans ?_
        exact X_ireturn (m := 350) (pc := 708) (f := 2) (by decide +kernel) (by decide +kernel) rfl
  · refine (X_iconst (m := 350) (pc := 690) (n := 0) (by decide +kernel) ).trans ?_
    exact X_ireturn (m := 350) (pc := 691) (f := 2) (by decide +kernel) (by decide +kernel) rfl
theorem B_L_law_753 {k : Nat → Nat × Nat} {u : Nat → Nat → Int} {g : Nat → Nat → Nat} {t : Nat × Nat × Nat} {r0 : Nat} {r1 : Nat} {r2 : Nat} {r3 : Nat} {r4 : Nat} {x5 : Int} {x6 : Int} {x7 : Int} {v8 : AV} {y0 : Int} : a_X 350 753 [a_r (r0), a_r (r1), a_r (r2), a_r (r3), a_r (r4), a_i (x5), a_i (x6), a_i (x7), v8] [a_i (y0)] (k, u, g, t) = if (y0 : Int) = (x6 : Int) then if (x6 : Int) ≠ 0 then a_X 350 28 [a_r (r0), a_r (r1), a_r (r2), a_r (r3), a_r (r4), a_i (wr (x5 + 7)), a_i (x6), a_i (x7), v8] [] (k, u, g, t) else if (k r3).1 = 22 ∧ 0 ≤ (0 : Int) ∧ (0 : Int) < ((k r3).2 : Int) then if (if (u r3 (0 : Int).toNat) < (x7) then -1 else if (u r3 (0 : Int).toNat) = (x7) then 0 else 1 : Int) = 0 then a_X 350 28 [a_r (r0), a_r (r1), a_r (r2), a_r (r3), a_r (r4), a_i (wr (x5 + 7)), a_i (x6), a_i (x7), v8] [] (k, u, g, t) else some (.inl (some (a_i (0))), (k, u, g, t)) else none else some (.inl (some (a_i (0))), (k, u, g, t)) := by
  refine (X_iload (m := 350) (pc := 753) (n := 6) (by decide +kernel) rfl).trans ?_
  refine (X_ic_eq (m := 350) (pc := 755) (off := 5) (tg := 760) (by decide +kernel) (by decide +kernel)).trans ?_
  refine ite_congr rfl (fun _ => ?_) (fun _ => ?_)
  · refine (X_iload (m := 350) (pc := 760) (n := 6) (by decide +kernel) rfl).trans ?_
    refine (X_if_ne (m := 350) (pc := 762) (off := 15) (tg := 777) (by decide +kernel) (by decide +kernel)).trans ?_
    refine ite_congr rfl (fun _ => ?_) (fun _ => ?_)
    · refine (X_goto (m := 350) (pc := 777) (off := 2703) (tg := 3480) (by decide +kernel) (by decide +kernel)).trans ?_
      refine (X_iinc (m := 350) (pc := 3480) (n := 5) (c := 7) (by decide +kernel) rfl rfl (Nat.le_of_ble_eq_true rfl) rfl).trans ?_
      refine (X_goto (m := 350) (pc := 3483) (off := -3455) (tg := 28) (by decide +kernel) (by decide +kernel)).trans ?_
      rfl
    · refine (X_aload_n (m := 350) (pc := 765) (n := 3) (by decide +kernel) rfl).trans ?_
      refine (X_iconst (m := 350) (pc := 766) (n := 0) (by decide +kernel) ).trans ?_
      refine (X_laload (m := 350) (pc := 767)  (by decide +kernel) ).trans ?_
      refine ite_congr rfl (fun _ => ?_) (fun _ => rfl)
      refine (X_iload (m := 350) (pc := 768) (n := 7) (by decide +kernel) rfl).trans ?_
      refine (X_i2l (m := 350) (pc := 770)  (by decide +kernel) ).trans ?_
      refine (X_lcmp (m := 350) (pc := 771)  (by decide +kernel) ).trans ?_
      refine (X_if_eq (m := 350) (pc := 772) (off := 5) (tg := 777) (by decide +kernel) (by decide +kernel)).trans ?_
      refine ite_congr rfl (fun _ => ?_) (fun _ => ?_)
      · refine (X_goto (m := 350) (pc := 777) (off := 2703) (tg := 3480) (by decide +kernel) (by decide +kernel)).trans ?_
        refine (X_iinc (m := 350) (pc := 3480) (n := 5) (c := 7) (by decide +kernel) rfl rfl (Nat.le_of_ble_eq_true rfl) rfl).trans ?_
        refine (X_goto (m := 350) (pc := 3483) (off := -3455) (tg := 28) (by decide +kernel) (by decide +kernel)).trans ?_
        rfl
      · refine (X_iconst (m := 350) (pc := 775) (n := 0) (by decide +kernel) ).trans ?_
        exact X_ireturn (m := 350) (pc := 776) (f := 2) (by decide +kernel) (by decide +kernel) rfl
  · refine (X_iconst (m := 350) (pc := 758) (n := 0) (by decide +kernel) ).trans ?_
    exact X_ireturn (m := 350) (pc := 759) (f := 2) (by decide +kernel) (by decide +kernel) rfl
theorem B_L_law_833 {k : Nat → Nat × Nat} {u : Nat → Nat → Int} {g : Nat → Nat → Nat} {t : Nat × Nat × Nat} {r0 : Nat} {r1 : Nat} {r2 : Nat} {r3 : Nat} {r4 : Nat} {x5 : Int} {x6 : Int} {x7 : Int} {v8 : AV} {y0 : Int} : a_X 350 833 [a_r (r0), a_r (r1), a_r (r2), a_r (r3), a_r (r4), a_i (x5), a_i (x6), a_i (x7), v8] [a_i (y0)] (k, u, g, t) = if (y0 : Int) = (x6 : Int) then if (x6 : Int) ≠ 0 then a_X 350 28 [a_r (r0), a_r (r1), a_r (r2), a_r (r3), a_r (r4), a_i (wr (x5 + 7)), a_i (x6), a_i (x7), v8] [] (k, u, g, t) else if (k r3).1 = 22 ∧ 0 ≤ (0 : Int) ∧ (0 : Int) < ((k r3).2 : Int) then if (if (u r3 (0 : Int).toNat) < (x7) then -1 else if (u r3 (0 : Int).toNat) = (x7) then 0 else 1 : Int) = 0 then a_X 350 28 [a_r (r0), a_r (r1), a_r (r2), a_r (r3), a_r (r4), a_i (wr (x5 + 7)), a_i (x6), a_i (x7), v8] [] (k, u, g, t) else some (.inl (some (a_i (0))), (k, u, g, t)) else none else some (.inl (some (a_i (0))), (k, u, g, t)) := by
  refine (X_iload (m := 350) (pc := 833) (n := 6) (by decide +kernel) rfl).trans ?_
  refine (X_ic_eq (m := 350) (pc := 835) (off := 5) (tg := 840) (by decide +kernel) (by decide +kernel)).trans ?_
  refine ite_congr rfl (fun _ => ?_) (fun _ => ?_)
  · refine (X_iload (m := 350) (pc := 840) (n := 6) (by decide +kernel) rfl).trans ?_
    refine (X_if_ne (m := 350) (pc := 842) (off := 15) (tg := 857) (by decide +kernel) (by decide +kernel)).trans ?_
    refine ite_congr rfl (fun _ => ?_) (fun _ => ?_)
    · refine (X_goto (m := 350) (pc := 857) (off := 2623) (tg := 3480) (by decide +kernel) (by decide +kernel)).trans ?_
      refine (X_iinc (m := 350) (pc := 3480) (n := 5) (c := 7) (by decide +kernel) rfl rfl (Nat.le_of_ble_eq_true rfl) rfl).trans ?_
      refine (X_goto (m := 350) (pc := 3483) (off := -3455) (tg := 28) (by decide +kernel) (by decide +kernel)).trans ?_
      rfl
    · refine (X_aload_n (m := 350) (pc := 845) (n := 3) (by decide +kernel) rfl).trans ?_
      refine (X_iconst (m := 350) (pc := 846) (n := 0) (by decide +kernel) ).trans ?_
      refine (X_laload (m := 350) (pc := 847)  (by decide +kernel) ).trans ?_
      refine ite_congr rfl (fun _ => ?_) (fun _ => rfl)
      refine (X_iload (m := 350) (pc := 848) (n := 7) (by decide +kernel) rfl).trans ?_
      refine (X_i2l (m := 350) (pc := 850)  (by decide +kernel) ).trans ?_
      refine (X_lcmp (m := 350) (pc := 851)  (by decide +kernel) ).trans ?_
      refine (X_if_eq (m := 350) (pc := 852) (off := 5) (tg := 857) (by decide +kernel) (by decide +kernel)).trans ?_
      refine ite_congr rfl (fun _ => ?_) (fun _ => ?_)
      · refine (X_goto (m := 350) (pc := 857) (off := 2623) (tg := 3480) (by decide +kernel) (by decide +kernel)).trans ?_
        refine (X_iinc (m := 350) (pc := 3480) (n := 5) (c := 7) (by decide +kernel) rfl rfl (Nat.le_of_ble_eq_true rfl) rfl).trans ?_
        refine (X_goto (m := 350) (pc := 3483) (off := -3455) (tg := 28) (by decide +kernel) (by decide +kernel)).trans ?_
        rfl
      · refine (X_iconst (m := 350) (pc := 855) (n := 0) (by decide +kernel) ).trans ?_
        exact X_ireturn (m := 350) (pc := 856) (f := 2) (by decide +kernel) (by decide +kernel) rfl
  · refine (X_iconst (m := 350) (pc := 838) (n := 0) (by decide +kernel) ).trans ?_
    exact X_ireturn (m := 350) (pc := 839) (f := 2) (by decide +kernel) (by decide +kernel) rfl
theorem B_L_law_913 {k : Nat → Nat × Nat} {u : Nat → Nat → Int} {g : Nat → Nat → Nat} {t : Nat × Nat × Nat} {r0 : Nat} {r1 : Nat} {r2 : Nat} {r3 : Nat} {r4 : Nat} {x5 : Int} {x6 : Int} {x7 : Int} {v8 : AV} {y0 : Int} : a_X 350 913 [a_r (r0), a_r (r1), a_r (r2), a_r (r3), a_r (r4), a_i (x5), a_i (x6), a_i (x7), v8] [a_i (y0)] (k, u, g, t) = if (y0 : Int) = (x6 : Int) then if (x6 : Int) ≠ 0 then a_X 350 28 [a_r (r0), a_r (r1), a_r (r2), a_r (r3), a_r (r4), a_i (wr (x5 + 7)), a_i (x6), a_i (x7), v8] [] (k, u, g, t) else if (k r3).1 = 22 ∧ 0 ≤ (0 : Int) ∧ (0 : Int) < ((k r3).2 : Int) then if (if (u r3 (0 : Int).toNat) < (x7) then -1 else if (u r3 (0 : Int).toNat) = (x7) then 0 else 1 : Int) = 0 then a_X 350 28 [a_r (r0), a_r (r1), a_r (r2), a_r (r3), a_r (r4), a_i (wr (x5 + 7)), a_i (x6), a_i (x7), v8] [] (k, u, g, t) else some (.inl (some (a_i (0))), (k, u, g, t)) else none else some (.inl (some (a_i (0))), (k, u, g, t)) := by
  refine (X_iload (m := 350) (pc := 913) (n := 6) (by decide +kernel) rfl).trans ?_
  refine (X_ic_eq (m := 350) (pc := 915) (off := 5) (tg := 920) (by decide +kernel) (by decide +kernel)).trans ?_
  refine ite_congr rfl (fun _ => ?_) (fun _ => ?_)
  · refine (X_iload (m := 350) (pc := 920) (n := 6) (by decide +kernel) rfl).trans ?_
    refine (X_if_ne (m := 350) (pc := 922) (off := 15) (tg := 937) (by decide +kernel) (by decide +kernel)).trans ?_
    refine ite_congr rfl (fun _ => ?_) (fun _ => ?_)
    · refine (X_goto (m := 350) (pc := 937) (off := 2543) (tg := 3480) (by decide +kernel) (by decide +kernel)).trans ?_
      refine (X_iinc (m := 350) (pc := 3480) (n := 5) (c := 7) (by decide +kernel) rfl rfl (Nat.le_of_ble_eq_true rfl) rfl).trans ?_
      refine (X_goto (m := 350) (pc := 3483) (off := -3455) (tg := 28) (by decide +kernel) (by decide +kernel)).trans ?_
      rfl
    · refine (X_aload_n (m := 350) (pc := 925) (n := 3) (by decide +kernel) rfl).trans ?_
      refine (X_iconst (m := 350) (pc := 926) (n := 0) (by decide +kernel) ).trans ?_
      refine (X_laload (m := 350) (pc := 927)  (by decide +kernel) ).trans ?_
      refine ite_congr rfl (fun _ => ?_) (fun _ => rfl)
      refine (X_iload (m := 350) (pc := 928) (n := 7) (by decide +kernel) rfl).trans ?_
      refine (X_i2l (m := 350) (pc := 930)  (by decide +kernel) ).trans ?_
      refine (X_lcmp (m := 350) (pc := 931)  (by decide +kernel) ).trans ?_
      refine (X_if_eq (m := 350) (pc := 932) (off := 5) (tg := 937) (by decide +kernel) (by decide +kernel)).trans ?_
      refine ite_congr rfl (fun _ => ?_) (fun _ => ?_)
      · refine (X_goto (m := 350) (pc := 937) (off := 2543) (tg := 3480) (by decide +kernel) (by decide +kernel)).trans ?_
        refine (X_iinc (m := 350) (pc := 3480) (n := 5) (c := 7) (by decide +kernel) rfl rfl (Nat.le_of_ble_eq_true rfl) rfl).trans ?_
        refine (X_goto (m := 350) (pc := 3483) (off := -3455) (tg := 28) (by decide +kernel) (by decide +kernel)).trans ?_
        rfl
      · refine (X_iconst (m := 350) (pc := 935) (n := 0) (by decide +kernel) ).trans ?_
        exact X_ireturn (m := 350) (pc := 936) (f := 2) (by decide +kernel) (by decide +kernel) rfl
  · refine (X_iconst (m := 350) (pc := 918) (n := 0) (by decide +kernel) ).trans ?_
    exact X_ireturn (m := 350) (pc := 919) (f := 2) (by decide +kernel) (by decide +kernel) rfl
theorem B_L_law_969 {k : Nat → Nat × Nat} {u : Nat → Nat → Int} {g : Nat → Nat → Nat} {t : Nat × Nat × Nat} {r0 : Nat} {r1 : Nat} {r2 : Nat} {r3 : Nat} {r4 : Nat} {x5 : Int} {x6 : Int} {x7 : Int} {v8 : AV} {y0 : Int} : a_X 350 969 [a_r (r0), a_r (r1), a_r (r2), a_r (r3), a_r (r4), a_i (x5), a_i (x6), a_i (x7), v8] [a_i (y0)] (k, u, g, t) = if (y0 : Int) = (x6 : Int) then if (x6 : Int) ≠ 0 then a_X 350 28 [a_r (r0), a_r (r1), a_r (r2), a_r (r3), a_r (r4), a_i (wr (x5 + 7)), a_i (x6), a_i (x7), v8] [] (k, u, g, t) else if (k r3).1 = 22 ∧ 0 ≤ (0 : Int) ∧ (0 : Int) < ((k r3).2 : Int) then if (if (u r3 (0 : Int).toNat) < (x7) then -1 else if (u r3 (0 : Int).toNat) = (x7) then 0 else 1 : Int) = 0 then a_X 350 28 [a_r (r0), a_r (r1), a_r (r2), a_r (r3), a_r (r4), a_i (wr (x5 + 7)), a_i (x6), a_i (x7), v8] [] (k, u, g, t) else some (.inl (some (a_i (0))), (k, u, g, t)) else none else some (.inl (some (a_i (0))), (k, u, g, t)) := by
  refine (X_iload (m := 350) (pc := 969) (n := 6) (by decide +kernel) rfl).trans ?_
  refine (X_ic_eq (m := 350) (pc := 971) (off := 5) (tg := 976) (by decide +kernel) (by decide +kernel)).trans ?_
  refine ite_congr rfl (fun _ => ?_) (fun _ => ?_)
  · refine (X_iload (m := 350) (pc := 976) (n := 6) (by decide +kernel) rfl).trans ?_
    refine (X_if_ne (m := 350) (pc := 978) (off := 15) (tg := 993) (by decide +kernel) (by decide +kernel)).trans ?_
    refine ite_congr rfl (fun _ => ?_) (fun _ => ?_)
    · refine (X_goto (m := 350) (pc := 993) (off := 2487) (tg := 3480) (by decide +kernel) (by decide +kernel)).trans ?_
      refine (X_iinc (m := 350) (pc := 3480) (n := 5) (c := 7) (by decide +kernel) rfl rfl (Nat.le_of_ble_eq_true rfl) rfl).trans ?_
      refine (X_goto (m := 350) (pc := 3483) (off := -3455) (tg := 28) (by decide +kernel) (by decide +kernel)).trans ?_
      rfl
    · refine (X_aload_n (m := 350) (pc := 981) (n := 3) (by decide +kernel) rfl).trans ?_
      refine (X_iconst (m := 350) (pc := 982) (n := 0) (by decide +kernel) ).trans ?_
      refine (X_laload (m := 350) (pc := 983)  (by decide +kernel) ).trans ?_
      refine ite_congr rfl (fun _ => ?_) (fun _ => rfl)
      refine (X_iload (m := 350) (pc := 984) (n := 7) (by decide +kernel) rfl).trans ?_
      refine (X_i2l (m := 350) (pc := 986)  (by decide +kernel) ).trans ?_
      refine (X_lcmp (m := 350) (pc := 987)  (by decide +kernel) ).trans ?_
      refine (X_if_eq (m := 350) (pc := 988) (off := 5) (tg := 993) (by decide +kernel) (by decide +kernel)).trans ?_
      refine ite_congr rfl (fun _ => ?_) (fun _ => ?_)
      · refine (X_goto (m := 350) (pc := 993) (off := 2487) (tg := 3480) (by decide +kernel) (by decide +kernel)).trans ?_
        refine (X_iinc (m := 350) (pc := 3480) (n := 5) (c := 7) (by decide +kernel) rfl rfl (Nat.le_of_ble_eq_true rfl) rfl).trans ?_
        refine (X_goto (m := 350) (pc := 3483) (off := -3455) (tg := 28) (by decide +kernel) (by decide +kernel)).trans ?_
        rfl
      · refine (X_iconst (m := 350) (pc := 991) (n := 0) (by decide +kernel) ).trans ?_
        exact X_ireturn (m := 350) (pc := 992) (f := 2) (by decide +kernel) (by decide +kernel) rfl
  · refine (X_iconst (m := 350) (pc := 974) (n := 0) (by decide +kernel) ).trans ?_
    exact X_ireturn (m := 350) (pc := 975) (f := 2) (by decide +kernel) (by decide +kernel) rfl
theorem B_L_law_1037 {k : Nat → Nat × Nat} {u : Nat → Nat → Int} {g : Nat → Nat → Nat} {t : Nat × Nat × Nat} {r0 : Nat} {r1 : Nat} {r2 : Nat} {r3 : Nat} {r4 : Nat} {x5 : Int} {x6 : Int} {x7 : Int} {v8 : AV} {y0 : Int} : a_X 350 1037 [a_r (r0), a_r (r1), a_r (r2), a_r (r3), a_r (r4), a_i (x5), a_i (x6), a_i (x7), v8] [a_i (y0)] (k, u, g, t) = if (y0 : Int) = (x6 : Int) then if (x6 : Int) ≠ 0 then a_X 350 28 [a_r (r0), a_r (r1), a_r (r2), a_r (r3), a_r (r4), a_i (wr (x5 + 7)), a_i (x6), a_i (x7), v8] [] (k, u, g, t) else if (k r3).1 = 22 ∧ 0 ≤ (0 : Int) ∧ (0 : Int) < ((k r3).2 : Int) then if (if (u r3 (0 : Int).toNat) < (x7) then -1 else if (u r3 (0 : Int).toNat) = (x7) then 0 else 1 : Int) = 0 then a_X 350 28 [a_r (r0), a_r (r1), a_r (r2), a_r (r3), a_r (r4), a_i (wr (x5 + 7)), a_i (x6), a_i (x7), v8] [] (k, u, g, t) else some (.inl (some (a_i (0))), (k, u, g, t)) else none else some (.inl (some (a_i (0))), (k, u, g, t)) := by
  refine (X_iload (m := 350) (pc := 1037) (n := 6) (by decide +kernel) rfl).trans ?_
  refine (X_ic_eq (m := 350) (pc := 1039) (off := 5) (tg := 1044) (by decide +kernel) (by decide +kernel)).trans ?_
  refine ite_congr rfl (fun _ => ?_) (fun _ => ?_)
  · refine (X_iload (m := 350) (pc := 1044) (n := 6) (by decide +kernel) rfl).trans ?_
    refine (X_if_ne (m := 350) (pc := 1046) (off := 15) (tg := 1061) (by decide +kernel) (by decide +kernel)).trans ?_
    refine ite_congr rfl (fun _ => ?_) (fun _ => ?_)
    · refine (X_goto (m := 350) (pc := 1061) (off := 2419) (tg := 3480) (by decide +kernel) (by decide +kernel)).trans ?_
      refine (X_iinc (m := 350) (pc := 3480) (n := 5) (c := 7) (by decide +kernel) rfl rfl (Nat.le_of_ble_eq_true rfl) rfl).trans ?_
      refine (X_goto (m := 350) (pc := 3483) (off := -3455) (tg := 28) (by decide +kernel) (by decide +kernel)).trans ?_
      rfl
    · refine (X_aload_n (m := 350) (pc := 1049) (n := 3) (by decide +kernel) rfl).trans ?_
      refine (X_iconst (m := 350) (pc := 1050) (n := 0) (by decide +kernel) ).trans ?_
      refine (X_laload (m := 350) (pc := 1051)  (by decide +kernel) ).trans ?_
      refine ite_congr rfl (fun _ => ?_) (fun _ => rfl)
      refine (X_iload (m := 350) (pc := 1052) (n := 7) (by decide +kernel) rfl).trans ?_
      refine (X_i2l (m := 350) (pc := 1054)  (by decide +kernel) ).trans ?_
      refine (X_lcmp (m := 350) (pc := 1055)  (by decide +kernel) ).trans ?_
      refine (X_if_eq (m := 350) (pc := 1056) (off := 5) (tg := 1061) (by decide +kernel) (by decide +kernel)).trans ?_
      refine ite_congr rfl (fun _ => ?_) (fun _ => ?_)
      · refine (X_goto (m := 350) (pc := 1061) (off := 2419) (tg := 3480) (by decide +kernel) (by decide +kernel)).trans ?_
        refine (X_iinc (m := 350) (pc := 3480) (n := 5) (c := 7) (by decide +kernel) rfl rfl (Nat.le_of_ble_eq_true rfl) rfl).trans ?_
        refine (X_goto (m := 350) (pc := 3483) (off := -3455) (tg := 28) (by decide +kernel) (by decide +kernel)).trans ?_
        rfl
      · refine (X_iconst (m := 350) (pc := 1059) (n := 0) (by decide +kernel) ).trans ?_
        exact X_ireturn (m := 350) (pc := 1060) (f := 2) (by decide +kernel) (by decide +kernel) rfl
  · refine (X_iconst (m := 350) (pc := 1042) (n := 0) (by decide +kernel) ).trans ?_
    exact X_ireturn (m := 350) (pc := 1043) (f := 2) (by decide +kernel) (by decide +kernel) rfl
theorem B_L_law_1129 {k : Nat → Nat × Nat} {u : Nat → Nat → Int} {g : Nat → Nat → Nat} {t : Nat × Nat × Nat} {r0 : Nat} {r1 : Nat} {r2 : Nat} {r3 : Nat} {r4 : Nat} {x5 : Int} {x6 : Int} {x7 : Int} {v8 : AV} {y0 : Int} : a_X 350 1129 [a_r (r0), a_r (r1), a_r (r2), a_r (r3), a_r (r4), a_i (x5), a_i (x6), a_i (x7), v8] [a_i (y0)] (k, u, g, t) = if (y0 : Int) = (x6 : Int) then if (x6 : Int) ≠ 0 then a_X 350 28 [a_r (r0), a_r (r1), a_r (r2), a_r (r3), a_r (r4), a_i (wr (x5 + 7)), a_i (x6), a_i (x7), v8] [] (k, u, g, t) else if (k r3).1 = 22 ∧ 0 ≤ (0 : Int) ∧ (0 : Int) < ((k r3).2 : Int) then if (if (u r3 (0 : Int).toNat) < (x7) then -1 else if (u r3 (0 : Int).toNat) = (x7) then 0 else 1 : Int) = 0 then a_X 350 28 [a_r (r0), a_r (r1), a_r (r2), a_r (r3), a_r (r4), a_i (wr (x5 + 7)), a_i (x6), a_i (x7), v8] [] (k, u, g, t) else some (.inl (some (a_i (0))), (k, u, g, t)) else none else some (.inl (some (a_i (0))), (k, u, g, t)) := by
  refine (X_iload (m := 350) (pc := 1129) (n := 6) (by decide +kernel) rfl).trans ?_
  refine (X_ic_eq (m := 350) (pc := 1131) (off := 5) (tg := 1136) (by decide +kernel) (by decide +kernel)).trans ?_
  refine ite_congr rfl (fun _ => ?_) (fun _ => ?_)
  · refine (X_iload (m := 350) (pc := 1136) (n := 6) (by decide +kernel) rfl).trans ?_
    refine (X_if_ne (m := 350) (pc := 1138) (off := 15) (tg := 1153) (by decide +kernel) (by decide +kernel)).trans ?_
    refine ite_congr rfl (fun _ => ?_) (fun _ => ?_)
    · refine (X_goto (m := 350) (pc := 1153) (off := 2327) (tg := 3480) (by decide +kernel) (by decide +kernel)).trans ?_
      refine (X_iinc (m := 350) (pc := 3480) (n := 5) (c := 7) (by decide +kernel) rfl rfl (Nat.le_of_ble_eq_true rfl) rfl).trans ?_
      refine (X_goto (m := 350) (pc := 3483) (off := -3455) (tg := 28) (by decide +kernel) (by decide +kernel)).trans ?_
      rfl
    · refine (X_aload_n (m := 350) (pc := 1141) (n := 3) (by decide +kernel) rfl).trans ?_
      refine (X_iconst (m := 350) (pc := 1142) (n := 0) (by decide +kernel) ).trans ?_
      refine (X_laload (m := 350) (pc := 1143)  (by decide +kernel) ).trans ?_
      refine ite_congr rfl (fun _ => ?_) (fun _ => rfl)
      refine (X_iload (m := 350) (pc := 1144) (n := 7) (by decide +kernel) rfl).trans ?_
      refine (X_i2l (m := 350) (pc := 1146)  (by decide +kernel) ).trans ?_
      refine (X_lcmp (m := 350) (pc := 1147)  (by decide +kernel) ).trans ?_
      refine (X_if_eq (m := 350) (pc := 1148) (off := 5) (tg := 1153) (by decide +kernel) (by decide +kernel)).trans ?_
      refine ite_congr rfl (fun _ => ?_) (fun _ => ?_)
      · refine (X_goto (m := 350) (pc := 1153) (off := 2327) (tg := 3480) (by decide +kernel) (by decide +kernel)).trans ?_
        refine (X_iinc (m := 350) (pc := 3480) (n := 5) (c := 7) (by decide +kernel) rfl rfl (Nat.le_of_ble_eq_true rfl) rfl).trans ?_
        refine (X_goto (m := 350) (pc := 3483) (off := -3455) (tg := 28) (by decide +kernel) (by decide +kernel)).trans ?_
        rfl
      · refine (X_iconst (m := 350) (pc := 1151) (n := 0) (by decide +kernel) ).trans ?_
        exact X_ireturn (m := 350) (pc := 1152) (f := 2) (by decide +kernel) (by decide +kernel) rfl
  · refine (X_iconst (m := 350) (pc := 1134) (n := 0) (by decide +kernel) ).trans ?_
    exact X_ireturn (m := 350) (pc := 1135) (f := 2) (by decide +kernel) (by decide +kernel) rfl
theorem B_L_law_1197 {k : Nat → Nat × Nat} {u : Nat → Nat → Int} {g : Nat → Nat → Nat} {t : Nat × Nat × Nat} {r0 : Nat} {r1 : Nat} {r2 : Nat} {r3 : Nat} {r4 : Nat} {x5 : Int} {x6 : Int} {x7 : Int} {v8 : AV} {y0 : Int} : a_X 350 1197 [a_r (r0), a_r (r1), a_r (r2), a_r (r3), a_r (r4), a_i (x5), a_i (x6), a_i (x7), v8] [a_i (y0)] (k, u, g, t) = if (y0 : Int) = (x6 : Int) then if (x6 : Int) ≠ 0 then a_X 350 28 [a_r (r0), a_r (r1), a_r (r2), a_r (r3), a_r (r4), a_i (wr (x5 + 7)), a_i (x6), a_i (x7), v8] [] (k, u, g, t) else if (k r3).1 = 22 ∧ 0 ≤ (0 : Int) ∧ (0 : Int) < ((k r3).2 : Int) then if (if (u r3 (0 : Int).toNat) < (x7) then -1 else if (u r3 (0 : Int).toNat) = (x7) then 0 else 1 : Int) = 0 then a_X 350 28 [a_r (r0), a_r (r1), a_r (r2), a_r (r3), a_r (r4), a_i (wr (x5 + 7)), a_i (x6), a_i (x7), v8] [] (k, u, g, t) else some (.inl (some (a_i (0))), (k, u, g, t)) else none else some (.inl (some (a_i (0))), (k, u, g, t)) := by
  refine (X_iload (m := 350) (pc := 1197) (n := 6) (by decide +kernel) rfl).trans ?_
  refine (X_ic_eq (m := 350) (pc := 1199) (off := 5) (tg := 1204) (by decide +kernel) (by decide +kernel)).trans ?_
  refine ite_congr rfl (fun _ => ?_) (fun _ => ?_)
  · refine (X_iload (m := 350) (pc := 1204) (n := 6) (by decide +kernel) rfl).trans ?_
    refine (X_if_ne (m := 350) (pc := 1206) (off := 15) (tg := 1221) (by decide +kernel) (by decide +kernel)).trans ?_
    refine ite_congr rfl (fun _ => ?_) (fun _ => ?_)
    · refine (X_goto (m := 350) (pc := 1221) (off := 2259) (tg := 3480) (by decide +kernel) (by decide +kernel)).trans ?_
      refine (X_iinc (m := 350) (pc := 3480) (n := 5) (c := 7) (by decide +kernel) rfl rfl (Nat.le_of_ble_eq_true rfl) rfl).trans ?_
      refine (X_goto (m := 350) (pc := 3483) (off := -3455) (tg := 28) (by decide +kernel) (by decide +kernel)).trans ?_
      rfl
    · refine (X_aload_n (m := 350) (pc := 1209) (n := 3) (by decide +kernel) rfl).trans ?_
      refine (X_iconst (m := 350) (pc := 1210) (n := 0) (by decide +kernel) ).trans ?_
      refine (X_laload (m := 350) (pc := 1211)  (by decide +kernel) ).trans ?_
      refine ite_congr rfl (fun _ => ?_) (fun _ => rfl)
      refine (X_iload (m := 350) (pc := 1212) (n := 7) (by decide +kernel) rfl).trans ?_
      refine (X_i2l (m := 350) (pc := 1214)  (by decide +kernel) ).trans ?_
      refine (X_lcmp (m := 350) (pc := 1215)  (by decide +kernel) ).trans ?_
      refine (X_if_eq (m := 350) (pc := 1216) (off := 5) (tg := 1221) (by decide +kernel) (by decide +kernel)).trans ?_
      refine ite_congr rfl (fun _ => ?_) (fun _ => ?_)
      · refine (X_goto (m := 350) (pc := 1221) (off := 2259) (tg := 3480) (by decide +kernel) (by decide +kernel)).trans ?_
        refine (X_iinc (m := 350) (pc := 3480) (n := 5) (c := 7) (by decide +kernel) rfl rfl (Nat.le_of_ble_eq_true rfl) rfl).trans ?_
        refine (X_goto (m := 350) (pc := 3483) (off := -3455) (tg := 28) (by decide +kernel) (by decide +kernel)).trans ?_
        rfl
      · refine (X_iconst (m := 350) (pc := 1219) (n := 0) (by decide +kernel) ).trans ?_
        exact X_ireturn (m := 350) (pc := 1220) (f := 2) (by decide +kernel) (by decide +kernel) rfl
  · refine (X_iconst (m := 350) (pc := 1202) (n := 0) (by decide +kernel) ).trans ?_
    exact X_ireturn (m := 350) (pc := 1203) (f := 2) (by decide +kernel) (by decide +kernel) rfl
theorem B_L_law_1277 {k : Nat → Nat × Nat} {u : Nat → Nat → Int} {g : Nat → Nat → Nat} {t : Nat × Nat × Nat} {r0 : Nat} {r1 : Nat} {r2 : Nat} {r3 : Nat} {r4 : Nat} {x5 : Int} {x6 : Int} {x7 : Int} {v8 : AV} {y0 : Int} : a_X 350 1277 [a_r (r0), a_r (r1), a_r (r2), a_r (r3), a_r (r4), a_i (x5), a_i (x6), a_i (x7), v8] [a_i (y0)] (k, u, g, t) = if (y0 : Int) = (x6 : Int) then if (x6 : Int) ≠ 0 then a_X 350 28 [a_r (r0), a_r (r1), a_r (r2), a_r (r3), a_r (r4), a_i (wr (x5 + 7)), a_i (x6), a_i (x7), v8] [] (k, u, g, t) else if (k r3).1 = 22 ∧ 0 ≤ (0 : Int) ∧ (0 : Int) < ((k r3).2 : Int) then if (if (u r3 (0 : Int).toNat) < (x7) then -1 else if (u r3 (0 : Int).toNat) = (x7) then 0 else 1 : Int) = 0 then a_X 350 28 [a_r (r0), a_r (r1), a_r (r2), a_r (r3), a_r (r4), a_i (wr (x5 + 7)), a_i (x6), a_i (x7), v8] [] (k, u, g, t) else some (.inl (some (a_i (0))), (k, u, g, t)) else none else some (.inl (some (a_i (0))), (k, u, g, t)) := by
  refine (X_iload (m := 350) (pc := 1277) (n := 6) (by decide +kernel) rfl).trans ?_
  refine (X_ic_eq (m := 350) (pc := 1279) (off := 5) (tg := 1284) (by decide +kernel) (by decide +kernel)).trans ?_
  refine ite_congr rfl (fun _ => ?_) (fun _ => ?_)
  · refine (X_iload (m := 350) (pc := 1284) (n := 6) (by decide +kernel) rfl).trans ?_
    refine (X_if_ne (m := 350) (pc := 1286) (off := 15) (tg := 1301) (by decide +kernel) (by decide +kernel)).trans ?_
    refine ite_congr rfl (fun _ => ?_) (fun _ => ?_)
    · refine (X_goto (m := 350) (pc := 1301) (off := 2179) (tg := 3480) (by decide +kernel) (by decide +kernel)).trans ?_
      refine (X_iinc (m := 350) (pc := 3480) (n := 5) (c := 7) (by decide +kernel) rfl rfl (Nat.le_of_ble_eq_true rfl) rfl).trans ?_
      refine (X_goto (m := 350) (pc := 3483) (off := -3455) (tg := 28) (by decide +kernel) (by decide +kernel)).trans ?_
      rfl
    · refine (X_aload_n (m := 350) (pc := 1289) (n := 3) (by decide +kernel) rfl).trans ?_
      refine (X_iconst (m := 350) (pc := 1290) (n := 0) (by decide +kernel) ).trans ?_
      refine (X_laload (m := 350) (pc := 1291)  (by decide +kernel) ).trans ?_
      refine ite_congr rfl (fun _ => ?_) (fun _ => rfl)
      refine (X_iload (m := 350) (pc := 1292) (n := 7) (by decide +kernel) rfl).trans ?_
      refine (X_i2l (m := 350) (pc := 1294)  (by decide +kernel) ).trans ?_
      refine (X_lcmp (m := 350) (pc := 1295)  (by decide +kernel) ).trans ?_
      refine (X_if_eq (m := 350) (pc := 1296) (off := 5) (tg := 1301) (by decide +kernel) (by decide +kernel)).trans ?_
      refine ite_congr rfl (fun _ => ?_) (fun _ => ?_)
      · refine (X_goto (m := 350) (pc := 1301) (off := 2179) (tg := 3480) (by decide +kernel) (by decide +kernel)).trans ?_
        refine (X_iinc (m := 350) (pc := 3480) (n := 5) (c := 7) (by decide +kernel) rfl rfl (Nat.le_of_ble_eq_true rfl) rfl).trans ?_
        refine (X_goto (m := 350) (pc := 3483) (off := -3455) (tg := 28) (by decide +kernel) (by decide +kernel)).trans ?_
        rfl
      · refine (X_iconst (m := 350) (pc := 1299) (n := 0) (by decide +kernel) ).trans ?_
        exact X_ireturn (m := 350) (pc := 1300) (f := 2) (by decide +kernel) (by decide +kernel) rfl
  · refine (X_iconst (m := 350) (pc := 1282) (n := 0) (by decide +kernel) ).trans ?_
    exact X_ireturn (m := 350) (pc := 1283) (f := 2) (by decide +kernel) (by decide +kernel) rfl
theorem B_L_law_1345 {k : Nat → Nat × Nat} {u : Nat → Nat → Int} {g : Nat → Nat → Nat} {t : Nat × Nat × Nat} {r0 : Nat} {r1 : Nat} {r2 : Nat} {r3 : Nat} {r4 : Nat} {x5 : Int} {x6 : Int} {x7 : Int} {v8 : AV} {y0 : Int} : a_X 350 1345 [a_r (r0), a_r (r1), a_r (r2), a_r (r3), a_r (r4), a_i (x5), a_i (x6), a_i (x7), v8] [a_i (y0)] (k, u, g, t) = if (y0 : Int) = (x6 : Int) then if (x6 : Int) ≠ 0 then a_X 350 28 [a_r (r0), a_r (r1), a_r (r2), a_r (r3), a_r (r4), a_i (wr (x5 + 7)), a_i (x6), a_i (x7), v8] [] (k, u, g, t) else if (k r3).1 = 22 ∧ 0 ≤ (0 : Int) ∧ (0 : Int) < ((k r3).2 : Int) then if (x7 : Int) = 0 then if (if (u r3 (0 : Int).toNat) < (0) then -1 else if (u r3 (0 : Int).toNat) = (0) then 0 else 1 : Int) = 0 then a_X 350 28 [a_r (r0), a_r (r1), a_r (r2), a_r (r3), a_r (r4), a_i (wr (x5 + 7)), a_i (x6), a_i (x7), v8] [] (k, u, g, t) else some (.inl (some (a_i (0))), (k, u, g, t)) else if (if (u r3 (0 : Int).toNat) < (1) then -1 else if (u r3 (0 : Int).toNat) = (1) then 0 else 1 : Int) = 0 then a_X 350 28 [a_r (r0), a_r (r1), a_r (r2), a_r (r3), a_r (r4), a_i (wr (x5 + 7)), a_i (x6), a_i (x7), v8] [] (k, u, g, t) else some (.inl (some (a_i (0))), (k, u, g, t)) else none else some (.inl (some (a_i (0))), (k, u, g, t)) := by
  refine (X_iload (m := 350) (pc := 1345) (n := 6) (by decide +kernel) rfl).trans ?_
  refine (X_ic_eq (m := 350) (pc := 1347) (off := 5) (tg := 1352) (by decide +kernel) (by decide +kernel)).trans ?_
  refine ite_congr rfl (fun _ => ?_) (fun _ => ?_)
  · refine (X_iload (m := 350) (pc := 1352) (n := 6) (by decide +kernel) rfl).trans ?_
    refine (X_if_ne (m := 350) (pc := 1354) (off := 22) (tg := 1376) (by decide +kernel) (by decide +kernel)).trans ?_
    refine ite_congr rfl (fun _ => ?_) (fun _ => ?_)
    · refine (X_goto (m := 350) (pc := 1376) (off := 2104) (tg := 3480) (by decide +kernel) (by decide +kernel)).trans ?_
      refine (X_iinc (m := 350) (pc := 3480) (n := 5) (c := 7) (by decide +kernel) rfl rfl (Nat.le_of_ble_eq_true rfl) rfl).trans ?_
      refine (X_goto (m := 350) (pc := 3483) (off := -3455) (tg := 28) (by decide +kernel) (by decide +kernel)).trans ?_
      rfl
    · refine (X_aload_n (m := 350) (pc := 1357) (n := 3) (by decide +kernel) rfl).trans ?_
      refine (X_iconst (m := 350) (pc := 1358) (n := 0) (by decide +kernel) ).trans ?_
      refine (X_laload (m := 350) (pc := 1359)  (by decide +kernel) ).trans ?_
      refine ite_congr rfl (fun _ => ?_) (fun _ => rfl)
      refine (X_iload (m := 350) (pc := 1360) (n := 7) (by decide +kernel) rfl).trans ?_
      refine (X_if_eq (m := 350) (pc := 1362) (off := 7) (tg := 1369) (by decide +kernel) (by decide +kernel)).trans ?_
      refine ite_congr rfl (fun _ => ?_) (fun _ => ?_)
      · refine (X_lconst (m := 350) (pc := 1369) (n := 0) (by decide +kernel) ).trans ?_
        refine (X_lcmp (m := 350) (pc := 1370)  (by decide +kernel) ).trans ?_
        refine (X_if_eq (m := 350) (pc := 1371) (off := 5) (tg := 1376) (by decide +kernel) (by decide +kernel)).trans ?_
        refine ite_congr rfl (fun _ => ?_) (fun _ => ?_)
        · refine (X_goto (m := 350) (pc := 1376) (off := 2104) (tg := 3480) (by decide +kernel) (by decide +kernel)).trans ?_
          refine (X_iinc (m := 350) (pc := 3480) (n := 5) (c := 7) (by decide +kernel) rfl rfl (Nat.le_of_ble_eq_true rfl) rfl).trans ?_
          refine (X_goto (m := 350) (pc := 3483) (off := -3455) (tg := 28) (by decide +kernel) (by decide +kernel)).trans ?_
          rfl
        · refine (X_iconst (m := 350) (pc := 1374) (n := 0) (by decide +kernel) ).trans ?_
          exact X_ireturn (m := 350) (pc := 1375) (f := 2) (by decide +kernel) (by decide +kernel) rfl
      · refine (X_lconst (m := 350) (pc := 1365) (n := 1) (by decide +kernel) ).trans ?_
        refine (X_goto (m := 350) (pc := 1366) (off := 4) (tg := 1370) (by decide +kernel) (by decide +kernel)).trans ?_
        refine (X_lcmp (m := 350) (pc := 1370)  (by decide +kernel) ).trans ?_
        refine (X_if_eq (m := 350) (pc := 1371) (off := 5) (tg := 1376) (by decide +kernel) (by decide +kernel)).trans ?_
        refine ite_congr rfl (fun _ => ?_) (fun _ => ?_)
        · refine (X_goto (m := 350) (pc := 1376) (off := 2104) (tg := 3480) (by decide +kernel) (by decide +kernel)).trans ?_
          refine (X_iinc (m := 350) (pc := 3480) (n := 5) (c := 7) (by decide +kernel) rfl rfl (Nat.le_of_ble_eq_true rfl) rfl).trans ?_
          refine (X_goto (m := 350) (pc := 3483) (off := -3455) (tg := 28) (by decide +kernel) (by decide +kernel)).trans ?_
          rfl
        · refine (X_iconst (m := 350) (pc := 1374) (n := 0) (by decide +kernel) ).trans ?_
          exact X_ireturn (m := 350) (pc := 1375) (f := 2) (by decide +kernel) (by decide +kernel) rfl
  · refine (X_iconst (m := 350) (pc := 1350) (n := 0) (by decide +kernel) ).trans ?_
    exact X_ireturn (m := 350) (pc := 1351) (f := 2) (by decide +kernel) (by decide +kernel) rfl
theorem B_L_law_1420 {k : Nat → Nat × Nat} {u : Nat → Nat → Int} {g : Nat → Nat → Nat} {t : Nat × Nat × Nat} {r0 : Nat} {r1 : Nat} {r2 : Nat} {r3 : Nat} {r4 : Nat} {x5 : Int} {x6 : Int} {x7 : Int} {v8 : AV} {y0 : Int} : a_X 350 1420 [a_r (r0), a_r (r1), a_r (r2), a_r (r3), a_r (r4), a_i (x5), a_i (x6), a_i (x7), v8] [a_i (y0)] (k, u, g, t) = if (y0 : Int) = (x6 : Int) then if (x6 : Int) ≠ 0 then a_X 350 28 [a_r (r0), a_r (r1), a_r (r2), a_r (r3), a_r (r4), a_i (wr (x5 + 7)), a_i (x6), a_i (x7), v8] [] (k, u, g, t) else if (k r3).1 = 22 ∧ 0 ≤ (0 : Int) ∧ (0 : Int) < ((k r3).2 : Int) then if (if (u r3 (0 : Int).toNat) < (x7) then -1 else if (u r3 (0 : Int).toNat) = (x7) then 0 else 1 : Int) = 0 then a_X 350 28 [a_r (r0), a_r (r1), a_r (r2), a_r (r3), a_r (r4), a_i (wr (x5 + 7)), a_i (x6), a_i (x7), v8] [] (k, u, g, t) else some (.inl (some (a_i (0))), (k, u, g, t)) else none else some (.inl (some (a_i (0))), (k, u, g, t)) := by
  refine (X_iload (m := 350) (pc := 1420) (n := 6) (by decide +kernel) rfl).trans ?_
  refine (X_ic_eq (m := 350) (pc := 1422) (off := 5) (tg := 1427) (by decide +kernel) (by decide +kernel)).trans ?_
  refine ite_congr rfl (fun _ => ?_) (fun _ => ?_)
  · refine (X_iload (m := 350) (pc := 1427) (n := 6) (by decide +kernel) rfl).trans ?_
    refine (X_if_ne (m := 350) (pc := 1429) (off := 15) (tg := 1444) (by decide +kernel) (by decide +kernel)).trans ?_
    refine ite_congr rfl (fun _ => ?_) (fun _ => ?_)
    · refine (X_goto (m := 350) (pc := 1444) (off := 2036) (tg := 3480) (by decide +kernel) (by decide +kernel)).trans ?_
      refine (X_iinc (m := 350) (pc := 3480) (n := 5) (c := 7) (by decide +kernel) rfl rfl (Nat.le_of_ble_eq_true rfl) rfl).trans ?_
      refine (X_goto (m := 350) (pc := 3483) (off := -3455) (tg := 28) (by decide +kernel) (by decide +kernel)).trans ?_
      rfl
    · refine (X_aload_n (m := 350) (pc := 1432) (n := 3) (by decide +kernel) rfl).trans ?_
      refine (X_iconst (m := 350) (pc := 1433) (n := 0) (by decide +kernel) ).trans ?_
      refine (X_laload (m := 350) (pc := 1434)  (by decide +kernel) ).trans ?_
      refine ite_congr rfl (fun _ => ?_) (fun _ => rfl)
      refine (X_iload (m := 350) (pc := 1435) (n := 7) (by decide +kernel) rfl).trans ?_
      refine (X_i2l (m := 350) (pc := 1437)  (by decide +kernel) ).trans ?_
      refine (X_lcmp (m := 350) (pc := 1438)  (by decide +kernel) ).trans ?_
      refine (X_if_eq (m := 350) (pc := 1439) (off := 5) (tg := 1444) (by decide +kernel) (by decide +kernel)).trans ?_
      refine ite_congr rfl (fun _ => ?_) (fun _ => ?_)
      · refine (X_goto (m := 350) (pc := 1444) (off := 2036) (tg := 3480) (by decide +kernel) (by decide +kernel)).trans ?_
        refine (X_iinc (m := 350) (pc := 3480) (n := 5) (c := 7) (by decide +kernel) rfl rfl (Nat.le_of_ble_eq_true rfl) rfl).trans ?_
        refine (X_goto (m := 350) (pc := 3483) (off := -3455) (tg := 28) (by decide +kernel) (by decide +kernel)).trans ?_
        rfl
      · refine (X_iconst (m := 350) (pc := 1442) (n := 0) (by decide +kernel) ).trans ?_
        exact X_ireturn (m := 350) (pc := 1443) (f := 2) (by decide +kernel) (by decide +kernel) rfl
  · refine (X_iconst (m := 350) (pc := 1425) (n := 0) (by decide +kernel) ).trans ?_
    exact X_ireturn (m := 350) (pc := 1426) (f := 2) (by decide +kernel) (by decide +kernel) rfl
theorem B_L_law_1488 {k : Nat → Nat × Nat} {u : Nat → Nat → Int} {g : Nat → Nat → Nat} {t : Nat × Nat × Nat} {r0 : Nat} {r1 : Nat} {r2 : Nat} {r3 : Nat} {r4 : Nat} {x5 : Int} {x6 : Int} {x7 : Int} {v8 : AV} {y0 : Int} : a_X 350 1488 [a_r (r0), a_r (r1), a_r (r2), a_r (r3), a_r (r4), a_i (x5), a_i (x6), a_i (x7), v8] [a_i (y0)] (k, u, g, t) = if (y0 : Int) = (x6 : Int) then if (x6 : Int) ≠ 0 then a_X 350 28 [a_r (r0), a_r (r1), a_r (r2), a_r (r3), a_r (r4), a_i (wr (x5 + 7)), a_i (x6), a_i (x7), v8] [] (k, u, g, t) else if (k r3).1 = 22 ∧ 0 ≤ (0 : Int) ∧ (0 : Int) < ((k r3).2 : Int) then if (x7 : Int) = 0 then if (if (u r3 (0 : Int).toNat) < (0) then -1 else if (u r3 (0 : Int).toNat) = (0) then 0 else 1 : Int) = 0 then a_X 350 28 [a_r (r0), a_r (r1), a_r (r2), a_r (r3), a_r (r4), a_i (wr (x5 + 7)), a_i (x6), a_i (x7), v8] [] (k, u, g, t) else some (.inl (some (a_i (0))), (k, u, g, t)) else if (if (u r3 (0 : Int).toNat) < (1) then -1 else if (u r3 (0 : Int).toNat) = (1) then 0 else 1 : Int) = 0 then a_X 350 28 [a_r (r0), a_r (r1), a_r (r2), a_r (r3), a_r (r4), a_i (wr (x5 + 7)), a_i (x6), a_i (x7), v8] [] (k, u, g, t) else some (.inl (some (a_i (0))), (k, u, g, t)) else none else some (.inl (some (a_i (0))), (k, u, g, t)) := by
  refine (X_iload (m := 350) (pc := 1488) (n := 6) (by decide +kernel) rfl).trans ?_
  refine (X_ic_eq (m := 350) (pc := 1490) (off := 5) (tg := 1495) (by decide +kernel) (by decide +kernel)).trans ?_
  refine ite_congr rfl (fun _ => ?_) (fun _ => ?_)
  · refine (X_iload (m := 350) (pc := 1495) (n := 6) (by decide +kernel) rfl).trans ?_
    refine (X_if_ne (m := 350) (pc := 1497) (off := 22) (tg := 1519) (by decide +kernel) (by decide +kernel)).trans ?_
    refine ite_congr rfl (fun _ => ?_) (fun _ => ?_)
    · refine (X_goto (m := 350) (pc := 1519) (off := 1961) (tg := 3480) (by decide +kernel) (by decide +kernel)).trans ?_
      refine (X_iinc (m := 350) (pc := 3480) (n := 5) (c := 7) (by decide +kernel) rfl rfl (Nat.le_of_ble_eq_true rfl) rfl).trans ?_
      refine (X_goto (m := 350) (pc := 3483) (off := -3455) (tg := 28) (by decide +kernel) (by decide +kernel)).trans ?_
      rfl
    · refine (X_aload_n (m := 350) (pc := 1500) (n := 3) (by decide +kernel) rfl).trans ?_
      refine (X_iconst (m := 350) (pc := 1501) (n := 0) (by decide +kernel) ).trans ?_
      refine (X_laload (m := 350) (pc := 1502)  (by decide +kernel) ).trans ?_
      refine ite_congr rfl (fun _ => ?_) (fun _ => rfl)
      refine (X_iload (m := 350) (pc := 1503) (n := 7) (by decide +kernel) rfl).trans ?_
      refine (X_if_eq (m := 350) (pc := 1505) (off := 7) (tg := 1512) (by decide +kernel) (by decide +kernel)).trans ?_
      refine ite_congr rfl (fun _ => ?_) (fun _ => ?_)
      · refine (X_lconst (m := 350) (pc := 1512) (n := 0) (by decide +kernel) ).trans ?_
        refine (X_lcmp (m := 350) (pc := 1513)  (by decide +kernel) ).trans ?_
        refine (X_if_eq (m := 350) (pc := 1514) (off := 5) (tg := 1519) (by decide +kernel) (by decide +kernel)).trans ?_
        refine ite_congr rfl (fun _ => ?_) (fun _ => ?_)
        · refine (X_goto (m := 350) (pc := 1519) (off := 1961) (tg := 3480) (by decide +kernel) (by decide +kernel)).trans ?_
          refine (X_iinc (m := 350) (pc := 3480) (n := 5) (c := 7) (by decide +kernel) rfl rfl (Nat.le_of_ble_eq_true rfl) rfl).trans ?_
          refine (X_goto (m := 350) (pc := 3483) (off := -3455) (tg := 28) (by decide +kernel) (by decide +kernel)).trans ?_
          rfl
        · refine (X_iconst (m := 350) (pc := 1517) (n := 0) (by decide +kernel) ).trans ?_
          exact X_ireturn (m := 350) (pc := 1518) (f := 2) (by decide +kernel) (by decide +kernel) rfl
      · refine (X_lconst (m := 350) (pc := 1508) (n := 1) (by decide +kernel) ).trans ?_
        refine (X_goto (m := 350) (pc := 1509) (off := 4) (tg := 1513) (by decide +kernel) (by decide +kernel)).trans ?_
        refine (X_lcmp (m := 350) (pc := 1513)  (by decide +kernel) ).trans ?_
        refine (X_if_eq (m := 350) (pc := 1514) (off := 5) (tg := 1519) (by decide +kernel) (by decide +kernel)).trans ?_
        refine ite_congr rfl (fun _ => ?_) (fun _ => ?_)
        · refine (X_goto (m := 350) (pc := 1519) (off := 1961) (tg := 3480) (by decide +kernel) (by decide +kernel)).trans ?_
          refine (X_iinc (m := 350) (pc := 3480) (n := 5) (c := 7) (by decide +kernel) rfl rfl (Nat.le_of_ble_eq_true rfl) rfl).trans ?_
          refine (X_goto (m := 350) (pc := 3483) (off := -3455) (tg := 28) (by decide +kernel) (by decide +kernel)).trans ?_
          rfl
        · refine (X_iconst (m := 350) (pc := 1517) (n := 0) (by decide +kernel) ).trans ?_
          exact X_ireturn (m := 350) (pc := 1518) (f := 2) (by decide +kernel) (by decide +kernel) rfl
  · refine (X_iconst (m := 350) (pc := 1493) (n := 0) (by decide +kernel) ).trans ?_
    exact X_ireturn (m := 350) (pc := 1494) (f := 2) (by decide +kernel) (by decide +kernel) rfl
theorem B_L_law_1551 {k : Nat → Nat × Nat} {u : Nat → Nat → Int} {g : Nat → Nat → Nat} {t : Nat × Nat × Nat} {r0 : Nat} {r1 : Nat} {r2 : Nat} {r3 : Nat} {r4 : Nat} {x5 : Int} {x6 : Int} {x7 : Int} {v8 : AV} {y0 : Int} : a_X 350 1551 [a_r (r0), a_r (r1), a_r (r2), a_r (r3), a_r (r4), a_i (x5), a_i (x6), a_i (x7), v8] [a_i (y0)] (k, u, g, t) = if (y0 : Int) = (x6 : Int) then if (x6 : Int) ≠ 0 then a_X 350 28 [a_r (r0), a_r (r1), a_r (r2), a_r (r3), a_r (r4), a_i (wr (x5 + 7)), a_i (x6), a_i (x7), v8] [] (k, u, g, t) else if (k r3).1 = 22 ∧ 0 ≤ (0 : Int) ∧ (0 : Int) < ((k r3).2 : Int) then if (if (u r3 (0 : Int).toNat) < (x7) then -1 else if (u r3 (0 : Int).toNat) = (x7) then 0 else 1 : Int) = 0 then a_X 350 28 [a_r (r0), a_r (r1), a_r (r2), a_r (r3), a_r (r4), a_i (wr (x5 + 7)), a_i (x6), a_i (x7), v8] [] (k, u, g, t) else some (.inl (some (a_i (0))), (k, u, g, t)) else none else some (.inl (some (a_i (0))), (k, u, g, t)) := by
  refine (X_iload (m := 350) (pc := 1551) (n := 6) (by decide +kernel) rfl).trans ?_
  refine (X_ic_eq (m := 350) (pc := 1553) (off := 5) (tg := 1558) (by decide +kernel) (by decide +kernel)).trans ?_
  refine ite_congr rfl (fun _ => ?_) (fun _ => ?_)
  · refine (X_iload (m := 350) (pc := 1558) (n := 6) (by decide +kernel) rfl).trans ?_
    refine (X_if_ne (m := 350) (pc := 1560) (off := 15) (tg := 1575) (by decide +kernel) (by decide +kernel)).trans ?_
    refine ite_congr rfl (fun _ => ?_) (fun _ => ?_)
    · refine (X_goto (m := 350) (pc := 1575) (off := 1905) (tg := 3480) (by decide +kernel) (by decide +kernel)).trans ?_
      refine (X_iinc (m := 350) (pc := 3480) (n := 5) (c := 7) (by decide +kernel) rfl rfl (Nat.le_of_ble_eq_true rfl) rfl).trans ?_
      refine (X_goto (m := 350) (pc := 3483) (off := -3455) (tg := 28) (by decide +kernel) (by decide +kernel)).trans ?_
      rfl
    · refine (X_aload_n (m := 350) (pc := 1563) (n := 3) (by decide +kernel) rfl).trans ?_
      refine (X_iconst (m := 350) (pc := 1564) (n := 0) (by decide +kernel) ).trans ?_
      refine (X_laload (m := 350) (pc := 1565)  (by decide +kernel) ).trans ?_
      refine ite_congr rfl (fun _ => ?_) (fun _ => rfl)
      refine (X_iload (m := 350) (pc := 1566) (n := 7) (by decide +kernel) rfl).trans ?_
      refine (X_i2l (m := 350) (pc := 1568)  (by decide +kernel) ).trans ?_
      refine (X_lcmp (m := 350) (pc := 1569)  (by decide +kernel) ).trans ?_
      refine (X_if_eq (m := 350) (pc := 1570) (off := 5) (tg := 1575) (by decide +kernel) (by decide +kernel)).trans ?_
      refine ite_congr rfl (fun _ => ?_) (fun _ => ?_)
      · refine (X_goto (m := 350) (pc := 1575) (off := 1905) (tg := 3480) (by decide +kernel) (by decide +kernel)).trans ?_
        refine (X_iinc (m := 350) (pc := 3480) (n := 5) (c := 7) (by decide +kernel) rfl rfl (Nat.le_of_ble_eq_true rfl) rfl).trans ?_
        refine (X_goto (m := 350) (pc := 3483) (off := -3455) (tg := 28) (by decide +kernel) (by decide +kernel)).trans ?_
        rfl
      · refine (X_iconst (m := 350) (pc := 1573) (n := 0) (by decide +kernel) ).trans ?_
        exact X_ireturn (m := 350) (pc := 1574) (f := 2) (by decide +kernel) (by decide +kernel) rfl
  · refine (X_iconst (m := 350) (pc := 1556) (n := 0) (by decide +kernel) ).trans ?_
    exact X_ireturn (m := 350) (pc := 1557) (f := 2) (by decide +kernel) (by decide +kernel) rfl
theorem B_L_law_1595 {k : Nat → Nat × Nat} {u : Nat → Nat → Int} {g : Nat → Nat → Nat} {t : Nat × Nat × Nat} {r0 : Nat} {r1 : Nat} {r2 : Nat} {r3 : Nat} {r4 : Nat} {x5 : Int} {x6 : Int} {x7 : Int} {v8 : AV} {y0 : Int} : a_X 350 1595 [a_r (r0), a_r (r1), a_r (r2), a_r (r3), a_r (r4), a_i (x5), a_i (x6), a_i (x7), v8] [a_i (y0)] (k, u, g, t) = if (y0 : Int) = (x6 : Int) then if (x6 : Int) ≠ 0 then a_X 350 28 [a_r (r0), a_r (r1), a_r (r2), a_r (r3), a_r (r4), a_i (wr (x5 + 7)), a_i (x6), a_i (x7), v8] [] (k, u, g, t) else if (k r3).1 = 22 ∧ 0 ≤ (0 : Int) ∧ (0 : Int) < ((k r3).2 : Int) then if (if (u r3 (0 : Int).toNat) < (x7) then -1 else if (u r3 (0 : Int).toNat) = (x7) then 0 else 1 : Int) = 0 then a_X 350 28 [a_r (r0), a_r (r1), a_r (r2), a_r (r3), a_r (r4), a_i (wr (x5 + 7)), a_i (x6), a_i (x7), v8] [] (k, u, g, t) else some (.inl (some (a_i (0))), (k, u, g, t)) else none else some (.inl (some (a_i (0))), (k, u, g, t)) := by
  refine (X_iload (m := 350) (pc := 1595) (n := 6) (by decide +kernel) rfl).trans ?_
  refine (X_ic_eq (m := 350) (pc := 1597) (off := 5) (tg := 1602) (by decide +kernel) (by decide +kernel)).trans ?_
  refine ite_congr rfl (fun _ => ?_) (fun _ => ?_)
  · refine (X_iload (m := 350) (pc := 1602) (n := 6) (by decide +kernel) rfl).trans ?_
    refine (X_if_ne (m := 350) (pc := 1604) (off := 15) (tg := 1619) (by decide +kernel) (by decide +kernel)).trans ?_
    refine ite_congr rfl (fun _ => ?_) (fun _ => ?_)
    · refine (X_goto (m := 350) (pc := 1619) (off := 1861) (tg := 3480) (by decide +kernel) (by decide +kernel)).trans ?_
      refine (X_iinc (m := 350) (pc := 3480) (n := 5) (c := 7) (by decide +kernel) rfl rfl (Nat.le_of_ble_eq_true rfl) rfl).trans ?_
      refine (X_goto (m := 350) (pc := 3483) (off := -3455) (tg := 28) (by decide +kernel) (by decide +kernel)).trans ?_
      rfl
    · refine (X_aload_n (m := 350) (pc := 1607) (n := 3) (by decide +kernel) rfl).trans ?_
      refine (X_iconst (m := 350) (pc := 1608) (n := 0) (by decide +kernel) ).trans ?_
      refine (X_laload (m := 350) (pc := 1609)  (by decide +kernel) ).trans ?_
      refine ite_congr rfl (fun _ => ?_) (fun _ => rfl)
      refine (X_iload (m := 350) (pc := 1610) (n := 7) (by decide +kernel) rfl).trans ?_
      refine (X_i2l (m := 350) (pc := 1612)  (by decide +kernel) ).trans ?_
      refine (X_lcmp (m := 350) (pc := 1613)  (by decide +kernel) ).trans ?_
      refine (X_if_eq (m := 350) (pc := 1614) (off := 5) (tg := 1619) (by decide +kernel) (by decide +kernel)).trans ?_
      refine ite_congr rfl (fun _ => ?_) (fun _ => ?_)
      · refine (X_goto (m := 350) (pc := 1619) (off := 1861) (tg := 3480) (by decide +kernel) (by decide +kernel)).trans ?_
        refine (X_iinc (m := 350) (pc := 3480) (n := 5) (c := 7) (by decide +kernel) rfl rfl (Nat.le_of_ble_eq_true rfl) rfl).trans ?_
        refine (X_goto (m := 350) (pc := 3483) (off := -3455) (tg := 28) (by decide +kernel) (by decide +kernel)).trans ?_
        rfl
      · refine (X_iconst (m := 350) (pc := 1617) (n := 0) (by decide +kernel) ).trans ?_
        exact X_ireturn (m := 350) (pc := 1618) (f := 2) (by decide +kernel) (by decide +kernel) rfl
  · refine (X_iconst (m := 350) (pc := 1600) (n := 0) (by decide +kernel) ).trans ?_
    exact X_ireturn (m := 350) (pc := 1601) (f := 2) (by decide +kernel) (by decide +kernel) rfl
theorem B_L_law_1651 {k : Nat → Nat × Nat} {u : Nat → Nat → Int} {g : Nat → Nat → Nat} {t : Nat × Nat × Nat} {r0 : Nat} {r1 : Nat} {r2 : Nat} {r3 : Nat} {r4 : Nat} {x5 : Int} {x6 : Int} {x7 : Int} {v8 : AV} {y0 : Int} : a_X 350 1651 [a_r (r0), a_r (r1), a_r (r2), a_r (r3), a_r (r4), a_i (x5), a_i (x6), a_i (x7), v8] [a_i (y0)] (k, u, g, t) = if (y0 : Int) = (x6 : Int) then if (x6 : Int) ≠ 0 then a_X 350 28 [a_r (r0), a_r (r1), a_r (r2), a_r (r3), a_r (r4), a_i (wr (x5 + 7)), a_i (x6), a_i (x7), v8] [] (k, u, g, t) else if (k r3).1 = 22 ∧ 0 ≤ (0 : Int) ∧ (0 : Int) < ((k r3).2 : Int) then if (if (u r3 (0 : Int).toNat) < (x7) then -1 else if (u r3 (0 : Int).toNat) = (x7) then 0 else 1 : Int) = 0 then a_X 350 28 [a_r (r0), a_r (r1), a_r (r2), a_r (r3), a_r (r4), a_i (wr (x5 + 7)), a_i (x6), a_i (x7), v8] [] (k, u, g, t) else some (.inl (some (a_i (0))), (k, u, g, t)) else none else some (.inl (some (a_i (0))), (k, u, g, t)) := by
  refine (X_iload (m := 350) (pc := 1651) (n := 6) (by decide +kernel) rfl).trans ?_
  refine (X_ic_eq (m := 350) (pc := 1653) (off := 5) (tg := 1658) (by decide +kernel) (by decide +kernel)).trans ?_
  refine ite_congr rfl (fun _ => ?_) (fun _ => ?_)
  · refine (X_iload (m := 350) (pc := 1658) (n := 6) (by decide +kernel) rfl).trans ?_
    refine (X_if_ne (m := 350) (pc := 1660) (off := 15) (tg := 1675) (by decide +kernel) (by decide +kernel)).trans ?_
    refine ite_congr rfl (fun _ => ?_) (fun _ => ?_)
    · refine (X_goto (m := 350) (pc := 1675) (off := 1805) (tg := 3480) (by decide +kernel) (by decide +kernel)).trans ?_
      refine (X_iinc (m := 350) (pc := 3480) (n := 5) (c := 7) (by decide +kernel) rfl rfl (Nat.le_of_ble_eq_true rfl) rfl).trans ?_
      refine (X_goto (m := 350) (pc := 3483) (off := -3455) (tg := 28) (by decide +kernel) (by decide +kernel)).trans ?_
      rfl
    · refine (X_aload_n (m := 350) (pc := 1663) (n := 3) (by decide +kernel) rfl).trans ?_
      refine (X_iconst (m := 350) (pc := 1664) (n := 0) (by decide +kernel) ).trans ?_
      refine (X_laload (m := 350) (pc := 1665)  (by decide +kernel) ).trans ?_
      refine ite_congr rfl (fun _ => ?_) (fun _ => rfl)
      refine (X_iload (m := 350) (pc := 1666) (n := 7) (by decide +kernel) rfl).trans ?_
      refine (X_i2l (m := 350) (pc := 1668)  (by decide +kernel) ).trans ?_
      refine (X_lcmp (m := 350) (pc := 1669)  (by decide +kernel) ).trans ?_
      refine (X_if_eq (m := 350) (pc := 1670) (off := 5) (tg := 1675) (by decide +kernel) (by decide +kernel)).trans ?_
      refine ite_congr rfl (fun _ => ?_) (fun _ => ?_)
      · refine (X_goto (m := 350) (pc := 1675) (off := 1805) (tg := 3480) (by decide +kernel) (by decide +kernel)).trans ?_
        refine (X_iinc (m := 350) (pc := 3480) (n := 5) (c := 7) (by decide +kernel) rfl rfl (Nat.le_of_ble_eq_true rfl) rfl).trans ?_
        refine (X_goto (m := 350) (pc := 3483) (off := -3455) (tg := 28) (by decide +kernel) (by decide +kernel)).trans ?_
        rfl
      · refine (X_iconst (m := 350) (pc := 1673) (n := 0) (by decide +kernel) ).trans ?_
        exact X_ireturn (m := 350) (pc := 1674) (f := 2) (by decide +kernel) (by decide +kernel) rfl
  · refine (X_iconst (m := 350) (pc := 1656) (n := 0) (by decide +kernel) ).trans ?_
    exact X_ireturn (m := 350) (pc := 1657) (f := 2) (by decide +kernel) (by decide +kernel) rfl
theorem B_L_law_1707 {k : Nat → Nat × Nat} {u : Nat → Nat → Int} {g : Nat → Nat → Nat} {t : Nat × Nat × Nat} {r0 : Nat} {r1 : Nat} {r2 : Nat} {r3 : Nat} {r4 : Nat} {x5 : Int} {x6 : Int} {x7 : Int} {v8 : AV} {y0 : Int} : a_X 350 1707 [a_r (r0), a_r (r1), a_r (r2), a_r (r3), a_r (r4), a_i (x5), a_i (x6), a_i (x7), v8] [a_i (y0)] (k, u, g, t) = if (y0 : Int) = (x6 : Int) then if (x6 : Int) ≠ 0 then a_X 350 28 [a_r (r0), a_r (r1), a_r (r2), a_r (r3), a_r (r4), a_i (wr (x5 + 7)), a_i (x6), a_i (x7), v8] [] (k, u, g, t) else if (k r3).1 = 22 ∧ 0 ≤ (0 : Int) ∧ (0 : Int) < ((k r3).2 : Int) then if (if (u r3 (0 : Int).toNat) < (x7) then -1 else if (u r3 (0 : Int).toNat) = (x7) then 0 else 1 : Int) = 0 then a_X 350 28 [a_r (r0), a_r (r1), a_r (r2), a_r (r3), a_r (r4), a_i (wr (x5 + 7)), a_i (x6), a_i (x7), v8] [] (k, u, g, t) else some (.inl (some (a_i (0))), (k, u, g, t)) else none else some (.inl (some (a_i (0))), (k, u, g, t)) := by
  refine (X_iload (m := 350) (pc := 1707) (n := 6) (by decide +kernel) rfl).trans ?_
  refine (X_ic_eq (m := 350) (pc := 1709) (off := 5) (tg := 1714) (by decide +kernel) (by decide +kernel)).trans ?_
  refine ite_congr rfl (fun _ => ?_) (fun _ => ?_)
  · refine (X_iload (m := 350) (pc := 1714) (n := 6) (by decide +kernel) rfl).trans ?_
    refine (X_if_ne (m := 350) (pc := 1716) (off := 15) (tg := 1731) (by decide +kernel) (by decide +kernel)).trans ?_
    refine ite_congr rfl (fun _ => ?_) (fun _ => ?_)
    · refine (X_goto (m := 350) (pc := 1731) (off := 1749) (tg := 3480) (by decide +kernel) (by decide +kernel)).trans ?_
      refine (X_iinc (m := 350) (pc := 3480) (n := 5) (c := 7) (by decide +kernel) rfl rfl (Nat.le_of_ble_eq_true rfl) rfl).trans ?_
      refine (X_goto (m := 350) (pc := 3483) (off := -3455) (tg := 28) (by decide +kernel) (by decide +kernel)).trans ?_
      rfl
    · refine (X_aload_n (m := 350) (pc := 1719) (n := 3) (by decide +kernel) rfl).trans ?_
      refine (X_iconst (m := 350) (pc := 1720) (n := 0) (by decide +kernel) ).trans ?_
      refine (X_laload (m := 350) (pc := 1721)  (by decide +kernel) ).trans ?_
      refine ite_congr rfl (fun _ => ?_) (fun _ => rfl)
      refine (X_iload (m := 350) (pc := 1722) (n := 7) (by decide +kernel) rfl).trans ?_
      refine (X_i2l (m := 350) (pc := 1724)  (by decide +kernel) ).trans ?_
      refine (X_lcmp (m := 350) (pc := 1725)  (by decide +kernel) ).trans ?_
      refine (X_if_eq (m := 350) (pc := 1726) (off := 5) (tg := 1731) (by decide +kernel) (by decide +kernel)).trans ?_
      refine ite_congr rfl (fun _ => ?_) (fun _ => ?_)
      · refine (X_goto (m := 350) (pc := 1731) (off := 1749) (tg := 3480) (by decide +kernel) (by decide +kernel)).trans ?_
        refine (X_iinc (m := 350) (pc := 3480) (n := 5) (c := 7) (by decide +kernel) rfl rfl (Nat.le_of_ble_eq_true rfl) rfl).trans ?_
        refine (X_goto (m := 350) (pc := 3483) (off := -3455) (tg := 28) (by decide +kernel) (by decide +kernel)).trans ?_
        rfl
      · refine (X_iconst (m := 350) (pc := 1729) (n := 0) (by decide +kernel) ).trans ?_
        exact X_ireturn (m := 350) (pc := 1730) (f := 2) (by decide +kernel) (by decide +kernel) rfl
  · refine (X_iconst (m := 350) (pc := 1712) (n := 0) (by decide +kernel) ).trans ?_
    exact X_ireturn (m := 350) (pc := 1713) (f := 2) (by decide +kernel) (by decide +kernel) rfl
theorem B_L_law_1763 {k : Nat → Nat × Nat} {u : Nat → Nat → Int} {g : Nat → Nat → Nat} {t : Nat × Nat × Nat} {r0 : Nat} {r1 : Nat} {r2 : Nat} {r3 : Nat} {r4 : Nat} {x5 : Int} {x6 : Int} {x7 : Int} {v8 : AV} {y0 : Int} : a_X 350 1763 [a_r (r0), a_r (r1), a_r (r2), a_r (r3), a_r (r4), a_i (x5), a_i (x6), a_i (x7), v8] [a_i (y0)] (k, u, g, t) = if (y0 : Int) = (x6 : Int) then if (x6 : Int) ≠ 0 then a_X 350 28 [a_r (r0), a_r (r1), a_r (r2), a_r (r3), a_r (r4), a_i (wr (x5 + 7)), a_i (x6), a_i (x7), v8] [] (k, u, g, t) else if (k r3).1 = 22 ∧ 0 ≤ (0 : Int) ∧ (0 : Int) < ((k r3).2 : Int) then if (if (u r3 (0 : Int).toNat) < (x7) then -1 else if (u r3 (0 : Int).toNat) = (x7) then 0 else 1 : Int) = 0 then a_X 350 28 [a_r (r0), a_r (r1), a_r (r2), a_r (r3), a_r (r4), a_i (wr (x5 + 7)), a_i (x6), a_i (x7), v8] [] (k, u, g, t) else some (.inl (some (a_i (0))), (k, u, g, t)) else none else some (.inl (some (a_i (0))), (k, u, g, t)) := by
  refine (X_iload (m := 350) (pc := 1763) (n := 6) (by decide +kernel) rfl).trans ?_
  refine (X_ic_eq (m := 350) (pc := 1765) (off := 5) (tg := 1770) (by decide +kernel) (by decide +kernel)).trans ?_
  refine ite_congr rfl (fun _ => ?_) (fun _ => ?_)
  · refine (X_iload (m := 350) (pc := 1770) (n := 6) (by decide +kernel) rfl).trans ?_
    refine (X_if_ne (m := 350) (pc := 1772) (off := 15) (tg := 1787) (by decide +kernel) (by decide +kernel)).trans ?_
    refine ite_congr rfl (fun _ => ?_) (fun _ => ?_)
    · refine (X_goto (m := 350) (pc := 1787) (off := 1693) (tg := 3480) (by decide +kernel) (by decide +kernel)).trans ?_
      refine (X_iinc (m := 350) (pc := 3480) (n := 5) (c := 7) (by decide +kernel) rfl rfl (Nat.le_of_ble_eq_true rfl) rfl).trans ?_
      refine (X_goto (m := 350) (pc := 3483) (off := -3455) (tg := 28) (by decide +kernel) (by decide +kernel)).trans ?_
      rfl
    · refine (X_aload_n (m := 350) (pc := 1775) (n := 3) (by decide +kernel) rfl).trans ?_
      refine (X_iconst (m := 350) (pc := 1776) (n := 0) (by decide +kernel) ).trans ?_
      refine (X_laload (m := 350) (pc := 1777)  (by decide +kernel) ).trans ?_
      refine ite_congr rfl (fun _ => ?_) (fun _ => rfl)
      refine (X_iload (m := 350) (pc := 1778) (n := 7) (by decide +kernel) rfl).trans ?_
      refine (X_i2l (m := 350) (pc := 1780)  (by decide +kernel) ).trans ?_
      refine (X_lcmp (m := 350) (pc := 1781)  (by decide +kernel) ).trans ?_
      refine (X_if_eq (m := 350) (pc := 1782) (off := 5) (tg := 1787) (by decide +kernel) (by decide +kernel)).trans ?_
      refine ite_congr rfl (fun _ => ?_) (fun _ => ?_)
      · refine (X_goto (m := 350) (pc := 1787) (off := 1693) (tg := 3480) (by decide +kernel) (by decide +kernel)).trans ?_
        refine (X_iinc (m := 350) (pc := 3480) (n := 5) (c := 7) (by decide +kernel) rfl rfl (Nat.le_of_ble_eq_true rfl) rfl).trans ?_
        refine (X_goto (m := 350) (pc := 3483) (off := -3455) (tg := 28) (by decide +kernel) (by decide +kernel)).trans ?_
        rfl
      · refine (X_iconst (m := 350) (pc := 1785) (n := 0) (by decide +kernel) ).trans ?_
        exact X_ireturn (m := 350) (pc := 1786) (f := 2) (by decide +kernel) (by decide +kernel) rfl
  · refine (X_iconst (m := 350) (pc := 1768) (n := 0) (by decide +kernel) ).trans ?_
    exact X_ireturn (m := 350) (pc := 1769) (f := 2) (by decide +kernel) (by decide +kernel) rfl
theorem B_L_law_1807 {k : Nat → Nat × Nat} {u : Nat → Nat → Int} {g : Nat → Nat → Nat} {t : Nat × Nat × Nat} {r0 : Nat} {r1 : Nat} {r2 : Nat} {r3 : Nat} {r4 : Nat} {x5 : Int} {x6 : Int} {x7 : Int} {v8 : AV} {y0 : Int} : a_X 350 1807 [a_r (r0), a_r (r1), a_r (r2), a_r (r3), a_r (r4), a_i (x5), a_i (x6), a_i (x7), v8] [a_i (y0)] (k, u, g, t) = if (y0 : Int) = (x6 : Int) then if (x6 : Int) ≠ 0 then a_X 350 28 [a_r (r0), a_r (r1), a_r (r2), a_r (r3), a_r (r4), a_i (wr (x5 + 7)), a_i (x6), a_i (x7), v8] [] (k, u, g, t) else if (k r3).1 = 22 ∧ 0 ≤ (0 : Int) ∧ (0 : Int) < ((k r3).2 : Int) then if (if (u r3 (0 : Int).toNat) < (x7) then -1 else if (u r3 (0 : Int).toNat) = (x7) then 0 else 1 : Int) = 0 then a_X 350 28 [a_r (r0), a_r (r1), a_r (r2), a_r (r3), a_r (r4), a_i (wr (x5 + 7)), a_i (x6), a_i (x7), v8] [] (k, u, g, t) else some (.inl (some (a_i (0))), (k, u, g, t)) else none else some (.inl (some (a_i (0))), (k, u, g, t)) := by
  refine (X_iload (m := 350) (pc := 1807) (n := 6) (by decide +kernel) rfl).trans ?_
  refine (X_ic_eq (m := 350) (pc := 1809) (off := 5) (tg := 1814) (by decide +kernel) (by decide +kernel)).trans ?_
  refine ite_congr rfl (fun _ => ?_) (fun _ => ?_)
  · refine (X_iload (m := 350) (pc := 1814) (n := 6) (by decide +kernel) rfl).trans ?_
    refine (X_if_ne (m := 350) (pc := 1816) (off := 15) (tg := 1831) (by decide +kernel) (by decide +kernel)).trans ?_
    refine ite_congr rfl (fun _ => ?_) (fun _ => ?_)
    · refine (X_goto (m := 350) (pc := 1831) (off := 1649) (tg := 3480) (by decide +kernel) (by decide +kernel)).trans ?_
      refine (X_iinc (m := 350) (pc := 3480) (n := 5) (c := 7) (by decide +kernel) rfl rfl (Nat.le_of_ble_eq_true rfl) rfl).trans ?_
      refine (X_goto (m := 350) (pc := 3483) (off := -3455) (tg := 28) (by decide +kernel) (by decide +kernel)).trans ?_
      rfl
    · refine (X_aload_n (m := 350) (pc := 1819) (n := 3) (by decide +kernel) rfl).trans ?_
      refine (X_iconst (m := 350) (pc := 1820) (n := 0) (by decide +kernel) ).trans ?_
      refine (X_laload (m := 350) (pc := 1821)  (by decide +kernel) ).trans ?_
      refine ite_congr rfl (fun _ => ?_) (fun _ => rfl)
      refine (X_iload (m := 350) (pc := 1822) (n := 7) (by decide +kernel) rfl).trans ?_
      refine (X_i2l (m := 350) (pc := 1824)  (by decide +kernel) ).trans ?_
      refine (X_lcmp (m := 350) (pc := 1825)  (by decide +kernel) ).trans ?_
      refine (X_if_eq (m := 350) (pc := 1826) (off := 5) (tg := 1831) (by decide +kernel) (by decide +kernel)).trans ?_
      refine ite_congr rfl (fun _ => ?_) (fun _ => ?_)
      · refine (X_goto (m := 350) (pc := 1831) (off := 1649) (tg := 3480) (by decide +kernel) (by decide +kernel)).trans ?_
        refine (X_iinc (m := 350) (pc := 3480) (n := 5) (c := 7) (by decide +kernel) rfl rfl (Nat.le_of_ble_eq_true rfl) rfl).trans ?_
        refine (X_goto (m := 350) (pc := 3483) (off := -3455) (tg := 28) (by decide +kernel) (by decide +kernel)).trans ?_
        rfl
      · refine (X_iconst (m := 350) (pc := 1829) (n := 0) (by decide +kernel) ).trans ?_
        exact X_ireturn (m := 350) (pc := 1830) (f := 2) (by decide +kernel) (by decide +kernel) rfl
  · refine (X_iconst (m := 350) (pc := 1812) (n := 0) (by decide +kernel) ).trans ?_
    exact X_ireturn (m := 350) (pc := 1813) (f := 2) (by decide +kernel) (by decide +kernel) rfl
theorem B_L_law_1875 {k : Nat → Nat × Nat} {u : Nat → Nat → Int} {g : Nat → Nat → Nat} {t : Nat × Nat × Nat} {r0 : Nat} {r1 : Nat} {r2 : Nat} {r3 : Nat} {r4 : Nat} {x5 : Int} {x6 : Int} {x7 : Int} {v8 : AV} {y0 : Int} : a_X 350 1875 [a_r (r0), a_r (r1), a_r (r2), a_r (r3), a_r (r4), a_i (x5), a_i (x6), a_i (x7), v8] [a_i (y0)] (k, u, g, t) = if (y0 : Int) = (x6 : Int) then if (x6 : Int) ≠ 0 then a_X 350 28 [a_r (r0), a_r (r1), a_r (r2), a_r (r3), a_r (r4), a_i (wr (x5 + 7)), a_i (x6), a_i (x7), v8] [] (k, u, g, t) else if (k r3).1 = 22 ∧ 0 ≤ (0 : Int) ∧ (0 : Int) < ((k r3).2 : Int) then if (if (u r3 (0 : Int).toNat) < (x7) then -1 else if (u r3 (0 : Int).toNat) = (x7) then 0 else 1 : Int) = 0 then a_X 350 28 [a_r (r0), a_r (r1), a_r (r2), a_r (r3), a_r (r4), a_i (wr (x5 + 7)), a_i (x6), a_i (x7), v8] [] (k, u, g, t) else some (.inl (some (a_i (0))), (k, u, g, t)) else none else some (.inl (some (a_i (0))), (k, u, g, t)) := by
  refine (X_iload (m := 350) (pc := 1875) (n := 6) (by decide +kernel) rfl).trans ?_
  refine (X_ic_eq (m := 350) (pc := 1877) (off := 5) (tg := 1882) (by decide +kernel) (by decide +kernel)).trans ?_
  refine ite_congr rfl (fun _ => ?_) (fun _ => ?_)
  · refine (X_iload (m := 350) (pc := 1882) (n := 6) (by decide +kernel) rfl).trans ?_
    refine (X_if_ne (m := 350) (pc := 1884) (off := 15) (tg := 1899) (by decide +kernel) (by decide +kernel)).trans ?_
    refine ite_congr rfl (fun _ => ?_) (fun _ => ?_)
    · refine (X_goto (m := 350) (pc := 1899) (off := 1581) (tg := 3480) (by decide +kernel) (by decide +kernel)).trans ?_
      refine (X_iinc (m := 350) (pc := 3480) (n := 5) (c := 7) (by decide +kernel) rfl rfl (Nat.le_of_ble_eq_true rfl) rfl).trans ?_
      refine (X_goto (m := 350) (pc := 3483) (off := -3455) (tg := 28) (by decide +kernel) (by decide +kernel)).trans ?_
      rfl
    · refine (X_aload_n (m := 350) (pc := 1887) (n := 3) (by decide +kernel) rfl).trans ?_
      refine (X_iconst (m := 350) (pc := 1888) (n := 0) (by decide +kernel) ).trans ?_
      refine (X_laload (m := 350) (pc := 1889)  (by decide +kernel) ).trans ?_
      refine ite_congr rfl (fun _ => ?_) (fun _ => rfl)
      refine (X_iload (m := 350) (pc := 1890) (n := 7) (by decide +kernel) rfl).trans ?_
      refine (X_i2l (m := 350) (pc := 1892)  (by decide +kernel) ).trans ?_
      refine (X_lcmp (m := 350) (pc := 1893)  (by decide +kernel) ).trans ?_
      refine (X_if_eq (m := 350) (pc := 1894) (off := 5) (tg := 1899) (by decide +kernel) (by decide +kernel)).trans ?_
      refine ite_congr rfl (fun _ => ?_) (fun _ => ?_)
      · refine (X_goto (m := 350) (pc := 1899) (off := 1581) (tg := 3480) (by decide +kernel) (by decide +kernel)).trans ?_
        refine (X_iinc (m := 350) (pc := 3480) (n := 5) (c := 7) (by decide +kernel) rfl rfl (Nat.le_of_ble_eq_true rfl) rfl).trans ?_
        refine (X_goto (m := 350) (pc := 3483) (off := -3455) (tg := 28) (by decide +kernel) (by decide +kernel)).trans ?_
        rfl
      · refine (X_iconst (m := 350) (pc := 1897) (n := 0) (by decide +kernel) ).trans ?_
        exact X_ireturn (m := 350) (pc := 1898) (f := 2) (by decide +kernel) (by decide +kernel) rfl
  · refine (X_iconst (m := 350) (pc := 1880) (n := 0) (by decide +kernel) ).trans ?_
    exact X_ireturn (m := 350) (pc := 1881) (f := 2) (by decide +kernel) (by decide +kernel) rfl
theorem B_L_law_1943 {k : Nat → Nat × Nat} {u : Nat → Nat → Int} {g : Nat → Nat → Nat} {t : Nat × Nat × Nat} {r0 : Nat} {r1 : Nat} {r2 : Nat} {r3 : Nat} {r4 : Nat} {x5 : Int} {x6 : Int} {x7 : Int} {v8 : AV} {y0 : Int} : a_X 350 1943 [a_r (r0), a_r (r1), a_r (r2), a_r (r3), a_r (r4), a_i (x5), a_i (x6), a_i (x7), v8] [a_i (y0)] (k, u, g, t) = if (y0 : Int) = (x6 : Int) then if (x6 : Int) ≠ 0 then a_X 350 28 [a_r (r0), a_r (r1), a_r (r2), a_r (r3), a_r (r4), a_i (wr (x5 + 7)), a_i (x6), a_i (x7), v8] [] (k, u, g, t) else if (k r3).1 = 22 ∧ 0 ≤ (0 : Int) ∧ (0 : Int) < ((k r3).2 : Int) then if (if (u r3 (0 : Int).toNat) < (x7) then -1 else if (u r3 (0 : Int).toNat) = (x7) then 0 else 1 : Int) = 0 then a_X 350 28 [a_r (r0), a_r (r1), a_r (r2), a_r (r3), a_r (r4), a_i (wr (x5 + 7)), a_i (x6), a_i (x7), v8] [] (k, u, g, t) else some (.inl (some (a_i (0))), (k, u, g, t)) else none else some (.inl (some (a_i (0))), (k, u, g, t)) := by
  refine (X_iload (m := 350) (pc := 1943) (n := 6) (by decide +kernel) rfl).trans ?_
  refine (X_ic_eq (m := 350) (pc := 1945) (off := 5) (tg := 1950) (by decide +kernel) (by decide +kernel)).trans ?_
  refine ite_congr rfl (fun _ => ?_) (fun _ => ?_)
  · refine (X_iload (m := 350) (pc := 1950) (n := 6) (by decide +kernel) rfl).trans ?_
    refine (X_if_ne (m := 350) (pc := 1952) (off := 15) (tg := 1967) (by decide +kernel) (by decide +kernel)).trans ?_
    refine ite_congr rfl (fun _ => ?_) (fun _ => ?_)
    · refine (X_goto (m := 350) (pc := 1967) (off := 1513) (tg := 3480) (by decide +kernel) (by decide +kernel)).trans ?_
      refine (X_iinc (m := 350) (pc := 3480) (n := 5) (c := 7) (by decide +kernel) rfl rfl (Nat.le_of_ble_eq_true rfl) rfl).trans ?_
      refine (X_goto (m := 350) (pc := 3483) (off := -3455) (tg := 28) (by decide +kernel) (by decide +kernel)).trans ?_
      rfl
    · refine (X_aload_n (m := 350) (pc := 1955) (n := 3) (by decide +kernel) rfl).trans ?_
      refine (X_iconst (m := 350) (pc := 1956) (n := 0) (by decide +kernel) ).trans ?_
      refine (X_laload (m := 350) (pc := 1957)  (by decide +kernel) ).trans ?_
      refine ite_congr rfl (fun _ => ?_) (fun _ => rfl)
      refine (X_iload (m := 350) (pc := 1958) (n := 7) (by decide +kernel) rfl).trans ?_
      refine (X_i2l (m := 350) (pc := 1960)  (by decide +kernel) ).trans ?_
      refine (X_lcmp (m := 350) (pc := 1961)  (by decide +kernel) ).trans ?_
      refine (X_if_eq (m := 350) (pc := 1962) (off := 5) (tg := 1967) (by decide +kernel) (by decide +kernel)).trans ?_
      refine ite_congr rfl (fun _ => ?_) (fun _ => ?_)
      · refine (X_goto (m := 350) (pc := 1967) (off := 1513) (tg := 3480) (by decide +kernel) (by decide +kernel)).trans ?_
        refine (X_iinc (m := 350) (pc := 3480) (n := 5) (c := 7) (by decide +kernel) rfl rfl (Nat.le_of_ble_eq_true rfl) rfl).trans ?_
        refine (X_goto (m := 350) (pc := 3483) (off := -3455) (tg := 28) (by decide +kernel) (by decide +kernel)).trans ?_
        rfl
      · refine (X_iconst (m := 350) (pc := 1965) (n := 0) (by decide +kernel) ).trans ?_
        exact X_ireturn (m := 350) (pc := 1966) (f := 2) (by decide +kernel) (by decide +kernel) rfl
  · refine (X_iconst (m := 350) (pc := 1948) (n := 0) (by decide +kernel) ).trans ?_
    exact X_ireturn (m := 350) (pc := 1949) (f := 2) (by decide +kernel) (by decide +kernel) rfl
theorem B_L_law_2011 {k : Nat → Nat × Nat} {u : Nat → Nat → Int} {g : Nat → Nat → Nat} {t : Nat × Nat × Nat} {r0 : Nat} {r1 : Nat} {r2 : Nat} {r3 : Nat} {r4 : Nat} {x5 : Int} {x6 : Int} {x7 : Int} {v8 : AV} {y0 : Int} : a_X 350 2011 [a_r (r0), a_r (r1), a_r (r2), a_r (r3), a_r (r4), a_i (x5), a_i (x6), a_i (x7), v8] [a_i (y0)] (k, u, g, t) = if (y0 : Int) = (x6 : Int) then if (x6 : Int) ≠ 0 then a_X 350 28 [a_r (r0), a_r (r1), a_r (r2), a_r (r3), a_r (r4), a_i (wr (x5 + 7)), a_i (x6), a_i (x7), v8] [] (k, u, g, t) else if (k r3).1 = 22 ∧ 0 ≤ (0 : Int) ∧ (0 : Int) < ((k r3).2 : Int) then if (if (u r3 (0 : Int).toNat) < (x7) then -1 else if (u r3 (0 : Int).toNat) = (x7) then 0 else 1 : Int) = 0 then a_X 350 28 [a_r (r0), a_r (r1), a_r (r2), a_r (r3), a_r (r4), a_i (wr (x5 + 7)), a_i (x6), a_i (x7), v8] [] (k, u, g, t) else some (.inl (some (a_i (0))), (k, u, g, t)) else none else some (.inl (some (a_i (0))), (k, u, g, t)) := by
  refine (X_iload (m := 350) (pc := 2011) (n := 6) (by decide +kernel) rfl).trans ?_
  refine (X_ic_eq (m := 350) (pc := 2013) (off := 5) (tg := 2018) (by decide +kernel) (by decide +kernel)).trans ?_
  refine ite_congr rfl (fun _ => ?_) (fun _ => ?_)
  · refine (X_iload (m := 350) (pc := 2018) (n := 6) (by decide +kernel) rfl).trans ?_
    refine (X_if_ne (m := 350) (pc := 2020) (off := 15) (tg := 2035) (by decide +kernel) (by decide +kernel)).trans ?_
    refine ite_congr rfl (fun _ => ?_) (fun _ => ?_)
    · refine (X_goto (m := 350) (pc := 2035) (off := 1445) (tg := 3480) (by decide +kernel) (by decide +kernel)).trans ?_
      refine (X_iinc (m := 350) (pc := 3480) (n := 5) (c := 7) (by decide +kernel) rfl rfl (Nat.le_of_ble_eq_true rfl) rfl).trans ?_
      refine (X_goto (m := 350) (pc := 3483) (off := -3455) (tg := 28) (by decide +kernel) (by decide +kernel)).trans ?_
      rfl
    · refine (X_aload_n (m := 350) (pc := 2023) (n := 3) (by decide +kernel) rfl).trans ?_
      refine (X_iconst (m := 350) (pc := 2024) (n := 0) (by decide +kernel) ).trans ?_
      refine (X_laload (m := 350) (pc := 2025)  (by decide +kernel) ).trans ?_
      refine ite_congr rfl (fun _ => ?_) (fun _ => rfl)
      refine (X_iload (m := 350) (pc := 2026) (n := 7) (by decide +kernel) rfl).trans ?_
      refine (X_i2l (m := 350) (pc := 2028)  (by decide +kernel) ).trans ?_
      refine (X_lcmp (m := 350) (pc := 2029)  (by decide +kernel) ).trans ?_
      refine (X_if_eq (m := 350) (pc := 2030) (off := 5) (tg := 2035) (by decide +kernel) (by decide +kernel)).trans ?_
      refine ite_congr rfl (fun _ => ?_) (fun _ => ?_)
      · refine (X_goto (m := 350) (pc := 2035) (off := 1445) (tg := 3480) (by decide +kernel) (by decide +kernel)).trans ?_
        refine (X_iinc (m := 350) (pc := 3480) (n := 5) (c := 7) (by decide +kernel) rfl rfl (Nat.le_of_ble_eq_true rfl) rfl).trans ?_
        refine (X_goto (m := 350) (pc := 3483) (off := -3455) (tg := 28) (by decide +kernel) (by decide +kernel)).trans ?_
        rfl
      · refine (X_iconst (m := 350) (pc := 2033) (n := 0) (by decide +kernel) ).trans ?_
        exact X_ireturn (m := 350) (pc := 2034) (f := 2) (by decide +kernel) (by decide +kernel) rfl
  · refine (X_iconst (m := 350) (pc := 2016) (n := 0) (by decide +kernel) ).trans ?_
    exact X_ireturn (m := 350) (pc := 2017) (f := 2) (by decide +kernel) (by decide +kernel) rfl
theorem B_L_law_2055 {k : Nat → Nat × Nat} {u : Nat → Nat → Int} {g : Nat → Nat → Nat} {t : Nat × Nat × Nat} {r0 : Nat} {r1 : Nat} {r2 : Nat} {r3 : Nat} {r4 : Nat} {x5 : Int} {x6 : Int} {x7 : Int} {v8 : AV} {y0 : Int} : a_X 350 2055 [a_r (r0), a_r (r1), a_r (r2), a_r (r3), a_r (r4), a_i (x5), a_i (x6), a_i (x7), v8] [a_i (y0)] (k, u, g, t) = if (y0 : Int) = (x6 : Int) then if (x6 : Int) ≠ 0 then a_X 350 28 [a_r (r0), a_r (r1), a_r (r2), a_r (r3), a_r (r4), a_i (wr (x5 + 7)), a_i (x6), a_i (x7), v8] [] (k, u, g, t) else if (k r3).1 = 22 ∧ 0 ≤ (0 : Int) ∧ (0 : Int) < ((k r3).2 : Int) then if (if (u r3 (0 : Int).toNat) < (x7) then -1 else if (u r3 (0 : Int).toNat) = (x7) then 0 else 1 : Int) = 0 then a_X 350 28 [a_r (r0), a_r (r1), a_r (r2), a_r (r3), a_r (r4), a_i (wr (x5 + 7)), a_i (x6), a_i (x7), v8] [] (k, u, g, t) else some (.inl (some (a_i (0))), (k, u, g, t)) else none else some (.inl (some (a_i (0))), (k, u, g, t)) := by
  refine (X_iload (m := 350) (pc := 2055) (n := 6) (by decide +kernel) rfl).trans ?_
  refine (X_ic_eq (m := 350) (pc := 2057) (off := 5) (tg := 2062) (by decide +kernel) (by decide +kernel)).trans ?_
  refine ite_congr rfl (fun _ => ?_) (fun _ => ?_)
  · refine (X_iload (m := 350) (pc := 2062) (n := 6) (by decide +kernel) rfl).trans ?_
    refine (X_if_ne (m := 350) (pc := 2064) (off := 15) (tg := 2079) (by decide +kernel) (by decide +kernel)).trans ?_
    refine ite_congr rfl (fun _ => ?_) (fun _ => ?_)
    · refine (X_goto (m := 350) (pc := 2079) (off := 1401) (tg := 3480) (by decide +kernel) (by decide +kernel)).trans ?_
      refine (X_iinc (m := 350) (pc := 3480) (n := 5) (c := 7) (by decide +kernel) rfl rfl (Nat.le_of_ble_eq_true rfl) rfl).trans ?_
      refine (X_goto (m := 350) (pc := 3483) (off := -3455) (tg := 28) (by decide +kernel) (by decide +kernel)).trans ?_
      rfl
    · refine (X_aload_n (m := 350) (pc := 2067) (n := 3) (by decide +kernel) rfl).trans ?_
      refine (X_iconst (m := 350) (pc := 2068) (n := 0) (by decide +kernel) ).trans ?_
      refine (X_laload (m := 350) (pc := 2069)  (by decide +kernel) ).trans ?_
      refine ite_congr rfl (fun _ => ?_) (fun _ => rfl)
      refine (X_iload (m := 350) (pc := 2070) (n := 7) (by decide +kernel) rfl).trans ?_
      refine (X_i2l (m := 350) (pc := 2072)  (by decide +kernel) ).trans ?_
      refine (X_lcmp (m := 350) (pc := 2073)  (by decide +kernel) ).trans ?_
      refine (X_if_eq (m := 350) (pc := 2074) (off := 5) (tg := 2079) (by decide +kernel) (by decide +kernel)).trans ?_
      refine ite_congr rfl (fun _ => ?_) (fun _ => ?_)
      · refine (X_goto (m := 350) (pc := 2079) (off := 1401) (tg := 3480) (by decide +kernel) (by decide +kernel)).trans ?_
        refine (X_iinc (m := 350) (pc := 3480) (n := 5) (c := 7) (by decide +kernel) rfl rfl (Nat.le_of_ble_eq_true rfl) rfl).trans ?_
        refine (X_goto (m := 350) (pc := 3483) (off := -3455) (tg := 28) (by decide +kernel) (by decide +kernel)).trans ?_
        rfl
      · refine (X_iconst (m := 350) (pc := 2077) (n := 0) (by decide +kernel) ).trans ?_
        exact X_ireturn (m := 350) (pc := 2078) (f := 2) (by decide +kernel) (by decide +kernel) rfl
  · refine (X_iconst (m := 350) (pc := 2060) (n := 0) (by decide +kernel) ).trans ?_
    exact X_ireturn (m := 350) (pc := 2061) (f := 2) (by decide +kernel) (by decide +kernel) rfl
theorem B_L_law_2099 {k : Nat → Nat × Nat} {u : Nat → Nat → Int} {g : Nat → Nat → Nat} {t : Nat × Nat × Nat} {r0 : Nat} {r1 : Nat} {r2 : Nat} {r3 : Nat} {r4 : Nat} {x5 : Int} {x6 : Int} {x7 : Int} {v8 : AV} {y0 : Int} : a_X 350 2099 [a_r (r0), a_r (r1), a_r (r2), a_r (r3), a_r (r4), a_i (x5), a_i (x6), a_i (x7), v8] [a_i (y0)] (k, u, g, t) = if (y0 : Int) = (x6 : Int) then if (x6 : Int) ≠ 0 then a_X 350 28 [a_r (r0), a_r (r1), a_r (r2), a_r (r3), a_r (r4), a_i (wr (x5 + 7)), a_i (x6), a_i (x7), v8] [] (k, u, g, t) else if (k r3).1 = 22 ∧ 0 ≤ (0 : Int) ∧ (0 : Int) < ((k r3).2 : Int) then if (if (u r3 (0 : Int).toNat) < (x7) then -1 else if (u r3 (0 : Int).toNat) = (x7) then 0 else 1 : Int) = 0 then a_X 350 28 [a_r (r0), a_r (r1), a_r (r2), a_r (r3), a_r (r4), a_i (wr (x5 + 7)), a_i (x6), a_i (x7), v8] [] (k, u, g, t) else some (.inl (some (a_i (0))), (k, u, g, t)) else none else some (.inl (some (a_i (0))), (k, u, g, t)) := by
  refine (X_iload (m := 350) (pc := 2099) (n := 6) (by decide +kernel) rfl).trans ?_
  refine (X_ic_eq (m := 350) (pc := 2101) (off := 5) (tg := 2106) (by decide +kernel) (by decide +kernel)).trans ?_
  refine ite_congr rfl (fun _ => ?_) (fun _ => ?_)
  · refine (X_iload (m := 350) (pc := 2106) (n := 6) (by decide +kernel) rfl).trans ?_
    refine (X_if_ne (m := 350) (pc := 2108) (off := 15) (tg := 2123) (by decide +kernel) (by decide +kernel)).trans ?_
    refine ite_congr rfl (fun _ => ?_) (fun _ => ?_)
    · refine (X_goto (m := 350) (pc := 2123) (off := 1357) (tg := 3480) (by decide +kernel) (by decide +kernel)).trans ?_
      refine (X_iinc (m := 350) (pc := 3480) (n := 5) (c := 7) (by decide +kernel) rfl rfl (Nat.le_of_ble_eq_true rfl) rfl).trans ?_
      refine (X_goto (m := 350) (pc := 3483) (off := -3455) (tg := 28) (by decide +kernel) (by decide +kernel)).trans ?_
      rfl
    · refine (X_aload_n (m := 350) (pc := 2111) (n := 3) (by decide +kernel) rfl).trans ?_
      refine (X_iconst (m := 350) (pc := 2112) (n := 0) (by decide +kernel) ).trans ?_
      refine (X_laload (m := 350) (pc := 2113)  (by decide +kernel) ).trans ?_
      refine ite_congr rfl (fun _ => ?_) (fun _ => rfl)
      refine (X_iload (m := 350) (pc := 2114) (n := 7) (by decide +kernel) rfl).trans ?_
      refine (X_i2l (m := 350) (pc := 2116)  (by decide +kernel) ).trans ?_
      refine (X_lcmp (m := 350) (pc := 2117)  (by decide +kernel) ).trans ?_
      refine (X_if_eq (m := 350) (pc := 2118) (off := 5) (tg := 2123) (by decide +kernel) (by decide +kernel)).trans ?_
      refine ite_congr rfl (fun _ => ?_) (fun _ => ?_)
      · refine (X_goto (m := 350) (pc := 2123) (off := 1357) (tg := 3480) (by decide +kernel) (by decide +kernel)).trans ?_
        refine (X_iinc (m := 350) (pc := 3480) (n := 5) (c := 7) (by decide +kernel) rfl rfl (Nat.le_of_ble_eq_true rfl) rfl).trans ?_
        refine (X_goto (m := 350) (pc := 3483) (off := -3455) (tg := 28) (by decide +kernel) (by decide +kernel)).trans ?_
        rfl
      · refine (X_iconst (m := 350) (pc := 2121) (n := 0) (by decide +kernel) ).trans ?_
        exact X_ireturn (m := 350) (pc := 2122) (f := 2) (by decide +kernel) (by decide +kernel) rfl
  · refine (X_iconst (m := 350) (pc := 2104) (n := 0) (by decide +kernel) ).trans ?_
    exact X_ireturn (m := 350) (pc := 2105) (f := 2) (by decide +kernel) (by decide +kernel) rfl
theorem B_L_law_2155 {k : Nat → Nat × Nat} {u : Nat → Nat → Int} {g : Nat → Nat → Nat} {t : Nat × Nat × Nat} {r0 : Nat} {r1 : Nat} {r2 : Nat} {r3 : Nat} {r4 : Nat} {x5 : Int} {x6 : Int} {x7 : Int} {v8 : AV} {y0 : Int} : a_X 350 2155 [a_r (r0), a_r (r1), a_r (r2), a_r (r3), a_r (r4), a_i (x5), a_i (x6), a_i (x7), v8] [a_i (y0)] (k, u, g, t) = if (y0 : Int) = (x6 : Int) then if (x6 : Int) ≠ 0 then a_X 350 28 [a_r (r0), a_r (r1), a_r (r2), a_r (r3), a_r (r4), a_i (wr (x5 + 7)), a_i (x6), a_i (x7), v8] [] (k, u, g, t) else if (k r3).1 = 22 ∧ 0 ≤ (0 : Int) ∧ (0 : Int) < ((k r3).2 : Int) then if (if (u r3 (0 : Int).toNat) < (x7) then -1 else if (u r3 (0 : Int).toNat) = (x7) then 0 else 1 : Int) = 0 then a_X 350 28 [a_r (r0), a_r (r1), a_r (r2), a_r (r3), a_r (r4), a_i (wr (x5 + 7)), a_i (x6), a_i (x7), v8] [] (k, u, g, t) else some (.inl (some (a_i (0))), (k, u, g, t)) else none else some (.inl (some (a_i (0))), (k, u, g, t)) := by
  refine (X_iload (m := 350) (pc := 2155) (n := 6) (by decide +kernel) rfl).trans ?_
  refine (X_ic_eq (m := 350) (pc := 2157) (off := 5) (tg := 2162) (by decide +kernel) (by decide +kernel)).trans ?_
  refine ite_congr rfl (fun _ => ?_) (fun _ => ?_)
  · refine (X_iload (m := 350) (pc := 2162) (n := 6) (by decide +kernel) rfl).trans ?_
    refine (X_if_ne (m := 350) (pc := 2164) (off := 15) (tg := 2179) (by decide +kernel) (by decide +kernel)).trans ?_
    refine ite_congr rfl (fun _ => ?_) (fun _ => ?_)
    · refine (X_goto (m := 350) (pc := 2179) (off := 1301) (tg := 3480) (by decide +kernel) (by decide +kernel)).trans ?_
      refine (X_iinc (m := 350) (pc := 3480) (n := 5) (c := 7) (by decide +kernel) rfl rfl (Nat.le_of_ble_eq_true rfl) rfl).trans ?_
      refine (X_goto (m := 350) (pc := 3483) (off := -3455) (tg := 28) (by decide +kernel) (by decide +kernel)).trans ?_
      rfl
    · refine (X_aload_n (m := 350) (pc := 2167) (n := 3) (by decide +kernel) rfl).trans ?_
      refine (X_iconst (m := 350) (pc := 2168) (n := 0) (by decide +kernel) ).trans ?_
      refine (X_laload (m := 350) (pc := 2169)  (by decide +kernel) ).trans ?_
      refine ite_congr rfl (fun _ => ?_) (fun _ => rfl)
      refine (X_iload (m := 350) (pc := 2170) (n := 7) (by decide +kernel) rfl).trans ?_
      refine (X_i2l (m := 350) (pc := 2172)  (by decide +kernel) ).trans ?_
      refine (X_lcmp (m := 350) (pc := 2173)  (by decide +kernel) ).trans ?_
      refine (X_if_eq (m := 350) (pc := 2174) (off := 5) (tg := 2179) (by decide +kernel) (by decide +kernel)).trans ?_
      refine ite_congr rfl (fun _ => ?_) (fun _ => ?_)
      · refine (X_goto (m := 350) (pc := 2179) (off := 1301) (tg := 3480) (by decide +kernel) (by decide +kernel)).trans ?_
        refine (X_iinc (m := 350) (pc := 3480) (n := 5) (c := 7) (by decide +kernel) rfl rfl (Nat.le_of_ble_eq_true rfl) rfl).trans ?_
        refine (X_goto (m := 350) (pc := 3483) (off := -3455) (tg := 28) (by decide +kernel) (by decide +kernel)).trans ?_
        rfl
      · refine (X_iconst (m := 350) (pc := 2177) (n := 0) (by decide +kernel) ).trans ?_
        exact X_ireturn (m := 350) (pc := 2178) (f := 2) (by decide +kernel) (by decide +kernel) rfl
  · refine (X_iconst (m := 350) (pc := 2160) (n := 0) (by decide +kernel) ).trans ?_
    exact X_ireturn (m := 350) (pc := 2161) (f := 2) (by decide +kernel) (by decide +kernel) rfl
theorem B_L_law_2223 {k : Nat → Nat × Nat} {u : Nat → Nat → Int} {g : Nat → Nat → Nat} {t : Nat × Nat × Nat} {r0 : Nat} {r1 : Nat} {r2 : Nat} {r3 : Nat} {r4 : Nat} {x5 : Int} {x6 : Int} {x7 : Int} {v8 : AV} {y0 : Int} : a_X 350 2223 [a_r (r0), a_r (r1), a_r (r2), a_r (r3), a_r (r4), a_i (x5), a_i (x6), a_i (x7), v8] [a_i (y0)] (k, u, g, t) = if (y0 : Int) = (x6 : Int) then if (x6 : Int) ≠ 0 then a_X 350 28 [a_r (r0), a_r (r1), a_r (r2), a_r (r3), a_r (r4), a_i (wr (x5 + 7)), a_i (x6), a_i (x7), v8] [] (k, u, g, t) else if (k r3).1 = 22 ∧ 0 ≤ (0 : Int) ∧ (0 : Int) < ((k r3).2 : Int) then if (if (u r3 (0 : Int).toNat) < (x7) then -1 else if (u r3 (0 : Int).toNat) = (x7) then 0 else 1 : Int) = 0 then a_X 350 28 [a_r (r0), a_r (r1), a_r (r2), a_r (r3), a_r (r4), a_i (wr (x5 + 7)), a_i (x6), a_i (x7), v8] [] (k, u, g, t) else some (.inl (some (a_i (0))), (k, u, g, t)) else none else some (.inl (some (a_i (0))), (k, u, g, t)) := by
  refine (X_iload (m := 350) (pc := 2223) (n := 6) (by decide +kernel) rfl).trans ?_
  refine (X_ic_eq (m := 350) (pc := 2225) (off := 5) (tg := 2230) (by decide +kernel) (by decide +kernel)).trans ?_
  refine ite_congr rfl (fun _ => ?_) (fun _ => ?_)
  · refine (X_iload (m := 350) (pc := 2230) (n := 6) (by decide +kernel) rfl).trans ?_
    refine (X_if_ne (m := 350) (pc := 2232) (off := 15) (tg := 2247) (by decide +kernel) (by decide +kernel)).trans ?_
    refine ite_congr rfl (fun _ => ?_) (fun _ => ?_)
    · refine (X_goto (m := 350) (pc := 2247) (off := 1233) (tg := 3480) (by decide +kernel) (by decide +kernel)).trans ?_
      refine (X_iinc (m := 350) (pc := 3480) (n := 5) (c := 7) (by decide +kernel) rfl rfl (Nat.le_of_ble_eq_true rfl) rfl).trans ?_
      refine (X_goto (m := 350) (pc := 3483) (off := -3455) (tg := 28) (by decide +kernel) (by decide +kernel)).trans ?_
      rfl
    · refine (X_aload_n (m := 350) (pc := 2235) (n := 3) (by decide +kernel) rfl).trans ?_
      refine (X_iconst (m := 350) (pc := 2236) (n := 0) (by decide +kernel) ).trans ?_
      refine (X_laload (m := 350) (pc := 2237)  (by decide +kernel) ).trans ?_
      refine ite_congr rfl (fun _ => ?_) (fun _ => rfl)
      refine (X_iload (m := 350) (pc := 2238) (n := 7) (by decide +kernel) rfl).trans ?_
      refine (X_i2l (m := 350) (pc := 2240)  (by decide +kernel) ).trans ?_
      refine (X_lcmp (m := 350) (pc := 2241)  (by decide +kernel) ).trans ?_
      refine (X_if_eq (m := 350) (pc := 2242) (off := 5) (tg := 2247) (by decide +kernel) (by decide +kernel)).trans ?_
      refine ite_congr rfl (fun _ => ?_) (fun _ => ?_)
      · refine (X_goto (m := 350) (pc := 2247) (off := 1233) (tg := 3480) (by decide +kernel) (by decide +kernel)).trans ?_
        refine (X_iinc (m := 350) (pc := 3480) (n := 5) (c := 7) (by decide +kernel) rfl rfl (Nat.le_of_ble_eq_true rfl) rfl).trans ?_
        refine (X_goto (m := 350) (pc := 3483) (off := -3455) (tg := 28) (by decide +kernel) (by decide +kernel)).trans ?_
        rfl
      · refine (X_iconst (m := 350) (pc := 2245) (n := 0) (by decide +kernel) ).trans ?_
        exact X_ireturn (m := 350) (pc := 2246) (f := 2) (by decide +kernel) (by decide +kernel) rfl
  · refine (X_iconst (m := 350) (pc := 2228) (n := 0) (by decide +kernel) ).trans ?_
    exact X_ireturn (m := 350) (pc := 2229) (f := 2) (by decide +kernel) (by decide +kernel) rfl
theorem B_L_law_2279 {k : Nat → Nat × Nat} {u : Nat → Nat → Int} {g : Nat → Nat → Nat} {t : Nat × Nat × Nat} {r0 : Nat} {r1 : Nat} {r2 : Nat} {r3 : Nat} {r4 : Nat} {x5 : Int} {x6 : Int} {x7 : Int} {v8 : AV} {y0 : Int} : a_X 350 2279 [a_r (r0), a_r (r1), a_r (r2), a_r (r3), a_r (r4), a_i (x5), a_i (x6), a_i (x7), v8] [a_i (y0)] (k, u, g, t) = if (y0 : Int) = (x6 : Int) then if (x6 : Int) ≠ 0 then a_X 350 28 [a_r (r0), a_r (r1), a_r (r2), a_r (r3), a_r (r4), a_i (wr (x5 + 7)), a_i (x6), a_i (x7), v8] [] (k, u, g, t) else if (k r3).1 = 22 ∧ 0 ≤ (0 : Int) ∧ (0 : Int) < ((k r3).2 : Int) then if (if (u r3 (0 : Int).toNat) < (x7) then -1 else if (u r3 (0 : Int).toNat) = (x7) then 0 else 1 : Int) = 0 then a_X 350 28 [a_r (r0), a_r (r1), a_r (r2), a_r (r3), a_r (r4), a_i (wr (x5 + 7)), a_i (x6), a_i (x7), v8] [] (k, u, g, t) else some (.inl (some (a_i (0))), (k, u, g, t)) else none else some (.inl (some (a_i (0))), (k, u, g, t)) := by
  refine (X_iload (m := 350) (pc := 2279) (n := 6) (by decide +kernel) rfl).trans ?_
  refine (X_ic_eq (m := 350) (pc := 2281) (off := 5) (tg := 2286) (by decide +kernel) (by decide +kernel)).trans ?_
  refine ite_congr rfl (fun _ => ?_) (fun _ => ?_)
  · refine (X_iload (m := 350) (pc := 2286) (n := 6) (by decide +kernel) rfl).trans ?_
    refine (X_if_ne (m := 350) (pc := 2288) (off := 15) (tg := 2303) (by decide +kernel) (by decide +kernel)).trans ?_
    refine ite_congr rfl (fun _ => ?_) (fun _ => ?_)
    · refine (X_goto (m := 350) (pc := 2303) (off := 1177) (tg := 3480) (by decide +kernel) (by decide +kernel)).trans ?_
      refine (X_iinc (m := 350) (pc := 3480) (n := 5) (c := 7) (by decide +kernel) rfl rfl (Nat.le_of_ble_eq_true rfl) rfl).trans ?_
      refine (X_goto (m := 350) (pc := 3483) (off := -3455) (tg := 28) (by decide +kernel) (by decide +kernel)).trans ?_
      rfl
    · refine (X_aload_n (m := 350) (pc := 2291) (n := 3) (by decide +kernel) rfl).trans ?_
      refine (X_iconst (m := 350) (pc := 2292) (n := 0) (by decide +kernel) ).trans ?_
      refine (X_laload (m := 350) (pc := 2293)  (by decide +kernel) ).trans ?_
      refine ite_congr rfl (fun _ => ?_) (fun _ => rfl)
      refine (X_iload (m := 350) (pc := 2294) (n := 7) (by decide +kernel) rfl).trans ?_
      refine (X_i2l (m := 350) (pc := 2296)  (by decide +kernel) ).trans ?_
      refine (X_lcmp (m := 350) (pc := 2297)  (by decide +kernel) ).trans ?_
      refine (X_if_eq (m := 350) (pc := 2298) (off := 5) (tg := 2303) (by decide +kernel) (by decide +kernel)).trans ?_
      refine ite_congr rfl (fun _ => ?_) (fun _ => ?_)
      · refine (X_goto (m := 350) (pc := 2303) (off := 1177) (tg := 3480) (by decide +kernel) (by decide +kernel)).trans ?_
        refine (X_iinc (m := 350) (pc := 3480) (n := 5) (c := 7) (by decide +kernel) rfl rfl (Nat.le_of_ble_eq_true rfl) rfl).trans ?_
        refine (X_goto (m := 350) (pc := 3483) (off := -3455) (tg := 28) (by decide +kernel) (by decide +kernel)).trans ?_
        rfl
      · refine (X_iconst (m := 350) (pc := 2301) (n := 0) (by decide +kernel) ).trans ?_
        exact X_ireturn (m := 350) (pc := 2302) (f := 2) (by decide +kernel) (by decide +kernel) rfl
  · refine (X_iconst (m := 350) (pc := 2284) (n := 0) (by decide +kernel) ).trans ?_
    exact X_ireturn (m := 350) (pc := 2285) (f := 2) (by decide +kernel) (by decide +kernel) rfl
theorem B_L_law_2324 {k : Nat → Nat × Nat} {u : Nat → Nat → Int} {g : Nat → Nat → Nat} {t : Nat × Nat × Nat} {r0 : Nat} {r1 : Nat} {r2 : Nat} {r3 : Nat} {r4 : Nat} {x5 : Int} {x6 : Int} {f7 : UInt32} {v8 : AV} {y0 : Int} : a_X 350 2324 [a_r (r0), a_r (r1), a_r (r2), a_r (r3), a_r (r4), a_i (x5), a_i (x6), a_f (f7), v8] [a_i (y0)] (k, u, g, t) = if (y0 : Int) = (x6 : Int) then if (x6 : Int) ≠ 0 then a_X 350 28 [a_r (r0), a_r (r1), a_r (r2), a_r (r3), a_r (r4), a_i (wr (x5 + 7)), a_i (x6), a_f (f7), v8] [] (k, u, g, t) else if (k r4).1 = 23 ∧ 0 ≤ (0 : Int) ∧ (0 : Int) < ((k r4).2 : Int) then if FP.f2d (f7) &&& 0x7fffffffffffffff ≤ 0x7ff0000000000000 then if ((Op.cmpValue (FP.dcmp (UInt64.ofNat (u r4 (0 : Int).toNat : Int).toNat) (FP.f2d (f7))) .l).toInt : Int) = 0 then a_X 350 28 [a_r (r0), a_r (r1), a_r (r2), a_r (r3), a_r (r4), a_i (wr (x5 + 7)), a_i (x6), a_f (f7), v8] [] (k, u, g, t) else if (k r4).1 = 23 ∧ 0 ≤ (0 : Int) ∧ (0 : Int) < ((k r4).2 : Int) then if (k r4).1 = 23 ∧ 0 ≤ (0 : Int) ∧ (0 : Int) < ((k r4).2 : Int) then if ((Op.cmpValue (FP.dcmp (UInt64.ofNat (u r4 (0 : Int).toNat : Int).toNat) (UInt64.ofNat (u r4 (0 : Int).toNat : Int).toNat)) .l).toInt : Int) = 0 then some (.inl (some (a_i (0))), (k, u, g, t)) else if ((Op.cmpValue (FP.fcmp (f7) (f7)) .l).toInt : Int) ≠ 0 then a_X 350 28 [a_r (r0), a_r (r1), a_r (r2), a_r (r3), a_r (r4), a_i (wr (x5 + 7)), a_i (x6), a_f (f7), v8] [] (k, u, g, t) else some (.inl (some (a_i (0))), (k, u, g, t)) else none else none else none else none else some (.inl (some (a_i (0))), (k, u, g, t)) := by
  refine (X_iload (m := 350) (pc := 2324) (n := 6) (by decide +kernel) rfl).trans ?_
  refine (X_ic_eq (m := 350) (pc := 2326) (off := 5) (tg := 2331) (by decide +kernel) (by decide +kernel)).trans ?_
  refine ite_congr rfl (fun _ => ?_) (fun _ => ?_)
  · refine (X_iload (m := 350) (pc := 2331) (n := 6) (by decide +kernel) rfl).trans ?_
    refine (X_if_ne (m := 350) (pc := 2333) (off := 36) (tg := 2369) (by decide +kernel) (by decide +kernel)).trans ?_
    refine ite_congr rfl (fun _ => ?_) (fun _ => ?_)
    · refine (X_goto (m := 350) (pc := 2369) (off := 1111) (tg := 3480) (by decide +kernel) (by decide +kernel)).trans ?_
      refine (X_iinc (m := 350) (pc := 3480) (n := 5) (c := 7) (by decide +kernel) rfl rfl (Nat.le_of_ble_eq_true rfl) rfl).trans ?_
      refine (X_goto (m := 350) (pc := 3483) (off := -3455) (tg := 28) (by decide +kernel) (by decide +kernel)).trans ?_
      rfl
    · refine (X_aload (m := 350) (pc := 2336) (n := 4) (by decide +kernel) rfl).trans ?_
      refine (X_iconst (m := 350) (pc := 2338) (n := 0) (by decide +kernel) ).trans ?_
      refine (X_daload (m := 350) (pc := 2339)  (by decide +kernel) ).trans ?_
      refine ite_congr rfl (fun _ => ?_) (fun _ => rfl)
      refine (X_fload (m := 350) (pc := 2340) (n := 7) (by decide +kernel) rfl).trans ?_
      refine (X_f2d (m := 350) (pc := 2342)  (by decide +kernel) ).trans ?_
      refine ite_congr rfl (fun _ => ?_) (fun _ => rfl)
      refine (X_dcmp (m := 350) (pc := 2343) (op := .l) (by decide +kernel) ).trans ?_
      refine (X_if_eq (m := 350) (pc := 2344) (off := 25) (tg := 2369) (by decide +kernel) (by decide +kernel)).trans ?_
      refine ite_congr rfl (fun _ => ?_) (fun _ => ?_)
      · refine (X_goto (m := 350) (pc := 2369) (off := 1111) (tg := 3480) (by decide +kernel) (by decide +kernel)).trans ?_
        refine (X_iinc (m := 350) (pc := 3480) (n := 5) (c := 7) (by decide +kernel) rfl rfl (Nat.le_of_ble_eq_true rfl) rfl).trans ?_
        refine (X_goto (m := 350) (pc := 3483) (off := -3455) (tg := 28) (by decide +kernel) (by decide +kernel)).trans ?_
        rfl
      · refine (X_aload (m := 350) (pc := 2347) (n := 4) (by decide +kernel) rfl).trans ?_
        refine (X_iconst (m := 350) (pc := 2349) (n := 0) (by decide +kernel) ).trans ?_
        refine (X_daload (m := 350) (pc := 2350)  (by decide +kernel) ).trans ?_
        refine ite_congr rfl (fun _ => ?_) (fun _ => rfl)
        refine (X_aload (m := 350) (pc := 2351) (n := 4) (by decide +kernel) rfl).trans ?_
        refine (X_iconst (m := 350) (pc := 2353) (n := 0) (by decide +kernel) ).trans ?_
        refine (X_daload (m := 350) (pc := 2354)  (by decide +kernel) ).trans ?_
        refine ite_congr rfl (fun _ => ?_) (fun _ => rfl)
        refine (X_dcmp (m := 350) (pc := 2355) (op := .l) (by decide +kernel) ).trans ?_
        refine (X_if_eq (m := 350) (pc := 2356) (off := 11) (tg := 2367) (by decide +kernel) (by decide +kernel)).trans ?_
        refine ite_congr rfl (fun _ => ?_) (fun _ => ?_)
        · refine (X_iconst (m := 350) (pc := 2367) (n := 0) (by decide +kernel) ).trans ?_
          exact X_ireturn (m := 350) (pc := 2368) (f := 2) (by decide +kernel) (by decide +kernel) rfl
        · refine (X_fload (m := 350) (pc := 2359) (n := 7) (by decide +kernel) rfl).trans ?_
          refine (X_fload (m := 350) (pc := 2361) (n := 7) (by decide +kernel) rfl).trans ?_
          refine (X_fcmp (m := 350) (pc := 2363) (op := .l) (by decide +kernel) ).trans ?_
          refine (X_if_ne (m := 350) (pc := 2364) (off := 5) (tg := 2369) (by decide +kernel) (by decide +kernel)).trans ?_
          refine ite_congr rfl (fun _ => ?_) (fun _ => ?_)
          · refine (X_goto (m := 350) (pc := 2369) (off := 1111) (tg := 3480) (by decide +kernel) (by decide +kernel)).trans ?_
            refine (X_iinc (m := 350) (pc := 3480) (n := 5) (c := 7) (by decide +kernel) rfl rfl (Nat.le_of_ble_eq_true rfl) rfl).trans ?_
            refine (X_goto (m := 350) (pc := 3483) (off := -3455) (tg := 28) (by decide +kernel) (by decide +kernel)).trans ?_
            rfl
          · refine (X_iconst (m := 350) (pc := 2367) (n := 0) (by decide +kernel) ).trans ?_
            exact X_ireturn (m := 350) (pc := 2368) (f := 2) (by decide +kernel) (by decide +kernel) rfl
  · refine (X_iconst (m := 350) (pc := 2329) (n := 0) (by decide +kernel) ).trans ?_
    exact X_ireturn (m := 350) (pc := 2330) (f := 2) (by decide +kernel) (by decide +kernel) rfl
theorem B_L_law_2390 {k : Nat → Nat × Nat} {u : Nat → Nat → Int} {g : Nat → Nat → Nat} {t : Nat × Nat × Nat} {r0 : Nat} {r1 : Nat} {r2 : Nat} {r3 : Nat} {r4 : Nat} {x5 : Int} {x6 : Int} {d7 : UInt64} {y0 : Int} : a_X 350 2390 [a_r (r0), a_r (r1), a_r (r2), a_r (r3), a_r (r4), a_i (x5), a_i (x6), a_d (d7), a_x false] [a_i (y0)] (k, u, g, t) = if (y0 : Int) = (x6 : Int) then if (x6 : Int) ≠ 0 then a_X 350 28 [a_r (r0), a_r (r1), a_r (r2), a_r (r3), a_r (r4), a_i (wr (x5 + 7)), a_i (x6), a_d (d7), a_x false] [] (k, u, g, t) else if (k r4).1 = 23 ∧ 0 ≤ (0 : Int) ∧ (0 : Int) < ((k r4).2 : Int) then if ((Op.cmpValue (FP.dcmp (UInt64.ofNat (u r4 (0 : Int).toNat : Int).toNat) (d7)) .l).toInt : Int) = 0 then a_X 350 28 [a_r (r0), a_r (r1), a_r (r2), a_r (r3), a_r (r4), a_i (wr (x5 + 7)), a_i (x6), a_d (d7), a_x false] [] (k, u, g, t) else if (k r4).1 = 23 ∧ 0 ≤ (0 : Int) ∧ (0 : Int) < ((k r4).2 : Int) then if (k r4).1 = 23 ∧ 0 ≤ (0 : Int) ∧ (0 : Int) < ((k r4).2 : Int) then if ((Op.cmpValue (FP.dcmp (UInt64.ofNat (u r4 (0 : Int).toNat : Int).toNat) (UInt64.ofNat (u r4 (0 : Int).toNat : Int).toNat)) .l).toInt : Int) = 0 then some (.inl (some (a_i (0))), (k, u, g, t)) else if ((Op.cmpValue (FP.dcmp (d7) (d7)) .l).toInt : Int) ≠ 0 then a_X 350 28 [a_r (r0), a_r (r1), a_r (r2), a_r (r3), a_r (r4), a_i (wr (x5 + 7)), a_i (x6), a_d (d7), a_x false] [] (k, u, g, t) else some (.inl (some (a_i (0))), (k, u, g, t)) else none else none else none else some (.inl (some (a_i (0))), (k, u, g, t)) := by
  refine (X_iload (m := 350) (pc := 2390) (n := 6) (by decide +kernel) rfl).trans ?_
  refine (X_ic_eq (m := 350) (pc := 2392) (off := 5) (tg := 2397) (by decide +kernel) (by decide +kernel)).trans ?_
  refine ite_congr rfl (fun _ => ?_) (fun _ => ?_)
  · refine (X_iload (m := 350) (pc := 2397) (n := 6) (by decide +kernel) rfl).trans ?_
    refine (X_if_ne (m := 350) (pc := 2399) (off := 35) (tg := 2434) (by decide +kernel) (by decide +kernel)).trans ?_
    refine ite_congr rfl (fun _ => ?_) (fun _ => ?_)
    · refine (X_goto (m := 350) (pc := 2434) (off := 1046) (tg := 3480) (by decide +kernel) (by decide +kernel)).trans ?_
      refine (X_iinc (m := 350) (pc := 3480) (n := 5) (c := 7) (by decide +kernel) rfl rfl (Nat.le_of_ble_eq_true rfl) rfl).trans ?_
      refine (X_goto (m := 350) (pc := 3483) (off := -3455) (tg := 28) (by decide +kernel) (by decide +kernel)).trans ?_
      rfl
    · refine (X_aload (m := 350) (pc := 2402) (n := 4) (by decide +kernel) rfl).trans ?_
      refine (X_iconst (m := 350) (pc := 2404) (n := 0) (by decide +kernel) ).trans ?_
      refine (X_daload (m := 350) (pc := 2405)  (by decide +kernel) ).trans ?_
      refine ite_congr rfl (fun _ => ?_) (fun _ => rfl)
      refine (X_dload (m := 350) (pc := 2406) (n := 7) (by decide +kernel) rfl).trans ?_
      refine (X_dcmp (m := 350) (pc := 2408) (op := .l) (by decide +kernel) ).trans ?_
      refine (X_if_eq (m := 350) (pc := 2409) (off := 25) (tg := 2434) (by decide +kernel) (by decide +kernel)).trans ?_
      refine ite_congr rfl (fun _ => ?_) (fun _ => ?_)
      · refine (X_goto (m := 350) (pc := 2434) (off := 1046) (tg := 3480) (by decide +kernel) (by decide +kernel)).trans ?_
        refine (X_iinc (m := 350) (pc := 3480) (n := 5) (c := 7) (by decide +kernel) rfl rfl (Nat.le_of_ble_eq_true rfl) rfl).trans ?_
        refine (X_goto (m := 350) (pc := 3483) (off := -3455) (tg := 28) (by decide +kernel) (by decide +kernel)).trans ?_
        rfl
      · refine (X_aload (m := 350) (pc := 2412) (n := 4) (by decide +kernel) rfl).trans ?_
        refine (X_iconst (m := 350) (pc := 2414) (n := 0) (by decide +kernel) ).trans ?_
        refine (X_daload (m := 350) (pc := 2415)  (by decide +kernel) ).trans ?_
        refine ite_congr rfl (fun _ => ?_) (fun _ => rfl)
        refine (X_aload (m := 350) (pc := 2416) (n := 4) (by decide +kernel) rfl).trans ?_
        refine (X_iconst (m := 350) (pc := 2418) (n := 0) (by decide +kernel) ).trans ?_
        refine (X_daload (m := 350) (pc := 2419)  (by decide +kernel) ).trans ?_
        refine ite_congr rfl (fun _ => ?_) (fun _ => rfl)
        refine (X_dcmp (m := 350) (pc := 2420) (op := .l) (by decide +kernel) ).trans ?_
        refine (X_if_eq (m := 350) (pc := 2421) (off := 11) (tg := 2432) (by decide +kernel) (by decide +kernel)).trans ?_
        refine ite_congr rfl (fun _ => ?_) (fun _ => ?_)
        · refine (X_iconst (m := 350) (pc := 2432) (n := 0) (by decide +kernel) ).trans ?_
          exact X_ireturn (m := 350) (pc := 2433) (f := 2) (by decide +kernel) (by decide +kernel) rfl
        · refine (X_dload (m := 350) (pc := 2424) (n := 7) (by decide +kernel) rfl).trans ?_
          refine (X_dload (m := 350) (pc := 2426) (n := 7) (by decide +kernel) rfl).trans ?_
          refine (X_dcmp (m := 350) (pc := 2428) (op := .l) (by decide +kernel) ).trans ?_
          refine (X_if_ne (m := 350) (pc := 2429) (off := 5) (tg := 2434) (by decide +kernel) (by decide +kernel)).trans ?_
          refine ite_congr rfl (fun _ => ?_) (fun _ => ?_)
          · refine (X_goto (m := 350) (pc := 2434) (off := 1046) (tg := 3480) (by decide +kernel) (by decide +kernel)).trans ?_
            refine (X_iinc (m := 350) (pc := 3480) (n := 5) (c := 7) (by decide +kernel) rfl rfl (Nat.le_of_ble_eq_true rfl) rfl).trans ?_
            refine (X_goto (m := 350) (pc := 3483) (off := -3455) (tg := 28) (by decide +kernel) (by decide +kernel)).trans ?_
            rfl
          · refine (X_iconst (m := 350) (pc := 2432) (n := 0) (by decide +kernel) ).trans ?_
            exact X_ireturn (m := 350) (pc := 2433) (f := 2) (by decide +kernel) (by decide +kernel) rfl
  · refine (X_iconst (m := 350) (pc := 2395) (n := 0) (by decide +kernel) ).trans ?_
    exact X_ireturn (m := 350) (pc := 2396) (f := 2) (by decide +kernel) (by decide +kernel) rfl
theorem B_L_law_2478 {k : Nat → Nat × Nat} {u : Nat → Nat → Int} {g : Nat → Nat → Nat} {t : Nat × Nat × Nat} {r0 : Nat} {r1 : Nat} {r2 : Nat} {r3 : Nat} {r4 : Nat} {x5 : Int} {x6 : Int} {x7 : Int} {v8 : AV} {y0 : Int} : a_X 350 2478 [a_r (r0), a_r (r1), a_r (r2), a_r (r3), a_r (r4), a_i (x5), a_i (x6), a_i (x7), v8] [a_i (y0)] (k, u, g, t) = if (y0 : Int) = (x6 : Int) then if (x6 : Int) ≠ 0 then a_X 350 28 [a_r (r0), a_r (r1), a_r (r2), a_r (r3), a_r (r4), a_i (wr (x5 + 7)), a_i (x6), a_i (x7), v8] [] (k, u, g, t) else if (k r3).1 = 22 ∧ 0 ≤ (0 : Int) ∧ (0 : Int) < ((k r3).2 : Int) then if (if (u r3 (0 : Int).toNat) < (x7) then -1 else if (u r3 (0 : Int).toNat) = (x7) then 0 else 1 : Int) = 0 then a_X 350 28 [a_r (r0), a_r (r1), a_r (r2), a_r (r3), a_r (r4), a_i (wr (x5 + 7)), a_i (x6), a_i (x7), v8] [] (k, u, g, t) else some (.inl (some (a_i (0))), (k, u, g, t)) else none else some (.inl (some (a_i (0))), (k, u, g, t)) := by
  refine (X_iload (m := 350) (pc := 2478) (n := 6) (by decide +kernel) rfl).trans ?_
  refine (X_ic_eq (m := 350) (pc := 2480) (off := 5) (tg := 2485) (by decide +kernel) (by decide +kernel)).trans ?_
  refine ite_congr rfl (fun _ => ?_) (fun _ => ?_)
  · refine (X_iload (m := 350) (pc := 2485) (n := 6) (by decide +kernel) rfl).trans ?_
    refine (X_if_ne (m := 350) (pc := 2487) (off := 15) (tg := 2502) (by decide +kernel) (by decide +kernel)).trans ?_
    refine ite_congr rfl (fun _ => ?_) (fun _ => ?_)
    · refine (X_goto (m := 350) (pc := 2502) (off := 978) (tg := 3480) (by decide +kernel) (by decide +kernel)).trans ?_
      refine (X_iinc (m := 350) (pc := 3480) (n := 5) (c := 7) (by decide +kernel) rfl rfl (Nat.le_of_ble_eq_true rfl) rfl).trans ?_
      refine (X_goto (m := 350) (pc := 3483) (off := -3455) (tg := 28) (by decide +kernel) (by decide +kernel)).trans ?_
      rfl
    · refine (X_aload_n (m := 350) (pc := 2490) (n := 3) (by decide +kernel) rfl).trans ?_
      refine (X_iconst (m := 350) (pc := 2491) (n := 0) (by decide +kernel) ).trans ?_
      refine (X_laload (m := 350) (pc := 2492)  (by decide +kernel) ).trans ?_
      refine ite_congr rfl (fun _ => ?_) (fun _ => rfl)
      refine (X_iload (m := 350) (pc := 2493) (n := 7) (by decide +kernel) rfl).trans ?_
      refine (X_i2l (m := 350) (pc := 2495)  (by decide +kernel) ).trans ?_
      refine (X_lcmp (m := 350) (pc := 2496)  (by decide +kernel) ).trans ?_
      refine (X_if_eq (m := 350) (pc := 2497) (off := 5) (tg := 2502) (by decide +kernel) (by decide +kernel)).trans ?_
      refine ite_congr rfl (fun _ => ?_) (fun _ => ?_)
      · refine (X_goto (m := 350) (pc := 2502) (off := 978) (tg := 3480) (by decide +kernel) (by decide +kernel)).trans ?_
        refine (X_iinc (m := 350) (pc := 3480) (n := 5) (c := 7) (by decide +kernel) rfl rfl (Nat.le_of_ble_eq_true rfl) rfl).trans ?_
        refine (X_goto (m := 350) (pc := 3483) (off := -3455) (tg := 28) (by decide +kernel) (by decide +kernel)).trans ?_
        rfl
      · refine (X_iconst (m := 350) (pc := 2500) (n := 0) (by decide +kernel) ).trans ?_
        exact X_ireturn (m := 350) (pc := 2501) (f := 2) (by decide +kernel) (by decide +kernel) rfl
  · refine (X_iconst (m := 350) (pc := 2483) (n := 0) (by decide +kernel) ).trans ?_
    exact X_ireturn (m := 350) (pc := 2484) (f := 2) (by decide +kernel) (by decide +kernel) rfl
theorem B_L_law_2534 {k : Nat → Nat × Nat} {u : Nat → Nat → Int} {g : Nat → Nat → Nat} {t : Nat × Nat × Nat} {r0 : Nat} {r1 : Nat} {r2 : Nat} {r3 : Nat} {r4 : Nat} {x5 : Int} {x6 : Int} {x7 : Int} {v8 : AV} {y0 : Int} : a_X 350 2534 [a_r (r0), a_r (r1), a_r (r2), a_r (r3), a_r (r4), a_i (x5), a_i (x6), a_i (x7), v8] [a_i (y0)] (k, u, g, t) = if (y0 : Int) = (x6 : Int) then if (x6 : Int) ≠ 0 then a_X 350 28 [a_r (r0), a_r (r1), a_r (r2), a_r (r3), a_r (r4), a_i (wr (x5 + 7)), a_i (x6), a_i (x7), v8] [] (k, u, g, t) else if (k r3).1 = 22 ∧ 0 ≤ (0 : Int) ∧ (0 : Int) < ((k r3).2 : Int) then if (if (u r3 (0 : Int).toNat) < (x7) then -1 else if (u r3 (0 : Int).toNat) = (x7) then 0 else 1 : Int) = 0 then a_X 350 28 [a_r (r0), a_r (r1), a_r (r2), a_r (r3), a_r (r4), a_i (wr (x5 + 7)), a_i (x6), a_i (x7), v8] [] (k, u, g, t) else some (.inl (some (a_i (0))), (k, u, g, t)) else none else some (.inl (some (a_i (0))), (k, u, g, t)) := by
  refine (X_iload (m := 350) (pc := 2534) (n := 6) (by decide +kernel) rfl).trans ?_
  refine (X_ic_eq (m := 350) (pc := 2536) (off := 5) (tg := 2541) (by decide +kernel) (by decide +kernel)).trans ?_
  refine ite_congr rfl (fun _ => ?_) (fun _ => ?_)
  · refine (X_iload (m := 350) (pc := 2541) (n := 6) (by decide +kernel) rfl).trans ?_
    refine (X_if_ne (m := 350) (pc := 2543) (off := 15) (tg := 2558) (by decide +kernel) (by decide +kernel)).trans ?_
    refine ite_congr rfl (fun _ => ?_) (fun _ => ?_)
    · refine (X_goto (m := 350) (pc := 2558) (off := 922) (tg := 3480) (by decide +kernel) (by decide +kernel)).trans ?_
      refine (X_iinc (m := 350) (pc := 3480) (n := 5) (c := 7) (by decide +kernel) rfl rfl (Nat.le_of_ble_eq_true rfl) rfl).trans ?_
      refine (X_goto (m := 350) (pc := 3483) (off := -3455) (tg := 28) (by decide +kernel) (by decide +kernel)).trans ?_
      rfl
    · refine (X_aload_n (m := 350) (pc := 2546) (n := 3) (by decide +kernel) rfl).trans ?_
      refine (X_iconst (m := 350) (pc := 2547) (n := 0) (by decide +kernel) ).trans ?_
      refine (X_laload (m := 350) (pc := 2548)  (by decide +kernel) ).trans ?_
      refine ite_congr rfl (fun _ => ?_) (fun _ => rfl)
      refine (X_iload (m := 350) (pc := 2549) (n := 7) (by decide +kernel) rfl).trans ?_
      refine (X_i2l (m := 350) (pc := 2551)  (by decide +kernel) ).trans ?_
      refine (X_lcmp (m := 350) (pc := 2552)  (by decide +kernel) ).trans ?_
      refine (X_if_eq (m := 350) (pc := 2553) (off := 5) (tg := 2558) (by decide +kernel) (by decide +kernel)).trans ?_
      refine ite_congr rfl (fun _ => ?_) (fun _ => ?_)
      · refine (X_goto (m := 350) (pc := 2558) (off := 922) (tg := 3480) (by decide +kernel) (by decide +kernel)).trans ?_
        refine (X_iinc (m := 350) (pc := 3480) (n := 5) (c := 7) (by decide +kernel) rfl rfl (Nat.le_of_ble_eq_true rfl) rfl).trans ?_
        refine (X_goto (m := 350) (pc := 3483) (off := -3455) (tg := 28) (by decide +kernel) (by decide +kernel)).trans ?_
        rfl
      · refine (X_iconst (m := 350) (pc := 2556) (n := 0) (by decide +kernel) ).trans ?_
        exact X_ireturn (m := 350) (pc := 2557) (f := 2) (by decide +kernel) (by decide +kernel) rfl
  · refine (X_iconst (m := 350) (pc := 2539) (n := 0) (by decide +kernel) ).trans ?_
    exact X_ireturn (m := 350) (pc := 2540) (f := 2) (by decide +kernel) (by decide +kernel) rfl
theorem B_L_law_2590 {k : Nat → Nat × Nat} {u : Nat → Nat → Int} {g : Nat → Nat → Nat} {t : Nat × Nat × Nat} {r0 : Nat} {r1 : Nat} {r2 : Nat} {r3 : Nat} {r4 : Nat} {x5 : Int} {x6 : Int} {x7 : Int} {v8 : AV} {y0 : Int} : a_X 350 2590 [a_r (r0), a_r (r1), a_r (r2), a_r (r3), a_r (r4), a_i (x5), a_i (x6), a_i (x7), v8] [a_i (y0)] (k, u, g, t) = if (y0 : Int) = (x6 : Int) then if (x6 : Int) ≠ 0 then a_X 350 28 [a_r (r0), a_r (r1), a_r (r2), a_r (r3), a_r (r4), a_i (wr (x5 + 7)), a_i (x6), a_i (x7), v8] [] (k, u, g, t) else if (k r3).1 = 22 ∧ 0 ≤ (0 : Int) ∧ (0 : Int) < ((k r3).2 : Int) then if (if (u r3 (0 : Int).toNat) < (x7) then -1 else if (u r3 (0 : Int).toNat) = (x7) then 0 else 1 : Int) = 0 then a_X 350 28 [a_r (r0), a_r (r1), a_r (r2), a_r (r3), a_r (r4), a_i (wr (x5 + 7)), a_i (x6), a_i (x7), v8] [] (k, u, g, t) else some (.inl (some (a_i (0))), (k, u, g, t)) else none else some (.inl (some (a_i (0))), (k, u, g, t)) := by
  refine (X_iload (m := 350) (pc := 2590) (n := 6) (by decide +kernel) rfl).trans ?_
  refine (X_ic_eq (m := 350) (pc := 2592) (off := 5) (tg := 2597) (by decide +kernel) (by decide +kernel)).trans ?_
  refine ite_congr rfl (fun _ => ?_) (fun _ => ?_)
  · refine (X_iload (m := 350) (pc := 2597) (n := 6) (by decide +kernel) rfl).trans ?_
    refine (X_if_ne (m := 350) (pc := 2599) (off := 15) (tg := 2614) (by decide +kernel) (by decide +kernel)).trans ?_
    refine ite_congr rfl (fun _ => ?_) (fun _ => ?_)
    · refine (X_goto (m := 350) (pc := 2614) (off := 866) (tg := 3480) (by decide +kernel) (by decide +kernel)).trans ?_
      refine (X_iinc (m := 350) (pc := 3480) (n := 5) (c := 7) (by decide +kernel) rfl rfl (Nat.le_of_ble_eq_true rfl) rfl).trans ?_
      refine (X_goto (m := 350) (pc := 3483) (off := -3455) (tg := 28) (by decide +kernel) (by decide +kernel)).trans ?_
      rfl
    · refine (X_aload_n (m := 350) (pc := 2602) (n := 3) (by decide +kernel) rfl).trans ?_
      refine (X_iconst (m := 350) (pc := 2603) (n := 0) (by decide +kernel) ).trans ?_
      refine (X_laload (m := 350) (pc := 2604)  (by decide +kernel) ).trans ?_
      refine ite_congr rfl (fun _ => ?_) (fun _ => rfl)
      refine (X_iload (m := 350) (pc := 2605) (n := 7) (by decide +kernel) rfl).trans ?_
      refine (X_i2l (m := 350) (pc := 2607)  (by decide +kernel) ).trans ?_
      refine (X_lcmp (m := 350) (pc := 2608)  (by decide +kernel) ).trans ?_
      refine (X_if_eq (m := 350) (pc := 2609) (off := 5) (tg := 2614) (by decide +kernel) (by decide +kernel)).trans ?_
      refine ite_congr rfl (fun _ => ?_) (fun _ => ?_)
      · refine (X_goto (m := 350) (pc := 2614) (off := 866) (tg := 3480) (by decide +kernel) (by decide +kernel)).trans ?_
        refine (X_iinc (m := 350) (pc := 3480) (n := 5) (c := 7) (by decide +kernel) rfl rfl (Nat.le_of_ble_eq_true rfl) rfl).trans ?_
        refine (X_goto (m := 350) (pc := 3483) (off := -3455) (tg := 28) (by decide +kernel) (by decide +kernel)).trans ?_
        rfl
      · refine (X_iconst (m := 350) (pc := 2612) (n := 0) (by decide +kernel) ).trans ?_
        exact X_ireturn (m := 350) (pc := 2613) (f := 2) (by decide +kernel) (by decide +kernel) rfl
  · refine (X_iconst (m := 350) (pc := 2595) (n := 0) (by decide +kernel) ).trans ?_
    exact X_ireturn (m := 350) (pc := 2596) (f := 2) (by decide +kernel) (by decide +kernel) rfl
theorem B_L_law_2708 {k : Nat → Nat × Nat} {u : Nat → Nat → Int} {g : Nat → Nat → Nat} {t : Nat × Nat × Nat} {r0 : Nat} {r1 : Nat} {r2 : Nat} {r3 : Nat} {r4 : Nat} {x5 : Int} {x6 : Int} {x7 : Int} {v8 : AV} {y0 : Int} : a_X 350 2708 [a_r (r0), a_r (r1), a_r (r2), a_r (r3), a_r (r4), a_i (x5), a_i (x6), a_i (x7), v8] [a_i (y0)] (k, u, g, t) = if (y0 : Int) = (x6 : Int) then if (x6 : Int) ≠ 0 then a_X 350 28 [a_r (r0), a_r (r1), a_r (r2), a_r (r3), a_r (r4), a_i (wr (x5 + 7)), a_i (x6), a_i (x7), v8] [] (k, u, g, t) else if (k r3).1 = 22 ∧ 0 ≤ (0 : Int) ∧ (0 : Int) < ((k r3).2 : Int) then if (if (u r3 (0 : Int).toNat) < (x7) then -1 else if (u r3 (0 : Int).toNat) = (x7) then 0 else 1 : Int) = 0 then a_X 350 28 [a_r (r0), a_r (r1), a_r (r2), a_r (r3), a_r (r4), a_i (wr (x5 + 7)), a_i (x6), a_i (x7), v8] [] (k, u, g, t) else some (.inl (some (a_i (0))), (k, u, g, t)) else none else some (.inl (some (a_i (0))), (k, u, g, t)) := by
  refine (X_iload (m := 350) (pc := 2708) (n := 6) (by decide +kernel) rfl).trans ?_
  refine (X_ic_eq (m := 350) (pc := 2710) (off := 5) (tg := 2715) (by decide +kernel) (by decide +kernel)).trans ?_
  refine ite_congr rfl (fun _ => ?_) (fun _ => ?_)
  · refine (X_iload (m := 350) (pc := 2715) (n := 6) (by decide +kernel) rfl).trans ?_
    refine (X_if_ne (m := 350) (pc := 2717) (off := 15) (tg := 2732) (by decide +kernel) (by decide +kernel)).trans ?_
    refine ite_congr rfl (fun _ => ?_) (fun _ => ?_)
    · refine (X_goto (m := 350) (pc := 2732) (off := 748) (tg := 3480) (by decide +kernel) (by decide +kernel)).trans ?_
      refine (X_iinc (m := 350) (pc := 3480) (n := 5) (c := 7) (by decide +kernel) rfl rfl (Nat.le_of_ble_eq_true rfl) rfl).trans ?_
      refine (X_goto (m := 350) (pc := 3483) (off := -3455) (tg := 28) (by decide +kernel) (by decide +kernel)).trans ?_
      rfl
    · refine (X_aload_n (m := 350) (pc := 2720) (n := 3) (by decide +kernel) rfl).trans ?_
      refine (X_iconst (m := 350) (pc := 2721) (n := 0) (by decide +kernel) ).trans ?_
      refine (X_laload (m := 350) (pc := 2722)  (by decide +kernel) ).trans ?_
      refine ite_congr rfl (fun _ => ?_) (fun _ => rfl)
      refine (X_iload (m := 350) (pc := 2723) (n := 7) (by decide +kernel) rfl).trans ?_
      refine (X_i2l (m := 350) (pc := 2725)  (by decide +kernel) ).trans ?_
      refine (X_lcmp (m := 350) (pc := 2726)  (by decide +kernel) ).trans ?_
      refine (X_if_eq (m := 350) (pc := 2727) (off := 5) (tg := 2732) (by decide +kernel) (by decide +kernel)).trans ?_
      refine ite_congr rfl (fun _ => ?_) (fun _ => ?_)
      · refine (X_goto (m := 350) (pc := 2732) (off := 748) (tg := 3480) (by decide +kernel) (by decide +kernel)).trans ?_
        refine (X_iinc (m := 350) (pc := 3480) (n := 5) (c := 7) (by decide +kernel) rfl rfl (Nat.le_of_ble_eq_true rfl) rfl).trans ?_
        refine (X_goto (m := 350) (pc := 3483) (off := -3455) (tg := 28) (by decide +kernel) (by decide +kernel)).trans ?_
        rfl
      · refine (X_iconst (m := 350) (pc := 2730) (n := 0) (by decide +kernel) ).trans ?_
        exact X_ireturn (m := 350) (pc := 2731) (f := 2) (by decide +kernel) (by decide +kernel) rfl
  · refine (X_iconst (m := 350) (pc := 2713) (n := 0) (by decide +kernel) ).trans ?_
    exact X_ireturn (m := 350) (pc := 2714) (f := 2) (by decide +kernel) (by decide +kernel) rfl
theorem B_L_law_2776 {k : Nat → Nat × Nat} {u : Nat → Nat → Int} {g : Nat → Nat → Nat} {t : Nat × Nat × Nat} {r0 : Nat} {r1 : Nat} {r2 : Nat} {r3 : Nat} {r4 : Nat} {x5 : Int} {x6 : Int} {x7 : Int} {v8 : AV} {y0 : Int} : a_X 350 2776 [a_r (r0), a_r (r1), a_r (r2), a_r (r3), a_r (r4), a_i (x5), a_i (x6), a_i (x7), v8] [a_i (y0)] (k, u, g, t) = if (y0 : Int) = (x6 : Int) then if (x6 : Int) ≠ 0 then a_X 350 28 [a_r (r0), a_r (r1), a_r (r2), a_r (r3), a_r (r4), a_i (wr (x5 + 7)), a_i (x6), a_i (x7), v8] [] (k, u, g, t) else if (k r3).1 = 22 ∧ 0 ≤ (0 : Int) ∧ (0 : Int) < ((k r3).2 : Int) then if (if (u r3 (0 : Int).toNat) < (x7) then -1 else if (u r3 (0 : Int).toNat) = (x7) then 0 else 1 : Int) = 0 then a_X 350 28 [a_r (r0), a_r (r1), a_r (r2), a_r (r3), a_r (r4), a_i (wr (x5 + 7)), a_i (x6), a_i (x7), v8] [] (k, u, g, t) else some (.inl (some (a_i (0))), (k, u, g, t)) else none else some (.inl (some (a_i (0))), (k, u, g, t)) := by
  refine (X_iload (m := 350) (pc := 2776) (n := 6) (by decide +kernel) rfl).trans ?_
  refine (X_ic_eq (m := 350) (pc := 2778) (off := 5) (tg := 2783) (by decide +kernel) (by decide +kernel)).trans ?_
  refine ite_congr rfl (fun _ => ?_) (fun _ => ?_)
  · refine (X_iload (m := 350) (pc := 2783) (n := 6) (by decide +kernel) rfl).trans ?_
    refine (X_if_ne (m := 350) (pc := 2785) (off := 15) (tg := 2800) (by decide +kernel) (by decide +kernel)).trans ?_
    refine ite_congr rfl (fun _ => ?_) (fun _ => ?_)
    · refine (X_goto (m := 350) (pc := 2800) (off := 680) (tg := 3480) (by decide +kernel) (by decide +kernel)).trans ?_
      refine (X_iinc (m := 350) (pc := 3480) (n := 5) (c := 7) (by decide +kernel) rfl rfl (Nat.le_of_ble_eq_true rfl) rfl).trans ?_
      refine (X_goto (m := 350) (pc := 3483) (off := -3455) (tg := 28) (by decide +kernel) (by decide +kernel)).trans ?_
      rfl
    · refine (X_aload_n (m := 350) (pc := 2788) (n := 3) (by decide +kernel) rfl).trans ?_
      refine (X_iconst (m := 350) (pc := 2789) (n := 0) (by decide +kernel) ).trans ?_
      refine (X_laload (m := 350) (pc := 2790)  (by decide +kernel) ).trans ?_
      refine ite_congr rfl (fun _ => ?_) (fun _ => rfl)
      refine (X_iload (m := 350) (pc := 2791) (n := 7) (by decide +kernel) rfl).trans ?_
      refine (X_i2l (m := 350) (pc := 2793)  (by decide +kernel) ).trans ?_
      refine (X_lcmp (m := 350) (pc := 2794)  (by decide +kernel) ).trans ?_
      refine (X_if_eq (m := 350) (pc := 2795) (off := 5) (tg := 2800) (by decide +kernel) (by decide +kernel)).trans ?_
      refine ite_congr rfl (fun _ => ?_) (fun _ => ?_)
      · refine (X_goto (m := 350) (pc := 2800) (off := 680) (tg := 3480) (by decide +kernel) (by decide +kernel)).trans ?_
        refine (X_iinc (m := 350) (pc := 3480) (n := 5) (c := 7) (by decide +kernel) rfl rfl (Nat.le_of_ble_eq_true rfl) rfl).trans ?_
        refine (X_goto (m := 350) (pc := 3483) (off := -3455) (tg := 28) (by decide +kernel) (by decide +kernel)).trans ?_
        rfl
      · refine (X_iconst (m := 350) (pc := 2798) (n := 0) (by decide +kernel) ).trans ?_
        exact X_ireturn (m := 350) (pc := 2799) (f := 2) (by decide +kernel) (by decide +kernel) rfl
  · refine (X_iconst (m := 350) (pc := 2781) (n := 0) (by decide +kernel) ).trans ?_
    exact X_ireturn (m := 350) (pc := 2782) (f := 2) (by decide +kernel) (by decide +kernel) rfl
theorem B_L_law_2844 {k : Nat → Nat × Nat} {u : Nat → Nat → Int} {g : Nat → Nat → Nat} {t : Nat × Nat × Nat} {r0 : Nat} {r1 : Nat} {r2 : Nat} {r3 : Nat} {r4 : Nat} {x5 : Int} {x6 : Int} {x7 : Int} {v8 : AV} {y0 : Int} : a_X 350 2844 [a_r (r0), a_r (r1), a_r (r2), a_r (r3), a_r (r4), a_i (x5), a_i (x6), a_i (x7), v8] [a_i (y0)] (k, u, g, t) = if (y0 : Int) = (x6 : Int) then if (x6 : Int) ≠ 0 then a_X 350 28 [a_r (r0), a_r (r1), a_r (r2), a_r (r3), a_r (r4), a_i (wr (x5 + 7)), a_i (x6), a_i (x7), v8] [] (k, u, g, t) else if (k r3).1 = 22 ∧ 0 ≤ (0 : Int) ∧ (0 : Int) < ((k r3).2 : Int) then if (if (u r3 (0 : Int).toNat) < (x7) then -1 else if (u r3 (0 : Int).toNat) = (x7) then 0 else 1 : Int) = 0 then a_X 350 28 [a_r (r0), a_r (r1), a_r (r2), a_r (r3), a_r (r4), a_i (wr (x5 + 7)), a_i (x6), a_i (x7), v8] [] (k, u, g, t) else some (.inl (some (a_i (0))), (k, u, g, t)) else none else some (.inl (some (a_i (0))), (k, u, g, t)) := by
  refine (X_iload (m := 350) (pc := 2844) (n := 6) (by decide +kernel) rfl).trans ?_
  refine (X_ic_eq (m := 350) (pc := 2846) (off := 5) (tg := 2851) (by decide +kernel) (by decide +kernel)).trans ?_
  refine ite_congr rfl (fun _ => ?_) (fun _ => ?_)
  · refine (X_iload (m := 350) (pc := 2851) (n := 6) (by decide +kernel) rfl).trans ?_
    refine (X_if_ne (m := 350) (pc := 2853) (off := 15) (tg := 2868) (by decide +kernel) (by decide +kernel)).trans ?_
    refine ite_congr rfl (fun _ => ?_) (fun _ => ?_)
    · refine (X_goto (m := 350) (pc := 2868) (off := 612) (tg := 3480) (by decide +kernel) (by decide +kernel)).trans ?_
      refine (X_iinc (m := 350) (pc := 3480) (n := 5) (c := 7) (by decide +kernel) rfl rfl (Nat.le_of_ble_eq_true rfl) rfl).trans ?_
      refine (X_goto (m := 350) (pc := 3483) (off := -3455) (tg := 28) (by decide +kernel) (by decide +kernel)).trans ?_
      rfl
    · refine (X_aload_n (m := 350) (pc := 2856) (n := 3) (by decide +kernel) rfl).trans ?_
      refine (X_iconst (m := 350) (pc := 2857) (n := 0) (by decide +kernel) ).trans ?_
      refine (X_laload (m := 350) (pc := 2858)  (by decide +kernel) ).trans ?_
      refine ite_congr rfl (fun _ => ?_) (fun _ => rfl)
      refine (X_iload (m := 350) (pc := 2859) (n := 7) (by decide +kernel) rfl).trans ?_
      refine (X_i2l (m := 350) (pc := 2861)  (by decide +kernel) ).trans ?_
      refine (X_lcmp (m := 350) (pc := 2862)  (by decide +kernel) ).trans ?_
      refine (X_if_eq (m := 350) (pc := 2863) (off := 5) (tg := 2868) (by decide +kernel) (by decide +kernel)).trans ?_
      refine ite_congr rfl (fun _ => ?_) (fun _ => ?_)
      · refine (X_goto (m := 350) (pc := 2868) (off := 612) (tg := 3480) (by decide +kernel) (by decide +kernel)).trans ?_
        refine (X_iinc (m := 350) (pc := 3480) (n := 5) (c := 7) (by decide +kernel) rfl rfl (Nat.le_of_ble_eq_true rfl) rfl).trans ?_
        refine (X_goto (m := 350) (pc := 3483) (off := -3455) (tg := 28) (by decide +kernel) (by decide +kernel)).trans ?_
        rfl
      · refine (X_iconst (m := 350) (pc := 2866) (n := 0) (by decide +kernel) ).trans ?_
        exact X_ireturn (m := 350) (pc := 2867) (f := 2) (by decide +kernel) (by decide +kernel) rfl
  · refine (X_iconst (m := 350) (pc := 2849) (n := 0) (by decide +kernel) ).trans ?_
    exact X_ireturn (m := 350) (pc := 2850) (f := 2) (by decide +kernel) (by decide +kernel) rfl
theorem B_L_law_2900 {k : Nat → Nat × Nat} {u : Nat → Nat → Int} {g : Nat → Nat → Nat} {t : Nat × Nat × Nat} {r0 : Nat} {r1 : Nat} {r2 : Nat} {r3 : Nat} {r4 : Nat} {x5 : Int} {x6 : Int} {x7 : Int} {v8 : AV} {y0 : Int} : a_X 350 2900 [a_r (r0), a_r (r1), a_r (r2), a_r (r3), a_r (r4), a_i (x5), a_i (x6), a_i (x7), v8] [a_i (y0)] (k, u, g, t) = if (y0 : Int) = (x6 : Int) then if (x6 : Int) ≠ 0 then a_X 350 28 [a_r (r0), a_r (r1), a_r (r2), a_r (r3), a_r (r4), a_i (wr (x5 + 7)), a_i (x6), a_i (x7), v8] [] (k, u, g, t) else if (k r3).1 = 22 ∧ 0 ≤ (0 : Int) ∧ (0 : Int) < ((k r3).2 : Int) then if (if (u r3 (0 : Int).toNat) < (x7) then -1 else if (u r3 (0 : Int).toNat) = (x7) then 0 else 1 : Int) = 0 then a_X 350 28 [a_r (r0), a_r (r1), a_r (r2), a_r (r3), a_r (r4), a_i (wr (x5 + 7)), a_i (x6), a_i (x7), v8] [] (k, u, g, t) else some (.inl (some (a_i (0))), (k, u, g, t)) else none else some (.inl (some (a_i (0))), (k, u, g, t)) := by
  refine (X_iload (m := 350) (pc := 2900) (n := 6) (by decide +kernel) rfl).trans ?_
  refine (X_ic_eq (m := 350) (pc := 2902) (off := 5) (tg := 2907) (by decide +kernel) (by decide +kernel)).trans ?_
  refine ite_congr rfl (fun _ => ?_) (fun _ => ?_)
  · refine (X_iload (m := 350) (pc := 2907) (n := 6) (by decide +kernel) rfl).trans ?_
    refine (X_if_ne (m := 350) (pc := 2909) (off := 15) (tg := 2924) (by decide +kernel) (by decide +kernel)).trans ?_
    refine ite_congr rfl (fun _ => ?_) (fun _ => ?_)
    · refine (X_goto (m := 350) (pc := 2924) (off := 556) (tg := 3480) (by decide +kernel) (by decide +kernel)).trans ?_
      refine (X_iinc (m := 350) (pc := 3480) (n := 5) (c := 7) (by decide +kernel) rfl rfl (Nat.le_of_ble_eq_true rfl) rfl).trans ?_
      refine (X_goto (m := 350) (pc := 3483) (off := -3455) (tg := 28) (by decide +kernel) (by decide +kernel)).trans ?_
      rfl
    · refine (X_aload_n (m := 350) (pc := 2912) (n := 3) (by decide +kernel) rfl).trans ?_
      refine (X_iconst (m := 350) (pc := 2913) (n := 0) (by decide +kernel) ).trans ?_
      refine (X_laload (m := 350) (pc := 2914)  (by decide +kernel) ).trans ?_
      refine ite_congr rfl (fun _ => ?_) (fun _ => rfl)
      refine (X_iload (m := 350) (pc := 2915) (n := 7) (by decide +kernel) rfl).trans ?_
      refine (X_i2l (m := 350) (pc := 2917)  (by decide +kernel) ).trans ?_
      refine (X_lcmp (m := 350) (pc := 2918)  (by decide +kernel) ).trans ?_
      refine (X_if_eq (m := 350) (pc := 2919) (off := 5) (tg := 2924) (by decide +kernel) (by decide +kernel)).trans ?_
      refine ite_congr rfl (fun _ => ?_) (fun _ => ?_)
      · refine (X_goto (m := 350) (pc := 2924) (off := 556) (tg := 3480) (by decide +kernel) (by decide +kernel)).trans ?_
        refine (X_iinc (m := 350) (pc := 3480) (n := 5) (c := 7) (by decide +kernel) rfl rfl (Nat.le_of_ble_eq_true rfl) rfl).trans ?_
        refine (X_goto (m := 350) (pc := 3483) (off := -3455) (tg := 28) (by decide +kernel) (by decide +kernel)).trans ?_
        rfl
      · refine (X_iconst (m := 350) (pc := 2922) (n := 0) (by decide +kernel) ).trans ?_
        exact X_ireturn (m := 350) (pc := 2923) (f := 2) (by decide +kernel) (by decide +kernel) rfl
  · refine (X_iconst (m := 350) (pc := 2905) (n := 0) (by decide +kernel) ).trans ?_
    exact X_ireturn (m := 350) (pc := 2906) (f := 2) (by decide +kernel) (by decide +kernel) rfl
theorem B_L_law_2956 {k : Nat → Nat × Nat} {u : Nat → Nat → Int} {g : Nat → Nat → Nat} {t : Nat × Nat × Nat} {r0 : Nat} {r1 : Nat} {r2 : Nat} {r3 : Nat} {r4 : Nat} {x5 : Int} {x6 : Int} {x7 : Int} {v8 : AV} {y0 : Int} : a_X 350 2956 [a_r (r0), a_r (r1), a_r (r2), a_r (r3), a_r (r4), a_i (x5), a_i (x6), a_i (x7), v8] [a_i (y0)] (k, u, g, t) = if (y0 : Int) = (x6 : Int) then if (x6 : Int) ≠ 0 then a_X 350 28 [a_r (r0), a_r (r1), a_r (r2), a_r (r3), a_r (r4), a_i (wr (x5 + 7)), a_i (x6), a_i (x7), v8] [] (k, u, g, t) else if (k r3).1 = 22 ∧ 0 ≤ (0 : Int) ∧ (0 : Int) < ((k r3).2 : Int) then if (if (u r3 (0 : Int).toNat) < (x7) then -1 else if (u r3 (0 : Int).toNat) = (x7) then 0 else 1 : Int) = 0 then a_X 350 28 [a_r (r0), a_r (r1), a_r (r2), a_r (r3), a_r (r4), a_i (wr (x5 + 7)), a_i (x6), a_i (x7), v8] [] (k, u, g, t) else some (.inl (some (a_i (0))), (k, u, g, t)) else none else some (.inl (some (a_i (0))), (k, u, g, t)) := by
  refine (X_iload (m := 350) (pc := 2956) (n := 6) (by decide +kernel) rfl).trans ?_
  refine (X_ic_eq (m := 350) (pc := 2958) (off := 5) (tg := 2963) (by decide +kernel) (by decide +kernel)).trans ?_
  refine ite_congr rfl (fun _ => ?_) (fun _ => ?_)
  · refine (X_iload (m := 350) (pc := 2963) (n := 6) (by decide +kernel) rfl).trans ?_
    refine (X_if_ne (m := 350) (pc := 2965) (off := 15) (tg := 2980) (by decide +kernel) (by decide +kernel)).trans ?_
    refine ite_congr rfl (fun _ => ?_) (fun _ => ?_)
    · refine (X_goto (m := 350) (pc := 2980) (off := 500) (tg := 3480) (by decide +kernel) (by decide +kernel)).trans ?_
      refine (X_iinc (m := 350) (pc := 3480) (n := 5) (c := 7) (by decide +kernel) rfl rfl (Nat.le_of_ble_eq_true rfl) rfl).trans ?_
      refine (X_goto (m := 350) (pc := 3483) (off := -3455) (tg := 28) (by decide +kernel) (by decide +kernel)).trans ?_
      rfl
    · refine (X_aload_n (m := 350) (pc := 2968) (n := 3) (by decide +kernel) rfl).trans ?_
      refine (X_iconst (m := 350) (pc := 2969) (n := 0) (by decide +kernel) ).trans ?_
      refine (X_laload (m := 350) (pc := 2970)  (by decide +kernel) ).trans ?_
      refine ite_congr rfl (fun _ => ?_) (fun _ => rfl)
      refine (X_iload (m := 350) (pc := 2971) (n := 7) (by decide +kernel) rfl).trans ?_
      refine (X_i2l (m := 350) (pc := 2973)  (by decide +kernel) ).trans ?_
      refine (X_lcmp (m := 350) (pc := 2974)  (by decide +kernel) ).trans ?_
      refine (X_if_eq (m := 350) (pc := 2975) (off := 5) (tg := 2980) (by decide +kernel) (by decide +kernel)).trans ?_
      refine ite_congr rfl (fun _ => ?_) (fun _ => ?_)
      · refine (X_goto (m := 350) (pc := 2980) (off := 500) (tg := 3480) (by decide +kernel) (by decide +kernel)).trans ?_
        refine (X_iinc (m := 350) (pc := 3480) (n := 5) (c := 7) (by decide +kernel) rfl rfl (Nat.le_of_ble_eq_true rfl) rfl).trans ?_
        refine (X_goto (m := 350) (pc := 3483) (off := -3455) (tg := 28) (by decide +kernel) (by decide +kernel)).trans ?_
        rfl
      · refine (X_iconst (m := 350) (pc := 2978) (n := 0) (by decide +kernel) ).trans ?_
        exact X_ireturn (m := 350) (pc := 2979) (f := 2) (by decide +kernel) (by decide +kernel) rfl
  · refine (X_iconst (m := 350) (pc := 2961) (n := 0) (by decide +kernel) ).trans ?_
    exact X_ireturn (m := 350) (pc := 2962) (f := 2) (by decide +kernel) (by decide +kernel) rfl
theorem B_L_law_3036 {k : Nat → Nat × Nat} {u : Nat → Nat → Int} {g : Nat → Nat → Nat} {t : Nat × Nat × Nat} {r0 : Nat} {r1 : Nat} {r2 : Nat} {r3 : Nat} {r4 : Nat} {x5 : Int} {x6 : Int} {x7 : Int} {v8 : AV} {y0 : Int} : a_X 350 3036 [a_r (r0), a_r (r1), a_r (r2), a_r (r3), a_r (r4), a_i (x5), a_i (x6), a_i (x7), v8] [a_i (y0)] (k, u, g, t) = if (y0 : Int) = (x6 : Int) then if (x6 : Int) ≠ 0 then a_X 350 28 [a_r (r0), a_r (r1), a_r (r2), a_r (r3), a_r (r4), a_i (wr (x5 + 7)), a_i (x6), a_i (x7), v8] [] (k, u, g, t) else if (k r3).1 = 22 ∧ 0 ≤ (0 : Int) ∧ (0 : Int) < ((k r3).2 : Int) then if (if (u r3 (0 : Int).toNat) < (x7) then -1 else if (u r3 (0 : Int).toNat) = (x7) then 0 else 1 : Int) = 0 then a_X 350 28 [a_r (r0), a_r (r1), a_r (r2), a_r (r3), a_r (r4), a_i (wr (x5 + 7)), a_i (x6), a_i (x7), v8] [] (k, u, g, t) else some (.inl (some (a_i (0))), (k, u, g, t)) else none else some (.inl (some (a_i (0))), (k, u, g, t)) := by
  refine (X_iload (m := 350) (pc := 3036) (n := 6) (by decide +kernel) rfl).trans ?_
  refine (X_ic_eq (m := 350) (pc := 3038) (off := 5) (tg := 3043) (by decide +kernel) (by decide +kernel)).trans ?_
  refine ite_congr rfl (fun _ => ?_) (fun _ => ?_)
  · refine (X_iload (m := 350) (pc := 3043) (n := 6) (by decide +kernel) rfl).trans ?_
    refine (X_if_ne (m := 350) (pc := 3045) (off := 15) (tg := 3060) (by decide +kernel) (by decide +kernel)).trans ?_
    refine ite_congr rfl (fun _ => ?_) (fun _ => ?_)
    · refine (X_goto (m := 350) (pc := 3060) (off := 420) (tg := 3480) (by decide +kernel) (by decide +kernel)).trans ?_
      refine (X_iinc (m := 350) (pc := 3480) (n := 5) (c := 7) (by decide +kernel) rfl rfl (Nat.le_of_ble_eq_true rfl) rfl).trans ?_
      refine (X_goto (m := 350) (pc := 3483) (off := -3455) (tg := 28) (by decide +kernel) (by decide +kernel)).trans ?_
      rfl
    · refine (X_aload_n (m := 350) (pc := 3048) (n := 3) (by decide +kernel) rfl).trans ?_
      refine (X_iconst (m := 350) (pc := 3049) (n := 0) (by decide +kernel) ).trans ?_
      refine (X_laload (m := 350) (pc := 3050)  (by decide +kernel) ).trans ?_
      refine ite_congr rfl (fun _ => ?_) (fun _ => rfl)
      refine (X_iload (m := 350) (pc := 3051) (n := 7) (by decide +kernel) rfl).trans ?_
      refine (X_i2l (m := 350) (pc := 3053)  (by decide +kernel) ).trans ?_
      refine (X_lcmp (m := 350) (pc := 3054)  (by decide +kernel) ).trans ?_
      refine (X_if_eq (m := 350) (pc := 3055) (off := 5) (tg := 3060) (by decide +kernel) (by decide +kernel)).trans ?_
      refine ite_congr rfl (fun _ => ?_) (fun _ => ?_)
      · refine (X_goto (m := 350) (pc := 3060) (off := 420) (tg := 3480) (by decide +kernel) (by decide +kernel)).trans ?_
        refine (X_iinc (m := 350) (pc := 3480) (n := 5) (c := 7) (by decide +kernel) rfl rfl (Nat.le_of_ble_eq_true rfl) rfl).trans ?_
        refine (X_goto (m := 350) (pc := 3483) (off := -3455) (tg := 28) (by decide +kernel) (by decide +kernel)).trans ?_
        rfl
      · refine (X_iconst (m := 350) (pc := 3058) (n := 0) (by decide +kernel) ).trans ?_
        exact X_ireturn (m := 350) (pc := 3059) (f := 2) (by decide +kernel) (by decide +kernel) rfl
  · refine (X_iconst (m := 350) (pc := 3041) (n := 0) (by decide +kernel) ).trans ?_
    exact X_ireturn (m := 350) (pc := 3042) (f := 2) (by decide +kernel) (by decide +kernel) rfl
theorem B_L_law_3104 {k : Nat → Nat × Nat} {u : Nat → Nat → Int} {g : Nat → Nat → Nat} {t : Nat × Nat × Nat} {r0 : Nat} {r1 : Nat} {r2 : Nat} {r3 : Nat} {r4 : Nat} {x5 : Int} {x6 : Int} {x7 : Int} {v8 : AV} {y0 : Int} : a_X 350 3104 [a_r (r0), a_r (r1), a_r (r2), a_r (r3), a_r (r4), a_i (x5), a_i (x6), a_i (x7), v8] [a_i (y0)] (k, u, g, t) = if (y0 : Int) = (x6 : Int) then if (x6 : Int) ≠ 0 then a_X 350 28 [a_r (r0), a_r (r1), a_r (r2), a_r (r3), a_r (r4), a_i (wr (x5 + 7)), a_i (x6), a_i (x7), v8] [] (k, u, g, t) else if (k r3).1 = 22 ∧ 0 ≤ (0 : Int) ∧ (0 : Int) < ((k r3).2 : Int) then if (if (u r3 (0 : Int).toNat) < (x7) then -1 else if (u r3 (0 : Int).toNat) = (x7) then 0 else 1 : Int) = 0 then a_X 350 28 [a_r (r0), a_r (r1), a_r (r2), a_r (r3), a_r (r4), a_i (wr (x5 + 7)), a_i (x6), a_i (x7), v8] [] (k, u, g, t) else some (.inl (some (a_i (0))), (k, u, g, t)) else none else some (.inl (some (a_i (0))), (k, u, g, t)) := by
  refine (X_iload (m := 350) (pc := 3104) (n := 6) (by decide +kernel) rfl).trans ?_
  refine (X_ic_eq (m := 350) (pc := 3106) (off := 5) (tg := 3111) (by decide +kernel) (by decide +kernel)).trans ?_
  refine ite_congr rfl (fun _ => ?_) (fun _ => ?_)
  · refine (X_iload (m := 350) (pc := 3111) (n := 6) (by decide +kernel) rfl).trans ?_
    refine (X_if_ne (m := 350) (pc := 3113) (off := 15) (tg := 3128) (by decide +kernel) (by decide +kernel)).trans ?_
    refine ite_congr rfl (fun _ => ?_) (fun _ => ?_)
    · refine (X_goto (m := 350) (pc := 3128) (off := 352) (tg := 3480) (by decide +kernel) (by decide +kernel)).trans ?_
      refine (X_iinc (m := 350) (pc := 3480) (n := 5) (c := 7) (by decide +kernel) rfl rfl (Nat.le_of_ble_eq_true rfl) rfl).trans ?_
      refine (X_goto (m := 350) (pc := 3483) (off := -3455) (tg := 28) (by decide +kernel) (by decide +kernel)).trans ?_
      rfl
    · refine (X_aload_n (m := 350) (pc := 3116) (n := 3) (by decide +kernel) rfl).trans ?_
      refine (X_iconst (m := 350) (pc := 3117) (n := 0) (by decide +kernel) ).trans ?_
      refine (X_laload (m := 350) (pc := 3118)  (by decide +kernel) ).trans ?_
      refine ite_congr rfl (fun _ => ?_) (fun _ => rfl)
      refine (X_iload (m := 350) (pc := 3119) (n := 7) (by decide +kernel) rfl).trans ?_
      refine (X_i2l (m := 350) (pc := 3121)  (by decide +kernel) ).trans ?_
      refine (X_lcmp (m := 350) (pc := 3122)  (by decide +kernel) ).trans ?_
      refine (X_if_eq (m := 350) (pc := 3123) (off := 5) (tg := 3128) (by decide +kernel) (by decide +kernel)).trans ?_
      refine ite_congr rfl (fun _ => ?_) (fun _ => ?_)
      · refine (X_goto (m := 350) (pc := 3128) (off := 352) (tg := 3480) (by decide +kernel) (by decide +kernel)).trans ?_
        refine (X_iinc (m := 350) (pc := 3480) (n := 5) (c := 7) (by decide +kernel) rfl rfl (Nat.le_of_ble_eq_true rfl) rfl).trans ?_
        refine (X_goto (m := 350) (pc := 3483) (off := -3455) (tg := 28) (by decide +kernel) (by decide +kernel)).trans ?_
        rfl
      · refine (X_iconst (m := 350) (pc := 3126) (n := 0) (by decide +kernel) ).trans ?_
        exact X_ireturn (m := 350) (pc := 3127) (f := 2) (by decide +kernel) (by decide +kernel) rfl
  · refine (X_iconst (m := 350) (pc := 3109) (n := 0) (by decide +kernel) ).trans ?_
    exact X_ireturn (m := 350) (pc := 3110) (f := 2) (by decide +kernel) (by decide +kernel) rfl
theorem B_L_law_3172 {k : Nat → Nat × Nat} {u : Nat → Nat → Int} {g : Nat → Nat → Nat} {t : Nat × Nat × Nat} {r0 : Nat} {r1 : Nat} {r2 : Nat} {r3 : Nat} {r4 : Nat} {x5 : Int} {x6 : Int} {x7 : Int} {v8 : AV} {y0 : Int} : a_X 350 3172 [a_r (r0), a_r (r1), a_r (r2), a_r (r3), a_r (r4), a_i (x5), a_i (x6), a_i (x7), v8] [a_i (y0)] (k, u, g, t) = if (y0 : Int) = (x6 : Int) then if (x6 : Int) ≠ 0 then a_X 350 28 [a_r (r0), a_r (r1), a_r (r2), a_r (r3), a_r (r4), a_i (wr (x5 + 7)), a_i (x6), a_i (x7), v8] [] (k, u, g, t) else if (k r3).1 = 22 ∧ 0 ≤ (0 : Int) ∧ (0 : Int) < ((k r3).2 : Int) then if (if (u r3 (0 : Int).toNat) < (x7) then -1 else if (u r3 (0 : Int).toNat) = (x7) then 0 else 1 : Int) = 0 then a_X 350 28 [a_r (r0), a_r (r1), a_r (r2), a_r (r3), a_r (r4), a_i (wr (x5 + 7)), a_i (x6), a_i (x7), v8] [] (k, u, g, t) else some (.inl (some (a_i (0))), (k, u, g, t)) else none else some (.inl (some (a_i (0))), (k, u, g, t)) := by
  refine (X_iload (m := 350) (pc := 3172) (n := 6) (by decide +kernel) rfl).trans ?_
  refine (X_ic_eq (m := 350) (pc := 3174) (off := 5) (tg := 3179) (by decide +kernel) (by decide +kernel)).trans ?_
  refine ite_congr rfl (fun _ => ?_) (fun _ => ?_)
  · refine (X_iload (m := 350) (pc := 3179) (n := 6) (by decide +kernel) rfl).trans ?_
    refine (X_if_ne (m := 350) (pc := 3181) (off := 15) (tg := 3196) (by decide +kernel) (by decide +kernel)).trans ?_
    refine ite_congr rfl (fun _ => ?_) (fun _ => ?_)
    · refine (X_goto (m := 350) (pc := 3196) (off := 284) (tg := 3480) (by decide +kernel) (by decide +kernel)).trans ?_
      refine (X_iinc (m := 350) (pc := 3480) (n := 5) (c := 7) (by decide +kernel) rfl rfl (Nat.le_of_ble_eq_true rfl) rfl).trans ?_
      refine (X_goto (m := 350) (pc := 3483) (off := -3455) (tg := 28) (by decide +kernel) (by decide +kernel)).trans ?_
      rfl
    · refine (X_aload_n (m := 350) (pc := 3184) (n := 3) (by decide +kernel) rfl).trans ?_
      refine (X_iconst (m := 350) (pc := 3185) (n := 0) (by decide +kernel) ).trans ?_
      refine (X_laload (m := 350) (pc := 3186)  (by decide +kernel) ).trans ?_
      refine ite_congr rfl (fun _ => ?_) (fun _ => rfl)
      refine (X_iload (m := 350) (pc := 3187) (n := 7) (by decide +kernel) rfl).trans ?_
      refine (X_i2l (m := 350) (pc := 3189)  (by decide +kernel) ).trans ?_
      refine (X_lcmp (m := 350) (pc := 3190)  (by decide +kernel) ).trans ?_
      refine (X_if_eq (m := 350) (pc := 3191) (off := 5) (tg := 3196) (by decide +kernel) (by decide +kernel)).trans ?_
      refine ite_congr rfl (fun _ => ?_) (fun _ => ?_)
      · refine (X_goto (m := 350) (pc := 3196) (off := 284) (tg := 3480) (by decide +kernel) (by decide +kernel)).trans ?_
        refine (X_iinc (m := 350) (pc := 3480) (n := 5) (c := 7) (by decide +kernel) rfl rfl (Nat.le_of_ble_eq_true rfl) rfl).trans ?_
        refine (X_goto (m := 350) (pc := 3483) (off := -3455) (tg := 28) (by decide +kernel) (by decide +kernel)).trans ?_
        rfl
      · refine (X_iconst (m := 350) (pc := 3194) (n := 0) (by decide +kernel) ).trans ?_
        exact X_ireturn (m := 350) (pc := 3195) (f := 2) (by decide +kernel) (by decide +kernel) rfl
  · refine (X_iconst (m := 350) (pc := 3177) (n := 0) (by decide +kernel) ).trans ?_
    exact X_ireturn (m := 350) (pc := 3178) (f := 2) (by decide +kernel) (by decide +kernel) rfl
theorem B_L_law_3228 {k : Nat → Nat × Nat} {u : Nat → Nat → Int} {g : Nat → Nat → Nat} {t : Nat × Nat × Nat} {r0 : Nat} {r1 : Nat} {r2 : Nat} {r3 : Nat} {r4 : Nat} {x5 : Int} {x6 : Int} {x7 : Int} {v8 : AV} {y0 : Int} : a_X 350 3228 [a_r (r0), a_r (r1), a_r (r2), a_r (r3), a_r (r4), a_i (x5), a_i (x6), a_i (x7), v8] [a_i (y0)] (k, u, g, t) = if (y0 : Int) = (x6 : Int) then if (x6 : Int) ≠ 0 then a_X 350 28 [a_r (r0), a_r (r1), a_r (r2), a_r (r3), a_r (r4), a_i (wr (x5 + 7)), a_i (x6), a_i (x7), v8] [] (k, u, g, t) else if (k r3).1 = 22 ∧ 0 ≤ (0 : Int) ∧ (0 : Int) < ((k r3).2 : Int) then if (if (u r3 (0 : Int).toNat) < (x7) then -1 else if (u r3 (0 : Int).toNat) = (x7) then 0 else 1 : Int) = 0 then a_X 350 28 [a_r (r0), a_r (r1), a_r (r2), a_r (r3), a_r (r4), a_i (wr (x5 + 7)), a_i (x6), a_i (x7), v8] [] (k, u, g, t) else some (.inl (some (a_i (0))), (k, u, g, t)) else none else some (.inl (some (a_i (0))), (k, u, g, t)) := by
  refine (X_iload (m := 350) (pc := 3228) (n := 6) (by decide +kernel) rfl).trans ?_
  refine (X_ic_eq (m := 350) (pc := 3230) (off := 5) (tg := 3235) (by decide +kernel) (by decide +kernel)).trans ?_
  refine ite_congr rfl (fun _ => ?_) (fun _ => ?_)
  · refine (X_iload (m := 350) (pc := 3235) (n := 6) (by decide +kernel) rfl).trans ?_
    refine (X_if_ne (m := 350) (pc := 3237) (off := 15) (tg := 3252) (by decide +kernel) (by decide +kernel)).trans ?_
    refine ite_congr rfl (fun _ => ?_) (fun _ => ?_)
    · refine (X_goto (m := 350) (pc := 3252) (off := 228) (tg := 3480) (by decide +kernel) (by decide +kernel)).trans ?_
      refine (X_iinc (m := 350) (pc := 3480) (n := 5) (c := 7) (by decide +kernel) rfl rfl (Nat.le_of_ble_eq_true rfl) rfl).trans ?_
      refine (X_goto (m := 350) (pc := 3483) (off := -3455) (tg := 28) (by decide +kernel) (by decide +kernel)).trans ?_
      rfl
    · refine (X_aload_n (m := 350) (pc := 3240) (n := 3) (by decide +kernel) rfl).trans ?_
      refine (X_iconst (m := 350) (pc := 3241) (n := 0) (by decide +kernel) ).trans ?_
      refine (X_laload (m := 350) (pc := 3242)  (by decide +kernel) ).trans ?_
      refine ite_congr rfl (fun _ => ?_) (fun _ => rfl)
      refine (X_iload (m := 350) (pc := 3243) (n := 7) (by decide +kernel) rfl).trans ?_
      refine (X_i2l (m := 350) (pc := 3245)  (by decide +kernel) ).trans ?_
      refine (X_lcmp (m := 350) (pc := 3246)  (by decide +kernel) ).trans ?_
      refine (X_if_eq (m := 350) (pc := 3247) (off := 5) (tg := 3252) (by decide +kernel) (by decide +kernel)).trans ?_
      refine ite_congr rfl (fun _ => ?_) (fun _ => ?_)
      · refine (X_goto (m := 350) (pc := 3252) (off := 228) (tg := 3480) (by decide +kernel) (by decide +kernel)).trans ?_
        refine (X_iinc (m := 350) (pc := 3480) (n := 5) (c := 7) (by decide +kernel) rfl rfl (Nat.le_of_ble_eq_true rfl) rfl).trans ?_
        refine (X_goto (m := 350) (pc := 3483) (off := -3455) (tg := 28) (by decide +kernel) (by decide +kernel)).trans ?_
        rfl
      · refine (X_iconst (m := 350) (pc := 3250) (n := 0) (by decide +kernel) ).trans ?_
        exact X_ireturn (m := 350) (pc := 3251) (f := 2) (by decide +kernel) (by decide +kernel) rfl
  · refine (X_iconst (m := 350) (pc := 3233) (n := 0) (by decide +kernel) ).trans ?_
    exact X_ireturn (m := 350) (pc := 3234) (f := 2) (by decide +kernel) (by decide +kernel) rfl
theorem B_L_law_3284 {k : Nat → Nat × Nat} {u : Nat → Nat → Int} {g : Nat → Nat → Nat} {t : Nat × Nat × Nat} {r0 : Nat} {r1 : Nat} {r2 : Nat} {r3 : Nat} {r4 : Nat} {x5 : Int} {x6 : Int} {x7 : Int} {v8 : AV} {y0 : Int} : a_X 350 3284 [a_r (r0), a_r (r1), a_r (r2), a_r (r3), a_r (r4), a_i (x5), a_i (x6), a_i (x7), v8] [a_i (y0)] (k, u, g, t) = if (y0 : Int) = (x6 : Int) then if (x6 : Int) ≠ 0 then a_X 350 28 [a_r (r0), a_r (r1), a_r (r2), a_r (r3), a_r (r4), a_i (wr (x5 + 7)), a_i (x6), a_i (x7), v8] [] (k, u, g, t) else if (k r3).1 = 22 ∧ 0 ≤ (0 : Int) ∧ (0 : Int) < ((k r3).2 : Int) then if (if (u r3 (0 : Int).toNat) < (x7) then -1 else if (u r3 (0 : Int).toNat) = (x7) then 0 else 1 : Int) = 0 then a_X 350 28 [a_r (r0), a_r (r1), a_r (r2), a_r (r3), a_r (r4), a_i (wr (x5 + 7)), a_i (x6), a_i (x7), v8] [] (k, u, g, t) else some (.inl (some (a_i (0))), (k, u, g, t)) else none else some (.inl (some (a_i (0))), (k, u, g, t)) := by
  refine (X_iload (m := 350) (pc := 3284) (n := 6) (by decide +kernel) rfl).trans ?_
  refine (X_ic_eq (m := 350) (pc := 3286) (off := 5) (tg := 3291) (by decide +kernel) (by decide +kernel)).trans ?_
  refine ite_congr rfl (fun _ => ?_) (fun _ => ?_)
  · refine (X_iload (m := 350) (pc := 3291) (n := 6) (by decide +kernel) rfl).trans ?_
    refine (X_if_ne (m := 350) (pc := 3293) (off := 15) (tg := 3308) (by decide +kernel) (by decide +kernel)).trans ?_
    refine ite_congr rfl (fun _ => ?_) (fun _ => ?_)
    · refine (X_goto (m := 350) (pc := 3308) (off := 172) (tg := 3480) (by decide +kernel) (by decide +kernel)).trans ?_
      refine (X_iinc (m := 350) (pc := 3480) (n := 5) (c := 7) (by decide +kernel) rfl rfl (Nat.le_of_ble_eq_true rfl) rfl).trans ?_
      refine (X_goto (m := 350) (pc := 3483) (off := -3455) (tg := 28) (by decide +kernel) (by decide +kernel)).trans ?_
      rfl
    · refine (X_aload_n (m := 350) (pc := 3296) (n := 3) (by decide +kernel) rfl).trans ?_
      refine (X_iconst (m := 350) (pc := 3297) (n := 0) (by decide +kernel) ).trans ?_
      refine (X_laload (m := 350) (pc := 3298)  (by decide +kernel) ).trans ?_
      refine ite_congr rfl (fun _ => ?_) (fun _ => rfl)
      refine (X_iload (m := 350) (pc := 3299) (n := 7) (by decide +kernel) rfl).trans ?_
      refine (X_i2l (m := 350) (pc := 3301)  (by decide +kernel) ).trans ?_
      refine (X_lcmp (m := 350) (pc := 3302)  (by decide +kernel) ).trans ?_
      refine (X_if_eq (m := 350) (pc := 3303) (off := 5) (tg := 3308) (by decide +kernel) (by decide +kernel)).trans ?_
      refine ite_congr rfl (fun _ => ?_) (fun _ => ?_)
      · refine (X_goto (m := 350) (pc := 3308) (off := 172) (tg := 3480) (by decide +kernel) (by decide +kernel)).trans ?_
        refine (X_iinc (m := 350) (pc := 3480) (n := 5) (c := 7) (by decide +kernel) rfl rfl (Nat.le_of_ble_eq_true rfl) rfl).trans ?_
        refine (X_goto (m := 350) (pc := 3483) (off := -3455) (tg := 28) (by decide +kernel) (by decide +kernel)).trans ?_
        rfl
      · refine (X_iconst (m := 350) (pc := 3306) (n := 0) (by decide +kernel) ).trans ?_
        exact X_ireturn (m := 350) (pc := 3307) (f := 2) (by decide +kernel) (by decide +kernel) rfl
  · refine (X_iconst (m := 350) (pc := 3289) (n := 0) (by decide +kernel) ).trans ?_
    exact X_ireturn (m := 350) (pc := 3290) (f := 2) (by decide +kernel) (by decide +kernel) rfl
theorem B_L_law_3328 {k : Nat → Nat × Nat} {u : Nat → Nat → Int} {g : Nat → Nat → Nat} {t : Nat × Nat × Nat} {r0 : Nat} {r1 : Nat} {r2 : Nat} {r3 : Nat} {r4 : Nat} {x5 : Int} {x6 : Int} {x7 : Int} {v8 : AV} {y0 : Int} : a_X 350 3328 [a_r (r0), a_r (r1), a_r (r2), a_r (r3), a_r (r4), a_i (x5), a_i (x6), a_i (x7), v8] [a_i (y0)] (k, u, g, t) = if (y0 : Int) = (x6 : Int) then if (x6 : Int) ≠ 0 then a_X 350 28 [a_r (r0), a_r (r1), a_r (r2), a_r (r3), a_r (r4), a_i (wr (x5 + 7)), a_i (x6), a_i (x7), v8] [] (k, u, g, t) else if (k r3).1 = 22 ∧ 0 ≤ (0 : Int) ∧ (0 : Int) < ((k r3).2 : Int) then if (if (u r3 (0 : Int).toNat) < (x7) then -1 else if (u r3 (0 : Int).toNat) = (x7) then 0 else 1 : Int) = 0 then a_X 350 28 [a_r (r0), a_r (r1), a_r (r2), a_r (r3), a_r (r4), a_i (wr (x5 + 7)), a_i (x6), a_i (x7), v8] [] (k, u, g, t) else some (.inl (some (a_i (0))), (k, u, g, t)) else none else some (.inl (some (a_i (0))), (k, u, g, t)) := by
  refine (X_iload (m := 350) (pc := 3328) (n := 6) (by decide +kernel) rfl).trans ?_
  refine (X_ic_eq (m := 350) (pc := 3330) (off := 5) (tg := 3335) (by decide +kernel) (by decide +kernel)).trans ?_
  refine ite_congr rfl (fun _ => ?_) (fun _ => ?_)
  · refine (X_iload (m := 350) (pc := 3335) (n := 6) (by decide +kernel) rfl).trans ?_
    refine (X_if_ne (m := 350) (pc := 3337) (off := 15) (tg := 3352) (by decide +kernel) (by decide +kernel)).trans ?_
    refine ite_congr rfl (fun _ => ?_) (fun _ => ?_)
    · refine (X_goto (m := 350) (pc := 3352) (off := 128) (tg := 3480) (by decide +kernel) (by decide +kernel)).trans ?_
      refine (X_iinc (m := 350) (pc := 3480) (n := 5) (c := 7) (by decide +kernel) rfl rfl (Nat.le_of_ble_eq_true rfl) rfl).trans ?_
      refine (X_goto (m := 350) (pc := 3483) (off := -3455) (tg := 28) (by decide +kernel) (by decide +kernel)).trans ?_
      rfl
    · refine (X_aload_n (m := 350) (pc := 3340) (n := 3) (by decide +kernel) rfl).trans ?_
      refine (X_iconst (m := 350) (pc := 3341) (n := 0) (by decide +kernel) ).trans ?_
      refine (X_laload (m := 350) (pc := 3342)  (by decide +kernel) ).trans ?_
      refine ite_congr rfl (fun _ => ?_) (fun _ => rfl)
      refine (X_iload (m := 350) (pc := 3343) (n := 7) (by decide +kernel) rfl).trans ?_
      refine (X_i2l (m := 350) (pc := 3345)  (by decide +kernel) ).trans ?_
      refine (X_lcmp (m := 350) (pc := 3346)  (by decide +kernel) ).trans ?_
      refine (X_if_eq (m := 350) (pc := 3347) (off := 5) (tg := 3352) (by decide +kernel) (by decide +kernel)).trans ?_
      refine ite_congr rfl (fun _ => ?_) (fun _ => ?_)
      · refine (X_goto (m := 350) (pc := 3352) (off := 128) (tg := 3480) (by decide +kernel) (by decide +kernel)).trans ?_
        refine (X_iinc (m := 350) (pc := 3480) (n := 5) (c := 7) (by decide +kernel) rfl rfl (Nat.le_of_ble_eq_true rfl) rfl).trans ?_
        refine (X_goto (m := 350) (pc := 3483) (off := -3455) (tg := 28) (by decide +kernel) (by decide +kernel)).trans ?_
        rfl
      · refine (X_iconst (m := 350) (pc := 3350) (n := 0) (by decide +kernel) ).trans ?_
        exact X_ireturn (m := 350) (pc := 3351) (f := 2) (by decide +kernel) (by decide +kernel) rfl
  · refine (X_iconst (m := 350) (pc := 3333) (n := 0) (by decide +kernel) ).trans ?_
    exact X_ireturn (m := 350) (pc := 3334) (f := 2) (by decide +kernel) (by decide +kernel) rfl
theorem B_L_law_3397 {k : Nat → Nat × Nat} {u : Nat → Nat → Int} {g : Nat → Nat → Nat} {t : Nat × Nat × Nat} {r0 : Nat} {r1 : Nat} {r2 : Nat} {r3 : Nat} {r4 : Nat} {x5 : Int} {x6 : Int} {x7 : Int} {v8 : AV} {y0 : Int} : a_X 350 3397 [a_r (r0), a_r (r1), a_r (r2), a_r (r3), a_r (r4), a_i (x5), a_i (x6), a_i (x7), v8] [a_i (y0)] (k, u, g, t) = if (y0 : Int) = (x6 : Int) then if (x6 : Int) ≠ 0 then a_X 350 28 [a_r (r0), a_r (r1), a_r (r2), a_r (r3), a_r (r4), a_i (wr (x5 + 7)), a_i (x6), a_i (x7), v8] [] (k, u, g, t) else if (k r3).1 = 22 ∧ 0 ≤ (0 : Int) ∧ (0 : Int) < ((k r3).2 : Int) then if (if (u r3 (0 : Int).toNat) < (x7) then -1 else if (u r3 (0 : Int).toNat) = (x7) then 0 else 1 : Int) = 0 then a_X 350 28 [a_r (r0), a_r (r1), a_r (r2), a_r (r3), a_r (r4), a_i (wr (x5 + 7)), a_i (x6), a_i (x7), v8] [] (k, u, g, t) else some (.inl (some (a_i (0))), (k, u, g, t)) else none else some (.inl (some (a_i (0))), (k, u, g, t)) := by
  refine (X_iload (m := 350) (pc := 3397) (n := 6) (by decide +kernel) rfl).trans ?_
  refine (X_ic_eq (m := 350) (pc := 3399) (off := 5) (tg := 3404) (by decide +kernel) (by decide +kernel)).trans ?_
  refine ite_congr rfl (fun _ => ?_) (fun _ => ?_)
  · refine (X_iload (m := 350) (pc := 3404) (n := 6) (by decide +kernel) rfl).trans ?_
    refine (X_if_ne (m := 350) (pc := 3406) (off := 15) (tg := 3421) (by decide +kernel) (by decide +kernel)).trans ?_
    refine ite_congr rfl (fun _ => ?_) (fun _ => ?_)
    · refine (X_goto (m := 350) (pc := 3421) (off := 59) (tg := 3480) (by decide +kernel) (by decide +kernel)).trans ?_
      refine (X_iinc (m := 350) (pc := 3480) (n := 5) (c := 7) (by decide +kernel) rfl rfl (Nat.le_of_ble_eq_true rfl) rfl).trans ?_
      refine (X_goto (m := 350) (pc := 3483) (off := -3455) (tg := 28) (by decide +kernel) (by decide +kernel)).trans ?_
      rfl
    · refine (X_aload_n (m := 350) (pc := 3409) (n := 3) (by decide +kernel) rfl).trans ?_
      refine (X_iconst (m := 350) (pc := 3410) (n := 0) (by decide +kernel) ).trans ?_
      refine (X_laload (m := 350) (pc := 3411)  (by decide +kernel) ).trans ?_
      refine ite_congr rfl (fun _ => ?_) (fun _ => rfl)
      refine (X_iload (m := 350) (pc := 3412) (n := 7) (by decide +kernel) rfl).trans ?_
      refine (X_i2l (m := 350) (pc := 3414)  (by decide +kernel) ).trans ?_
      refine (X_lcmp (m := 350) (pc := 3415)  (by decide +kernel) ).trans ?_
      refine (X_if_eq (m := 350) (pc := 3416) (off := 5) (tg := 3421) (by decide +kernel) (by decide +kernel)).trans ?_
      refine ite_congr rfl (fun _ => ?_) (fun _ => ?_)
      · refine (X_goto (m := 350) (pc := 3421) (off := 59) (tg := 3480) (by decide +kernel) (by decide +kernel)).trans ?_
        refine (X_iinc (m := 350) (pc := 3480) (n := 5) (c := 7) (by decide +kernel) rfl rfl (Nat.le_of_ble_eq_true rfl) rfl).trans ?_
        refine (X_goto (m := 350) (pc := 3483) (off := -3455) (tg := 28) (by decide +kernel) (by decide +kernel)).trans ?_
        rfl
      · refine (X_iconst (m := 350) (pc := 3419) (n := 0) (by decide +kernel) ).trans ?_
        exact X_ireturn (m := 350) (pc := 3420) (f := 2) (by decide +kernel) (by decide +kernel) rfl
  · refine (X_iconst (m := 350) (pc := 3402) (n := 0) (by decide +kernel) ).trans ?_
    exact X_ireturn (m := 350) (pc := 3403) (f := 2) (by decide +kernel) (by decide +kernel) rfl
theorem B_L_law_3453 {k : Nat → Nat × Nat} {u : Nat → Nat → Int} {g : Nat → Nat → Nat} {t : Nat × Nat × Nat} {r0 : Nat} {r1 : Nat} {r2 : Nat} {r3 : Nat} {r4 : Nat} {x5 : Int} {x6 : Int} {x7 : Int} {v8 : AV} {y0 : Int} : a_X 350 3453 [a_r (r0), a_r (r1), a_r (r2), a_r (r3), a_r (r4), a_i (x5), a_i (x6), a_i (x7), v8] [a_i (y0)] (k, u, g, t) = if (y0 : Int) = (x6 : Int) then if (x6 : Int) ≠ 0 then a_X 350 28 [a_r (r0), a_r (r1), a_r (r2), a_r (r3), a_r (r4), a_i (wr (x5 + 7)), a_i (x6), a_i (x7), v8] [] (k, u, g, t) else if (k r3).1 = 22 ∧ 0 ≤ (0 : Int) ∧ (0 : Int) < ((k r3).2 : Int) then if (if (u r3 (0 : Int).toNat) < (x7) then -1 else if (u r3 (0 : Int).toNat) = (x7) then 0 else 1 : Int) = 0 then a_X 350 28 [a_r (r0), a_r (r1), a_r (r2), a_r (r3), a_r (r4), a_i (wr (x5 + 7)), a_i (x6), a_i (x7), v8] [] (k, u, g, t) else some (.inl (some (a_i (0))), (k, u, g, t)) else none else some (.inl (some (a_i (0))), (k, u, g, t)) := by
  refine (X_iload (m := 350) (pc := 3453) (n := 6) (by decide +kernel) rfl).trans ?_
  refine (X_ic_eq (m := 350) (pc := 3455) (off := 5) (tg := 3460) (by decide +kernel) (by decide +kernel)).trans ?_
  refine ite_congr rfl (fun _ => ?_) (fun _ => ?_)
  · refine (X_iload (m := 350) (pc := 3460) (n := 6) (by decide +kernel) rfl).trans ?_
    refine (X_if_ne (m := 350) (pc := 3462) (off := 15) (tg := 3477) (by decide +kernel) (by decide +kernel)).trans ?_
    refine ite_congr rfl (fun _ => ?_) (fun _ => ?_)
    · refine (X_goto (m := 350) (pc := 3477) (off := 3) (tg := 3480) (by decide +kernel) (by decide +kernel)).trans ?_
      refine (X_iinc (m := 350) (pc := 3480) (n := 5) (c := 7) (by decide +kernel) rfl rfl (Nat.le_of_ble_eq_true rfl) rfl).trans ?_
      refine (X_goto (m := 350) (pc := 3483) (off := -3455) (tg := 28) (by decide +kernel) (by decide +kernel)).trans ?_
      rfl
    · refine (X_aload_n (m := 350) (pc := 3465) (n := 3) (by decide +kernel) rfl).trans ?_
      refine (X_iconst (m := 350) (pc := 3466) (n := 0) (by decide +kernel) ).trans ?_
      refine (X_laload (m := 350) (pc := 3467)  (by decide +kernel) ).trans ?_
      refine ite_congr rfl (fun _ => ?_) (fun _ => rfl)
      refine (X_iload (m := 350) (pc := 3468) (n := 7) (by decide +kernel) rfl).trans ?_
      refine (X_i2l (m := 350) (pc := 3470)  (by decide +kernel) ).trans ?_
      refine (X_lcmp (m := 350) (pc := 3471)  (by decide +kernel) ).trans ?_
      refine (X_if_eq (m := 350) (pc := 3472) (off := 5) (tg := 3477) (by decide +kernel) (by decide +kernel)).trans ?_
      refine ite_congr rfl (fun _ => ?_) (fun _ => ?_)
      · refine (X_goto (m := 350) (pc := 3477) (off := 3) (tg := 3480) (by decide +kernel) (by decide +kernel)).trans ?_
        refine (X_iinc (m := 350) (pc := 3480) (n := 5) (c := 7) (by decide +kernel) rfl rfl (Nat.le_of_ble_eq_true rfl) rfl).trans ?_
        refine (X_goto (m := 350) (pc := 3483) (off := -3455) (tg := 28) (by decide +kernel) (by decide +kernel)).trans ?_
        rfl
      · refine (X_iconst (m := 350) (pc := 3475) (n := 0) (by decide +kernel) ).trans ?_
        exact X_ireturn (m := 350) (pc := 3476) (f := 2) (by decide +kernel) (by decide +kernel) rfl
  · refine (X_iconst (m := 350) (pc := 3458) (n := 0) (by decide +kernel) ).trans ?_
    exact X_ireturn (m := 350) (pc := 3459) (f := 2) (by decide +kernel) (by decide +kernel) rfl
