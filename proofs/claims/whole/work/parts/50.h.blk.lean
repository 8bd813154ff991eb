/-! block equations, by wip/whole/gen_blocks.py -/
theorem E_X9_placeAt {σ : AS} {r0 : Nat} {r1 : Nat} {x2 : Int} {x3 : Int} : a_m 295 [a_r (r0), a_r (r1), a_i (x2), a_i (x3)] σ = a_X 295 0 [a_r (r0), a_r (r1), a_i (x2), a_i (x3), a_x false, a_x false] [] σ := a_m_eq (by rw [a_entry, show m_maxL 295 = 6 from by decide +kernel]; rfl)
theorem B_X9_placeAt_0 {k : Nat → Nat × Nat} {u : Nat → Nat → Int} {g : Nat → Nat → Nat} {t : Nat × Nat × Nat} {r0 : Nat} {r1 : Nat} {x2 : Int} {x3 : Int} {v4 : AV} {v5 : AV} : a_X 295 0 [a_r (r0), a_r (r1), a_i (x2), a_i (x3), v4, v5] [] (k, u, g, t) = a_X 295 3 [a_r (r0), a_r (r1), a_i (x2), a_i (x3), a_i (0), v5] [] (k, u, g, t) := by
  refine (X_iconst (m := 295) (pc := 0) (n := 0) (by decide +kernel) ).trans ?_
  refine (X_istore (m := 295) (pc := 1) (n := 4) (by decide +kernel) rfl (Nat.le_of_ble_eq_true rfl) rfl).trans ?_
  rfl
theorem B_X9_placeAt_3 {k : Nat → Nat × Nat} {u : Nat → Nat → Int} {g : Nat → Nat → Nat} {t : Nat × Nat × Nat} {r0 : Nat} {r1 : Nat} {x2 : Int} {x3 : Int} {x4 : Int} {v5 : AV} : a_X 295 3 [a_r (r0), a_r (r1), a_i (x2), a_i (x3), a_i (x4), v5] [] (k, u, g, t) = if (x4 : Int) ≥ (12 : Int) then some (.inl (some (a_i (-1))), (k, u, g, t)) else if ((k r1).1 = 20 ∨ (k r1).1 = 24) ∧ 0 ≤ (x4 : Int) ∧ (x4 : Int) < ((k r1).2 : Int) then if (k r0).1 = 9 then (a_m 84 [a_r (r0), a_i (x4), a_i (u r1 (x4 : Int).toNat)] (k, u, g, t)).bind (a_back 295 17 3 [a_r (r0), a_r (r1), a_i (x2), a_i (x3), a_i (x4), v5] []) else none else none := by
  refine (X_iload (m := 295) (pc := 3) (n := 4) (by decide +kernel) rfl).trans ?_
  refine (X_bipush (m := 295) (pc := 5) (n := 12) (by decide +kernel) ).trans ?_
  refine (X_ic_ge (m := 295) (pc := 7) (off := 40) (tg := 47) (by decide +kernel) (by decide +kernel)).trans ?_
  refine ite_congr rfl (fun _ => ?_) (fun _ => ?_)
  · refine (X_iconst (m := 295) (pc := 47) (n := -1) (by decide +kernel) ).trans ?_
    exact X_ireturn (m := 295) (pc := 48) (f := 1) (by decide +kernel) (by decide +kernel) rfl
  · refine (X_aload_n (m := 295) (pc := 10) (n := 0) (by decide +kernel) rfl).trans ?_
    refine (X_iload (m := 295) (pc := 11) (n := 4) (by decide +kernel) rfl).trans ?_
    refine (X_aload_n (m := 295) (pc := 13) (n := 1) (by decide +kernel) rfl).trans ?_
    refine (X_iload (m := 295) (pc := 14) (n := 4) (by decide +kernel) rfl).trans ?_
    refine (X_iaload (m := 295) (pc := 16)  (by decide +kernel) ).trans ?_
    refine ite_congr rfl (fun _ => ?_) (fun _ => rfl)
    refine (X_call_vi (m := 295) (pc := 17) (q := 9) (y := 84) (n := 3) (as := [a_r (r0), a_i (x4), a_i (u r1 (x4 : Int).toNat)]) (rest := []) (by decide +kernel) (by decide +kernel) (by decide +kernel) (by decide +kernel) rfl rfl (Nat.le_of_ble_eq_true rfl) (Nat.le_of_ble_eq_true rfl) rfl (by rw [show m_maxL 84 = 3 from by decide +kernel]; exact Nat.le_of_ble_eq_true rfl)).trans ?_
    exact ite_congr (by simp [a_rcv, show m_recv 84 = 9 from by decide +kernel]) (fun _ => rfl) (fun _ => rfl)
theorem B_X9_placeAt_20 {k : Nat → Nat × Nat} {u : Nat → Nat → Int} {g : Nat → Nat → Nat} {t : Nat × Nat × Nat} {r0 : Nat} {r1 : Nat} {x2 : Int} {x3 : Int} {x4 : Int} {v5 : AV} {y0 : Int} : a_X 295 20 [a_r (r0), a_r (r1), a_i (x2), a_i (x3), a_i (x4), v5] [a_i (y0)] (k, u, g, t) = if (k r0).1 = 9 then (a_m 86 [a_r (r0), a_i (y0), a_i (x2), a_i (x3)] (k, u, g, t)).bind (a_back 295 27 3 [a_r (r0), a_r (r1), a_i (x2), a_i (x3), a_i (x4), a_i (y0)] []) else none := by
  refine (X_istore (m := 295) (pc := 20) (n := 5) (by decide +kernel) rfl (Nat.le_of_ble_eq_true rfl) rfl).trans ?_
  refine (X_aload_n (m := 295) (pc := 22) (n := 0) (by decide +kernel) rfl).trans ?_
  refine (X_iload (m := 295) (pc := 23) (n := 5) (by decide +kernel) rfl).trans ?_
  refine (X_iload_n (m := 295) (pc := 25) (n := 2) (by decide +kernel) rfl).trans ?_
  refine (X_iload_n (m := 295) (pc := 26) (n := 3) (by decide +kernel) rfl).trans ?_
  refine (X_call_vi (m := 295) (pc := 27) (q := 15) (y := 86) (n := 4) (as := [a_r (r0), a_i (y0), a_i (x2), a_i (x3)]) (rest := []) (by decide +kernel) (by decide +kernel) (by decide +kernel) (by decide +kernel) rfl rfl (Nat.le_of_ble_eq_true rfl) (Nat.le_of_ble_eq_true rfl) rfl (by rw [show m_maxL 86 = 4 from by decide +kernel]; exact Nat.le_of_ble_eq_true rfl)).trans ?_
  exact ite_congr (by simp [a_rcv, show m_recv 86 = 9 from by decide +kernel]) (fun _ => rfl) (fun _ => rfl)
theorem B_X9_placeAt_30 {k : Nat → Nat × Nat} {u : Nat → Nat → Int} {g : Nat → Nat → Nat} {t : Nat × Nat × Nat} {r0 : Nat} {r1 : Nat} {x2 : Int} {x3 : Int} {x4 : Int} {x5 : Int} {y0 : Int} : a_X 295 30 [a_r (r0), a_r (r1), a_i (x2), a_i (x3), a_i (x4), a_i (x5)] [a_i (y0)] (k, u, g, t) = if (y0 : Int) = 0 then a_X 295 3 [a_r (r0), a_r (r1), a_i (x2), a_i (x3), a_i (wr (x4 + 1)), a_i (x5)] [] (k, u, g, t) else if (k r0).1 = 9 then if ((k (g r0 0)).1 = 20 ∨ (k (g r0 0)).1 = 24) ∧ 0 ≤ (x5 : Int) ∧ (x5 : Int) < ((k (g r0 0)).2 : Int) then some (.inl (some (a_i (u (g r0 0) (x5 : Int).toNat))), (k, u, g, t)) else none else none := by
  refine (X_if_eq (m := 295) (pc := 30) (off := 11) (tg := 41) (by decide +kernel) (by decide +kernel)).trans ?_
  refine ite_congr rfl (fun _ => ?_) (fun _ => ?_)
  · refine (X_iinc (m := 295) (pc := 41) (n := 4) (c := 1) (by decide +kernel) rfl rfl (Nat.le_of_ble_eq_true rfl) rfl).trans ?_
    refine (X_goto (m := 295) (pc := 44) (off := -41) (tg := 3) (by decide +kernel) (by decide +kernel)).trans ?_
    rfl
  · refine (X_aload_n (m := 295) (pc := 33) (n := 0) (by decide +kernel) rfl).trans ?_
    refine (X_getR (m := 295) (pc := 34) (n := 19) (c := 9) (q := 0) (fi := true) (by decide +kernel) (by decide +kernel)).trans ?_
    refine ite_congr rfl (fun _ => ?_) (fun _ => rfl)
    refine (X_iload (m := 295) (pc := 37) (n := 5) (by decide +kernel) rfl).trans ?_
    refine (X_iaload (m := 295) (pc := 39)  (by decide +kernel) ).trans ?_
    refine ite_congr rfl (fun _ => ?_) (fun _ => rfl)
    exact X_ireturn (m := 295) (pc := 40) (f := 1) (by decide +kernel) (by decide +kernel) rfl
theorem E_X9_nextEdge {σ : AS} {r0 : Nat} {r1 : Nat} {x2 : Int} {x3 : Int} : a_m 296 [a_r (r0), a_r (r1), a_i (x2), a_i (x3)] σ = a_X 296 0 [a_r (r0), a_r (r1), a_i (x2), a_i (x3), a_x false, a_x false, a_x false] [] σ := a_m_eq (by rw [a_entry, show m_maxL 296 = 7 from by decide +kernel]; rfl)
theorem B_X9_nextEdge_0 {k : Nat → Nat × Nat} {u : Nat → Nat → Int} {g : Nat → Nat → Nat} {t : Nat × Nat × Nat} {r0 : Nat} {r1 : Nat} {x2 : Int} {x3 : Int} {v4 : AV} {v5 : AV} {v6 : AV} : a_X 296 0 [a_r (r0), a_r (r1), a_i (x2), a_i (x3), v4, v5, v6] [] (k, u, g, t) = a_X 296 8 [a_r (r0), a_r (r1), a_i (x2), a_i (x3), a_i (1440), a_i (0), v6] [] (k, u, g, t) := by
  refine (X_sipush (m := 296) (pc := 0) (n := 1440) (by decide +kernel) ).trans ?_
  refine (X_istore (m := 296) (pc := 3) (n := 4) (by decide +kernel) rfl (Nat.le_of_ble_eq_true rfl) rfl).trans ?_
  refine (X_iconst (m := 296) (pc := 5) (n := 0) (by decide +kernel) ).trans ?_
  refine (X_istore (m := 296) (pc := 6) (n := 5) (by decide +kernel) rfl (Nat.le_of_ble_eq_true rfl) rfl).trans ?_
  rfl
theorem B_X9_nextEdge_8 {k : Nat → Nat × Nat} {u : Nat → Nat → Int} {g : Nat → Nat → Nat} {t : Nat × Nat × Nat} {r0 : Nat} {r1 : Nat} {x2 : Int} {x3 : Int} {x4 : Int} {x5 : Int} {v6 : AV} : a_X 296 8 [a_r (r0), a_r (r1), a_i (x2), a_i (x3), a_i (x4), a_i (x5), v6] [] (k, u, g, t) = if (x5 : Int) ≥ (12 : Int) then some (.inl (some (a_i (x4))), (k, u, g, t)) else if ((k r1).1 = 20 ∨ (k r1).1 = 24) ∧ 0 ≤ (x5 : Int) ∧ (x5 : Int) < ((k r1).2 : Int) then if (k r0).1 = 9 then (a_m 84 [a_r (r0), a_i (x5), a_i (u r1 (x5 : Int).toNat)] (k, u, g, t)).bind (a_back 296 22 3 [a_r (r0), a_r (r1), a_i (x2), a_i (x3), a_i (x4), a_i (x5), v6] []) else none else none := by
  refine (X_iload (m := 296) (pc := 8) (n := 5) (by decide +kernel) rfl).trans ?_
  refine (X_bipush (m := 296) (pc := 10) (n := 12) (by decide +kernel) ).trans ?_
  refine (X_ic_ge (m := 296) (pc := 12) (off := 82) (tg := 94) (by decide +kernel) (by decide +kernel)).trans ?_
  refine ite_congr rfl (fun _ => ?_) (fun _ => ?_)
  · refine (X_iload (m := 296) (pc := 94) (n := 4) (by decide +kernel) rfl).trans ?_
    exact X_ireturn (m := 296) (pc := 96) (f := 1) (by decide +kernel) (by decide +kernel) rfl
  · refine (X_aload_n (m := 296) (pc := 15) (n := 0) (by decide +kernel) rfl).trans ?_
    refine (X_iload (m := 296) (pc := 16) (n := 5) (by decide +kernel) rfl).trans ?_
    refine (X_aload_n (m := 296) (pc := 18) (n := 1) (by decide +kernel) rfl).trans ?_
    refine (X_iload (m := 296) (pc := 19) (n := 5) (by decide +kernel) rfl).trans ?_
    refine (X_iaload (m := 296) (pc := 21)  (by decide +kernel) ).trans ?_
    refine ite_congr rfl (fun _ => ?_) (fun _ => rfl)
    refine (X_call_vi (m := 296) (pc := 22) (q := 9) (y := 84) (n := 3) (as := [a_r (r0), a_i (x5), a_i (u r1 (x5 : Int).toNat)]) (rest := []) (by decide +kernel) (by decide +kernel) (by decide +kernel) (by decide +kernel) rfl rfl (Nat.le_of_ble_eq_true rfl) (Nat.le_of_ble_eq_true rfl) rfl (by rw [show m_maxL 84 = 3 from by decide +kernel]; exact Nat.le_of_ble_eq_true rfl)).trans ?_
    exact ite_congr (by simp [a_rcv, show m_recv 84 = 9 from by decide +kernel]) (fun _ => rfl) (fun _ => rfl)
theorem B_X9_nextEdge_25 {k : Nat → Nat × Nat} {u : Nat → Nat → Int} {g : Nat → Nat → Nat} {t : Nat × Nat × Nat} {r0 : Nat} {r1 : Nat} {x2 : Int} {x3 : Int} {x4 : Int} {x5 : Int} {v6 : AV} {y0 : Int} : a_X 296 25 [a_r (r0), a_r (r1), a_i (x2), a_i (x3), a_i (x4), a_i (x5), v6] [a_i (y0)] (k, u, g, t) = if (k r0).1 = 9 then if ((k (g r0 1)).1 = 20 ∨ (k (g r0 1)).1 = 24) ∧ 0 ≤ (y0 : Int) ∧ (y0 : Int) < ((k (g r0 1)).2 : Int) then if (u (g r0 1) (y0 : Int).toNat : Int) ≠ (x2 : Int) then a_X 296 8 [a_r (r0), a_r (r1), a_i (x2), a_i (x3), a_i (x4), a_i (wr (x5 + 1)), a_i (y0)] [] (k, u, g, t) else if (k r0).1 = 9 then if ((k (g r0 2)).1 = 20 ∨ (k (g r0 2)).1 = 24) ∧ 0 ≤ (y0 : Int) ∧ (y0 : Int) < ((k (g r0 2)).2 : Int) then if (u (g r0 2) (y0 : Int).toNat : Int) ≤ (x3 : Int) then if (k r0).1 = 9 then if ((k (g r0 3)).1 = 20 ∨ (k (g r0 3)).1 = 24) ∧ 0 ≤ (y0 : Int) ∧ (y0 : Int) < ((k (g r0 3)).2 : Int) then if (u (g r0 3) (y0 : Int).toNat : Int) ≤ (x3 : Int) then a_X 296 8 [a_r (r0), a_r (r1), a_i (x2), a_i (x3), a_i (x4), a_i (wr (x5 + 1)), a_i (y0)] [] (k, u, g, t) else if (k r0).1 = 9 then if ((k (g r0 3)).1 = 20 ∨ (k (g r0 3)).1 = 24) ∧ 0 ≤ (y0 : Int) ∧ (y0 : Int) < ((k (g r0 3)).2 : Int) then a_X 296 8 [a_r (r0), a_r (r1), a_i (x2), a_i (x3), a_i (min (x4) (u (g r0 3) (y0 : Int).toNat)), a_i (wr (x5 + 1)), a_i (y0)] [] (k, u, g, t) else none else none else none else none else if (k r0).1 = 9 then if ((k (g r0 2)).1 = 20 ∨ (k (g r0 2)).1 = 24) ∧ 0 ≤ (y0 : Int) ∧ (y0 : Int) < ((k (g r0 2)).2 : Int) then if (k r0).1 = 9 then if ((k (g r0 3)).1 = 20 ∨ (k (g r0 3)).1 = 24) ∧ 0 ≤ (y0 : Int) ∧ (y0 : Int) < ((k (g r0 3)).2 : Int) then if (u (g r0 3) (y0 : Int).toNat : Int) ≤ (x3 : Int) then a_X 296 8 [a_r (r0), a_r (r1), a_i (x2), a_i (x3), a_i (min (x4) (u (g r0 2) (y0 : Int).toNat)), a_i (wr (x5 + 1)), a_i (y0)] [] (k, u, g, t) else if (k r0).1 = 9 then if ((k (g r0 3)).1 = 20 ∨ (k (g r0 3)).1 = 24) ∧ 0 ≤ (y0 : Int) ∧ (y0 : Int) < ((k (g r0 3)).2 : Int) then a_X 296 8 [a_r (r0), a_r (r1), a_i (x2), a_i (x3), a_i (min (min (x4) (u (g r0 2) (y0 : Int).toNat)) (u (g r0 3) (y0 : Int).toNat)), a_i (wr (x5 + 1)), a_i (y0)] [] (k, u, g, t) else none else none else none else none else none else none else none else none else none else none := by
  refine (X_istore (m := 296) (pc := 25) (n := 6) (by decide +kernel) rfl (Nat.le_of_ble_eq_true rfl) rfl).trans ?_
  refine (X_aload_n (m := 296) (pc := 27) (n := 0) (by decide +kernel) rfl).trans ?_
  refine (X_getR (m := 296) (pc := 28) (n := 23) (c := 9) (q := 1) (fi := true) (by decide +kernel) (by decide +kernel)).trans ?_
  refine ite_congr rfl (fun _ => ?_) (fun _ => rfl)
  refine (X_iload (m := 296) (pc := 31) (n := 6) (by decide +kernel) rfl).trans ?_
  refine (X_iaload (m := 296) (pc := 33)  (by decide +kernel) ).trans ?_
  refine ite_congr rfl (fun _ => ?_) (fun _ => rfl)
  refine (X_iload_n (m := 296) (pc := 34) (n := 2) (by decide +kernel) rfl).trans ?_
  refine (X_ic_ne (m := 296) (pc := 35) (off := 53) (tg := 88) (by decide +kernel) (by decide +kernel)).trans ?_
  refine ite_congr rfl (fun _ => ?_) (fun _ => ?_)
  · refine (X_iinc (m := 296) (pc := 88) (n := 5) (c := 1) (by decide +kernel) rfl rfl (Nat.le_of_ble_eq_true rfl) rfl).trans ?_
    refine (X_goto (m := 296) (pc := 91) (off := -83) (tg := 8) (by decide +kernel) (by decide +kernel)).trans ?_
    rfl
  · refine (X_aload_n (m := 296) (pc := 38) (n := 0) (by decide +kernel) rfl).trans ?_
    refine (X_getR (m := 296) (pc := 39) (n := 26) (c := 9) (q := 2) (fi := true) (by decide +kernel) (by decide +kernel)).trans ?_
    refine ite_congr rfl (fun _ => ?_) (fun _ => rfl)
    refine (X_iload (m := 296) (pc := 42) (n := 6) (by decide +kernel) rfl).trans ?_
    refine (X_iaload (m := 296) (pc := 44)  (by decide +kernel) ).trans ?_
    refine ite_congr rfl (fun _ => ?_) (fun _ => rfl)
    refine (X_iload_n (m := 296) (pc := 45) (n := 3) (by decide +kernel) rfl).trans ?_
    refine (X_ic_le (m := 296) (pc := 46) (off := 17) (tg := 63) (by decide +kernel) (by decide +kernel)).trans ?_
    refine ite_congr rfl (fun _ => ?_) (fun _ => ?_)
    · refine (X_aload_n (m := 296) (pc := 63) (n := 0) (by decide +kernel) rfl).trans ?_
      refine (X_getR (m := 296) (pc := 64) (n := 34) (c := 9) (q := 3) (fi := true) (by decide +kernel) (by decide +kernel)).trans ?_
      refine ite_congr rfl (fun _ => ?_) (fun _ => rfl)
      refine (X_iload (m := 296) (pc := 67) (n := 6) (by decide +kernel) rfl).trans ?_
      refine (X_iaload (m := 296) (pc := 69)  (by decide +kernel) ).trans ?_
      refine ite_congr rfl (fun _ => ?_) (fun _ => rfl)
      refine (X_iload_n (m := 296) (pc := 70) (n := 3) (by decide +kernel) rfl).trans ?_
      refine (X_ic_le (m := 296) (pc := 71) (off := 17) (tg := 88) (by decide +kernel) (by decide +kernel)).trans ?_
      refine ite_congr rfl (fun _ => ?_) (fun _ => ?_)
      · refine (X_iinc (m := 296) (pc := 88) (n := 5) (c := 1) (by decide +kernel) rfl rfl (Nat.le_of_ble_eq_true rfl) rfl).trans ?_
        refine (X_goto (m := 296) (pc := 91) (off := -83) (tg := 8) (by decide +kernel) (by decide +kernel)).trans ?_
        rfl
      · refine (X_iload (m := 296) (pc := 74) (n := 4) (by decide +kernel) rfl).trans ?_
        refine (X_aload_n (m := 296) (pc := 76) (n := 0) (by decide +kernel) rfl).trans ?_
        refine (X_getR (m := 296) (pc := 77) (n := 34) (c := 9) (q := 3) (fi := true) (by decide +kernel) (by decide +kernel)).trans ?_
        refine ite_congr rfl (fun _ => ?_) (fun _ => rfl)
        refine (X_iload (m := 296) (pc := 80) (n := 6) (by decide +kernel) rfl).trans ?_
        refine (X_iaload (m := 296) (pc := 82)  (by decide +kernel) ).trans ?_
        refine ite_congr rfl (fun _ => ?_) (fun _ => rfl)
        refine (X_min (m := 296) (pc := 83) (q := 29) (by decide +kernel) (by decide +kernel) (Nat.le_of_ble_eq_true rfl)).trans ?_
        refine (X_istore (m := 296) (pc := 86) (n := 4) (by decide +kernel) rfl (Nat.le_of_ble_eq_true rfl) rfl).trans ?_
        refine (X_iinc (m := 296) (pc := 88) (n := 5) (c := 1) (by decide +kernel) rfl rfl (Nat.le_of_ble_eq_true rfl) rfl).trans ?_
        refine (X_goto (m := 296) (pc := 91) (off := -83) (tg := 8) (by decide +kernel) (by decide +kernel)).trans ?_
        rfl
    · refine (X_iload (m := 296) (pc := 49) (n := 4) (by decide +kernel) rfl).trans ?_
      refine (X_aload_n (m := 296) (pc := 51) (n := 0) (by decide +kernel) rfl).trans ?_
      refine (X_getR (m := 296) (pc := 52) (n := 26) (c := 9) (q := 2) (fi := true) (by decide +kernel) (by decide +kernel)).trans ?_
      refine ite_congr rfl (fun _ => ?_) (fun _ => rfl)
      refine (X_iload (m := 296) (pc := 55) (n := 6) (by decide +kernel) rfl).trans ?_
      refine (X_iaload (m := 296) (pc := 57)  (by decide +kernel) ).trans ?_
      refine ite_congr rfl (fun _ => ?_) (fun _ => rfl)
      refine (X_min (m := 296) (pc := 58) (q := 29) (by decide +kernel) (by decide +kernel) (Nat.le_of_ble_eq_true rfl)).trans ?_
      refine (X_istore (m := 296) (pc := 61) (n := 4) (by decide +kernel) rfl (Nat.le_of_ble_eq_true rfl) rfl).trans ?_
      refine (X_aload_n (m := 296) (pc := 63) (n := 0) (by decide +kernel) rfl).trans ?_
      refine (X_getR (m := 296) (pc := 64) (n := 34) (c := 9) (q := 3) (fi := true) (by decide +kernel) (by decide +kernel)).trans ?_
      refine ite_congr rfl (fun _ => ?_) (fun _ => rfl)
      refine (X_iload (m := 296) (pc := 67) (n := 6) (by decide +kernel) rfl).trans ?_
      refine (X_iaload (m := 296) (pc := 69)  (by decide +kernel) ).trans ?_
      refine ite_congr rfl (fun _ => ?_) (fun _ => rfl)
      refine (X_iload_n (m := 296) (pc := 70) (n := 3) (by decide +kernel) rfl).trans ?_
      refine (X_ic_le (m := 296) (pc := 71) (off := 17) (tg := 88) (by decide +kernel) (by decide +kernel)).trans ?_
      refine ite_congr rfl (fun _ => ?_) (fun _ => ?_)
      · refine (X_iinc (m := 296) (pc := 88) (n := 5) (c := 1) (by decide +kernel) rfl rfl (Nat.le_of_ble_eq_true rfl) rfl).trans ?_
        refine (X_goto (m := 296) (pc := 91) (off := -83) (tg := 8) (by decide +kernel) (by decide +kernel)).trans ?_
        rfl
      · refine (X_iload (m := 296) (pc := 74) (n := 4) (by decide +kernel) rfl).trans ?_
        refine (X_aload_n (m := 296) (pc := 76) (n := 0) (by decide +kernel) rfl).trans ?_
        refine (X_getR (m := 296) (pc := 77) (n := 34) (c := 9) (q := 3) (fi := true) (by decide +kernel) (by decide +kernel)).trans ?_
        refine ite_congr rfl (fun _ => ?_) (fun _ => rfl)
        refine (X_iload (m := 296) (pc := 80) (n := 6) (by decide +kernel) rfl).trans ?_
        refine (X_iaload (m := 296) (pc := 82)  (by decide +kernel) ).trans ?_
        refine ite_congr rfl (fun _ => ?_) (fun _ => rfl)
        refine (X_min (m := 296) (pc := 83) (q := 29) (by decide +kernel) (by decide +kernel) (Nat.le_of_ble_eq_true rfl)).trans ?_
        refine (X_istore (m := 296) (pc := 86) (n := 4) (by decide +kernel) rfl (Nat.le_of_ble_eq_true rfl) rfl).trans ?_
        refine (X_iinc (m := 296) (pc := 88) (n := 5) (c := 1) (by decide +kernel) rfl rfl (Nat.le_of_ble_eq_true rfl) rfl).trans ?_
        refine (X_goto (m := 296) (pc := 91) (off := -83) (tg := 8) (by decide +kernel) (by decide +kernel)).trans ?_
        rfl
theorem E_X9_minutesAt {σ : AS} {r0 : Nat} {r1 : Nat} {x2 : Int} : a_m 297 [a_r (r0), a_r (r1), a_i (x2)] σ = a_X 297 0 [a_r (r0), a_r (r1), a_i (x2), a_x false, a_x false, a_x false, a_x false, a_x false] [] σ := a_m_eq (by rw [a_entry, show m_maxL 297 = 8 from by decide +kernel]; rfl)
theorem B_X9_minutesAt_0 {k : Nat → Nat × Nat} {u : Nat → Nat → Int} {g : Nat → Nat → Nat} {t : Nat × Nat × Nat} {r0 : Nat} {r1 : Nat} {x2 : Int} {v3 : AV} {v4 : AV} {v5 : AV} {v6 : AV} {v7 : AV} : a_X 297 0 [a_r (r0), a_r (r1), a_i (x2), v3, v4, v5, v6, v7] [] (k, u, g, t) = a_X 297 5 [a_r (r0), a_r (r1), a_i (x2), a_i (0), a_i (0), v5, v6, v7] [] (k, u, g, t) := by
  refine (X_iconst (m := 297) (pc := 0) (n := 0) (by decide +kernel) ).trans ?_
  refine (X_istore_n (m := 297) (pc := 1) (n := 3) (by decide +kernel) rfl (Nat.le_of_ble_eq_true rfl) rfl).trans ?_
  refine (X_iconst (m := 297) (pc := 2) (n := 0) (by decide +kernel) ).trans ?_
  refine (X_istore (m := 297) (pc := 3) (n := 4) (by decide +kernel) rfl (Nat.le_of_ble_eq_true rfl) rfl).trans ?_
  rfl
theorem B_X9_minutesAt_5 {k : Nat → Nat × Nat} {u : Nat → Nat → Int} {g : Nat → Nat → Nat} {t : Nat × Nat × Nat} {r0 : Nat} {r1 : Nat} {x2 : Int} {x3 : Int} {x4 : Int} {v5 : AV} {v6 : AV} {v7 : AV} : a_X 297 5 [a_r (r0), a_r (r1), a_i (x2), a_i (x3), a_i (x4), v5, v6, v7] [] (k, u, g, t) = if (x4 : Int) ≥ (7 : Int) then some (.inl (some (a_i (x3))), (k, u, g, t)) else a_X 297 18 [a_r (r0), a_r (r1), a_i (x2), a_i (x3), a_i (x4), a_i (0), a_i (0), v7] [] (k, u, g, t) := by
  refine (X_iload (m := 297) (pc := 5) (n := 4) (by decide +kernel) rfl).trans ?_
  refine (X_bipush (m := 297) (pc := 7) (n := 7) (by decide +kernel) ).trans ?_
  refine (X_ic_ge (m := 297) (pc := 9) (off := 73) (tg := 82) (by decide +kernel) (by decide +kernel)).trans ?_
  refine ite_congr rfl (fun _ => ?_) (fun _ => ?_)
  · refine (X_iload_n (m := 297) (pc := 82) (n := 3) (by decide +kernel) rfl).trans ?_
    exact X_ireturn (m := 297) (pc := 83) (f := 1) (by decide +kernel) (by decide +kernel) rfl
  · refine (X_iconst (m := 297) (pc := 12) (n := 0) (by decide +kernel) ).trans ?_
    refine (X_istore (m := 297) (pc := 13) (n := 5) (by decide +kernel) rfl (Nat.le_of_ble_eq_true rfl) rfl).trans ?_
    refine (X_iconst (m := 297) (pc := 15) (n := 0) (by decide +kernel) ).trans ?_
    refine (X_istore (m := 297) (pc := 16) (n := 6) (by decide +kernel) rfl (Nat.le_of_ble_eq_true rfl) rfl).trans ?_
    rfl
theorem B_X9_minutesAt_18 {k : Nat → Nat × Nat} {u : Nat → Nat → Int} {g : Nat → Nat → Nat} {t : Nat × Nat × Nat} {r0 : Nat} {r1 : Nat} {x2 : Int} {x3 : Int} {x4 : Int} {x5 : Int} {x6 : Int} {v7 : AV} : a_X 297 18 [a_r (r0), a_r (r1), a_i (x2), a_i (x3), a_i (x4), a_i (x5), a_i (x6), v7] [] (k, u, g, t) = if (x6 : Int) ≥ (1440 : Int) then a_X 297 5 [a_r (r0), a_r (r1), a_i (x2), a_i (x3), a_i (wr (x4 + 1)), a_i (x5), a_i (x6), v7] [] (k, u, g, t) else if (x5 : Int) ≥ (1440 : Int) then a_X 297 5 [a_r (r0), a_r (r1), a_i (x2), a_i (x3), a_i (wr (x4 + 1)), a_i (x5), a_i (x6), v7] [] (k, u, g, t) else (a_m 296 [a_r (r0), a_r (r1), a_i (x4), a_i (x5)] (k, u, g, t)).bind (a_back 297 40 3 [a_r (r0), a_r (r1), a_i (x2), a_i (x3), a_i (x4), a_i (x5), a_i (x6), v7] []) := by
  refine (X_iload (m := 297) (pc := 18) (n := 6) (by decide +kernel) rfl).trans ?_
  refine (X_sipush (m := 297) (pc := 20) (n := 1440) (by decide +kernel) ).trans ?_
  refine (X_ic_ge (m := 297) (pc := 23) (off := 53) (tg := 76) (by decide +kernel) (by decide +kernel)).trans ?_
  refine ite_congr rfl (fun _ => ?_) (fun _ => ?_)
  · refine (X_iinc (m := 297) (pc := 76) (n := 4) (c := 1) (by decide +kernel) rfl rfl (Nat.le_of_ble_eq_true rfl) rfl).trans ?_
    refine (X_goto (m := 297) (pc := 79) (off := -74) (tg := 5) (by decide +kernel) (by decide +kernel)).trans ?_
    rfl
  · refine (X_iload (m := 297) (pc := 26) (n := 5) (by decide +kernel) rfl).trans ?_
    refine (X_sipush (m := 297) (pc := 28) (n := 1440) (by decide +kernel) ).trans ?_
    refine (X_ic_ge (m := 297) (pc := 31) (off := 45) (tg := 76) (by decide +kernel) (by decide +kernel)).trans ?_
    refine ite_congr rfl (fun _ => ?_) (fun _ => ?_)
    · refine (X_iinc (m := 297) (pc := 76) (n := 4) (c := 1) (by decide +kernel) rfl rfl (Nat.le_of_ble_eq_true rfl) rfl).trans ?_
      refine (X_goto (m := 297) (pc := 79) (off := -74) (tg := 5) (by decide +kernel) (by decide +kernel)).trans ?_
      rfl
    · refine (X_aload_n (m := 297) (pc := 34) (n := 0) (by decide +kernel) rfl).trans ?_
      refine (X_aload_n (m := 297) (pc := 35) (n := 1) (by decide +kernel) rfl).trans ?_
      refine (X_iload (m := 297) (pc := 36) (n := 4) (by decide +kernel) rfl).trans ?_
      refine (X_iload (m := 297) (pc := 38) (n := 5) (by decide +kernel) rfl).trans ?_
      refine (X_call_st (m := 297) (pc := 40) (q := 37) (y := 296) (n := 4) (as := [a_r (r0), a_r (r1), a_i (x4), a_i (x5)]) (rest := []) (by decide +kernel) (by decide +kernel) (by decide +kernel) (by decide +kernel) rfl rfl (Nat.le_of_ble_eq_true rfl) (Nat.le_of_ble_eq_true rfl) rfl (by rw [show m_maxL 296 = 7 from by decide +kernel]; exact Nat.le_of_ble_eq_true rfl)).trans ?_
      exact if_pos rfl
theorem B_X9_minutesAt_43 {k : Nat → Nat × Nat} {u : Nat → Nat → Int} {g : Nat → Nat → Nat} {t : Nat × Nat × Nat} {r0 : Nat} {r1 : Nat} {x2 : Int} {x3 : Int} {x4 : Int} {x5 : Int} {x6 : Int} {v7 : AV} {y0 : Int} : a_X 297 43 [a_r (r0), a_r (r1), a_i (x2), a_i (x3), a_i (x4), a_i (x5), a_i (x6), v7] [a_i (y0)] (k, u, g, t) = (a_m 295 [a_r (r0), a_r (r1), a_i (x4), a_i (x5)] (k, u, g, t)).bind (a_back 297 51 3 [a_r (r0), a_r (r1), a_i (x2), a_i (x3), a_i (x4), a_i (x5), a_i (x6), a_i (y0)] []) := by
  refine (X_istore (m := 297) (pc := 43) (n := 7) (by decide +kernel) rfl (Nat.le_of_ble_eq_true rfl) rfl).trans ?_
  refine (X_aload_n (m := 297) (pc := 45) (n := 0) (by decide +kernel) rfl).trans ?_
  refine (X_aload_n (m := 297) (pc := 46) (n := 1) (by decide +kernel) rfl).trans ?_
  refine (X_iload (m := 297) (pc := 47) (n := 4) (by decide +kernel) rfl).trans ?_
  refine (X_iload (m := 297) (pc := 49) (n := 5) (by decide +kernel) rfl).trans ?_
  refine (X_call_st (m := 297) (pc := 51) (q := 43) (y := 295) (n := 4) (as := [a_r (r0), a_r (r1), a_i (x4), a_i (x5)]) (rest := []) (by decide +kernel) (by decide +kernel) (by decide +kernel) (by decide +kernel) rfl rfl (Nat.le_of_ble_eq_true rfl) (Nat.le_of_ble_eq_true rfl) rfl (by rw [show m_maxL 295 = 6 from by decide +kernel]; exact Nat.le_of_ble_eq_true rfl)).trans ?_
  exact if_pos rfl
theorem B_X9_minutesAt_54 {k : Nat → Nat × Nat} {u : Nat → Nat → Int} {g : Nat → Nat → Nat} {t : Nat × Nat × Nat} {r0 : Nat} {r1 : Nat} {x2 : Int} {x3 : Int} {x4 : Int} {x5 : Int} {x6 : Int} {x7 : Int} {y0 : Int} : a_X 297 54 [a_r (r0), a_r (r1), a_i (x2), a_i (x3), a_i (x4), a_i (x5), a_i (x6), a_i (x7)] [a_i (y0)] (k, u, g, t) = if (y0 : Int) ≠ (x2 : Int) then a_X 297 18 [a_r (r0), a_r (r1), a_i (x2), a_i (x3), a_i (x4), a_i (x7), a_i (wr (x6 + 1)), a_i (x7)] [] (k, u, g, t) else a_X 297 18 [a_r (r0), a_r (r1), a_i (x2), a_i (wr (x3 + (wr (x7 - x5)))), a_i (x4), a_i (x7), a_i (wr (x6 + 1)), a_i (x7)] [] (k, u, g, t) := by
  refine (X_iload_n (m := 297) (pc := 54) (n := 2) (by decide +kernel) rfl).trans ?_
  refine (X_ic_ne (m := 297) (pc := 55) (off := 11) (tg := 66) (by decide +kernel) (by decide +kernel)).trans ?_
  refine ite_congr rfl (fun _ => ?_) (fun _ => ?_)
  · refine (X_iload (m := 297) (pc := 66) (n := 7) (by decide +kernel) rfl).trans ?_
    refine (X_istore (m := 297) (pc := 68) (n := 5) (by decide +kernel) rfl (Nat.le_of_ble_eq_true rfl) rfl).trans ?_
    refine (X_iinc (m := 297) (pc := 70) (n := 6) (c := 1) (by decide +kernel) rfl rfl (Nat.le_of_ble_eq_true rfl) rfl).trans ?_
    refine (X_goto (m := 297) (pc := 73) (off := -55) (tg := 18) (by decide +kernel) (by decide +kernel)).trans ?_
    rfl
  · refine (X_iload_n (m := 297) (pc := 58) (n := 3) (by decide +kernel) rfl).trans ?_
    refine (X_iload (m := 297) (pc := 59) (n := 7) (by decide +kernel) rfl).trans ?_
    refine (X_iload (m := 297) (pc := 61) (n := 5) (by decide +kernel) rfl).trans ?_
    refine (X_isub (m := 297) (pc := 63)  (by decide +kernel) ).trans ?_
    refine (X_iadd (m := 297) (pc := 64)  (by decide +kernel) ).trans ?_
    refine (X_istore_n (m := 297) (pc := 65) (n := 3) (by decide +kernel) rfl (Nat.le_of_ble_eq_true rfl) rfl).trans ?_
    refine (X_iload (m := 297) (pc := 66) (n := 7) (by decide +kernel) rfl).trans ?_
    refine (X_istore (m := 297) (pc := 68) (n := 5) (by decide +kernel) rfl (Nat.le_of_ble_eq_true rfl) rfl).trans ?_
    refine (X_iinc (m := 297) (pc := 70) (n := 6) (c := 1) (by decide +kernel) rfl rfl (Nat.le_of_ble_eq_true rfl) rfl).trans ?_
    refine (X_goto (m := 297) (pc := 73) (off := -55) (tg := 18) (by decide +kernel) (by decide +kernel)).trans ?_
    rfl
theorem E_X9_minutesApart {σ : AS} {r0 : Nat} {r1 : Nat} {r2 : Nat} : a_m 298 [a_r (r0), a_r (r1), a_r (r2)] σ = a_X 298 0 [a_r (r0), a_r (r1), a_r (r2), a_x false, a_x false, a_x false, a_x false, a_x false] [] σ := a_m_eq (by rw [a_entry, show m_maxL 298 = 8 from by decide +kernel]; rfl)
theorem B_X9_minutesApart_0 {k : Nat → Nat × Nat} {u : Nat → Nat → Int} {g : Nat → Nat → Nat} {t : Nat × Nat × Nat} {r0 : Nat} {r1 : Nat} {r2 : Nat} {v3 : AV} {v4 : AV} {v5 : AV} {v6 : AV} {v7 : AV} : a_X 298 0 [a_r (r0), a_r (r1), a_r (r2), v3, v4, v5, v6, v7] [] (k, u, g, t) = a_X 298 5 [a_r (r0), a_r (r1), a_r (r2), a_i (0), a_i (0), v5, v6, v7] [] (k, u, g, t) := by
  refine (X_iconst (m := 298) (pc := 0) (n := 0) (by decide +kernel) ).trans ?_
  refine (X_istore_n (m := 298) (pc := 1) (n := 3) (by decide +kernel) rfl (Nat.le_of_ble_eq_true rfl) rfl).trans ?_
  refine (X_iconst (m := 298) (pc := 2) (n := 0) (by decide +kernel) ).trans ?_
  refine (X_istore (m := 298) (pc := 3) (n := 4) (by decide +kernel) rfl (Nat.le_of_ble_eq_true rfl) rfl).trans ?_
  rfl
theorem B_X9_minutesApart_5 {k : Nat → Nat × Nat} {u : Nat → Nat → Int} {g : Nat → Nat → Nat} {t : Nat × Nat × Nat} {r0 : Nat} {r1 : Nat} {r2 : Nat} {x3 : Int} {x4 : Int} {v5 : AV} {v6 : AV} {v7 : AV} : a_X 298 5 [a_r (r0), a_r (r1), a_r (r2), a_i (x3), a_i (x4), v5, v6, v7] [] (k, u, g, t) = if (x4 : Int) ≥ (7 : Int) then some (.inl (some (a_i (x3))), (k, u, g, t)) else a_X 298 18 [a_r (r0), a_r (r1), a_r (r2), a_i (x3), a_i (x4), a_i (0), a_i (0), v7] [] (k, u, g, t) := by
  refine (X_iload (m := 298) (pc := 5) (n := 4) (by decide +kernel) rfl).trans ?_
  refine (X_bipush (m := 298) (pc := 7) (n := 7) (by decide +kernel) ).trans ?_
  refine (X_ic_ge (m := 298) (pc := 9) (off := 93) (tg := 102) (by decide +kernel) (by decide +kernel)).trans ?_
  refine ite_congr rfl (fun _ => ?_) (fun _ => ?_)
  · refine (X_iload_n (m := 298) (pc := 102) (n := 3) (by decide +kernel) rfl).trans ?_
    exact X_ireturn (m := 298) (pc := 103) (f := 1) (by decide +kernel) (by decide +kernel) rfl
  · refine (X_iconst (m := 298) (pc := 12) (n := 0) (by decide +kernel) ).trans ?_
    refine (X_istore (m := 298) (pc := 13) (n := 5) (by decide +kernel) rfl (Nat.le_of_ble_eq_true rfl) rfl).trans ?_
    refine (X_iconst (m := 298) (pc := 15) (n := 0) (by decide +kernel) ).trans ?_
    refine (X_istore (m := 298) (pc := 16) (n := 6) (by decide +kernel) rfl (Nat.le_of_ble_eq_true rfl) rfl).trans ?_
    rfl
theorem B_X9_minutesApart_18 {k : Nat → Nat × Nat} {u : Nat → Nat → Int} {g : Nat → Nat → Nat} {t : Nat × Nat × Nat} {r0 : Nat} {r1 : Nat} {r2 : Nat} {x3 : Int} {x4 : Int} {x5 : Int} {x6 : Int} {v7 : AV} : a_X 298 18 [a_r (r0), a_r (r1), a_r (r2), a_i (x3), a_i (x4), a_i (x5), a_i (x6), v7] [] (k, u, g, t) = if (x6 : Int) ≥ (1440 : Int) then a_X 298 5 [a_r (r0), a_r (r1), a_r (r2), a_i (x3), a_i (wr (x4 + 1)), a_i (x5), a_i (x6), v7] [] (k, u, g, t) else if (x5 : Int) ≥ (1440 : Int) then a_X 298 5 [a_r (r0), a_r (r1), a_r (r2), a_i (x3), a_i (wr (x4 + 1)), a_i (x5), a_i (x6), v7] [] (k, u, g, t) else (a_m 296 [a_r (r0), a_r (r1), a_i (x4), a_i (x5)] (k, u, g, t)).bind (a_back 298 40 3 [a_r (r0), a_r (r1), a_r (r2), a_i (x3), a_i (x4), a_i (x5), a_i (x6), v7] []) := by
  refine (X_iload (m := 298) (pc := 18) (n := 6) (by decide +kernel) rfl).trans ?_
  refine (X_sipush (m := 298) (pc := 20) (n := 1440) (by decide +kernel) ).trans ?_
  refine (X_ic_ge (m := 298) (pc := 23) (off := 73) (tg := 96) (by decide +kernel) (by decide +kernel)).trans ?_
  refine ite_congr rfl (fun _ => ?_) (fun _ => ?_)
  · refine (X_iinc (m := 298) (pc := 96) (n := 4) (c := 1) (by decide +kernel) rfl rfl (Nat.le_of_ble_eq_true rfl) rfl).trans ?_
    refine (X_goto (m := 298) (pc := 99) (off := -94) (tg := 5) (by decide +kernel) (by decide +kernel)).trans ?_
    rfl
  · refine (X_iload (m := 298) (pc := 26) (n := 5) (by decide +kernel) rfl).trans ?_
    refine (X_sipush (m := 298) (pc := 28) (n := 1440) (by decide +kernel) ).trans ?_
    refine (X_ic_ge (m := 298) (pc := 31) (off := 65) (tg := 96) (by decide +kernel) (by decide +kernel)).trans ?_
    refine ite_congr rfl (fun _ => ?_) (fun _ => ?_)
    · refine (X_iinc (m := 298) (pc := 96) (n := 4) (c := 1) (by decide +kernel) rfl rfl (Nat.le_of_ble_eq_true rfl) rfl).trans ?_
      refine (X_goto (m := 298) (pc := 99) (off := -94) (tg := 5) (by decide +kernel) (by decide +kernel)).trans ?_
      rfl
    · refine (X_aload_n (m := 298) (pc := 34) (n := 0) (by decide +kernel) rfl).trans ?_
      refine (X_aload_n (m := 298) (pc := 35) (n := 1) (by decide +kernel) rfl).trans ?_
      refine (X_iload (m := 298) (pc := 36) (n := 4) (by decide +kernel) rfl).trans ?_
      refine (X_iload (m := 298) (pc := 38) (n := 5) (by decide +kernel) rfl).trans ?_
      refine (X_call_st (m := 298) (pc := 40) (q := 37) (y := 296) (n := 4) (as := [a_r (r0), a_r (r1), a_i (x4), a_i (x5)]) (rest := []) (by decide +kernel) (by decide +kernel) (by decide +kernel) (by decide +kernel) rfl rfl (Nat.le_of_ble_eq_true rfl) (Nat.le_of_ble_eq_true rfl) rfl (by rw [show m_maxL 296 = 7 from by decide +kernel]; exact Nat.le_of_ble_eq_true rfl)).trans ?_
      exact if_pos rfl
theorem B_X9_minutesApart_43 {k : Nat → Nat × Nat} {u : Nat → Nat → Int} {g : Nat → Nat → Nat} {t : Nat × Nat × Nat} {r0 : Nat} {r1 : Nat} {r2 : Nat} {x3 : Int} {x4 : Int} {x5 : Int} {x6 : Int} {v7 : AV} {y0 : Int} : a_X 298 43 [a_r (r0), a_r (r1), a_r (r2), a_i (x3), a_i (x4), a_i (x5), a_i (x6), v7] [a_i (y0)] (k, u, g, t) = (a_m 296 [a_r (r0), a_r (r2), a_i (x4), a_i (x5)] (k, u, g, t)).bind (a_back 298 49 3 [a_r (r0), a_r (r1), a_r (r2), a_i (x3), a_i (x4), a_i (x5), a_i (x6), v7] [a_i (y0)]) := by
  refine (X_aload_n (m := 298) (pc := 43) (n := 0) (by decide +kernel) rfl).trans ?_
  refine (X_aload_n (m := 298) (pc := 44) (n := 2) (by decide +kernel) rfl).trans ?_
  refine (X_iload (m := 298) (pc := 45) (n := 4) (by decide +kernel) rfl).trans ?_
  refine (X_iload (m := 298) (pc := 47) (n := 5) (by decide +kernel) rfl).trans ?_
  refine (X_call_st (m := 298) (pc := 49) (q := 37) (y := 296) (n := 4) (as := [a_r (r0), a_r (r2), a_i (x4), a_i (x5)]) (rest := [a_i (y0)]) (by decide +kernel) (by decide +kernel) (by decide +kernel) (by decide +kernel) rfl rfl (Nat.le_of_ble_eq_true rfl) (Nat.le_of_ble_eq_true rfl) rfl (by rw [show m_maxL 296 = 7 from by decide +kernel]; exact Nat.le_of_ble_eq_true rfl)).trans ?_
  exact if_pos rfl
theorem B_X9_minutesApart_52 {k : Nat → Nat × Nat} {u : Nat → Nat → Int} {g : Nat → Nat → Nat} {t : Nat × Nat × Nat} {r0 : Nat} {r1 : Nat} {r2 : Nat} {x3 : Int} {x4 : Int} {x5 : Int} {x6 : Int} {v7 : AV} {y0 : Int} {y1 : Int} : a_X 298 52 [a_r (r0), a_r (r1), a_r (r2), a_i (x3), a_i (x4), a_i (x5), a_i (x6), v7] [a_i (y1), a_i (y0)] (k, u, g, t) = (a_m 295 [a_r (r0), a_r (r1), a_i (x4), a_i (x5)] (k, u, g, t)).bind (a_back 298 63 3 [a_r (r0), a_r (r1), a_r (r2), a_i (x3), a_i (x4), a_i (x5), a_i (x6), a_i (min (y0) (y1))] []) := by
  refine (X_min (m := 298) (pc := 52) (q := 29) (by decide +kernel) (by decide +kernel) (Nat.le_of_ble_eq_true rfl)).trans ?_
  refine (X_istore (m := 298) (pc := 55) (n := 7) (by decide +kernel) rfl (Nat.le_of_ble_eq_true rfl) rfl).trans ?_
  refine (X_aload_n (m := 298) (pc := 57) (n := 0) (by decide +kernel) rfl).trans ?_
  refine (X_aload_n (m := 298) (pc := 58) (n := 1) (by decide +kernel) rfl).trans ?_
  refine (X_iload (m := 298) (pc := 59) (n := 4) (by decide +kernel) rfl).trans ?_
  refine (X_iload (m := 298) (pc := 61) (n := 5) (by decide +kernel) rfl).trans ?_
  refine (X_call_st (m := 298) (pc := 63) (q := 43) (y := 295) (n := 4) (as := [a_r (r0), a_r (r1), a_i (x4), a_i (x5)]) (rest := []) (by decide +kernel) (by decide +kernel) (by decide +kernel) (by decide +kernel) rfl rfl (Nat.le_of_ble_eq_true rfl) (Nat.le_of_ble_eq_true rfl) rfl (by rw [show m_maxL 295 = 6 from by decide +kernel]; exact Nat.le_of_ble_eq_true rfl)).trans ?_
  exact if_pos rfl
theorem B_X9_minutesApart_66 {k : Nat → Nat × Nat} {u : Nat → Nat → Int} {g : Nat → Nat → Nat} {t : Nat × Nat × Nat} {r0 : Nat} {r1 : Nat} {r2 : Nat} {x3 : Int} {x4 : Int} {x5 : Int} {x6 : Int} {x7 : Int} {y0 : Int} : a_X 298 66 [a_r (r0), a_r (r1), a_r (r2), a_i (x3), a_i (x4), a_i (x5), a_i (x6), a_i (x7)] [a_i (y0)] (k, u, g, t) = (a_m 295 [a_r (r0), a_r (r2), a_i (x4), a_i (x5)] (k, u, g, t)).bind (a_back 298 72 3 [a_r (r0), a_r (r1), a_r (r2), a_i (x3), a_i (x4), a_i (x5), a_i (x6), a_i (x7)] [a_i (y0)]) := by
  refine (X_aload_n (m := 298) (pc := 66) (n := 0) (by decide +kernel) rfl).trans ?_
  refine (X_aload_n (m := 298) (pc := 67) (n := 2) (by decide +kernel) rfl).trans ?_
  refine (X_iload (m := 298) (pc := 68) (n := 4) (by decide +kernel) rfl).trans ?_
  refine (X_iload (m := 298) (pc := 70) (n := 5) (by decide +kernel) rfl).trans ?_
  refine (X_call_st (m := 298) (pc := 72) (q := 43) (y := 295) (n := 4) (as := [a_r (r0), a_r (r2), a_i (x4), a_i (x5)]) (rest := [a_i (y0)]) (by decide +kernel) (by decide +kernel) (by decide +kernel) (by decide +kernel) rfl rfl (Nat.le_of_ble_eq_true rfl) (Nat.le_of_ble_eq_true rfl) rfl (by rw [show m_maxL 295 = 6 from by decide +kernel]; exact Nat.le_of_ble_eq_true rfl)).trans ?_
  exact if_pos rfl
theorem B_X9_minutesApart_75 {k : Nat → Nat × Nat} {u : Nat → Nat → Int} {g : Nat → Nat → Nat} {t : Nat × Nat × Nat} {r0 : Nat} {r1 : Nat} {r2 : Nat} {x3 : Int} {x4 : Int} {x5 : Int} {x6 : Int} {x7 : Int} {y0 : Int} {y1 : Int} : a_X 298 75 [a_r (r0), a_r (r1), a_r (r2), a_i (x3), a_i (x4), a_i (x5), a_i (x6), a_i (x7)] [a_i (y1), a_i (y0)] (k, u, g, t) = if (y0 : Int) = (y1 : Int) then a_X 298 18 [a_r (r0), a_r (r1), a_r (r2), a_i (x3), a_i (x4), a_i (x7), a_i (wr (x6 + 1)), a_i (x7)] [] (k, u, g, t) else a_X 298 18 [a_r (r0), a_r (r1), a_r (r2), a_i (wr (x3 + (wr (x7 - x5)))), a_i (x4), a_i (x7), a_i (wr (x6 + 1)), a_i (x7)] [] (k, u, g, t) := by
  refine (X_ic_eq (m := 298) (pc := 75) (off := 11) (tg := 86) (by decide +kernel) (by decide +kernel)).trans ?_
  refine ite_congr rfl (fun _ => ?_) (fun _ => ?_)
  · refine (X_iload (m := 298) (pc := 86) (n := 7) (by decide +kernel) rfl).trans ?_
    refine (X_istore (m := 298) (pc := 88) (n := 5) (by decide +kernel) rfl (Nat.le_of_ble_eq_true rfl) rfl).trans ?_
    refine (X_iinc (m := 298) (pc := 90) (n := 6) (c := 1) (by decide +kernel) rfl rfl (Nat.le_of_ble_eq_true rfl) rfl).trans ?_
    refine (X_goto (m := 298) (pc := 93) (off := -75) (tg := 18) (by decide +kernel) (by decide +kernel)).trans ?_
    rfl
  · refine (X_iload_n (m := 298) (pc := 78) (n := 3) (by decide +kernel) rfl).trans ?_
    refine (X_iload (m := 298) (pc := 79) (n := 7) (by decide +kernel) rfl).trans ?_
    refine (X_iload (m := 298) (pc := 81) (n := 5) (by decide +kernel) rfl).trans ?_
    refine (X_isub (m := 298) (pc := 83)  (by decide +kernel) ).trans ?_
    refine (X_iadd (m := 298) (pc := 84)  (by decide +kernel) ).trans ?_
    refine (X_istore_n (m := 298) (pc := 85) (n := 3) (by decide +kernel) rfl (Nat.le_of_ble_eq_true rfl) rfl).trans ?_
    refine (X_iload (m := 298) (pc := 86) (n := 7) (by decide +kernel) rfl).trans ?_
    refine (X_istore (m := 298) (pc := 88) (n := 5) (by decide +kernel) rfl (Nat.le_of_ble_eq_true rfl) rfl).trans ?_
    refine (X_iinc (m := 298) (pc := 90) (n := 6) (c := 1) (by decide +kernel) rfl rfl (Nat.le_of_ble_eq_true rfl) rfl).trans ?_
    refine (X_goto (m := 298) (pc := 93) (off := -75) (tg := 18) (by decide +kernel) (by decide +kernel)).trans ?_
    rfl
theorem E_X9_firstMinute {σ : AS} {r0 : Nat} {r1 : Nat} {x2 : Int} {x3 : Int} : a_m 299 [a_r (r0), a_r (r1), a_i (x2), a_i (x3)] σ = a_X 299 0 [a_r (r0), a_r (r1), a_i (x2), a_i (x3), a_x false, a_x false, a_x false, a_x false] [] σ := a_m_eq (by rw [a_entry, show m_maxL 299 = 8 from by decide +kernel]; rfl)
theorem B_X9_firstMinute_0 {k : Nat → Nat × Nat} {u : Nat → Nat → Int} {g : Nat → Nat → Nat} {t : Nat × Nat × Nat} {r0 : Nat} {r1 : Nat} {x2 : Int} {x3 : Int} {v4 : AV} {v5 : AV} {v6 : AV} {v7 : AV} : a_X 299 0 [a_r (r0), a_r (r1), a_i (x2), a_i (x3), v4, v5, v6, v7] [] (k, u, g, t) = a_X 299 6 [a_r (r0), a_r (r1), a_i (x2), a_i (x3), a_i (-1), a_i (0), v6, v7] [] (k, u, g, t) := by
  refine (X_iconst (m := 299) (pc := 0) (n := -1) (by decide +kernel) ).trans ?_
  refine (X_istore (m := 299) (pc := 1) (n := 4) (by decide +kernel) rfl (Nat.le_of_ble_eq_true rfl) rfl).trans ?_
  refine (X_iconst (m := 299) (pc := 3) (n := 0) (by decide +kernel) ).trans ?_
  refine (X_istore (m := 299) (pc := 4) (n := 5) (by decide +kernel) rfl (Nat.le_of_ble_eq_true rfl) rfl).trans ?_
  rfl
theorem B_X9_firstMinute_6 {k : Nat → Nat × Nat} {u : Nat → Nat → Int} {g : Nat → Nat → Nat} {t : Nat × Nat × Nat} {r0 : Nat} {r1 : Nat} {x2 : Int} {x3 : Int} {x4 : Int} {x5 : Int} {v6 : AV} {v7 : AV} : a_X 299 6 [a_r (r0), a_r (r1), a_i (x2), a_i (x3), a_i (x4), a_i (x5), v6, v7] [] (k, u, g, t) = if (x5 : Int) ≥ (12 : Int) then some (.inl (some (a_i (x4))), (k, u, g, t)) else if ((k r1).1 = 20 ∨ (k r1).1 = 24) ∧ 0 ≤ (x5 : Int) ∧ (x5 : Int) < ((k r1).2 : Int) then if (k r0).1 = 9 then (a_m 84 [a_r (r0), a_i (x5), a_i (u r1 (x5 : Int).toNat)] (k, u, g, t)).bind (a_back 299 20 3 [a_r (r0), a_r (r1), a_i (x2), a_i (x3), a_i (x4), a_i (x5), v6, v7] []) else none else none := by
  refine (X_iload (m := 299) (pc := 6) (n := 5) (by decide +kernel) rfl).trans ?_
  refine (X_bipush (m := 299) (pc := 8) (n := 12) (by decide +kernel) ).trans ?_
  refine (X_ic_ge (m := 299) (pc := 10) (off := 73) (tg := 83) (by decide +kernel) (by decide +kernel)).trans ?_
  refine ite_congr rfl (fun _ => ?_) (fun _ => ?_)
  · refine (X_iload (m := 299) (pc := 83) (n := 4) (by decide +kernel) rfl).trans ?_
    exact X_ireturn (m := 299) (pc := 85) (f := 1) (by decide +kernel) (by decide +kernel) rfl
  · refine (X_aload_n (m := 299) (pc := 13) (n := 0) (by decide +kernel) rfl).trans ?_
    refine (X_iload (m := 299) (pc := 14) (n := 5) (by decide +kernel) rfl).trans ?_
    refine (X_aload_n (m := 299) (pc := 16) (n := 1) (by decide +kernel) rfl).trans ?_
    refine (X_iload (m := 299) (pc := 17) (n := 5) (by decide +kernel) rfl).trans ?_
    refine (X_iaload (m := 299) (pc := 19)  (by decide +kernel) ).trans ?_
    refine ite_congr rfl (fun _ => ?_) (fun _ => rfl)
    refine (X_call_vi (m := 299) (pc := 20) (q := 9) (y := 84) (n := 3) (as := [a_r (r0), a_i (x5), a_i (u r1 (x5 : Int).toNat)]) (rest := []) (by decide +kernel) (by decide +kernel) (by decide +kernel) (by decide +kernel) rfl rfl (Nat.le_of_ble_eq_true rfl) (Nat.le_of_ble_eq_true rfl) rfl (by rw [show m_maxL 84 = 3 from by decide +kernel]; exact Nat.le_of_ble_eq_true rfl)).trans ?_
    exact ite_congr (by simp [a_rcv, show m_recv 84 = 9 from by decide +kernel]) (fun _ => rfl) (fun _ => rfl)
theorem B_X9_firstMinute_23 {k : Nat → Nat × Nat} {u : Nat → Nat → Int} {g : Nat → Nat → Nat} {t : Nat × Nat × Nat} {r0 : Nat} {r1 : Nat} {x2 : Int} {x3 : Int} {x4 : Int} {x5 : Int} {v6 : AV} {v7 : AV} {y0 : Int} : a_X 299 23 [a_r (r0), a_r (r1), a_i (x2), a_i (x3), a_i (x4), a_i (x5), v6, v7] [a_i (y0)] (k, u, g, t) = if (k r0).1 = 9 then if ((k (g r0 1)).1 = 20 ∨ (k (g r0 1)).1 = 24) ∧ 0 ≤ (y0 : Int) ∧ (y0 : Int) < ((k (g r0 1)).2 : Int) then if (u (g r0 1) (y0 : Int).toNat : Int) ≠ (x2 : Int) then a_X 299 6 [a_r (r0), a_r (r1), a_i (x2), a_i (x3), a_i (x4), a_i (wr (x5 + 1)), a_i (y0), v7] [] (k, u, g, t) else if (k r0).1 = 9 then if ((k (g r0 3)).1 = 20 ∨ (k (g r0 3)).1 = 24) ∧ 0 ≤ (y0 : Int) ∧ (y0 : Int) < ((k (g r0 3)).2 : Int) then if (u (g r0 3) (y0 : Int).toNat : Int) ≤ (x3 : Int) then a_X 299 6 [a_r (r0), a_r (r1), a_i (x2), a_i (x3), a_i (x4), a_i (wr (x5 + 1)), a_i (y0), v7] [] (k, u, g, t) else if (k r0).1 = 9 then if ((k (g r0 2)).1 = 20 ∨ (k (g r0 2)).1 = 24) ∧ 0 ≤ (y0 : Int) ∧ (y0 : Int) < ((k (g r0 2)).2 : Int) then if (x4 : Int) = (-1 : Int) then a_X 299 6 [a_r (r0), a_r (r1), a_i (x2), a_i (x3), a_i (max (u (g r0 2) (y0 : Int).toNat) (x3)), a_i (wr (x5 + 1)), a_i (y0), a_i (max (u (g r0 2) (y0 : Int).toNat) (x3))] [] (k, u, g, t) else if (max (u (g r0 2) (y0 : Int).toNat) (x3) : Int) ≥ (x4 : Int) then a_X 299 6 [a_r (r0), a_r (r1), a_i (x2), a_i (x3), a_i (x4), a_i (wr (x5 + 1)), a_i (y0), a_i (max (u (g r0 2) (y0 : Int).toNat) (x3))] [] (k, u, g, t) else a_X 299 6 [a_r (r0), a_r (r1), a_i (x2), a_i (x3), a_i (max (u (g r0 2) (y0 : Int).toNat) (x3)), a_i (wr (x5 + 1)), a_i (y0), a_i (max (u (g r0 2) (y0 : Int).toNat) (x3))] [] (k, u, g, t) else none else none else none else none else none else none := by
  refine (X_istore (m := 299) (pc := 23) (n := 6) (by decide +kernel) rfl (Nat.le_of_ble_eq_true rfl) rfl).trans ?_
  refine (X_aload_n (m := 299) (pc := 25) (n := 0) (by decide +kernel) rfl).trans ?_
  refine (X_getR (m := 299) (pc := 26) (n := 23) (c := 9) (q := 1) (fi := true) (by decide +kernel) (by decide +kernel)).trans ?_
  refine ite_congr rfl (fun _ => ?_) (fun _ => rfl)
  refine (X_iload (m := 299) (pc := 29) (n := 6) (by decide +kernel) rfl).trans ?_
  refine (X_iaload (m := 299) (pc := 31)  (by decide +kernel) ).trans ?_
  refine ite_congr rfl (fun _ => ?_) (fun _ => rfl)
  refine (X_iload_n (m := 299) (pc := 32) (n := 2) (by decide +kernel) rfl).trans ?_
  refine (X_ic_ne (m := 299) (pc := 33) (off := 44) (tg := 77) (by decide +kernel) (by decide +kernel)).trans ?_
  refine ite_congr rfl (fun _ => ?_) (fun _ => ?_)
  · refine (X_iinc (m := 299) (pc := 77) (n := 5) (c := 1) (by decide +kernel) rfl rfl (Nat.le_of_ble_eq_true rfl) rfl).trans ?_
    refine (X_goto (m := 299) (pc := 80) (off := -74) (tg := 6) (by decide +kernel) (by decide +kernel)).trans ?_
    rfl
  · refine (X_aload_n (m := 299) (pc := 36) (n := 0) (by decide +kernel) rfl).trans ?_
    refine (X_getR (m := 299) (pc := 37) (n := 34) (c := 9) (q := 3) (fi := true) (by decide +kernel) (by decide +kernel)).trans ?_
    refine ite_congr rfl (fun _ => ?_) (fun _ => rfl)
    refine (X_iload (m := 299) (pc := 40) (n := 6) (by decide +kernel) rfl).trans ?_
    refine (X_iaload (m := 299) (pc := 42)  (by decide +kernel) ).trans ?_
    refine ite_congr rfl (fun _ => ?_) (fun _ => rfl)
    refine (X_iload_n (m := 299) (pc := 43) (n := 3) (by decide +kernel) rfl).trans ?_
    refine (X_ic_le (m := 299) (pc := 44) (off := 33) (tg := 77) (by decide +kernel) (by decide +kernel)).trans ?_
    refine ite_congr rfl (fun _ => ?_) (fun _ => ?_)
    · refine (X_iinc (m := 299) (pc := 77) (n := 5) (c := 1) (by decide +kernel) rfl rfl (Nat.le_of_ble_eq_true rfl) rfl).trans ?_
      refine (X_goto (m := 299) (pc := 80) (off := -74) (tg := 6) (by decide +kernel) (by decide +kernel)).trans ?_
      rfl
    · refine (X_aload_n (m := 299) (pc := 47) (n := 0) (by decide +kernel) rfl).trans ?_
      refine (X_getR (m := 299) (pc := 48) (n := 26) (c := 9) (q := 2) (fi := true) (by decide +kernel) (by decide +kernel)).trans ?_
      refine ite_congr rfl (fun _ => ?_) (fun _ => rfl)
      refine (X_iload (m := 299) (pc := 51) (n := 6) (by decide +kernel) rfl).trans ?_
      refine (X_iaload (m := 299) (pc := 53)  (by decide +kernel) ).trans ?_
      refine ite_congr rfl (fun _ => ?_) (fun _ => rfl)
      refine (X_iload_n (m := 299) (pc := 54) (n := 3) (by decide +kernel) rfl).trans ?_
      refine (X_max (m := 299) (pc := 55) (q := 46) (by decide +kernel) (by decide +kernel) (Nat.le_of_ble_eq_true rfl)).trans ?_
      refine (X_istore (m := 299) (pc := 58) (n := 7) (by decide +kernel) rfl (Nat.le_of_ble_eq_true rfl) rfl).trans ?_
      refine (X_iload (m := 299) (pc := 60) (n := 4) (by decide +kernel) rfl).trans ?_
      refine (X_iconst (m := 299) (pc := 62) (n := -1) (by decide +kernel) ).trans ?_
      refine (X_ic_eq (m := 299) (pc := 63) (off := 10) (tg := 73) (by decide +kernel) (by decide +kernel)).trans ?_
      refine ite_congr rfl (fun _ => ?_) (fun _ => ?_)
      · refine (X_iload (m := 299) (pc := 73) (n := 7) (by decide +kernel) rfl).trans ?_
        refine (X_istore (m := 299) (pc := 75) (n := 4) (by decide +kernel) rfl (Nat.le_of_ble_eq_true rfl) rfl).trans ?_
        refine (X_iinc (m := 299) (pc := 77) (n := 5) (c := 1) (by decide +kernel) rfl rfl (Nat.le_of_ble_eq_true rfl) rfl).trans ?_
        refine (X_goto (m := 299) (pc := 80) (off := -74) (tg := 6) (by decide +kernel) (by decide +kernel)).trans ?_
        rfl
      · refine (X_iload (m := 299) (pc := 66) (n := 7) (by decide +kernel) rfl).trans ?_
        refine (X_iload (m := 299) (pc := 68) (n := 4) (by decide +kernel) rfl).trans ?_
        refine (X_ic_ge (m := 299) (pc := 70) (off := 7) (tg := 77) (by decide +kernel) (by decide +kernel)).trans ?_
        refine ite_congr rfl (fun _ => ?_) (fun _ => ?_)
        · refine (X_iinc (m := 299) (pc := 77) (n := 5) (c := 1) (by decide +kernel) rfl rfl (Nat.le_of_ble_eq_true rfl) rfl).trans ?_
          refine (X_goto (m := 299) (pc := 80) (off := -74) (tg := 6) (by decide +kernel) (by decide +kernel)).trans ?_
          rfl
        · refine (X_iload (m := 299) (pc := 73) (n := 7) (by decide +kernel) rfl).trans ?_
          refine (X_istore (m := 299) (pc := 75) (n := 4) (by decide +kernel) rfl (Nat.le_of_ble_eq_true rfl) rfl).trans ?_
          refine (X_iinc (m := 299) (pc := 77) (n := 5) (c := 1) (by decide +kernel) rfl rfl (Nat.le_of_ble_eq_true rfl) rfl).trans ?_
          refine (X_goto (m := 299) (pc := 80) (off := -74) (tg := 6) (by decide +kernel) (by decide +kernel)).trans ?_
          rfl
theorem E_X9_clashing {σ : AS} {r0 : Nat} {r1 : Nat} : a_m 300 [a_r (r0), a_r (r1)] σ = a_X 300 0 [a_r (r0), a_r (r1), a_x false, a_x false, a_x false] [] σ := a_m_eq (by rw [a_entry, show m_maxL 300 = 5 from by decide +kernel]; rfl)
theorem B_X9_clashing_0 {k : Nat → Nat × Nat} {u : Nat → Nat → Int} {g : Nat → Nat → Nat} {t : Nat × Nat × Nat} {r0 : Nat} {r1 : Nat} {v2 : AV} {v3 : AV} {v4 : AV} : a_X 300 0 [a_r (r0), a_r (r1), v2, v3, v4] [] (k, u, g, t) = a_X 300 4 [a_r (r0), a_r (r1), a_i (0), a_i (0), v4] [] (k, u, g, t) := by
  refine (X_iconst (m := 300) (pc := 0) (n := 0) (by decide +kernel) ).trans ?_
  refine (X_istore_n (m := 300) (pc := 1) (n := 2) (by decide +kernel) rfl (Nat.le_of_ble_eq_true rfl) rfl).trans ?_
  refine (X_iconst (m := 300) (pc := 2) (n := 0) (by decide +kernel) ).trans ?_
  refine (X_istore_n (m := 300) (pc := 3) (n := 3) (by decide +kernel) rfl (Nat.le_of_ble_eq_true rfl) rfl).trans ?_
  rfl
theorem B_X9_clashing_4 {k : Nat → Nat × Nat} {u : Nat → Nat → Int} {g : Nat → Nat → Nat} {t : Nat × Nat × Nat} {r0 : Nat} {r1 : Nat} {x2 : Int} {x3 : Int} {v4 : AV} : a_X 300 4 [a_r (r0), a_r (r1), a_i (x2), a_i (x3), v4] [] (k, u, g, t) = if (x3 : Int) ≥ (12 : Int) then some (.inl (some (a_i (x2))), (k, u, g, t)) else a_X 300 13 [a_r (r0), a_r (r1), a_i (x2), a_i (x3), a_i (0)] [] (k, u, g, t) := by
  refine (X_iload_n (m := 300) (pc := 4) (n := 3) (by decide +kernel) rfl).trans ?_
  refine (X_bipush (m := 300) (pc := 5) (n := 12) (by decide +kernel) ).trans ?_
  refine (X_ic_ge (m := 300) (pc := 7) (off := 52) (tg := 59) (by decide +kernel) (by decide +kernel)).trans ?_
  refine ite_congr rfl (fun _ => ?_) (fun _ => ?_)
  · refine (X_iload_n (m := 300) (pc := 59) (n := 2) (by decide +kernel) rfl).trans ?_
    exact X_ireturn (m := 300) (pc := 60) (f := 1) (by decide +kernel) (by decide +kernel) rfl
  · refine (X_iconst (m := 300) (pc := 10) (n := 0) (by decide +kernel) ).trans ?_
    refine (X_istore (m := 300) (pc := 11) (n := 4) (by decide +kernel) rfl (Nat.le_of_ble_eq_true rfl) rfl).trans ?_
    rfl
theorem B_X9_clashing_13 {k : Nat → Nat × Nat} {u : Nat → Nat → Int} {g : Nat → Nat → Nat} {t : Nat × Nat × Nat} {r0 : Nat} {r1 : Nat} {x2 : Int} {x3 : Int} {x4 : Int} : a_X 300 13 [a_r (r0), a_r (r1), a_i (x2), a_i (x3), a_i (x4)] [] (k, u, g, t) = if (x4 : Int) ≥ (x3 : Int) then a_X 300 4 [a_r (r0), a_r (r1), a_i (x2), a_i (wr (x3 + 1)), a_i (x4)] [] (k, u, g, t) else if ((k r1).1 = 20 ∨ (k r1).1 = 24) ∧ 0 ≤ (x3 : Int) ∧ (x3 : Int) < ((k r1).2 : Int) then if (k r0).1 = 9 then (a_m 84 [a_r (r0), a_i (x3), a_i (u r1 (x3 : Int).toNat)] (k, u, g, t)).bind (a_back 300 25 3 [a_r (r0), a_r (r1), a_i (x2), a_i (x3), a_i (x4)] [a_r (r0)]) else none else none := by
  refine (X_iload (m := 300) (pc := 13) (n := 4) (by decide +kernel) rfl).trans ?_
  refine (X_iload_n (m := 300) (pc := 15) (n := 3) (by decide +kernel) rfl).trans ?_
  refine (X_ic_ge (m := 300) (pc := 16) (off := 37) (tg := 53) (by decide +kernel) (by decide +kernel)).trans ?_
  refine ite_congr rfl (fun _ => ?_) (fun _ => ?_)
  · refine (X_iinc (m := 300) (pc := 53) (n := 3) (c := 1) (by decide +kernel) rfl rfl (Nat.le_of_ble_eq_true rfl) rfl).trans ?_
    refine (X_goto (m := 300) (pc := 56) (off := -52) (tg := 4) (by decide +kernel) (by decide +kernel)).trans ?_
    rfl
  · refine (X_aload_n (m := 300) (pc := 19) (n := 0) (by decide +kernel) rfl).trans ?_
    refine (X_aload_n (m := 300) (pc := 20) (n := 0) (by decide +kernel) rfl).trans ?_
    refine (X_iload_n (m := 300) (pc := 21) (n := 3) (by decide +kernel) rfl).trans ?_
    refine (X_aload_n (m := 300) (pc := 22) (n := 1) (by decide +kernel) rfl).trans ?_
    refine (X_iload_n (m := 300) (pc := 23) (n := 3) (by decide +kernel) rfl).trans ?_
    refine (X_iaload (m := 300) (pc := 24)  (by decide +kernel) ).trans ?_
    refine ite_congr rfl (fun _ => ?_) (fun _ => rfl)
    refine (X_call_vi (m := 300) (pc := 25) (q := 9) (y := 84) (n := 3) (as := [a_r (r0), a_i (x3), a_i (u r1 (x3 : Int).toNat)]) (rest := [a_r (r0)]) (by decide +kernel) (by decide +kernel) (by decide +kernel) (by decide +kernel) rfl rfl (Nat.le_of_ble_eq_true rfl) (Nat.le_of_ble_eq_true rfl) rfl (by rw [show m_maxL 84 = 3 from by decide +kernel]; exact Nat.le_of_ble_eq_true rfl)).trans ?_
    exact ite_congr (by simp [a_rcv, show m_recv 84 = 9 from by decide +kernel]) (fun _ => rfl) (fun _ => rfl)
theorem B_X9_clashing_28 {k : Nat → Nat × Nat} {u : Nat → Nat → Int} {g : Nat → Nat → Nat} {t : Nat × Nat × Nat} {r0 : Nat} {r1 : Nat} {x2 : Int} {x3 : Int} {x4 : Int} {q0 : Nat} {y1 : Int} : a_X 300 28 [a_r (r0), a_r (r1), a_i (x2), a_i (x3), a_i (x4)] [a_i (y1), a_r (q0)] (k, u, g, t) = if ((k r1).1 = 20 ∨ (k r1).1 = 24) ∧ 0 ≤ (x4 : Int) ∧ (x4 : Int) < ((k r1).2 : Int) then if (k r0).1 = 9 then (a_m 84 [a_r (r0), a_i (x4), a_i (u r1 (x4 : Int).toNat)] (k, u, g, t)).bind (a_back 300 35 3 [a_r (r0), a_r (r1), a_i (x2), a_i (x3), a_i (x4)] [a_i (y1), a_r (q0)]) else none else none := by
  refine (X_aload_n (m := 300) (pc := 28) (n := 0) (by decide +kernel) rfl).trans ?_
  refine (X_iload (m := 300) (pc := 29) (n := 4) (by decide +kernel) rfl).trans ?_
  refine (X_aload_n (m := 300) (pc := 31) (n := 1) (by decide +kernel) rfl).trans ?_
  refine (X_iload (m := 300) (pc := 32) (n := 4) (by decide +kernel) rfl).trans ?_
  refine (X_iaload (m := 300) (pc := 34)  (by decide +kernel) ).trans ?_
  refine ite_congr rfl (fun _ => ?_) (fun _ => rfl)
  refine (X_call_vi (m := 300) (pc := 35) (q := 9) (y := 84) (n := 3) (as := [a_r (r0), a_i (x4), a_i (u r1 (x4 : Int).toNat)]) (rest := [a_i (y1), a_r (q0)]) (by decide +kernel) (by decide +kernel) (by decide +kernel) (by decide +kernel) rfl rfl (Nat.le_of_ble_eq_true rfl) (Nat.le_of_ble_eq_true rfl) rfl (by rw [show m_maxL 84 = 3 from by decide +kernel]; exact Nat.le_of_ble_eq_true rfl)).trans ?_
  exact ite_congr (by simp [a_rcv, show m_recv 84 = 9 from by decide +kernel]) (fun _ => rfl) (fun _ => rfl)
theorem B_X9_clashing_38 {k : Nat → Nat × Nat} {u : Nat → Nat → Int} {g : Nat → Nat → Nat} {t : Nat × Nat × Nat} {r0 : Nat} {r1 : Nat} {x2 : Int} {x3 : Int} {x4 : Int} {q0 : Nat} {y1 : Int} {y2 : Int} : a_X 300 38 [a_r (r0), a_r (r1), a_i (x2), a_i (x3), a_i (x4)] [a_i (y2), a_i (y1), a_r (q0)] (k, u, g, t) = (a_m 301 [a_r (q0), a_i (y1), a_i (y2)] (k, u, g, t)).bind (a_back 300 38 3 [a_r (r0), a_r (r1), a_i (x2), a_i (x3), a_i (x4)] []) := by
  refine (X_call_st (m := 300) (pc := 38) (q := 49) (y := 301) (n := 3) (as := [a_r (q0), a_i (y1), a_i (y2)]) (rest := []) (by decide +kernel) (by decide +kernel) (by decide +kernel) (by decide +kernel) rfl rfl (Nat.le_of_ble_eq_true rfl) (Nat.le_of_ble_eq_true rfl) rfl (by rw [show m_maxL 301 = 3 from by decide +kernel]; exact Nat.le_of_ble_eq_true rfl)).trans ?_
  exact if_pos rfl
theorem B_X9_clashing_41 {k : Nat → Nat × Nat} {u : Nat → Nat → Int} {g : Nat → Nat → Nat} {t : Nat × Nat × Nat} {r0 : Nat} {r1 : Nat} {x2 : Int} {x3 : Int} {x4 : Int} {y0 : Int} : a_X 300 41 [a_r (r0), a_r (r1), a_i (x2), a_i (x3), a_i (x4)] [a_i (y0)] (k, u, g, t) = if (y0 : Int) = 0 then a_X 300 13 [a_r (r0), a_r (r1), a_i (x2), a_i (x3), a_i (wr (x4 + 1))] [] (k, u, g, t) else a_X 300 13 [a_r (r0), a_r (r1), a_i (wr (x2 + 1)), a_i (x3), a_i (wr (x4 + 1))] [] (k, u, g, t) := by
  refine (X_if_eq (m := 300) (pc := 41) (off := 6) (tg := 47) (by decide +kernel) (by decide +kernel)).trans ?_
  refine ite_congr rfl (fun _ => ?_) (fun _ => ?_)
  · refine (X_iinc (m := 300) (pc := 47) (n := 4) (c := 1) (by decide +kernel) rfl rfl (Nat.le_of_ble_eq_true rfl) rfl).trans ?_
    refine (X_goto (m := 300) (pc := 50) (off := -37) (tg := 13) (by decide +kernel) (by decide +kernel)).trans ?_
    rfl
  · refine (X_iinc (m := 300) (pc := 44) (n := 2) (c := 1) (by decide +kernel) rfl rfl (Nat.le_of_ble_eq_true rfl) rfl).trans ?_
    refine (X_iinc (m := 300) (pc := 47) (n := 4) (c := 1) (by decide +kernel) rfl rfl (Nat.le_of_ble_eq_true rfl) rfl).trans ?_
    refine (X_goto (m := 300) (pc := 50) (off := -37) (tg := 13) (by decide +kernel) (by decide +kernel)).trans ?_
    rfl
theorem E_X9_isClash {σ : AS} {r0 : Nat} {x1 : Int} {x2 : Int} : a_m 301 [a_r (r0), a_i (x1), a_i (x2)] σ = a_X 301 0 [a_r (r0), a_i (x1), a_i (x2)] [] σ := a_m_eq (by rw [a_entry, show m_maxL 301 = 3 from by decide +kernel]; rfl)
theorem B_X9_isClash_0 {k : Nat → Nat × Nat} {u : Nat → Nat → Int} {g : Nat → Nat → Nat} {t : Nat × Nat × Nat} {r0 : Nat} {x1 : Int} {x2 : Int} : a_X 301 0 [a_r (r0), a_i (x1), a_i (x2)] [] (k, u, g, t) = if (k r0).1 = 9 then if ((k (g r0 0)).1 = 20 ∨ (k (g r0 0)).1 = 24) ∧ 0 ≤ (x1 : Int) ∧ (x1 : Int) < ((k (g r0 0)).2 : Int) then if (k r0).1 = 9 then if ((k (g r0 0)).1 = 20 ∨ (k (g r0 0)).1 = 24) ∧ 0 ≤ (x2 : Int) ∧ (x2 : Int) < ((k (g r0 0)).2 : Int) then if (u (g r0 0) (x1 : Int).toNat : Int) = (u (g r0 0) (x2 : Int).toNat : Int) then some (.inl (some (a_i (0))), (k, u, g, t)) else if (k r0).1 = 9 then if ((k (g r0 1)).1 = 20 ∨ (k (g r0 1)).1 = 24) ∧ 0 ≤ (x1 : Int) ∧ (x1 : Int) < ((k (g r0 1)).2 : Int) then if (k r0).1 = 9 then if ((k (g r0 1)).1 = 20 ∨ (k (g r0 1)).1 = 24) ∧ 0 ≤ (x2 : Int) ∧ (x2 : Int) < ((k (g r0 1)).2 : Int) then if (u (g r0 1) (x1 : Int).toNat : Int) ≠ (u (g r0 1) (x2 : Int).toNat : Int) then some (.inl (some (a_i (0))), (k, u, g, t)) else if (k r0).1 = 9 then if ((k (g r0 2)).1 = 20 ∨ (k (g r0 2)).1 = 24) ∧ 0 ≤ (x1 : Int) ∧ (x1 : Int) < ((k (g r0 2)).2 : Int) then if (k r0).1 = 9 then if ((k (g r0 2)).1 = 20 ∨ (k (g r0 2)).1 = 24) ∧ 0 ≤ (x2 : Int) ∧ (x2 : Int) < ((k (g r0 2)).2 : Int) then if (k r0).1 = 9 then if ((k (g r0 3)).1 = 20 ∨ (k (g r0 3)).1 = 24) ∧ 0 ≤ (x1 : Int) ∧ (x1 : Int) < ((k (g r0 3)).2 : Int) then if (k r0).1 = 9 then if ((k (g r0 3)).1 = 20 ∨ (k (g r0 3)).1 = 24) ∧ 0 ≤ (x2 : Int) ∧ (x2 : Int) < ((k (g r0 3)).2 : Int) then if (max (u (g r0 2) (x1 : Int).toNat) (u (g r0 2) (x2 : Int).toNat) : Int) ≥ (min (u (g r0 3) (x1 : Int).toNat) (u (g r0 3) (x2 : Int).toNat) : Int) then some (.inl (some (a_i (0))), (k, u, g, t)) else some (.inl (some (a_i (1))), (k, u, g, t)) else none else none else none else none else none else none else none else none else none else none else none else none else none else none else none else none := by
  refine (X_aload_n (m := 301) (pc := 0) (n := 0) (by decide +kernel) rfl).trans ?_
  refine (X_getR (m := 301) (pc := 1) (n := 19) (c := 9) (q := 0) (fi := true) (by decide +kernel) (by decide +kernel)).trans ?_
  refine ite_congr rfl (fun _ => ?_) (fun _ => rfl)
  refine (X_iload_n (m := 301) (pc := 4) (n := 1) (by decide +kernel) rfl).trans ?_
  refine (X_iaload (m := 301) (pc := 5)  (by decide +kernel) ).trans ?_
  refine ite_congr rfl (fun _ => ?_) (fun _ => rfl)
  refine (X_aload_n (m := 301) (pc := 6) (n := 0) (by decide +kernel) rfl).trans ?_
  refine (X_getR (m := 301) (pc := 7) (n := 19) (c := 9) (q := 0) (fi := true) (by decide +kernel) (by decide +kernel)).trans ?_
  refine ite_congr rfl (fun _ => ?_) (fun _ => rfl)
  refine (X_iload_n (m := 301) (pc := 10) (n := 2) (by decide +kernel) rfl).trans ?_
  refine (X_iaload (m := 301) (pc := 11)  (by decide +kernel) ).trans ?_
  refine ite_congr rfl (fun _ => ?_) (fun _ => rfl)
  refine (X_ic_eq (m := 301) (pc := 12) (off := 55) (tg := 67) (by decide +kernel) (by decide +kernel)).trans ?_
  refine ite_congr rfl (fun _ => ?_) (fun _ => ?_)
  · refine (X_iconst (m := 301) (pc := 67) (n := 0) (by decide +kernel) ).trans ?_
    exact X_ireturn (m := 301) (pc := 68) (f := 2) (by decide +kernel) (by decide +kernel) rfl
  · refine (X_aload_n (m := 301) (pc := 15) (n := 0) (by decide +kernel) rfl).trans ?_
    refine (X_getR (m := 301) (pc := 16) (n := 23) (c := 9) (q := 1) (fi := true) (by decide +kernel) (by decide +kernel)).trans ?_
    refine ite_congr rfl (fun _ => ?_) (fun _ => rfl)
    refine (X_iload_n (m := 301) (pc := 19) (n := 1) (by decide +kernel) rfl).trans ?_
    refine (X_iaload (m := 301) (pc := 20)  (by decide +kernel) ).trans ?_
    refine ite_congr rfl (fun _ => ?_) (fun _ => rfl)
    refine (X_aload_n (m := 301) (pc := 21) (n := 0) (by decide +kernel) rfl).trans ?_
    refine (X_getR (m := 301) (pc := 22) (n := 23) (c := 9) (q := 1) (fi := true) (by decide +kernel) (by decide +kernel)).trans ?_
    refine ite_congr rfl (fun _ => ?_) (fun _ => rfl)
    refine (X_iload_n (m := 301) (pc := 25) (n := 2) (by decide +kernel) rfl).trans ?_
    refine (X_iaload (m := 301) (pc := 26)  (by decide +kernel) ).trans ?_
    refine ite_congr rfl (fun _ => ?_) (fun _ => rfl)
    refine (X_ic_ne (m := 301) (pc := 27) (off := 40) (tg := 67) (by decide +kernel) (by decide +kernel)).trans ?_
    refine ite_congr rfl (fun _ => ?_) (fun _ => ?_)
    · refine (X_iconst (m := 301) (pc := 67) (n := 0) (by decide +kernel) ).trans ?_
      exact X_ireturn (m := 301) (pc := 68) (f := 2) (by decide +kernel) (by decide +kernel) rfl
    · refine (X_aload_n (m := 301) (pc := 30) (n := 0) (by decide +kernel) rfl).trans ?_
      refine (X_getR (m := 301) (pc := 31) (n := 26) (c := 9) (q := 2) (fi := true) (by decide +kernel) (by decide +kernel)).trans ?_
      refine ite_congr rfl (fun _ => ?_) (fun _ => rfl)
      refine (X_iload_n (m := 301) (pc := 34) (n := 1) (by decide +kernel) rfl).trans ?_
      refine (X_iaload (m := 301) (pc := 35)  (by decide +kernel) ).trans ?_
      refine ite_congr rfl (fun _ => ?_) (fun _ => rfl)
      refine (X_aload_n (m := 301) (pc := 36) (n := 0) (by decide +kernel) rfl).trans ?_
      refine (X_getR (m := 301) (pc := 37) (n := 26) (c := 9) (q := 2) (fi := true) (by decide +kernel) (by decide +kernel)).trans ?_
      refine ite_congr rfl (fun _ => ?_) (fun _ => rfl)
      refine (X_iload_n (m := 301) (pc := 40) (n := 2) (by decide +kernel) rfl).trans ?_
      refine (X_iaload (m := 301) (pc := 41)  (by decide +kernel) ).trans ?_
      refine ite_congr rfl (fun _ => ?_) (fun _ => rfl)
      refine (X_max (m := 301) (pc := 42) (q := 46) (by decide +kernel) (by decide +kernel) (Nat.le_of_ble_eq_true rfl)).trans ?_
      refine (X_aload_n (m := 301) (pc := 45) (n := 0) (by decide +kernel) rfl).trans ?_
      refine (X_getR (m := 301) (pc := 46) (n := 34) (c := 9) (q := 3) (fi := true) (by decide +kernel) (by decide +kernel)).trans ?_
      refine ite_congr rfl (fun _ => ?_) (fun _ => rfl)
      refine (X_iload_n (m := 301) (pc := 49) (n := 1) (by decide +kernel) rfl).trans ?_
      refine (X_iaload (m := 301) (pc := 50)  (by decide +kernel) ).trans ?_
      refine ite_congr rfl (fun _ => ?_) (fun _ => rfl)
      refine (X_aload_n (m := 301) (pc := 51) (n := 0) (by decide +kernel) rfl).trans ?_
      refine (X_getR (m := 301) (pc := 52) (n := 34) (c := 9) (q := 3) (fi := true) (by decide +kernel) (by decide +kernel)).trans ?_
      refine ite_congr rfl (fun _ => ?_) (fun _ => rfl)
      refine (X_iload_n (m := 301) (pc := 55) (n := 2) (by decide +kernel) rfl).trans ?_
      refine (X_iaload (m := 301) (pc := 56)  (by decide +kernel) ).trans ?_
      refine ite_congr rfl (fun _ => ?_) (fun _ => rfl)
      refine (X_min (m := 301) (pc := 57) (q := 29) (by decide +kernel) (by decide +kernel) (Nat.le_of_ble_eq_true rfl)).trans ?_
      refine (X_ic_ge (m := 301) (pc := 60) (off := 7) (tg := 67) (by decide +kernel) (by decide +kernel)).trans ?_
      refine ite_congr rfl (fun _ => ?_) (fun _ => ?_)
      · refine (X_iconst (m := 301) (pc := 67) (n := 0) (by decide +kernel) ).trans ?_
        exact X_ireturn (m := 301) (pc := 68) (f := 2) (by decide +kernel) (by decide +kernel) rfl
      · refine (X_iconst (m := 301) (pc := 63) (n := 1) (by decide +kernel) ).trans ?_
        refine (X_goto (m := 301) (pc := 64) (off := 4) (tg := 68) (by decide +kernel) (by decide +kernel)).trans ?_
        exact X_ireturn (m := 301) (pc := 68) (f := 2) (by decide +kernel) (by decide +kernel) rfl
