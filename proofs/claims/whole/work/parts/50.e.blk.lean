/-! block equations, by wip/whole/gen_blocks.py -/
theorem E_X4_reset {σ : AS} {r0 : Nat} : a_m 30 [a_r (r0)] σ = a_X 30 0 [a_r (r0), a_x false] [] σ := a_m_eq (by rw [a_entry, show m_maxL 30 = 2 from by decide +kernel]; rfl)
theorem B_X4_reset_0 {k : Nat → Nat × Nat} {u : Nat → Nat → Int} {g : Nat → Nat → Nat} {t : Nat × Nat × Nat} {r0 : Nat} {v1 : AV} : a_X 30 0 [a_r (r0), v1] [] (k, u, g, t) = if (k r0).1 = 5 then if (k (g r0 0)).1 = 9 then (a_m 80 [a_r (g r0 0)] (k, u, g, t)).bind (a_back 30 4 3 [a_r (r0), v1] []) else none else none := by
  refine (X_aload_n (m := 30) (pc := 0) (n := 0) (by decide +kernel) rfl).trans ?_
  refine (X_getR (m := 30) (pc := 1) (n := 12) (c := 5) (q := 0) (fi := true) (by decide +kernel) (by decide +kernel)).trans ?_
  refine ite_congr rfl (fun _ => ?_) (fun _ => rfl)
  refine (X_call_vi (m := 30) (pc := 4) (q := 68) (y := 80) (n := 1) (as := [a_r (g r0 0)]) (rest := []) (by decide +kernel) (by decide +kernel) (by decide +kernel) (by decide +kernel) rfl rfl (Nat.le_of_ble_eq_true rfl) (Nat.le_of_ble_eq_true rfl) rfl (by rw [show m_maxL 80 = 2 from by decide +kernel]; exact Nat.le_of_ble_eq_true rfl)).trans ?_
  exact ite_congr (by simp [a_rcv, show m_recv 80 = 9 from by decide +kernel]) (fun _ => rfl) (fun _ => rfl)
theorem B_X4_reset_7 {k : Nat → Nat × Nat} {u : Nat → Nat → Int} {g : Nat → Nat → Nat} {t : Nat × Nat × Nat} {r0 : Nat} {v1 : AV} : a_X 30 7 [a_r (r0), v1] [] (k, u, g, t) = a_X 30 9 [a_r (r0), a_i (0)] [] (k, u, g, t) := by
  refine (X_iconst (m := 30) (pc := 7) (n := 0) (by decide +kernel) ).trans ?_
  refine (X_istore_n (m := 30) (pc := 8) (n := 1) (by decide +kernel) rfl (Nat.le_of_ble_eq_true rfl) rfl).trans ?_
  rfl
theorem B_X4_reset_9 {k : Nat → Nat × Nat} {u : Nat → Nat → Int} {g : Nat → Nat → Nat} {t : Nat × Nat × Nat} {r0 : Nat} {x1 : Int} : a_X 30 9 [a_r (r0), a_i (x1)] [] (k, u, g, t) = if (x1 : Int) ≥ (12 : Int) then if (k r0).1 = 5 then if (k (g r0 2)).1 = 1 then if (k r0).1 = 5 then if (k r0).1 = 5 then if (k r0).1 = 5 then if (k r0).1 = 5 then if (k r0).1 = 5 then some (.inl none, (k, (upm (upm (upm (upm (upm (upm u (g r0 2) 1 0) r0 4 0) r0 5 0) r0 6 0) r0 7 0) r0 8 0), g, t)) else none else none else none else none else none else none else none else if (k r0).1 = 5 then if (k (g r0 1)).1 = 20 ∧ 0 ≤ (x1 : Int) ∧ (x1 : Int) < ((k (g r0 1)).2 : Int) then a_X 30 9 [a_r (r0), a_i (wr (x1 + 1))] [] (k, (upm u (g r0 1) (x1 : Int).toNat 0), g, t) else none else none := by
  refine (X_iload_n (m := 30) (pc := 9) (n := 1) (by decide +kernel) rfl).trans ?_
  refine (X_bipush (m := 30) (pc := 10) (n := 12) (by decide +kernel) ).trans ?_
  refine (X_ic_ge (m := 30) (pc := 12) (off := 16) (tg := 28) (by decide +kernel) (by decide +kernel)).trans ?_
  refine ite_congr rfl (fun _ => ?_) (fun _ => ?_)
  · refine (X_aload_n (m := 30) (pc := 28) (n := 0) (by decide +kernel) rfl).trans ?_
    refine (X_getR (m := 30) (pc := 29) (n := 25) (c := 5) (q := 2) (fi := true) (by decide +kernel) (by decide +kernel)).trans ?_
    refine ite_congr rfl (fun _ => ?_) (fun _ => rfl)
    refine (X_iconst (m := 30) (pc := 32) (n := 0) (by decide +kernel) ).trans ?_
    refine (X_putI (m := 30) (pc := 33) (n := 71) (c := 1) (q := 1) (fi := false) (by decide +kernel) (by decide +kernel) (fun h => by cases h) (by decide +kernel)).trans ?_
    refine ite_congr rfl (fun _ => ?_) (fun _ => rfl)
    refine (X_aload_n (m := 30) (pc := 36) (n := 0) (by decide +kernel) rfl).trans ?_
    refine (X_iconst (m := 30) (pc := 37) (n := 0) (by decide +kernel) ).trans ?_
    refine (X_putI (m := 30) (pc := 38) (n := 49) (c := 5) (q := 4) (fi := false) (by decide +kernel) (by decide +kernel) (fun h => by cases h) (by decide +kernel)).trans ?_
    refine ite_congr rfl (fun _ => ?_) (fun _ => rfl)
    refine (X_aload_n (m := 30) (pc := 41) (n := 0) (by decide +kernel) rfl).trans ?_
    refine (X_iconst (m := 30) (pc := 42) (n := 0) (by decide +kernel) ).trans ?_
    refine (X_putI (m := 30) (pc := 43) (n := 56) (c := 5) (q := 5) (fi := false) (by decide +kernel) (by decide +kernel) (fun h => by cases h) (by decide +kernel)).trans ?_
    refine ite_congr rfl (fun _ => ?_) (fun _ => rfl)
    refine (X_aload_n (m := 30) (pc := 46) (n := 0) (by decide +kernel) rfl).trans ?_
    refine (X_iconst (m := 30) (pc := 47) (n := 0) (by decide +kernel) ).trans ?_
    refine (X_putI (m := 30) (pc := 48) (n := 59) (c := 5) (q := 6) (fi := false) (by decide +kernel) (by decide +kernel) (fun h => by cases h) (by decide +kernel)).trans ?_
    refine ite_congr rfl (fun _ => ?_) (fun _ => rfl)
    refine (X_aload_n (m := 30) (pc := 51) (n := 0) (by decide +kernel) rfl).trans ?_
    refine (X_iconst (m := 30) (pc := 52) (n := 0) (by decide +kernel) ).trans ?_
    refine (X_putI (m := 30) (pc := 53) (n := 62) (c := 5) (q := 7) (fi := false) (by decide +kernel) (by decide +kernel) (fun h => by cases h) (by decide +kernel)).trans ?_
    refine ite_congr rfl (fun _ => ?_) (fun _ => rfl)
    refine (X_aload_n (m := 30) (pc := 56) (n := 0) (by decide +kernel) rfl).trans ?_
    refine (X_iconst (m := 30) (pc := 57) (n := 0) (by decide +kernel) ).trans ?_
    refine (X_putI (m := 30) (pc := 58) (n := 65) (c := 5) (q := 8) (fi := false) (by decide +kernel) (by decide +kernel) (fun h => by cases h) (by decide +kernel)).trans ?_
    refine ite_congr rfl (fun _ => ?_) (fun _ => rfl)
    exact X_return (m := 30) (pc := 61) (by decide +kernel) (by decide +kernel)
  · refine (X_aload_n (m := 30) (pc := 15) (n := 0) (by decide +kernel) rfl).trans ?_
    refine (X_getR (m := 30) (pc := 16) (n := 18) (c := 5) (q := 1) (fi := true) (by decide +kernel) (by decide +kernel)).trans ?_
    refine ite_congr rfl (fun _ => ?_) (fun _ => rfl)
    refine (X_iload_n (m := 30) (pc := 19) (n := 1) (by decide +kernel) rfl).trans ?_
    refine (X_iconst (m := 30) (pc := 20) (n := 0) (by decide +kernel) ).trans ?_
    refine (X_iastore (m := 30) (pc := 21)  (by decide +kernel) ).trans ?_
    refine ite_congr rfl (fun _ => ?_) (fun _ => rfl)
    refine (X_iinc (m := 30) (pc := 22) (n := 1) (c := 1) (by decide +kernel) rfl rfl (Nat.le_of_ble_eq_true rfl) rfl).trans ?_
    refine (X_goto (m := 30) (pc := 25) (off := -16) (tg := 9) (by decide +kernel) (by decide +kernel)).trans ?_
    rfl
theorem E_X4_listOf {σ : AS} {r0 : Nat} {x1 : Int} : a_m 31 [a_r (r0), a_i (x1)] σ = a_X 31 0 [a_r (r0), a_i (x1)] [] σ := a_m_eq (by rw [a_entry, show m_maxL 31 = 2 from by decide +kernel]; rfl)
theorem B_X4_listOf_0 {k : Nat → Nat × Nat} {u : Nat → Nat → Int} {g : Nat → Nat → Nat} {t : Nat × Nat × Nat} {r0 : Nat} {x1 : Int} : a_X 31 0 [a_r (r0), a_i (x1)] [] (k, u, g, t) = if (x1 : Int) ≠ (-1 : Int) then if (k r0).1 = 5 then if 30 ≤ (k (g r0 3)).1 ∧ 0 ≤ (x1 : Int) ∧ (x1 : Int) < ((k (g r0 3)).2 : Int) then if (k (g (g r0 3) (x1 : Int).toNat)).1 = 3 then some (.inl (some (a_r (g (g (g r0 3) (x1 : Int).toNat) 4))), (k, u, g, t)) else none else none else none else if (k r0).1 = 5 then some (.inl (some (a_r (g r0 1))), (k, u, g, t)) else none := by
  refine (X_iload_n (m := 31) (pc := 0) (n := 1) (by decide +kernel) rfl).trans ?_
  refine (X_iconst (m := 31) (pc := 1) (n := -1) (by decide +kernel) ).trans ?_
  refine (X_ic_ne (m := 31) (pc := 2) (off := 10) (tg := 12) (by decide +kernel) (by decide +kernel)).trans ?_
  refine ite_congr rfl (fun _ => ?_) (fun _ => ?_)
  · refine (X_aload_n (m := 31) (pc := 12) (n := 0) (by decide +kernel) rfl).trans ?_
    refine (X_getR (m := 31) (pc := 13) (n := 31) (c := 5) (q := 3) (fi := true) (by decide +kernel) (by decide +kernel)).trans ?_
    refine ite_congr rfl (fun _ => ?_) (fun _ => rfl)
    refine (X_iload_n (m := 31) (pc := 16) (n := 1) (by decide +kernel) rfl).trans ?_
    refine (X_aaload (m := 31) (pc := 17)  (by decide +kernel) ).trans ?_
    refine ite_congr rfl (fun _ => ?_) (fun _ => rfl)
    refine (X_getR (m := 31) (pc := 18) (n := 74) (c := 3) (q := 4) (fi := true) (by decide +kernel) (by decide +kernel)).trans ?_
    refine ite_congr rfl (fun _ => ?_) (fun _ => rfl)
    exact X_areturn (m := 31) (pc := 21) (by decide +kernel) (by decide +kernel)
  · refine (X_aload_n (m := 31) (pc := 5) (n := 0) (by decide +kernel) rfl).trans ?_
    refine (X_getR (m := 31) (pc := 6) (n := 18) (c := 5) (q := 1) (fi := true) (by decide +kernel) (by decide +kernel)).trans ?_
    refine ite_congr rfl (fun _ => ?_) (fun _ => rfl)
    refine (X_goto (m := 31) (pc := 9) (off := 12) (tg := 21) (by decide +kernel) (by decide +kernel)).trans ?_
    exact X_areturn (m := 31) (pc := 21) (by decide +kernel) (by decide +kernel)
theorem E_X4_publishLatest {σ : AS} {r0 : Nat} {x1 : Int} : a_m 32 [a_r (r0), a_i (x1)] σ = a_X 32 0 [a_r (r0), a_i (x1)] [] σ := a_m_eq (by rw [a_entry, show m_maxL 32 = 2 from by decide +kernel]; rfl)
theorem B_X4_publishLatest_0 {k : Nat → Nat × Nat} {u : Nat → Nat → Int} {g : Nat → Nat → Nat} {t : Nat × Nat × Nat} {r0 : Nat} {x1 : Int} : a_X 32 0 [a_r (r0), a_i (x1)] [] (k, u, g, t) = if (k r0).1 = 5 then if (k r0).1 = 5 then if (k (g r0 0)).1 = 9 then if (k r0).1 = 5 then if (k (g r0 0)).1 = 9 then if ((k (g (g r0 0) 4)).1 = 20 ∨ (k (g (g r0 0) 4)).1 = 24) ∧ 0 ≤ (u (g r0 0) 7 : Int) ∧ (u (g r0 0) 7 : Int) < ((k (g (g r0 0) 4)).2 : Int) then if (k r0).1 = 5 then if (k (g r0 0)).1 = 9 then if (k (g r0 1)).1 = 20 ∧ 0 ≤ (u (g (g r0 0) 4) (u (g r0 0) 7 : Int).toNat : Int) ∧ (u (g (g r0 0) 4) (u (g r0 0) 7 : Int).toNat : Int) < ((k (g r0 1)).2 : Int) then if (k r0).1 = 5 then if (k (g r0 0)).1 = 9 then if (k r0).1 = 5 then (a_m 33 [a_r (r0), a_i ((upm u (g r0 1) (u (g (g r0 0) 4) (u (g r0 0) 7 : Int).toNat : Int).toNat (u (g r0 0) 7)) (g r0 0) 7), a_i (x1)] (k, (upm u (g r0 1) (u (g (g r0 0) 4) (u (g r0 0) 7 : Int).toNat : Int).toNat (u (g r0 0) 7)), g, t)).bind (a_back 32 36 3 [a_r (r0), a_i (x1)] []) else none else none else none else none else none else none else none else none else none else none else none else none := by
  refine (X_aload_n (m := 32) (pc := 0) (n := 0) (by decide +kernel) rfl).trans ?_
  refine (X_getR (m := 32) (pc := 1) (n := 18) (c := 5) (q := 1) (fi := true) (by decide +kernel) (by decide +kernel)).trans ?_
  refine ite_congr rfl (fun _ => ?_) (fun _ => rfl)
  refine (X_aload_n (m := 32) (pc := 4) (n := 0) (by decide +kernel) rfl).trans ?_
  refine (X_getR (m := 32) (pc := 5) (n := 12) (c := 5) (q := 0) (fi := true) (by decide +kernel) (by decide +kernel)).trans ?_
  refine ite_congr rfl (fun _ => ?_) (fun _ => rfl)
  refine (X_getR (m := 32) (pc := 8) (n := 77) (c := 9) (q := 4) (fi := true) (by decide +kernel) (by decide +kernel)).trans ?_
  refine ite_congr rfl (fun _ => ?_) (fun _ => rfl)
  refine (X_aload_n (m := 32) (pc := 11) (n := 0) (by decide +kernel) rfl).trans ?_
  refine (X_getR (m := 32) (pc := 12) (n := 12) (c := 5) (q := 0) (fi := true) (by decide +kernel) (by decide +kernel)).trans ?_
  refine ite_congr rfl (fun _ => ?_) (fun _ => rfl)
  refine (X_getI (m := 32) (pc := 15) (n := 80) (c := 9) (q := 7) (ty := 1) (fi := false) (by decide +kernel) (by decide +kernel) (by decide +kernel)).trans ?_
  refine ite_congr rfl (fun _ => ?_) (fun _ => rfl)
  refine (X_iaload (m := 32) (pc := 18)  (by decide +kernel) ).trans ?_
  refine ite_congr rfl (fun _ => ?_) (fun _ => rfl)
  refine (X_aload_n (m := 32) (pc := 19) (n := 0) (by decide +kernel) rfl).trans ?_
  refine (X_getR (m := 32) (pc := 20) (n := 12) (c := 5) (q := 0) (fi := true) (by decide +kernel) (by decide +kernel)).trans ?_
  refine ite_congr rfl (fun _ => ?_) (fun _ => rfl)
  refine (X_getI (m := 32) (pc := 23) (n := 80) (c := 9) (q := 7) (ty := 1) (fi := false) (by decide +kernel) (by decide +kernel) (by decide +kernel)).trans ?_
  refine ite_congr rfl (fun _ => ?_) (fun _ => rfl)
  refine (X_iastore (m := 32) (pc := 26)  (by decide +kernel) ).trans ?_
  refine ite_congr rfl (fun _ => ?_) (fun _ => rfl)
  refine (X_aload_n (m := 32) (pc := 27) (n := 0) (by decide +kernel) rfl).trans ?_
  refine (X_aload_n (m := 32) (pc := 28) (n := 0) (by decide +kernel) rfl).trans ?_
  refine (X_getR (m := 32) (pc := 29) (n := 12) (c := 5) (q := 0) (fi := true) (by decide +kernel) (by decide +kernel)).trans ?_
  refine ite_congr rfl (fun _ => ?_) (fun _ => rfl)
  refine (X_getI (m := 32) (pc := 32) (n := 80) (c := 9) (q := 7) (ty := 1) (fi := false) (by decide +kernel) (by decide +kernel) (by decide +kernel)).trans ?_
  refine ite_congr rfl (fun _ => ?_) (fun _ => rfl)
  refine (X_iload_n (m := 32) (pc := 35) (n := 1) (by decide +kernel) rfl).trans ?_
  refine (X_call_vi (m := 32) (pc := 36) (q := 83) (y := 33) (n := 3) (as := [a_r (r0), a_i ((upm u (g r0 1) (u (g (g r0 0) 4) (u (g r0 0) 7 : Int).toNat : Int).toNat (u (g r0 0) 7)) (g r0 0) 7), a_i (x1)]) (rest := []) (by decide +kernel) (by decide +kernel) (by decide +kernel) (by decide +kernel) rfl rfl (Nat.le_of_ble_eq_true rfl) (Nat.le_of_ble_eq_true rfl) rfl (by rw [show m_maxL 33 = 3 from by decide +kernel]; exact Nat.le_of_ble_eq_true rfl)).trans ?_
  exact ite_congr (by simp [a_rcv, show m_recv 33 = 5 from by decide +kernel]) (fun _ => rfl) (fun _ => rfl)
theorem B_X4_publishLatest_39 {k : Nat → Nat × Nat} {u : Nat → Nat → Int} {g : Nat → Nat → Nat} {t : Nat × Nat × Nat} {r0 : Nat} {x1 : Int} : a_X 32 39 [a_r (r0), a_i (x1)] [] (k, u, g, t) = if (k r0).1 = 5 then if (k (g r0 0)).1 = 9 then some (.inl (some (a_i (u (g r0 0) 7))), (k, u, g, t)) else none else none := by
  refine (X_aload_n (m := 32) (pc := 39) (n := 0) (by decide +kernel) rfl).trans ?_
  refine (X_getR (m := 32) (pc := 40) (n := 12) (c := 5) (q := 0) (fi := true) (by decide +kernel) (by decide +kernel)).trans ?_
  refine ite_congr rfl (fun _ => ?_) (fun _ => rfl)
  refine (X_getI (m := 32) (pc := 43) (n := 80) (c := 9) (q := 7) (ty := 1) (fi := false) (by decide +kernel) (by decide +kernel) (by decide +kernel)).trans ?_
  refine ite_congr rfl (fun _ => ?_) (fun _ => rfl)
  exact X_ireturn (m := 32) (pc := 46) (f := 1) (by decide +kernel) (by decide +kernel) rfl
theorem E_X4_sendCorrection {σ : AS} {r0 : Nat} {x1 : Int} {x2 : Int} : a_m 33 [a_r (r0), a_i (x1), a_i (x2)] σ = a_X 33 0 [a_r (r0), a_i (x1), a_i (x2)] [] σ := a_m_eq (by rw [a_entry, show m_maxL 33 = 3 from by decide +kernel]; rfl)
theorem B_X4_sendCorrection_0 {k : Nat → Nat × Nat} {u : Nat → Nat → Int} {g : Nat → Nat → Nat} {t : Nat × Nat × Nat} {r0 : Nat} {x1 : Int} {x2 : Int} : a_X 33 0 [a_r (r0), a_i (x1), a_i (x2)] [] (k, u, g, t) = if (k r0).1 = 5 then if (k r0).1 = 5 then if (k (g r0 0)).1 = 9 then if ((k (g (g r0 0) 4)).1 = 20 ∨ (k (g (g r0 0) 4)).1 = 24) ∧ 0 ≤ (x1 : Int) ∧ (x1 : Int) < ((k (g (g r0 0) 4)).2 : Int) then if (k (g r0 2)).1 = 1 then (a_m 3 [a_r (g r0 2), a_i (x1), a_i (u (g (g r0 0) 4) (x1 : Int).toNat)] (k, u, g, t)).bind (a_back 33 15 3 [a_r (r0), a_i (x1), a_i (x2)] [a_r (r0)]) else none else none else none else none else none := by
  refine (X_aload_n (m := 33) (pc := 0) (n := 0) (by decide +kernel) rfl).trans ?_
  refine (X_aload_n (m := 33) (pc := 1) (n := 0) (by decide +kernel) rfl).trans ?_
  refine (X_getR (m := 33) (pc := 2) (n := 25) (c := 5) (q := 2) (fi := true) (by decide +kernel) (by decide +kernel)).trans ?_
  refine ite_congr rfl (fun _ => ?_) (fun _ => rfl)
  refine (X_iload_n (m := 33) (pc := 5) (n := 1) (by decide +kernel) rfl).trans ?_
  refine (X_aload_n (m := 33) (pc := 6) (n := 0) (by decide +kernel) rfl).trans ?_
  refine (X_getR (m := 33) (pc := 7) (n := 12) (c := 5) (q := 0) (fi := true) (by decide +kernel) (by decide +kernel)).trans ?_
  refine ite_congr rfl (fun _ => ?_) (fun _ => rfl)
  refine (X_getR (m := 33) (pc := 10) (n := 77) (c := 9) (q := 4) (fi := true) (by decide +kernel) (by decide +kernel)).trans ?_
  refine ite_congr rfl (fun _ => ?_) (fun _ => rfl)
  refine (X_iload_n (m := 33) (pc := 13) (n := 1) (by decide +kernel) rfl).trans ?_
  refine (X_iaload (m := 33) (pc := 14)  (by decide +kernel) ).trans ?_
  refine ite_congr rfl (fun _ => ?_) (fun _ => rfl)
  refine (X_call_vi (m := 33) (pc := 15) (q := 87) (y := 3) (n := 3) (as := [a_r (g r0 2), a_i (x1), a_i (u (g (g r0 0) 4) (x1 : Int).toNat)]) (rest := [a_r (r0)]) (by decide +kernel) (by decide +kernel) (by decide +kernel) (by decide +kernel) rfl rfl (Nat.le_of_ble_eq_true rfl) (Nat.le_of_ble_eq_true rfl) rfl (by rw [show m_maxL 3 = 5 from by decide +kernel]; exact Nat.le_of_ble_eq_true rfl)).trans ?_
  exact ite_congr (by simp [a_rcv, show m_recv 3 = 1 from by decide +kernel]) (fun _ => rfl) (fun _ => rfl)
theorem B_X4_sendCorrection_18 {k : Nat → Nat × Nat} {u : Nat → Nat → Int} {g : Nat → Nat → Nat} {t : Nat × Nat × Nat} {r0 : Nat} {x1 : Int} {x2 : Int} {q0 : Nat} {q1 : Nat} : a_X 33 18 [a_r (r0), a_i (x1), a_i (x2)] [a_r (q1), a_r (q0)] (k, u, g, t) = if (k q0).1 = 5 then (a_m 35 [a_r (q0), a_r (q1), a_i (x2)] (k, u, g, t)).bind (a_back 33 19 3 [a_r (r0), a_i (x1), a_i (x2)] []) else none := by
  refine (X_iload_n (m := 33) (pc := 18) (n := 2) (by decide +kernel) rfl).trans ?_
  refine (X_call_vi (m := 33) (pc := 19) (q := 91) (y := 35) (n := 3) (as := [a_r (q0), a_r (q1), a_i (x2)]) (rest := []) (by decide +kernel) (by decide +kernel) (by decide +kernel) (by decide +kernel) rfl rfl (Nat.le_of_ble_eq_true rfl) (Nat.le_of_ble_eq_true rfl) rfl (by rw [show m_maxL 35 = 4 from by decide +kernel]; exact Nat.le_of_ble_eq_true rfl)).trans ?_
  exact ite_congr (by simp [a_rcv, show m_recv 35 = 5 from by decide +kernel]) (fun _ => rfl) (fun _ => rfl)
theorem B_X4_sendCorrection_22 {k : Nat → Nat × Nat} {u : Nat → Nat → Int} {g : Nat → Nat → Nat} {t : Nat × Nat × Nat} {r0 : Nat} {x1 : Int} {x2 : Int} : a_X 33 22 [a_r (r0), a_i (x1), a_i (x2)] [] (k, u, g, t) = some (.inl none, (k, u, g, t)) := by
  exact X_return (m := 33) (pc := 22) (by decide +kernel) (by decide +kernel)
theorem E_X4_sendWhole {σ : AS} {r0 : Nat} {x1 : Int} : a_m 34 [a_r (r0), a_i (x1)] σ = a_X 34 0 [a_r (r0), a_i (x1), a_x false] [] σ := a_m_eq (by rw [a_entry, show m_maxL 34 = 3 from by decide +kernel]; rfl)
theorem B_X4_sendWhole_0 {k : Nat → Nat × Nat} {u : Nat → Nat → Int} {g : Nat → Nat → Nat} {t : Nat × Nat × Nat} {r0 : Nat} {x1 : Int} {v2 : AV} : a_X 34 0 [a_r (r0), a_i (x1), v2] [] (k, u, g, t) = if (k r0).1 = 5 then if (k r0).1 = 5 then if (k (g r0 0)).1 = 9 then if (k (g r0 2)).1 = 1 then (a_m 3 [a_r (g r0 2), a_i (u (g r0 0) 7), a_i (-1)] (k, u, g, t)).bind (a_back 34 12 3 [a_r (r0), a_i (x1), v2] []) else none else none else none else none := by
  refine (X_aload_n (m := 34) (pc := 0) (n := 0) (by decide +kernel) rfl).trans ?_
  refine (X_getR (m := 34) (pc := 1) (n := 25) (c := 5) (q := 2) (fi := true) (by decide +kernel) (by decide +kernel)).trans ?_
  refine ite_congr rfl (fun _ => ?_) (fun _ => rfl)
  refine (X_aload_n (m := 34) (pc := 4) (n := 0) (by decide +kernel) rfl).trans ?_
  refine (X_getR (m := 34) (pc := 5) (n := 12) (c := 5) (q := 0) (fi := true) (by decide +kernel) (by decide +kernel)).trans ?_
  refine ite_congr rfl (fun _ => ?_) (fun _ => rfl)
  refine (X_getI (m := 34) (pc := 8) (n := 80) (c := 9) (q := 7) (ty := 1) (fi := false) (by decide +kernel) (by decide +kernel) (by decide +kernel)).trans ?_
  refine ite_congr rfl (fun _ => ?_) (fun _ => rfl)
  refine (X_iconst (m := 34) (pc := 11) (n := -1) (by decide +kernel) ).trans ?_
  refine (X_call_vi (m := 34) (pc := 12) (q := 87) (y := 3) (n := 3) (as := [a_r (g r0 2), a_i (u (g r0 0) 7), a_i (-1)]) (rest := []) (by decide +kernel) (by decide +kernel) (by decide +kernel) (by decide +kernel) rfl rfl (Nat.le_of_ble_eq_true rfl) (Nat.le_of_ble_eq_true rfl) rfl (by rw [show m_maxL 3 = 5 from by decide +kernel]; exact Nat.le_of_ble_eq_true rfl)).trans ?_
  exact ite_congr (by simp [a_rcv, show m_recv 3 = 1 from by decide +kernel]) (fun _ => rfl) (fun _ => rfl)
theorem B_X4_sendWhole_15 {k : Nat → Nat × Nat} {u : Nat → Nat → Int} {g : Nat → Nat → Nat} {t : Nat × Nat × Nat} {r0 : Nat} {x1 : Int} {v2 : AV} {q0 : Nat} : a_X 34 15 [a_r (r0), a_i (x1), v2] [a_r (q0)] (k, u, g, t) = if (k r0).1 = 5 then if (k q0).1 = 7 then if (g r0 1) ≠ (g q0 7) ∧ (k (g r0 1)).1 = 20 ∧ (k (g q0 7)).1 = 20 ∧ 0 ≤ (0 : Int) ∧ 0 ≤ (0 : Int) ∧ 0 ≤ (12 : Int) ∧ (0 : Int) + (12 : Int) ≤ ((k (g r0 1)).2 : Int) ∧ (0 : Int) + (12 : Int) ≤ ((k (g q0 7)).2 : Int) then if (k r0).1 = 5 then (a_m 35 [a_r (r0), a_r (q0), a_i (x1)] (k, (upr u (g q0 7) (a_cpy (u (g r0 1)) (u (g q0 7)) (0 : Int).toNat (0 : Int).toNat (12 : Int).toNat)), g, t)).bind (a_back 34 34 3 [a_r (r0), a_i (x1), a_r (q0)] []) else none else none else none else none := by
  refine (X_astore_n (m := 34) (pc := 15) (n := 2) (by decide +kernel) rfl (Nat.le_of_ble_eq_true rfl) rfl).trans ?_
  refine (X_aload_n (m := 34) (pc := 16) (n := 0) (by decide +kernel) rfl).trans ?_
  refine (X_getR (m := 34) (pc := 17) (n := 18) (c := 5) (q := 1) (fi := true) (by decide +kernel) (by decide +kernel)).trans ?_
  refine ite_congr rfl (fun _ => ?_) (fun _ => rfl)
  refine (X_iconst (m := 34) (pc := 20) (n := 0) (by decide +kernel) ).trans ?_
  refine (X_aload_n (m := 34) (pc := 21) (n := 2) (by decide +kernel) rfl).trans ?_
  refine (X_getR (m := 34) (pc := 22) (n := 95) (c := 7) (q := 7) (fi := true) (by decide +kernel) (by decide +kernel)).trans ?_
  refine ite_congr rfl (fun _ => ?_) (fun _ => rfl)
  refine (X_iconst (m := 34) (pc := 25) (n := 0) (by decide +kernel) ).trans ?_
  refine (X_bipush (m := 34) (pc := 26) (n := 12) (by decide +kernel) ).trans ?_
  refine (X_copy (m := 34) (pc := 28) (q := 40) (by decide +kernel) (by decide +kernel) (Nat.le_of_ble_eq_true rfl)).trans ?_
  refine ite_congr rfl (fun _ => ?_) (fun _ => rfl)
  refine (X_aload_n (m := 34) (pc := 31) (n := 0) (by decide +kernel) rfl).trans ?_
  refine (X_aload_n (m := 34) (pc := 32) (n := 2) (by decide +kernel) rfl).trans ?_
  refine (X_iload_n (m := 34) (pc := 33) (n := 1) (by decide +kernel) rfl).trans ?_
  refine (X_call_vi (m := 34) (pc := 34) (q := 91) (y := 35) (n := 3) (as := [a_r (r0), a_r (q0), a_i (x1)]) (rest := []) (by decide +kernel) (by decide +kernel) (by decide +kernel) (by decide +kernel) rfl rfl (Nat.le_of_ble_eq_true rfl) (Nat.le_of_ble_eq_true rfl) rfl (by rw [show m_maxL 35 = 4 from by decide +kernel]; exact Nat.le_of_ble_eq_true rfl)).trans ?_
  exact ite_congr (by simp [a_rcv, show m_recv 35 = 5 from by decide +kernel]) (fun _ => rfl) (fun _ => rfl)
theorem B_X4_sendWhole_37 {k : Nat → Nat × Nat} {u : Nat → Nat → Int} {g : Nat → Nat → Nat} {t : Nat × Nat × Nat} {r0 : Nat} {x1 : Int} {r2 : Nat} : a_X 34 37 [a_r (r0), a_i (x1), a_r (r2)] [] (k, u, g, t) = if (k r0).1 = 5 then if (k r0).1 = 5 then some (.inl none, (k, (upm u r0 7 (wr ((u r0 7) + 1))), g, t)) else none else none := by
  refine (X_aload_n (m := 34) (pc := 37) (n := 0) (by decide +kernel) rfl).trans ?_
  refine (X_dup (m := 34) (pc := 38)  (by decide +kernel) rfl rfl).trans ?_
  refine (X_getI (m := 34) (pc := 39) (n := 62) (c := 5) (q := 7) (ty := 1) (fi := false) (by decide +kernel) (by decide +kernel) (by decide +kernel)).trans ?_
  refine ite_congr rfl (fun _ => ?_) (fun _ => rfl)
  refine (X_iconst (m := 34) (pc := 42) (n := 1) (by decide +kernel) ).trans ?_
  refine (X_iadd (m := 34) (pc := 43)  (by decide +kernel) ).trans ?_
  refine (X_putI (m := 34) (pc := 44) (n := 62) (c := 5) (q := 7) (fi := false) (by decide +kernel) (by decide +kernel) (fun h => by cases h) (by decide +kernel)).trans ?_
  refine ite_congr rfl (fun _ => ?_) (fun _ => rfl)
  exact X_return (m := 34) (pc := 47) (by decide +kernel) (by decide +kernel)
theorem E_X4_send {σ : AS} {r0 : Nat} {r1 : Nat} {x2 : Int} : a_m 35 [a_r (r0), a_r (r1), a_i (x2)] σ = a_X 35 0 [a_r (r0), a_r (r1), a_i (x2), a_x false] [] σ := a_m_eq (by rw [a_entry, show m_maxL 35 = 4 from by decide +kernel]; rfl)
theorem B_X4_send_0 {k : Nat → Nat × Nat} {u : Nat → Nat → Int} {g : Nat → Nat → Nat} {t : Nat × Nat × Nat} {r0 : Nat} {r1 : Nat} {x2 : Int} {v3 : AV} : a_X 35 0 [a_r (r0), a_r (r1), a_i (x2), v3] [] (k, u, g, t) = if (k r0).1 = 5 then if (k r1).1 = 7 then (a_m 70 [a_r (r1), a_i (u r0 6), a_i (x2)] (k, u, g, t)).bind (a_back 35 6 3 [a_r (r0), a_r (r1), a_i (x2), v3] []) else none else none := by
  refine (X_aload_n (m := 35) (pc := 0) (n := 1) (by decide +kernel) rfl).trans ?_
  refine (X_aload_n (m := 35) (pc := 1) (n := 0) (by decide +kernel) rfl).trans ?_
  refine (X_getI (m := 35) (pc := 2) (n := 59) (c := 5) (q := 6) (ty := 1) (fi := false) (by decide +kernel) (by decide +kernel) (by decide +kernel)).trans ?_
  refine ite_congr rfl (fun _ => ?_) (fun _ => rfl)
  refine (X_iload_n (m := 35) (pc := 5) (n := 2) (by decide +kernel) rfl).trans ?_
  refine (X_call_vi (m := 35) (pc := 6) (q := 100) (y := 70) (n := 3) (as := [a_r (r1), a_i (u r0 6), a_i (x2)]) (rest := []) (by decide +kernel) (by decide +kernel) (by decide +kernel) (by decide +kernel) rfl rfl (Nat.le_of_ble_eq_true rfl) (Nat.le_of_ble_eq_true rfl) rfl (by rw [show m_maxL 70 = 3 from by decide +kernel]; exact Nat.le_of_ble_eq_true rfl)).trans ?_
  exact ite_congr (by simp [a_rcv, show m_recv 70 = 7 from by decide +kernel]) (fun _ => rfl) (fun _ => rfl)
theorem B_X4_send_9 {k : Nat → Nat × Nat} {u : Nat → Nat → Int} {g : Nat → Nat → Nat} {t : Nat × Nat × Nat} {r0 : Nat} {r1 : Nat} {x2 : Int} {v3 : AV} : a_X 35 9 [a_r (r0), a_r (r1), a_i (x2), v3] [] (k, u, g, t) = a_X 35 11 [a_r (r0), a_r (r1), a_i (x2), a_i (0)] [] (k, u, g, t) := by
  refine (X_iconst (m := 35) (pc := 9) (n := 0) (by decide +kernel) ).trans ?_
  refine (X_istore_n (m := 35) (pc := 10) (n := 3) (by decide +kernel) rfl (Nat.le_of_ble_eq_true rfl) rfl).trans ?_
  rfl
theorem B_X4_send_11 {k : Nat → Nat × Nat} {u : Nat → Nat → Int} {g : Nat → Nat → Nat} {t : Nat × Nat × Nat} {r0 : Nat} {r1 : Nat} {x2 : Int} {x3 : Int} : a_X 35 11 [a_r (r0), a_r (r1), a_i (x2), a_i (x3)] [] (k, u, g, t) = if (k r0).1 = 5 then if (x3 : Int) ≥ (u r0 4 : Int) then some (.inl none, (k, u, g, t)) else if (k r0).1 = 5 then if (k r0).1 = 5 then if 30 ≤ (k (g r0 3)).1 ∧ 0 ≤ (x3 : Int) ∧ (x3 : Int) < ((k (g r0 3)).2 : Int) then if (k (g (g r0 3) (x3 : Int).toNat)).1 = 3 then if (k r1).1 = 7 then (a_m 71 [a_r (r1), a_i (x3), a_i (wr ((wr ((u r0 6) + x2)) + (u (g (g r0 3) (x3 : Int).toNat) 0)))] (k, u, g, t)).bind (a_back 35 37 3 [a_r (r0), a_r (r1), a_i (x2), a_i (x3)] []) else none else none else none else none else none else none := by
  refine (X_iload_n (m := 35) (pc := 11) (n := 3) (by decide +kernel) rfl).trans ?_
  refine (X_aload_n (m := 35) (pc := 12) (n := 0) (by decide +kernel) rfl).trans ?_
  refine (X_getI (m := 35) (pc := 13) (n := 49) (c := 5) (q := 4) (ty := 1) (fi := false) (by decide +kernel) (by decide +kernel) (by decide +kernel)).trans ?_
  refine ite_congr rfl (fun _ => ?_) (fun _ => rfl)
  refine (X_ic_ge (m := 35) (pc := 16) (off := 30) (tg := 46) (by decide +kernel) (by decide +kernel)).trans ?_
  refine ite_congr rfl (fun _ => ?_) (fun _ => ?_)
  · exact X_return (m := 35) (pc := 46) (by decide +kernel) (by decide +kernel)
  · refine (X_aload_n (m := 35) (pc := 19) (n := 1) (by decide +kernel) rfl).trans ?_
    refine (X_iload_n (m := 35) (pc := 20) (n := 3) (by decide +kernel) rfl).trans ?_
    refine (X_aload_n (m := 35) (pc := 21) (n := 0) (by decide +kernel) rfl).trans ?_
    refine (X_getI (m := 35) (pc := 22) (n := 59) (c := 5) (q := 6) (ty := 1) (fi := false) (by decide +kernel) (by decide +kernel) (by decide +kernel)).trans ?_
    refine ite_congr rfl (fun _ => ?_) (fun _ => rfl)
    refine (X_iload_n (m := 35) (pc := 25) (n := 2) (by decide +kernel) rfl).trans ?_
    refine (X_iadd (m := 35) (pc := 26)  (by decide +kernel) ).trans ?_
    refine (X_aload_n (m := 35) (pc := 27) (n := 0) (by decide +kernel) rfl).trans ?_
    refine (X_getR (m := 35) (pc := 28) (n := 31) (c := 5) (q := 3) (fi := true) (by decide +kernel) (by decide +kernel)).trans ?_
    refine ite_congr rfl (fun _ => ?_) (fun _ => rfl)
    refine (X_iload_n (m := 35) (pc := 31) (n := 3) (by decide +kernel) rfl).trans ?_
    refine (X_aaload (m := 35) (pc := 32)  (by decide +kernel) ).trans ?_
    refine ite_congr rfl (fun _ => ?_) (fun _ => rfl)
    refine (X_getI (m := 35) (pc := 33) (n := 103) (c := 3) (q := 0) (ty := 1) (fi := false) (by decide +kernel) (by decide +kernel) (by decide +kernel)).trans ?_
    refine ite_congr rfl (fun _ => ?_) (fun _ => rfl)
    refine (X_iadd (m := 35) (pc := 36)  (by decide +kernel) ).trans ?_
    refine (X_call_vi (m := 35) (pc := 37) (q := 106) (y := 71) (n := 3) (as := [a_r (r1), a_i (x3), a_i (wr ((wr ((u r0 6) + x2)) + (u (g (g r0 3) (x3 : Int).toNat) 0)))]) (rest := []) (by decide +kernel) (by decide +kernel) (by decide +kernel) (by decide +kernel) rfl rfl (Nat.le_of_ble_eq_true rfl) (Nat.le_of_ble_eq_true rfl) rfl (by rw [show m_maxL 71 = 3 from by decide +kernel]; exact Nat.le_of_ble_eq_true rfl)).trans ?_
    exact ite_congr (by simp [a_rcv, show m_recv 71 = 7 from by decide +kernel]) (fun _ => rfl) (fun _ => rfl)
theorem B_X4_send_40 {k : Nat → Nat × Nat} {u : Nat → Nat → Int} {g : Nat → Nat → Nat} {t : Nat × Nat × Nat} {r0 : Nat} {r1 : Nat} {x2 : Int} {x3 : Int} : a_X 35 40 [a_r (r0), a_r (r1), a_i (x2), a_i (x3)] [] (k, u, g, t) = a_X 35 11 [a_r (r0), a_r (r1), a_i (x2), a_i (wr (x3 + 1))] [] (k, u, g, t) := by
  refine (X_iinc (m := 35) (pc := 40) (n := 3) (c := 1) (by decide +kernel) rfl rfl (Nat.le_of_ble_eq_true rfl) rfl).trans ?_
  refine (X_goto (m := 35) (pc := 43) (off := -32) (tg := 11) (by decide +kernel) (by decide +kernel)).trans ?_
  rfl
theorem E_X4_passTicks {σ : AS} {r0 : Nat} {x1 : Int} : a_m 36 [a_r (r0), a_i (x1)] σ = a_X 36 0 [a_r (r0), a_i (x1), a_x false] [] σ := a_m_eq (by rw [a_entry, show m_maxL 36 = 3 from by decide +kernel]; rfl)
theorem B_X4_passTicks_0 {k : Nat → Nat × Nat} {u : Nat → Nat → Int} {g : Nat → Nat → Nat} {t : Nat × Nat × Nat} {r0 : Nat} {x1 : Int} {v2 : AV} : a_X 36 0 [a_r (r0), a_i (x1), v2] [] (k, u, g, t) = a_X 36 2 [a_r (r0), a_i (x1), a_i (0)] [] (k, u, g, t) := by
  refine (X_iconst (m := 36) (pc := 0) (n := 0) (by decide +kernel) ).trans ?_
  refine (X_istore_n (m := 36) (pc := 1) (n := 2) (by decide +kernel) rfl (Nat.le_of_ble_eq_true rfl) rfl).trans ?_
  rfl
theorem B_X4_passTicks_2 {k : Nat → Nat × Nat} {u : Nat → Nat → Int} {g : Nat → Nat → Nat} {t : Nat × Nat × Nat} {r0 : Nat} {x1 : Int} {x2 : Int} : a_X 36 2 [a_r (r0), a_i (x1), a_i (x2)] [] (k, u, g, t) = if (x2 : Int) ≥ (x1 : Int) then some (.inl none, (k, u, g, t)) else if (k r0).1 = 5 then (a_m 37 [a_r (r0)] (k, u, g, t)).bind (a_back 36 8 3 [a_r (r0), a_i (x1), a_i (x2)] []) else none := by
  refine (X_iload_n (m := 36) (pc := 2) (n := 2) (by decide +kernel) rfl).trans ?_
  refine (X_iload_n (m := 36) (pc := 3) (n := 1) (by decide +kernel) rfl).trans ?_
  refine (X_ic_ge (m := 36) (pc := 4) (off := 13) (tg := 17) (by decide +kernel) (by decide +kernel)).trans ?_
  refine ite_congr rfl (fun _ => ?_) (fun _ => ?_)
  · exact X_return (m := 36) (pc := 17) (by decide +kernel) (by decide +kernel)
  · refine (X_aload_n (m := 36) (pc := 7) (n := 0) (by decide +kernel) rfl).trans ?_
    refine (X_call_vi (m := 36) (pc := 8) (q := 109) (y := 37) (n := 1) (as := [a_r (r0)]) (rest := []) (by decide +kernel) (by decide +kernel) (by decide +kernel) (by decide +kernel) rfl rfl (Nat.le_of_ble_eq_true rfl) (Nat.le_of_ble_eq_true rfl) rfl (by rw [show m_maxL 37 = 2 from by decide +kernel]; exact Nat.le_of_ble_eq_true rfl)).trans ?_
    exact ite_congr (by simp [a_rcv, show m_recv 37 = 5 from by decide +kernel]) (fun _ => rfl) (fun _ => rfl)
theorem B_X4_passTicks_11 {k : Nat → Nat × Nat} {u : Nat → Nat → Int} {g : Nat → Nat → Nat} {t : Nat × Nat × Nat} {r0 : Nat} {x1 : Int} {x2 : Int} : a_X 36 11 [a_r (r0), a_i (x1), a_i (x2)] [] (k, u, g, t) = a_X 36 2 [a_r (r0), a_i (x1), a_i (wr (x2 + 1))] [] (k, u, g, t) := by
  refine (X_iinc (m := 36) (pc := 11) (n := 2) (c := 1) (by decide +kernel) rfl rfl (Nat.le_of_ble_eq_true rfl) rfl).trans ?_
  refine (X_goto (m := 36) (pc := 14) (off := -12) (tg := 2) (by decide +kernel) (by decide +kernel)).trans ?_
  rfl
theorem E_X4_passTick {σ : AS} {r0 : Nat} : a_m 37 [a_r (r0)] σ = a_X 37 0 [a_r (r0), a_x false] [] σ := a_m_eq (by rw [a_entry, show m_maxL 37 = 2 from by decide +kernel]; rfl)
theorem B_X4_passTick_0 {k : Nat → Nat × Nat} {u : Nat → Nat → Int} {g : Nat → Nat → Nat} {t : Nat × Nat × Nat} {r0 : Nat} {v1 : AV} : a_X 37 0 [a_r (r0), v1] [] (k, u, g, t) = if (k r0).1 = 5 then if (k r0).1 = 5 then if (k r0).1 = 5 then if ((upm u r0 6 (wr ((u r0 6) + 1))) r0 5 : Int) = 0 then a_X 37 59 [a_r (r0), a_i (0)] [] (k, (upm u r0 6 (wr ((u r0 6) + 1))), g, t) else if (k r0).1 = 5 then if (k r0).1 = 5 then if ((upm u r0 6 (wr ((u r0 6) + 1))) r0 5 : Int) ≠ 0 then if (Int.tmod ((upm u r0 6 (wr ((u r0 6) + 1))) r0 6) ((upm u r0 6 (wr ((u r0 6) + 1))) r0 5) : Int) ≠ 0 then a_X 37 59 [a_r (r0), a_i (0)] [] (k, (upm u r0 6 (wr ((u r0 6) + 1))), g, t) else if (k r0).1 = 5 then if (k (g r0 2)).1 = 1 then (a_m 2 [a_r (g r0 2)] (k, (upm u r0 6 (wr ((u r0 6) + 1))), g, t)).bind (a_back 37 33 3 [a_r (r0), v1] []) else none else none else none else none else none else none else none else none := by
  refine (X_aload_n (m := 37) (pc := 0) (n := 0) (by decide +kernel) rfl).trans ?_
  refine (X_dup (m := 37) (pc := 1)  (by decide +kernel) rfl rfl).trans ?_
  refine (X_getI (m := 37) (pc := 2) (n := 59) (c := 5) (q := 6) (ty := 1) (fi := false) (by decide +kernel) (by decide +kernel) (by decide +kernel)).trans ?_
  refine ite_congr rfl (fun _ => ?_) (fun _ => rfl)
  refine (X_iconst (m := 37) (pc := 5) (n := 1) (by decide +kernel) ).trans ?_
  refine (X_iadd (m := 37) (pc := 6)  (by decide +kernel) ).trans ?_
  refine (X_putI (m := 37) (pc := 7) (n := 59) (c := 5) (q := 6) (fi := false) (by decide +kernel) (by decide +kernel) (fun h => by cases h) (by decide +kernel)).trans ?_
  refine ite_congr rfl (fun _ => ?_) (fun _ => rfl)
  refine (X_aload_n (m := 37) (pc := 10) (n := 0) (by decide +kernel) rfl).trans ?_
  refine (X_getI (m := 37) (pc := 11) (n := 56) (c := 5) (q := 5) (ty := 1) (fi := false) (by decide +kernel) (by decide +kernel) (by decide +kernel)).trans ?_
  refine ite_congr rfl (fun _ => ?_) (fun _ => rfl)
  refine (X_if_eq (m := 37) (pc := 14) (off := 43) (tg := 57) (by decide +kernel) (by decide +kernel)).trans ?_
  refine ite_congr rfl (fun _ => ?_) (fun _ => ?_)
  · refine (X_iconst (m := 37) (pc := 57) (n := 0) (by decide +kernel) ).trans ?_
    refine (X_istore_n (m := 37) (pc := 58) (n := 1) (by decide +kernel) rfl (Nat.le_of_ble_eq_true rfl) rfl).trans ?_
    rfl
  · refine (X_aload_n (m := 37) (pc := 17) (n := 0) (by decide +kernel) rfl).trans ?_
    refine (X_getI (m := 37) (pc := 18) (n := 59) (c := 5) (q := 6) (ty := 1) (fi := false) (by decide +kernel) (by decide +kernel) (by decide +kernel)).trans ?_
    refine ite_congr rfl (fun _ => ?_) (fun _ => rfl)
    refine (X_aload_n (m := 37) (pc := 21) (n := 0) (by decide +kernel) rfl).trans ?_
    refine (X_getI (m := 37) (pc := 22) (n := 56) (c := 5) (q := 5) (ty := 1) (fi := false) (by decide +kernel) (by decide +kernel) (by decide +kernel)).trans ?_
    refine ite_congr rfl (fun _ => ?_) (fun _ => rfl)
    refine (X_irem (m := 37) (pc := 25)  (by decide +kernel) ).trans ?_
    refine ite_congr rfl (fun _ => ?_) (fun _ => rfl)
    refine (X_if_ne (m := 37) (pc := 26) (off := 31) (tg := 57) (by decide +kernel) (by decide +kernel)).trans ?_
    refine ite_congr rfl (fun _ => ?_) (fun _ => ?_)
    · refine (X_iconst (m := 37) (pc := 57) (n := 0) (by decide +kernel) ).trans ?_
      refine (X_istore_n (m := 37) (pc := 58) (n := 1) (by decide +kernel) rfl (Nat.le_of_ble_eq_true rfl) rfl).trans ?_
      rfl
    · refine (X_aload_n (m := 37) (pc := 29) (n := 0) (by decide +kernel) rfl).trans ?_
      refine (X_getR (m := 37) (pc := 30) (n := 25) (c := 5) (q := 2) (fi := true) (by decide +kernel) (by decide +kernel)).trans ?_
      refine ite_congr rfl (fun _ => ?_) (fun _ => rfl)
      refine (X_call_vi (m := 37) (pc := 33) (q := 112) (y := 2) (n := 1) (as := [a_r (g r0 2)]) (rest := []) (by decide +kernel) (by decide +kernel) (by decide +kernel) (by decide +kernel) rfl rfl (Nat.le_of_ble_eq_true rfl) (Nat.le_of_ble_eq_true rfl) rfl (by rw [show m_maxL 2 = 1 from by decide +kernel]; exact Nat.le_of_ble_eq_true rfl)).trans ?_
      exact ite_congr (by simp [a_rcv, show m_recv 2 = 1 from by decide +kernel]) (fun _ => rfl) (fun _ => rfl)
theorem B_X4_passTick_59 {k : Nat → Nat × Nat} {u : Nat → Nat → Int} {g : Nat → Nat → Nat} {t : Nat × Nat × Nat} {r0 : Nat} {x1 : Int} : a_X 37 59 [a_r (r0), a_i (x1)] [] (k, u, g, t) = if (k r0).1 = 5 then if (x1 : Int) ≥ (u r0 4 : Int) then if (k r0).1 = 5 then if (k r0).1 = 5 then if (k (g r0 2)).1 = 1 then (a_m 5 [a_r (g r0 2), a_i (u r0 6)] (k, u, g, t)).bind (a_back 37 86 3 [a_r (r0), a_i (x1)] []) else none else none else none else if (k r0).1 = 5 then (a_m 38 [a_r (r0), a_i (x1)] (k, u, g, t)).bind (a_back 37 69 3 [a_r (r0), a_i (x1)] []) else none else none := by
  refine (X_iload_n (m := 37) (pc := 59) (n := 1) (by decide +kernel) rfl).trans ?_
  refine (X_aload_n (m := 37) (pc := 60) (n := 0) (by decide +kernel) rfl).trans ?_
  refine (X_getI (m := 37) (pc := 61) (n := 49) (c := 5) (q := 4) (ty := 1) (fi := false) (by decide +kernel) (by decide +kernel) (by decide +kernel)).trans ?_
  refine ite_congr rfl (fun _ => ?_) (fun _ => rfl)
  refine (X_ic_ge (m := 37) (pc := 64) (off := 14) (tg := 78) (by decide +kernel) (by decide +kernel)).trans ?_
  refine ite_congr rfl (fun _ => ?_) (fun _ => ?_)
  · refine (X_aload_n (m := 37) (pc := 78) (n := 0) (by decide +kernel) rfl).trans ?_
    refine (X_getR (m := 37) (pc := 79) (n := 25) (c := 5) (q := 2) (fi := true) (by decide +kernel) (by decide +kernel)).trans ?_
    refine ite_congr rfl (fun _ => ?_) (fun _ => rfl)
    refine (X_aload_n (m := 37) (pc := 82) (n := 0) (by decide +kernel) rfl).trans ?_
    refine (X_getI (m := 37) (pc := 83) (n := 59) (c := 5) (q := 6) (ty := 1) (fi := false) (by decide +kernel) (by decide +kernel) (by decide +kernel)).trans ?_
    refine ite_congr rfl (fun _ => ?_) (fun _ => rfl)
    refine (X_call_vi (m := 37) (pc := 86) (q := 123) (y := 5) (n := 2) (as := [a_r (g r0 2), a_i (u r0 6)]) (rest := []) (by decide +kernel) (by decide +kernel) (by decide +kernel) (by decide +kernel) rfl rfl (Nat.le_of_ble_eq_true rfl) (Nat.le_of_ble_eq_true rfl) rfl (by rw [show m_maxL 5 = 5 from by decide +kernel]; exact Nat.le_of_ble_eq_true rfl)).trans ?_
    exact ite_congr (by simp [a_rcv, show m_recv 5 = 1 from by decide +kernel]) (fun _ => rfl) (fun _ => rfl)
  · refine (X_aload_n (m := 37) (pc := 67) (n := 0) (by decide +kernel) rfl).trans ?_
    refine (X_iload_n (m := 37) (pc := 68) (n := 1) (by decide +kernel) rfl).trans ?_
    refine (X_call_vi (m := 37) (pc := 69) (q := 120) (y := 38) (n := 2) (as := [a_r (r0), a_i (x1)]) (rest := []) (by decide +kernel) (by decide +kernel) (by decide +kernel) (by decide +kernel) rfl rfl (Nat.le_of_ble_eq_true rfl) (Nat.le_of_ble_eq_true rfl) rfl (by rw [show m_maxL 38 = 4 from by decide +kernel]; exact Nat.le_of_ble_eq_true rfl)).trans ?_
    exact ite_congr (by simp [a_rcv, show m_recv 38 = 5 from by decide +kernel]) (fun _ => rfl) (fun _ => rfl)
theorem B_X4_passTick_36 {k : Nat → Nat × Nat} {u : Nat → Nat → Int} {g : Nat → Nat → Nat} {t : Nat × Nat × Nat} {r0 : Nat} {v1 : AV} {y0 : Int} : a_X 37 36 [a_r (r0), v1] [a_i (y0)] (k, u, g, t) = if (y0 : Int) = 0 then if (k r0).1 = 5 then (a_m 34 [a_r (r0), a_i (5)] (k, u, g, t)).bind (a_back 37 54 3 [a_r (r0), v1] []) else none else if (k r0).1 = 5 then if (k r0).1 = 5 then a_X 37 59 [a_r (r0), a_i (0)] [] (k, (upm u r0 8 (wr ((u r0 8) + 1))), g, t) else none else none := by
  refine (X_if_eq (m := 37) (pc := 36) (off := 16) (tg := 52) (by decide +kernel) (by decide +kernel)).trans ?_
  refine ite_congr rfl (fun _ => ?_) (fun _ => ?_)
  · refine (X_aload_n (m := 37) (pc := 52) (n := 0) (by decide +kernel) rfl).trans ?_
    refine (X_iconst (m := 37) (pc := 53) (n := 5) (by decide +kernel) ).trans ?_
    refine (X_call_vi (m := 37) (pc := 54) (q := 116) (y := 34) (n := 2) (as := [a_r (r0), a_i (5)]) (rest := []) (by decide +kernel) (by decide +kernel) (by decide +kernel) (by decide +kernel) rfl rfl (Nat.le_of_ble_eq_true rfl) (Nat.le_of_ble_eq_true rfl) rfl (by rw [show m_maxL 34 = 3 from by decide +kernel]; exact Nat.le_of_ble_eq_true rfl)).trans ?_
    exact ite_congr (by simp [a_rcv, show m_recv 34 = 5 from by decide +kernel]) (fun _ => rfl) (fun _ => rfl)
  · refine (X_aload_n (m := 37) (pc := 39) (n := 0) (by decide +kernel) rfl).trans ?_
    refine (X_dup (m := 37) (pc := 40)  (by decide +kernel) rfl rfl).trans ?_
    refine (X_getI (m := 37) (pc := 41) (n := 65) (c := 5) (q := 8) (ty := 1) (fi := false) (by decide +kernel) (by decide +kernel) (by decide +kernel)).trans ?_
    refine ite_congr rfl (fun _ => ?_) (fun _ => rfl)
    refine (X_iconst (m := 37) (pc := 44) (n := 1) (by decide +kernel) ).trans ?_
    refine (X_iadd (m := 37) (pc := 45)  (by decide +kernel) ).trans ?_
    refine (X_putI (m := 37) (pc := 46) (n := 65) (c := 5) (q := 8) (fi := false) (by decide +kernel) (by decide +kernel) (fun h => by cases h) (by decide +kernel)).trans ?_
    refine ite_congr rfl (fun _ => ?_) (fun _ => rfl)
    refine (X_goto (m := 37) (pc := 49) (off := 8) (tg := 57) (by decide +kernel) (by decide +kernel)).trans ?_
    refine (X_iconst (m := 37) (pc := 57) (n := 0) (by decide +kernel) ).trans ?_
    refine (X_istore_n (m := 37) (pc := 58) (n := 1) (by decide +kernel) rfl (Nat.le_of_ble_eq_true rfl) rfl).trans ?_
    rfl
theorem B_X4_passTick_89 {k : Nat → Nat × Nat} {u : Nat → Nat → Int} {g : Nat → Nat → Nat} {t : Nat × Nat × Nat} {r0 : Nat} {x1 : Int} : a_X 37 89 [a_r (r0), a_i (x1)] [] (k, u, g, t) = some (.inl none, (k, u, g, t)) := by
  exact X_return (m := 37) (pc := 89) (by decide +kernel) (by decide +kernel)
theorem B_X4_passTick_72 {k : Nat → Nat × Nat} {u : Nat → Nat → Int} {g : Nat → Nat → Nat} {t : Nat × Nat × Nat} {r0 : Nat} {x1 : Int} : a_X 37 72 [a_r (r0), a_i (x1)] [] (k, u, g, t) = a_X 37 59 [a_r (r0), a_i (wr (x1 + 1))] [] (k, u, g, t) := by
  refine (X_iinc (m := 37) (pc := 72) (n := 1) (c := 1) (by decide +kernel) rfl rfl (Nat.le_of_ble_eq_true rfl) rfl).trans ?_
  refine (X_goto (m := 37) (pc := 75) (off := -16) (tg := 59) (by decide +kernel) (by decide +kernel)).trans ?_
  rfl
theorem B_X4_passTick_57 {k : Nat → Nat × Nat} {u : Nat → Nat → Int} {g : Nat → Nat → Nat} {t : Nat × Nat × Nat} {r0 : Nat} {v1 : AV} : a_X 37 57 [a_r (r0), v1] [] (k, u, g, t) = a_X 37 59 [a_r (r0), a_i (0)] [] (k, u, g, t) := by
  refine (X_iconst (m := 37) (pc := 57) (n := 0) (by decide +kernel) ).trans ?_
  refine (X_istore_n (m := 37) (pc := 58) (n := 1) (by decide +kernel) rfl (Nat.le_of_ble_eq_true rfl) rfl).trans ?_
  rfl
theorem E_X4_hearWhatIsDue {σ : AS} {r0 : Nat} {x1 : Int} : a_m 38 [a_r (r0), a_i (x1)] σ = a_X 38 0 [a_r (r0), a_i (x1), a_x false, a_x false] [] σ := a_m_eq (by rw [a_entry, show m_maxL 38 = 4 from by decide +kernel]; rfl)
theorem B_X4_hearWhatIsDue_0 {k : Nat → Nat × Nat} {u : Nat → Nat → Int} {g : Nat → Nat → Nat} {t : Nat × Nat × Nat} {r0 : Nat} {x1 : Int} {v2 : AV} {v3 : AV} : a_X 38 0 [a_r (r0), a_i (x1), v2, v3] [] (k, u, g, t) = a_X 38 2 [a_r (r0), a_i (x1), a_i (0), v3] [] (k, u, g, t) := by
  refine (X_iconst (m := 38) (pc := 0) (n := 0) (by decide +kernel) ).trans ?_
  refine (X_istore_n (m := 38) (pc := 1) (n := 2) (by decide +kernel) rfl (Nat.le_of_ble_eq_true rfl) rfl).trans ?_
  rfl
theorem B_X4_hearWhatIsDue_2 {k : Nat → Nat × Nat} {u : Nat → Nat → Int} {g : Nat → Nat → Nat} {t : Nat × Nat × Nat} {r0 : Nat} {x1 : Int} {x2 : Int} {v3 : AV} : a_X 38 2 [a_r (r0), a_i (x1), a_i (x2), v3] [] (k, u, g, t) = if (k r0).1 = 5 then if (k (g r0 2)).1 = 1 then if (x2 : Int) ≥ (u (g r0 2) 1 : Int) then some (.inl none, (k, u, g, t)) else if (k r0).1 = 5 then if (k (g r0 2)).1 = 1 then if 30 ≤ (k (g (g r0 2) 0)).1 ∧ 0 ≤ (x2 : Int) ∧ (x2 : Int) < ((k (g (g r0 2) 0)).2 : Int) then if (k (g (g (g r0 2) 0) (x2 : Int).toNat)).1 = 7 then if ((k (g (g (g (g r0 2) 0) (x2 : Int).toNat) 6)).1 = 20 ∨ (k (g (g (g (g r0 2) 0) (x2 : Int).toNat) 6)).1 = 24) ∧ 0 ≤ (x1 : Int) ∧ (x1 : Int) < ((k (g (g (g (g r0 2) 0) (x2 : Int).toNat) 6)).2 : Int) then if (k r0).1 = 5 then if (u (g (g (g (g r0 2) 0) (x2 : Int).toNat) 6) (x1 : Int).toNat : Int) ≠ (u r0 6 : Int) then a_X 38 2 [a_r (r0), a_i (x1), a_i (wr (x2 + 1)), a_r (g (g (g r0 2) 0) (x2 : Int).toNat)] [] (k, u, g, t) else if (k r0).1 = 5 then if 30 ≤ (k (g r0 3)).1 ∧ 0 ≤ (x1 : Int) ∧ (x1 : Int) < ((k (g r0 3)).2 : Int) then if (k r0).1 = 5 then if (k (g (g r0 3) (x1 : Int).toNat)).1 = 3 then (a_m 17 [a_r (g (g r0 3) (x1 : Int).toNat), a_i (u r0 6)] (k, u, g, t)).bind (a_back 38 46 3 [a_r (r0), a_i (x1), a_i (x2), a_r (g (g (g r0 2) 0) (x2 : Int).toNat)] []) else none else none else none else none else none else none else none else none else none else none else none else none := by
  refine (X_iload_n (m := 38) (pc := 2) (n := 2) (by decide +kernel) rfl).trans ?_
  refine (X_aload_n (m := 38) (pc := 3) (n := 0) (by decide +kernel) rfl).trans ?_
  refine (X_getR (m := 38) (pc := 4) (n := 25) (c := 5) (q := 2) (fi := true) (by decide +kernel) (by decide +kernel)).trans ?_
  refine ite_congr rfl (fun _ => ?_) (fun _ => rfl)
  refine (X_getI (m := 38) (pc := 7) (n := 71) (c := 1) (q := 1) (ty := 1) (fi := false) (by decide +kernel) (by decide +kernel) (by decide +kernel)).trans ?_
  refine ite_congr rfl (fun _ => ?_) (fun _ => rfl)
  refine (X_ic_ge (m := 38) (pc := 10) (off := 82) (tg := 92) (by decide +kernel) (by decide +kernel)).trans ?_
  refine ite_congr rfl (fun _ => ?_) (fun _ => ?_)
  · exact X_return (m := 38) (pc := 92) (by decide +kernel) (by decide +kernel)
  · refine (X_aload_n (m := 38) (pc := 13) (n := 0) (by decide +kernel) rfl).trans ?_
    refine (X_getR (m := 38) (pc := 14) (n := 25) (c := 5) (q := 2) (fi := true) (by decide +kernel) (by decide +kernel)).trans ?_
    refine ite_congr rfl (fun _ => ?_) (fun _ => rfl)
    refine (X_getR (m := 38) (pc := 17) (n := 126) (c := 1) (q := 0) (fi := true) (by decide +kernel) (by decide +kernel)).trans ?_
    refine ite_congr rfl (fun _ => ?_) (fun _ => rfl)
    refine (X_iload_n (m := 38) (pc := 20) (n := 2) (by decide +kernel) rfl).trans ?_
    refine (X_aaload (m := 38) (pc := 21)  (by decide +kernel) ).trans ?_
    refine ite_congr rfl (fun _ => ?_) (fun _ => rfl)
    refine (X_astore_n (m := 38) (pc := 22) (n := 3) (by decide +kernel) rfl (Nat.le_of_ble_eq_true rfl) rfl).trans ?_
    refine (X_aload_n (m := 38) (pc := 23) (n := 3) (by decide +kernel) rfl).trans ?_
    refine (X_getR (m := 38) (pc := 24) (n := 130) (c := 7) (q := 6) (fi := true) (by decide +kernel) (by decide +kernel)).trans ?_
    refine ite_congr rfl (fun _ => ?_) (fun _ => rfl)
    refine (X_iload_n (m := 38) (pc := 27) (n := 1) (by decide +kernel) rfl).trans ?_
    refine (X_iaload (m := 38) (pc := 28)  (by decide +kernel) ).trans ?_
    refine ite_congr rfl (fun _ => ?_) (fun _ => rfl)
    refine (X_aload_n (m := 38) (pc := 29) (n := 0) (by decide +kernel) rfl).trans ?_
    refine (X_getI (m := 38) (pc := 30) (n := 59) (c := 5) (q := 6) (ty := 1) (fi := false) (by decide +kernel) (by decide +kernel) (by decide +kernel)).trans ?_
    refine ite_congr rfl (fun _ => ?_) (fun _ => rfl)
    refine (X_ic_ne (m := 38) (pc := 33) (off := 53) (tg := 86) (by decide +kernel) (by decide +kernel)).trans ?_
    refine ite_congr rfl (fun _ => ?_) (fun _ => ?_)
    · refine (X_iinc (m := 38) (pc := 86) (n := 2) (c := 1) (by decide +kernel) rfl rfl (Nat.le_of_ble_eq_true rfl) rfl).trans ?_
      refine (X_goto (m := 38) (pc := 89) (off := -87) (tg := 2) (by decide +kernel) (by decide +kernel)).trans ?_
      rfl
    · refine (X_aload_n (m := 38) (pc := 36) (n := 0) (by decide +kernel) rfl).trans ?_
      refine (X_getR (m := 38) (pc := 37) (n := 31) (c := 5) (q := 3) (fi := true) (by decide +kernel) (by decide +kernel)).trans ?_
      refine ite_congr rfl (fun _ => ?_) (fun _ => rfl)
      refine (X_iload_n (m := 38) (pc := 40) (n := 1) (by decide +kernel) rfl).trans ?_
      refine (X_aaload (m := 38) (pc := 41)  (by decide +kernel) ).trans ?_
      refine ite_congr rfl (fun _ => ?_) (fun _ => rfl)
      refine (X_aload_n (m := 38) (pc := 42) (n := 0) (by decide +kernel) rfl).trans ?_
      refine (X_getI (m := 38) (pc := 43) (n := 59) (c := 5) (q := 6) (ty := 1) (fi := false) (by decide +kernel) (by decide +kernel) (by decide +kernel)).trans ?_
      refine ite_congr rfl (fun _ => ?_) (fun _ => rfl)
      refine (X_call_vi (m := 38) (pc := 46) (q := 133) (y := 17) (n := 2) (as := [a_r (g (g r0 3) (x1 : Int).toNat), a_i (u r0 6)]) (rest := []) (by decide +kernel) (by decide +kernel) (by decide +kernel) (by decide +kernel) rfl rfl (Nat.le_of_ble_eq_true rfl) (Nat.le_of_ble_eq_true rfl) rfl (by rw [show m_maxL 17 = 3 from by decide +kernel]; exact Nat.le_of_ble_eq_true rfl)).trans ?_
      exact ite_congr (by simp [a_rcv, show m_recv 17 = 3 from by decide +kernel]) (fun _ => rfl) (fun _ => rfl)
theorem B_X4_hearWhatIsDue_49 {k : Nat → Nat × Nat} {u : Nat → Nat → Int} {g : Nat → Nat → Nat} {t : Nat × Nat × Nat} {r0 : Nat} {x1 : Int} {x2 : Int} {r3 : Nat} {y0 : Int} : a_X 38 49 [a_r (r0), a_i (x1), a_i (x2), a_r (r3)] [a_i (y0)] (k, u, g, t) = if (y0 : Int) = 0 then if (k r0).1 = 5 then if 30 ≤ (k (g r0 3)).1 ∧ 0 ≤ (x1 : Int) ∧ (x1 : Int) < ((k (g r0 3)).2 : Int) then if (k (g (g r0 3) (x1 : Int).toNat)).1 = 3 then (a_m 20 [a_r (g (g r0 3) (x1 : Int).toNat), a_r (r3)] (k, u, g, t)).bind (a_back 38 77 3 [a_r (r0), a_i (x1), a_i (x2), a_r (r3)] []) else none else none else none else if (k r0).1 = 5 then if 30 ≤ (k (g r0 3)).1 ∧ 0 ≤ (x1 : Int) ∧ (x1 : Int) < ((k (g r0 3)).2 : Int) then if (k (g (g r0 3) (x1 : Int).toNat)).1 = 3 then if (k (g (g r0 3) (x1 : Int).toNat)).1 = 3 then a_X 38 2 [a_r (r0), a_i (x1), a_i (wr (x2 + 1)), a_r (r3)] [] (k, (upm u (g (g r0 3) (x1 : Int).toNat) 9 (wr ((u (g (g r0 3) (x1 : Int).toNat) 9) + 1))), g, t) else none else none else none else none := by
  refine (X_if_eq (m := 38) (pc := 49) (off := 21) (tg := 70) (by decide +kernel) (by decide +kernel)).trans ?_
  refine ite_congr rfl (fun _ => ?_) (fun _ => ?_)
  · refine (X_aload_n (m := 38) (pc := 70) (n := 0) (by decide +kernel) rfl).trans ?_
    refine (X_getR (m := 38) (pc := 71) (n := 31) (c := 5) (q := 3) (fi := true) (by decide +kernel) (by decide +kernel)).trans ?_
    refine ite_congr rfl (fun _ => ?_) (fun _ => rfl)
    refine (X_iload_n (m := 38) (pc := 74) (n := 1) (by decide +kernel) rfl).trans ?_
    refine (X_aaload (m := 38) (pc := 75)  (by decide +kernel) ).trans ?_
    refine ite_congr rfl (fun _ => ?_) (fun _ => rfl)
    refine (X_aload_n (m := 38) (pc := 76) (n := 3) (by decide +kernel) rfl).trans ?_
    refine (X_call_vi (m := 38) (pc := 77) (q := 140) (y := 20) (n := 2) (as := [a_r (g (g r0 3) (x1 : Int).toNat), a_r (r3)]) (rest := []) (by decide +kernel) (by decide +kernel) (by decide +kernel) (by decide +kernel) rfl rfl (Nat.le_of_ble_eq_true rfl) (Nat.le_of_ble_eq_true rfl) rfl (by rw [show m_maxL 20 = 3 from by decide +kernel]; exact Nat.le_of_ble_eq_true rfl)).trans ?_
    exact ite_congr (by simp [a_rcv, show m_recv 20 = 3 from by decide +kernel]) (fun _ => rfl) (fun _ => rfl)
  · refine (X_aload_n (m := 38) (pc := 52) (n := 0) (by decide +kernel) rfl).trans ?_
    refine (X_getR (m := 38) (pc := 53) (n := 31) (c := 5) (q := 3) (fi := true) (by decide +kernel) (by decide +kernel)).trans ?_
    refine ite_congr rfl (fun _ => ?_) (fun _ => rfl)
    refine (X_iload_n (m := 38) (pc := 56) (n := 1) (by decide +kernel) rfl).trans ?_
    refine (X_aaload (m := 38) (pc := 57)  (by decide +kernel) ).trans ?_
    refine ite_congr rfl (fun _ => ?_) (fun _ => rfl)
    refine (X_dup (m := 38) (pc := 58)  (by decide +kernel) rfl rfl).trans ?_
    refine (X_getI (m := 38) (pc := 59) (n := 137) (c := 3) (q := 9) (ty := 1) (fi := false) (by decide +kernel) (by decide +kernel) (by decide +kernel)).trans ?_
    refine ite_congr rfl (fun _ => ?_) (fun _ => rfl)
    refine (X_iconst (m := 38) (pc := 62) (n := 1) (by decide +kernel) ).trans ?_
    refine (X_iadd (m := 38) (pc := 63)  (by decide +kernel) ).trans ?_
    refine (X_putI (m := 38) (pc := 64) (n := 137) (c := 3) (q := 9) (fi := false) (by decide +kernel) (by decide +kernel) (fun h => by cases h) (by decide +kernel)).trans ?_
    refine ite_congr rfl (fun _ => ?_) (fun _ => rfl)
    refine (X_goto (m := 38) (pc := 67) (off := 19) (tg := 86) (by decide +kernel) (by decide +kernel)).trans ?_
    refine (X_iinc (m := 38) (pc := 86) (n := 2) (c := 1) (by decide +kernel) rfl rfl (Nat.le_of_ble_eq_true rfl) rfl).trans ?_
    refine (X_goto (m := 38) (pc := 89) (off := -87) (tg := 2) (by decide +kernel) (by decide +kernel)).trans ?_
    rfl
theorem B_X4_hearWhatIsDue_80 {k : Nat → Nat × Nat} {u : Nat → Nat → Int} {g : Nat → Nat → Nat} {t : Nat × Nat × Nat} {r0 : Nat} {x1 : Int} {x2 : Int} {r3 : Nat} : a_X 38 80 [a_r (r0), a_i (x1), a_i (x2), a_r (r3)] [] (k, u, g, t) = if (k r0).1 = 5 then (a_m 39 [a_r (r0), a_i (x1), a_r (r3)] (k, u, g, t)).bind (a_back 38 83 3 [a_r (r0), a_i (x1), a_i (x2), a_r (r3)] []) else none := by
  refine (X_aload_n (m := 38) (pc := 80) (n := 0) (by decide +kernel) rfl).trans ?_
  refine (X_iload_n (m := 38) (pc := 81) (n := 1) (by decide +kernel) rfl).trans ?_
  refine (X_aload_n (m := 38) (pc := 82) (n := 3) (by decide +kernel) rfl).trans ?_
  refine (X_call_vi (m := 38) (pc := 83) (q := 144) (y := 39) (n := 3) (as := [a_r (r0), a_i (x1), a_r (r3)]) (rest := []) (by decide +kernel) (by decide +kernel) (by decide +kernel) (by decide +kernel) rfl rfl (Nat.le_of_ble_eq_true rfl) (Nat.le_of_ble_eq_true rfl) rfl (by rw [show m_maxL 39 = 3 from by decide +kernel]; exact Nat.le_of_ble_eq_true rfl)).trans ?_
  exact ite_congr (by simp [a_rcv, show m_recv 39 = 5 from by decide +kernel]) (fun _ => rfl) (fun _ => rfl)
theorem B_X4_hearWhatIsDue_86 {k : Nat → Nat × Nat} {u : Nat → Nat → Int} {g : Nat → Nat → Nat} {t : Nat × Nat × Nat} {r0 : Nat} {x1 : Int} {x2 : Int} {r3 : Nat} : a_X 38 86 [a_r (r0), a_i (x1), a_i (x2), a_r (r3)] [] (k, u, g, t) = a_X 38 2 [a_r (r0), a_i (x1), a_i (wr (x2 + 1)), a_r (r3)] [] (k, u, g, t) := by
  refine (X_iinc (m := 38) (pc := 86) (n := 2) (c := 1) (by decide +kernel) rfl rfl (Nat.le_of_ble_eq_true rfl) rfl).trans ?_
  refine (X_goto (m := 38) (pc := 89) (off := -87) (tg := 2) (by decide +kernel) (by decide +kernel)).trans ?_
  rfl
theorem E_X4_noteHeard {σ : AS} {r0 : Nat} {x1 : Int} {r2 : Nat} : a_m 39 [a_r (r0), a_i (x1), a_r (r2)] σ = a_X 39 0 [a_r (r0), a_i (x1), a_r (r2)] [] σ := a_m_eq (by rw [a_entry, show m_maxL 39 = 3 from by decide +kernel]; rfl)
theorem B_X4_noteHeard_0 {k : Nat → Nat × Nat} {u : Nat → Nat → Int} {g : Nat → Nat → Nat} {t : Nat × Nat × Nat} {r0 : Nat} {x1 : Int} {r2 : Nat} : a_X 39 0 [a_r (r0), a_i (x1), a_r (r2)] [] (k, u, g, t) = if (k r2).1 = 7 then (a_m 69 [a_r (r2)] (k, u, g, t)).bind (a_back 39 1 3 [a_r (r0), a_i (x1), a_r (r2)] []) else none := by
  refine (X_aload_n (m := 39) (pc := 0) (n := 2) (by decide +kernel) rfl).trans ?_
  refine (X_call_vi (m := 39) (pc := 1) (q := 148) (y := 69) (n := 1) (as := [a_r (r2)]) (rest := []) (by decide +kernel) (by decide +kernel) (by decide +kernel) (by decide +kernel) rfl rfl (Nat.le_of_ble_eq_true rfl) (Nat.le_of_ble_eq_true rfl) rfl (by rw [show m_maxL 69 = 1 from by decide +kernel]; exact Nat.le_of_ble_eq_true rfl)).trans ?_
  exact ite_congr (by simp [a_rcv, show m_recv 69 = 7 from by decide +kernel]) (fun _ => rfl) (fun _ => rfl)
theorem B_X4_noteHeard_4 {k : Nat → Nat × Nat} {u : Nat → Nat → Int} {g : Nat → Nat → Nat} {t : Nat × Nat × Nat} {r0 : Nat} {x1 : Int} {r2 : Nat} {y0 : Int} : a_X 39 4 [a_r (r0), a_i (x1), a_r (r2)] [a_i (y0)] (k, u, g, t) = if (y0 : Int) ≠ 0 then some (.inl none, (k, u, g, t)) else if (k r0).1 = 5 then if (k (g r0 0)).1 = 9 then if (k r2).1 = 7 then if ((k (g (g r0 0) 6)).1 = 20 ∨ (k (g (g r0 0) 6)).1 = 24) ∧ 0 ≤ (u r2 0 : Int) ∧ (u r2 0 : Int) < ((k (g (g r0 0) 6)).2 : Int) then if (k (g (g r0 0) 6)).1 = 20 ∧ 0 ≤ (u r2 0 : Int) ∧ (u r2 0 : Int) < ((k (g (g r0 0) 6)).2 : Int) then some (.inl none, (k, (upm u (g (g r0 0) 6) (u r2 0 : Int).toNat (zor (u (g (g r0 0) 6) (u r2 0 : Int).toNat) (zshl (1) (x1)))), g, t)) else none else none else none else none else none := by
  refine (X_if_ne (m := 39) (pc := 4) (off := 21) (tg := 25) (by decide +kernel) (by decide +kernel)).trans ?_
  refine ite_congr rfl (fun _ => ?_) (fun _ => ?_)
  · exact X_return (m := 39) (pc := 25) (by decide +kernel) (by decide +kernel)
  · refine (X_aload_n (m := 39) (pc := 7) (n := 0) (by decide +kernel) rfl).trans ?_
    refine (X_getR (m := 39) (pc := 8) (n := 12) (c := 5) (q := 0) (fi := true) (by decide +kernel) (by decide +kernel)).trans ?_
    refine ite_congr rfl (fun _ => ?_) (fun _ => rfl)
    refine (X_getR (m := 39) (pc := 11) (n := 151) (c := 9) (q := 6) (fi := true) (by decide +kernel) (by decide +kernel)).trans ?_
    refine ite_congr rfl (fun _ => ?_) (fun _ => rfl)
    refine (X_aload_n (m := 39) (pc := 14) (n := 2) (by decide +kernel) rfl).trans ?_
    refine (X_getI (m := 39) (pc := 15) (n := 154) (c := 7) (q := 0) (ty := 1) (fi := false) (by decide +kernel) (by decide +kernel) (by decide +kernel)).trans ?_
    refine ite_congr rfl (fun _ => ?_) (fun _ => rfl)
    refine (X_dup2 (m := 39) (pc := 18)  (by decide +kernel) rfl rfl rfl rfl).trans ?_
    refine (X_iaload (m := 39) (pc := 19)  (by decide +kernel) ).trans ?_
    refine ite_congr rfl (fun _ => ?_) (fun _ => rfl)
    refine (X_iconst (m := 39) (pc := 20) (n := 1) (by decide +kernel) ).trans ?_
    refine (X_iload_n (m := 39) (pc := 21) (n := 1) (by decide +kernel) rfl).trans ?_
    refine (X_ishl (m := 39) (pc := 22)  (by decide +kernel) ).trans ?_
    refine (X_ior (m := 39) (pc := 23)  (by decide +kernel) ).trans ?_
    refine (X_iastore (m := 39) (pc := 24)  (by decide +kernel) ).trans ?_
    refine ite_congr rfl (fun _ => ?_) (fun _ => rfl)
    exact X_return (m := 39) (pc := 25) (by decide +kernel) (by decide +kernel)
theorem E_X4_knows {σ : AS} {r0 : Nat} {x1 : Int} {x2 : Int} : a_m 40 [a_r (r0), a_i (x1), a_i (x2)] σ = a_X 40 0 [a_r (r0), a_i (x1), a_i (x2)] [] σ := a_m_eq (by rw [a_entry, show m_maxL 40 = 3 from by decide +kernel]; rfl)
theorem B_X4_knows_0 {k : Nat → Nat × Nat} {u : Nat → Nat → Int} {g : Nat → Nat → Nat} {t : Nat × Nat × Nat} {r0 : Nat} {x1 : Int} {x2 : Int} : a_X 40 0 [a_r (r0), a_i (x1), a_i (x2)] [] (k, u, g, t) = if (x2 : Int) < (1 : Int) then some (.inl (some (a_i (0))), (k, u, g, t)) else if (k r0).1 = 5 then if (k (g r0 0)).1 = 9 then if (x2 : Int) > (u (g r0 0) 7 : Int) then some (.inl (some (a_i (0))), (k, u, g, t)) else if (k r0).1 = 5 then if (k (g r0 0)).1 = 9 then if ((k (g (g r0 0) 6)).1 = 20 ∨ (k (g (g r0 0) 6)).1 = 24) ∧ 0 ≤ (x2 : Int) ∧ (x2 : Int) < ((k (g (g r0 0) 6)).2 : Int) then if (zand (zshr (u (g (g r0 0) 6) (x2 : Int).toNat) (x1)) (1) : Int) ≠ (1 : Int) then some (.inl (some (a_i (0))), (k, u, g, t)) else some (.inl (some (a_i (1))), (k, u, g, t)) else none else none else none else none else none := by
  refine (X_iload_n (m := 40) (pc := 0) (n := 2) (by decide +kernel) rfl).trans ?_
  refine (X_iconst (m := 40) (pc := 1) (n := 1) (by decide +kernel) ).trans ?_
  refine (X_ic_lt (m := 40) (pc := 2) (off := 35) (tg := 37) (by decide +kernel) (by decide +kernel)).trans ?_
  refine ite_congr rfl (fun _ => ?_) (fun _ => ?_)
  · refine (X_iconst (m := 40) (pc := 37) (n := 0) (by decide +kernel) ).trans ?_
    exact X_ireturn (m := 40) (pc := 38) (f := 2) (by decide +kernel) (by decide +kernel) rfl
  · refine (X_iload_n (m := 40) (pc := 5) (n := 2) (by decide +kernel) rfl).trans ?_
    refine (X_aload_n (m := 40) (pc := 6) (n := 0) (by decide +kernel) rfl).trans ?_
    refine (X_getR (m := 40) (pc := 7) (n := 12) (c := 5) (q := 0) (fi := true) (by decide +kernel) (by decide +kernel)).trans ?_
    refine ite_congr rfl (fun _ => ?_) (fun _ => rfl)
    refine (X_getI (m := 40) (pc := 10) (n := 80) (c := 9) (q := 7) (ty := 1) (fi := false) (by decide +kernel) (by decide +kernel) (by decide +kernel)).trans ?_
    refine ite_congr rfl (fun _ => ?_) (fun _ => rfl)
    refine (X_ic_gt (m := 40) (pc := 13) (off := 24) (tg := 37) (by decide +kernel) (by decide +kernel)).trans ?_
    refine ite_congr rfl (fun _ => ?_) (fun _ => ?_)
    · refine (X_iconst (m := 40) (pc := 37) (n := 0) (by decide +kernel) ).trans ?_
      exact X_ireturn (m := 40) (pc := 38) (f := 2) (by decide +kernel) (by decide +kernel) rfl
    · refine (X_aload_n (m := 40) (pc := 16) (n := 0) (by decide +kernel) rfl).trans ?_
      refine (X_getR (m := 40) (pc := 17) (n := 12) (c := 5) (q := 0) (fi := true) (by decide +kernel) (by decide +kernel)).trans ?_
      refine ite_congr rfl (fun _ => ?_) (fun _ => rfl)
      refine (X_getR (m := 40) (pc := 20) (n := 151) (c := 9) (q := 6) (fi := true) (by decide +kernel) (by decide +kernel)).trans ?_
      refine ite_congr rfl (fun _ => ?_) (fun _ => rfl)
      refine (X_iload_n (m := 40) (pc := 23) (n := 2) (by decide +kernel) rfl).trans ?_
      refine (X_iaload (m := 40) (pc := 24)  (by decide +kernel) ).trans ?_
      refine ite_congr rfl (fun _ => ?_) (fun _ => rfl)
      refine (X_iload_n (m := 40) (pc := 25) (n := 1) (by decide +kernel) rfl).trans ?_
      refine (X_ishr (m := 40) (pc := 26)  (by decide +kernel) ).trans ?_
      refine (X_iconst (m := 40) (pc := 27) (n := 1) (by decide +kernel) ).trans ?_
      refine (X_iand (m := 40) (pc := 28)  (by decide +kernel) ).trans ?_
      refine (X_iconst (m := 40) (pc := 29) (n := 1) (by decide +kernel) ).trans ?_
      refine (X_ic_ne (m := 40) (pc := 30) (off := 7) (tg := 37) (by decide +kernel) (by decide +kernel)).trans ?_
      refine ite_congr rfl (fun _ => ?_) (fun _ => ?_)
      · refine (X_iconst (m := 40) (pc := 37) (n := 0) (by decide +kernel) ).trans ?_
        exact X_ireturn (m := 40) (pc := 38) (f := 2) (by decide +kernel) (by decide +kernel) rfl
      · refine (X_iconst (m := 40) (pc := 33) (n := 1) (by decide +kernel) ).trans ?_
        refine (X_goto (m := 40) (pc := 34) (off := 4) (tg := 38) (by decide +kernel) (by decide +kernel)).trans ?_
        exact X_ireturn (m := 40) (pc := 38) (f := 2) (by decide +kernel) (by decide +kernel) rfl
theorem E_X4_misses {σ : AS} {r0 : Nat} {x1 : Int} {x2 : Int} : a_m 41 [a_r (r0), a_i (x1), a_i (x2)] σ = a_X 41 0 [a_r (r0), a_i (x1), a_i (x2)] [] σ := a_m_eq (by rw [a_entry, show m_maxL 41 = 3 from by decide +kernel]; rfl)
theorem B_X4_misses_0 {k : Nat → Nat × Nat} {u : Nat → Nat → Int} {g : Nat → Nat → Nat} {t : Nat × Nat × Nat} {r0 : Nat} {x1 : Int} {x2 : Int} : a_X 41 0 [a_r (r0), a_i (x1), a_i (x2)] [] (k, u, g, t) = if (k r0).1 = 5 then if 30 ≤ (k (g r0 3)).1 ∧ 0 ≤ (x1 : Int) ∧ (x1 : Int) < ((k (g r0 3)).2 : Int) then if (k (g (g r0 3) (x1 : Int).toNat)).1 = 3 then if (x2 : Int) ≤ (u (g (g r0 3) (x1 : Int).toNat) 5 : Int) then some (.inl (some (a_i (0))), (k, u, g, t)) else if (k r0).1 = 5 then if 30 ≤ (k (g r0 3)).1 ∧ 0 ≤ (x1 : Int) ∧ (x1 : Int) < ((k (g r0 3)).2 : Int) then if (k (g (g r0 3) (x1 : Int).toNat)).1 = 3 then if (x2 : Int) ≥ (u (g (g r0 3) (x1 : Int).toNat) 6 : Int) then some (.inl (some (a_i (0))), (k, u, g, t)) else if (k r0).1 = 5 then (a_m 40 [a_r (r0), a_i (x1), a_i (x2)] (k, u, g, t)).bind (a_back 41 29 3 [a_r (r0), a_i (x1), a_i (x2)] []) else none else none else none else none else none else none else none := by
  refine (X_iload_n (m := 41) (pc := 0) (n := 2) (by decide +kernel) rfl).trans ?_
  refine (X_aload_n (m := 41) (pc := 1) (n := 0) (by decide +kernel) rfl).trans ?_
  refine (X_getR (m := 41) (pc := 2) (n := 31) (c := 5) (q := 3) (fi := true) (by decide +kernel) (by decide +kernel)).trans ?_
  refine ite_congr rfl (fun _ => ?_) (fun _ => rfl)
  refine (X_iload_n (m := 41) (pc := 5) (n := 1) (by decide +kernel) rfl).trans ?_
  refine (X_aaload (m := 41) (pc := 6)  (by decide +kernel) ).trans ?_
  refine ite_congr rfl (fun _ => ?_) (fun _ => rfl)
  refine (X_getI (m := 41) (pc := 7) (n := 157) (c := 3) (q := 5) (ty := 1) (fi := false) (by decide +kernel) (by decide +kernel) (by decide +kernel)).trans ?_
  refine ite_congr rfl (fun _ => ?_) (fun _ => rfl)
  refine (X_ic_le (m := 41) (pc := 10) (off := 29) (tg := 39) (by decide +kernel) (by decide +kernel)).trans ?_
  refine ite_congr rfl (fun _ => ?_) (fun _ => ?_)
  · refine (X_iconst (m := 41) (pc := 39) (n := 0) (by decide +kernel) ).trans ?_
    exact X_ireturn (m := 41) (pc := 40) (f := 2) (by decide +kernel) (by decide +kernel) rfl
  · refine (X_iload_n (m := 41) (pc := 13) (n := 2) (by decide +kernel) rfl).trans ?_
    refine (X_aload_n (m := 41) (pc := 14) (n := 0) (by decide +kernel) rfl).trans ?_
    refine (X_getR (m := 41) (pc := 15) (n := 31) (c := 5) (q := 3) (fi := true) (by decide +kernel) (by decide +kernel)).trans ?_
    refine ite_congr rfl (fun _ => ?_) (fun _ => rfl)
    refine (X_iload_n (m := 41) (pc := 18) (n := 1) (by decide +kernel) rfl).trans ?_
    refine (X_aaload (m := 41) (pc := 19)  (by decide +kernel) ).trans ?_
    refine ite_congr rfl (fun _ => ?_) (fun _ => rfl)
    refine (X_getI (m := 41) (pc := 20) (n := 160) (c := 3) (q := 6) (ty := 1) (fi := false) (by decide +kernel) (by decide +kernel) (by decide +kernel)).trans ?_
    refine ite_congr rfl (fun _ => ?_) (fun _ => rfl)
    refine (X_ic_ge (m := 41) (pc := 23) (off := 16) (tg := 39) (by decide +kernel) (by decide +kernel)).trans ?_
    refine ite_congr rfl (fun _ => ?_) (fun _ => ?_)
    · refine (X_iconst (m := 41) (pc := 39) (n := 0) (by decide +kernel) ).trans ?_
      exact X_ireturn (m := 41) (pc := 40) (f := 2) (by decide +kernel) (by decide +kernel) rfl
    · refine (X_aload_n (m := 41) (pc := 26) (n := 0) (by decide +kernel) rfl).trans ?_
      refine (X_iload_n (m := 41) (pc := 27) (n := 1) (by decide +kernel) rfl).trans ?_
      refine (X_iload_n (m := 41) (pc := 28) (n := 2) (by decide +kernel) rfl).trans ?_
      refine (X_call_vi (m := 41) (pc := 29) (q := 163) (y := 40) (n := 3) (as := [a_r (r0), a_i (x1), a_i (x2)]) (rest := []) (by decide +kernel) (by decide +kernel) (by decide +kernel) (by decide +kernel) rfl rfl (Nat.le_of_ble_eq_true rfl) (Nat.le_of_ble_eq_true rfl) rfl (by rw [show m_maxL 40 = 3 from by decide +kernel]; exact Nat.le_of_ble_eq_true rfl)).trans ?_
      exact ite_congr (by simp [a_rcv, show m_recv 40 = 5 from by decide +kernel]) (fun _ => rfl) (fun _ => rfl)
theorem B_X4_misses_32 {k : Nat → Nat × Nat} {u : Nat → Nat → Int} {g : Nat → Nat → Nat} {t : Nat × Nat × Nat} {r0 : Nat} {x1 : Int} {x2 : Int} {y0 : Int} : a_X 41 32 [a_r (r0), a_i (x1), a_i (x2)] [a_i (y0)] (k, u, g, t) = if (y0 : Int) ≠ 0 then some (.inl (some (a_i (0))), (k, u, g, t)) else some (.inl (some (a_i (1))), (k, u, g, t)) := by
  refine (X_if_ne (m := 41) (pc := 32) (off := 7) (tg := 39) (by decide +kernel) (by decide +kernel)).trans ?_
  refine ite_congr rfl (fun _ => ?_) (fun _ => ?_)
  · refine (X_iconst (m := 41) (pc := 39) (n := 0) (by decide +kernel) ).trans ?_
    exact X_ireturn (m := 41) (pc := 40) (f := 2) (by decide +kernel) (by decide +kernel) rfl
  · refine (X_iconst (m := 41) (pc := 35) (n := 1) (by decide +kernel) ).trans ?_
    refine (X_goto (m := 41) (pc := 36) (off := 4) (tg := 40) (by decide +kernel) (by decide +kernel)).trans ?_
    exact X_ireturn (m := 41) (pc := 40) (f := 2) (by decide +kernel) (by decide +kernel) rfl
theorem E_X4_numbersHeard {σ : AS} {r0 : Nat} {x1 : Int} : a_m 42 [a_r (r0), a_i (x1)] σ = a_X 42 0 [a_r (r0), a_i (x1), a_x false, a_x false] [] σ := a_m_eq (by rw [a_entry, show m_maxL 42 = 4 from by decide +kernel]; rfl)
theorem B_X4_numbersHeard_0 {k : Nat → Nat × Nat} {u : Nat → Nat → Int} {g : Nat → Nat → Nat} {t : Nat × Nat × Nat} {r0 : Nat} {x1 : Int} {v2 : AV} {v3 : AV} : a_X 42 0 [a_r (r0), a_i (x1), v2, v3] [] (k, u, g, t) = a_X 42 4 [a_r (r0), a_i (x1), a_i (0), a_i (1)] [] (k, u, g, t) := by
  refine (X_iconst (m := 42) (pc := 0) (n := 0) (by decide +kernel) ).trans ?_
  refine (X_istore_n (m := 42) (pc := 1) (n := 2) (by decide +kernel) rfl (Nat.le_of_ble_eq_true rfl) rfl).trans ?_
  refine (X_iconst (m := 42) (pc := 2) (n := 1) (by decide +kernel) ).trans ?_
  refine (X_istore_n (m := 42) (pc := 3) (n := 3) (by decide +kernel) rfl (Nat.le_of_ble_eq_true rfl) rfl).trans ?_
  rfl
theorem B_X4_numbersHeard_4 {k : Nat → Nat × Nat} {u : Nat → Nat → Int} {g : Nat → Nat → Nat} {t : Nat × Nat × Nat} {r0 : Nat} {x1 : Int} {x2 : Int} {x3 : Int} : a_X 42 4 [a_r (r0), a_i (x1), a_i (x2), a_i (x3)] [] (k, u, g, t) = if (k r0).1 = 5 then if (k (g r0 0)).1 = 9 then if (x3 : Int) > (u (g r0 0) 7 : Int) then some (.inl (some (a_i (x2))), (k, u, g, t)) else if (k r0).1 = 5 then (a_m 40 [a_r (r0), a_i (x1), a_i (x3)] (k, u, g, t)).bind (a_back 42 18 3 [a_r (r0), a_i (x1), a_i (x2), a_i (x3)] []) else none else none else none := by
  refine (X_iload_n (m := 42) (pc := 4) (n := 3) (by decide +kernel) rfl).trans ?_
  refine (X_aload_n (m := 42) (pc := 5) (n := 0) (by decide +kernel) rfl).trans ?_
  refine (X_getR (m := 42) (pc := 6) (n := 12) (c := 5) (q := 0) (fi := true) (by decide +kernel) (by decide +kernel)).trans ?_
  refine ite_congr rfl (fun _ => ?_) (fun _ => rfl)
  refine (X_getI (m := 42) (pc := 9) (n := 80) (c := 9) (q := 7) (ty := 1) (fi := false) (by decide +kernel) (by decide +kernel) (by decide +kernel)).trans ?_
  refine ite_congr rfl (fun _ => ?_) (fun _ => rfl)
  refine (X_ic_gt (m := 42) (pc := 12) (off := 21) (tg := 33) (by decide +kernel) (by decide +kernel)).trans ?_
  refine ite_congr rfl (fun _ => ?_) (fun _ => ?_)
  · refine (X_iload_n (m := 42) (pc := 33) (n := 2) (by decide +kernel) rfl).trans ?_
    exact X_ireturn (m := 42) (pc := 34) (f := 1) (by decide +kernel) (by decide +kernel) rfl
  · refine (X_aload_n (m := 42) (pc := 15) (n := 0) (by decide +kernel) rfl).trans ?_
    refine (X_iload_n (m := 42) (pc := 16) (n := 1) (by decide +kernel) rfl).trans ?_
    refine (X_iload_n (m := 42) (pc := 17) (n := 3) (by decide +kernel) rfl).trans ?_
    refine (X_call_vi (m := 42) (pc := 18) (q := 163) (y := 40) (n := 3) (as := [a_r (r0), a_i (x1), a_i (x3)]) (rest := []) (by decide +kernel) (by decide +kernel) (by decide +kernel) (by decide +kernel) rfl rfl (Nat.le_of_ble_eq_true rfl) (Nat.le_of_ble_eq_true rfl) rfl (by rw [show m_maxL 40 = 3 from by decide +kernel]; exact Nat.le_of_ble_eq_true rfl)).trans ?_
    exact ite_congr (by simp [a_rcv, show m_recv 40 = 5 from by decide +kernel]) (fun _ => rfl) (fun _ => rfl)
theorem B_X4_numbersHeard_21 {k : Nat → Nat × Nat} {u : Nat → Nat → Int} {g : Nat → Nat → Nat} {t : Nat × Nat × Nat} {r0 : Nat} {x1 : Int} {x2 : Int} {x3 : Int} {y0 : Int} : a_X 42 21 [a_r (r0), a_i (x1), a_i (x2), a_i (x3)] [a_i (y0)] (k, u, g, t) = if (y0 : Int) = 0 then a_X 42 4 [a_r (r0), a_i (x1), a_i (x2), a_i (wr (x3 + 1))] [] (k, u, g, t) else a_X 42 4 [a_r (r0), a_i (x1), a_i (wr (x2 + 1)), a_i (wr (x3 + 1))] [] (k, u, g, t) := by
  refine (X_if_eq (m := 42) (pc := 21) (off := 6) (tg := 27) (by decide +kernel) (by decide +kernel)).trans ?_
  refine ite_congr rfl (fun _ => ?_) (fun _ => ?_)
  · refine (X_iinc (m := 42) (pc := 27) (n := 3) (c := 1) (by decide +kernel) rfl rfl (Nat.le_of_ble_eq_true rfl) rfl).trans ?_
    refine (X_goto (m := 42) (pc := 30) (off := -26) (tg := 4) (by decide +kernel) (by decide +kernel)).trans ?_
    rfl
  · refine (X_iinc (m := 42) (pc := 24) (n := 2) (c := 1) (by decide +kernel) rfl rfl (Nat.le_of_ble_eq_true rfl) rfl).trans ?_
    refine (X_iinc (m := 42) (pc := 27) (n := 3) (c := 1) (by decide +kernel) rfl rfl (Nat.le_of_ble_eq_true rfl) rfl).trans ?_
    refine (X_goto (m := 42) (pc := 30) (off := -26) (tg := 4) (by decide +kernel) (by decide +kernel)).trans ?_
    rfl
theorem E_X4_numbersMissed {σ : AS} {r0 : Nat} {x1 : Int} : a_m 43 [a_r (r0), a_i (x1)] σ = a_X 43 0 [a_r (r0), a_i (x1), a_x false, a_x false] [] σ := a_m_eq (by rw [a_entry, show m_maxL 43 = 4 from by decide +kernel]; rfl)
theorem B_X4_numbersMissed_0 {k : Nat → Nat × Nat} {u : Nat → Nat → Int} {g : Nat → Nat → Nat} {t : Nat × Nat × Nat} {r0 : Nat} {x1 : Int} {v2 : AV} {v3 : AV} : a_X 43 0 [a_r (r0), a_i (x1), v2, v3] [] (k, u, g, t) = a_X 43 4 [a_r (r0), a_i (x1), a_i (0), a_i (1)] [] (k, u, g, t) := by
  refine (X_iconst (m := 43) (pc := 0) (n := 0) (by decide +kernel) ).trans ?_
  refine (X_istore_n (m := 43) (pc := 1) (n := 2) (by decide +kernel) rfl (Nat.le_of_ble_eq_true rfl) rfl).trans ?_
  refine (X_iconst (m := 43) (pc := 2) (n := 1) (by decide +kernel) ).trans ?_
  refine (X_istore_n (m := 43) (pc := 3) (n := 3) (by decide +kernel) rfl (Nat.le_of_ble_eq_true rfl) rfl).trans ?_
  rfl
theorem B_X4_numbersMissed_4 {k : Nat → Nat × Nat} {u : Nat → Nat → Int} {g : Nat → Nat → Nat} {t : Nat × Nat × Nat} {r0 : Nat} {x1 : Int} {x2 : Int} {x3 : Int} : a_X 43 4 [a_r (r0), a_i (x1), a_i (x2), a_i (x3)] [] (k, u, g, t) = if (k r0).1 = 5 then if (k (g r0 0)).1 = 9 then if (x3 : Int) > (u (g r0 0) 7 : Int) then some (.inl (some (a_i (x2))), (k, u, g, t)) else if (k r0).1 = 5 then (a_m 41 [a_r (r0), a_i (x1), a_i (x3)] (k, u, g, t)).bind (a_back 43 18 3 [a_r (r0), a_i (x1), a_i (x2), a_i (x3)] []) else none else none else none := by
  refine (X_iload_n (m := 43) (pc := 4) (n := 3) (by decide +kernel) rfl).trans ?_
  refine (X_aload_n (m := 43) (pc := 5) (n := 0) (by decide +kernel) rfl).trans ?_
  refine (X_getR (m := 43) (pc := 6) (n := 12) (c := 5) (q := 0) (fi := true) (by decide +kernel) (by decide +kernel)).trans ?_
  refine ite_congr rfl (fun _ => ?_) (fun _ => rfl)
  refine (X_getI (m := 43) (pc := 9) (n := 80) (c := 9) (q := 7) (ty := 1) (fi := false) (by decide +kernel) (by decide +kernel) (by decide +kernel)).trans ?_
  refine ite_congr rfl (fun _ => ?_) (fun _ => rfl)
  refine (X_ic_gt (m := 43) (pc := 12) (off := 21) (tg := 33) (by decide +kernel) (by decide +kernel)).trans ?_
  refine ite_congr rfl (fun _ => ?_) (fun _ => ?_)
  · refine (X_iload_n (m := 43) (pc := 33) (n := 2) (by decide +kernel) rfl).trans ?_
    exact X_ireturn (m := 43) (pc := 34) (f := 1) (by decide +kernel) (by decide +kernel) rfl
  · refine (X_aload_n (m := 43) (pc := 15) (n := 0) (by decide +kernel) rfl).trans ?_
    refine (X_iload_n (m := 43) (pc := 16) (n := 1) (by decide +kernel) rfl).trans ?_
    refine (X_iload_n (m := 43) (pc := 17) (n := 3) (by decide +kernel) rfl).trans ?_
    refine (X_call_vi (m := 43) (pc := 18) (q := 167) (y := 41) (n := 3) (as := [a_r (r0), a_i (x1), a_i (x3)]) (rest := []) (by decide +kernel) (by decide +kernel) (by decide +kernel) (by decide +kernel) rfl rfl (Nat.le_of_ble_eq_true rfl) (Nat.le_of_ble_eq_true rfl) rfl (by rw [show m_maxL 41 = 3 from by decide +kernel]; exact Nat.le_of_ble_eq_true rfl)).trans ?_
    exact ite_congr (by simp [a_rcv, show m_recv 41 = 5 from by decide +kernel]) (fun _ => rfl) (fun _ => rfl)
theorem B_X4_numbersMissed_21 {k : Nat → Nat × Nat} {u : Nat → Nat → Int} {g : Nat → Nat → Nat} {t : Nat × Nat × Nat} {r0 : Nat} {x1 : Int} {x2 : Int} {x3 : Int} {y0 : Int} : a_X 43 21 [a_r (r0), a_i (x1), a_i (x2), a_i (x3)] [a_i (y0)] (k, u, g, t) = if (y0 : Int) = 0 then a_X 43 4 [a_r (r0), a_i (x1), a_i (x2), a_i (wr (x3 + 1))] [] (k, u, g, t) else a_X 43 4 [a_r (r0), a_i (x1), a_i (wr (x2 + 1)), a_i (wr (x3 + 1))] [] (k, u, g, t) := by
  refine (X_if_eq (m := 43) (pc := 21) (off := 6) (tg := 27) (by decide +kernel) (by decide +kernel)).trans ?_
  refine ite_congr rfl (fun _ => ?_) (fun _ => ?_)
  · refine (X_iinc (m := 43) (pc := 27) (n := 3) (c := 1) (by decide +kernel) rfl rfl (Nat.le_of_ble_eq_true rfl) rfl).trans ?_
    refine (X_goto (m := 43) (pc := 30) (off := -26) (tg := 4) (by decide +kernel) (by decide +kernel)).trans ?_
    rfl
  · refine (X_iinc (m := 43) (pc := 24) (n := 2) (c := 1) (by decide +kernel) rfl rfl (Nat.le_of_ble_eq_true rfl) rfl).trans ?_
    refine (X_iinc (m := 43) (pc := 27) (n := 3) (c := 1) (by decide +kernel) rfl rfl (Nat.le_of_ble_eq_true rfl) rfl).trans ?_
    refine (X_goto (m := 43) (pc := 30) (off := -26) (tg := 4) (by decide +kernel) (by decide +kernel)).trans ?_
    rfl
theorem E_X4_numbersBehind {σ : AS} {r0 : Nat} {x1 : Int} : a_m 44 [a_r (r0), a_i (x1)] σ = a_X 44 0 [a_r (r0), a_i (x1)] [] σ := a_m_eq (by rw [a_entry, show m_maxL 44 = 2 from by decide +kernel]; rfl)
theorem B_X4_numbersBehind_0 {k : Nat → Nat × Nat} {u : Nat → Nat → Int} {g : Nat → Nat → Nat} {t : Nat × Nat × Nat} {r0 : Nat} {x1 : Int} : a_X 44 0 [a_r (r0), a_i (x1)] [] (k, u, g, t) = if (k r0).1 = 5 then if (k (g r0 0)).1 = 9 then if (k r0).1 = 5 then if 30 ≤ (k (g r0 3)).1 ∧ 0 ≤ (x1 : Int) ∧ (x1 : Int) < ((k (g r0 3)).2 : Int) then if (k (g (g r0 3) (x1 : Int).toNat)).1 = 3 then some (.inl (some (a_i (wr ((u (g r0 0) 7) - (u (g (g r0 3) (x1 : Int).toNat) 6))))), (k, u, g, t)) else none else none else none else none else none := by
  refine (X_aload_n (m := 44) (pc := 0) (n := 0) (by decide +kernel) rfl).trans ?_
  refine (X_getR (m := 44) (pc := 1) (n := 12) (c := 5) (q := 0) (fi := true) (by decide +kernel) (by decide +kernel)).trans ?_
  refine ite_congr rfl (fun _ => ?_) (fun _ => rfl)
  refine (X_getI (m := 44) (pc := 4) (n := 80) (c := 9) (q := 7) (ty := 1) (fi := false) (by decide +kernel) (by decide +kernel) (by decide +kernel)).trans ?_
  refine ite_congr rfl (fun _ => ?_) (fun _ => rfl)
  refine (X_aload_n (m := 44) (pc := 7) (n := 0) (by decide +kernel) rfl).trans ?_
  refine (X_getR (m := 44) (pc := 8) (n := 31) (c := 5) (q := 3) (fi := true) (by decide +kernel) (by decide +kernel)).trans ?_
  refine ite_congr rfl (fun _ => ?_) (fun _ => rfl)
  refine (X_iload_n (m := 44) (pc := 11) (n := 1) (by decide +kernel) rfl).trans ?_
  refine (X_aaload (m := 44) (pc := 12)  (by decide +kernel) ).trans ?_
  refine ite_congr rfl (fun _ => ?_) (fun _ => rfl)
  refine (X_getI (m := 44) (pc := 13) (n := 160) (c := 3) (q := 6) (ty := 1) (fi := false) (by decide +kernel) (by decide +kernel) (by decide +kernel)).trans ?_
  refine ite_congr rfl (fun _ => ?_) (fun _ => rfl)
  refine (X_isub (m := 44) (pc := 16)  (by decide +kernel) ).trans ?_
  exact X_ireturn (m := 44) (pc := 17) (f := 1) (by decide +kernel) (by decide +kernel) rfl
theorem E_X4_differing {σ : AS} {r0 : Nat} {x1 : Int} : a_m 45 [a_r (r0), a_i (x1)] σ = a_X 45 0 [a_r (r0), a_i (x1)] [] σ := a_m_eq (by rw [a_entry, show m_maxL 45 = 2 from by decide +kernel]; rfl)
theorem B_X4_differing_0 {k : Nat → Nat × Nat} {u : Nat → Nat → Int} {g : Nat → Nat → Nat} {t : Nat × Nat × Nat} {r0 : Nat} {x1 : Int} : a_X 45 0 [a_r (r0), a_i (x1)] [] (k, u, g, t) = if (k r0).1 = 5 then if (k r0).1 = 5 then if (k r0).1 = 5 then if 30 ≤ (k (g r0 3)).1 ∧ 0 ≤ (x1 : Int) ∧ (x1 : Int) < ((k (g r0 3)).2 : Int) then if (k (g (g r0 3) (x1 : Int).toNat)).1 = 3 then if (k (g r0 0)).1 = 9 then (a_m 89 [a_r (g r0 0), a_r (g r0 1), a_r (g (g (g r0 3) (x1 : Int).toNat) 4)] (k, u, g, t)).bind (a_back 45 17 3 [a_r (r0), a_i (x1)] []) else none else none else none else none else none else none := by
  refine (X_aload_n (m := 45) (pc := 0) (n := 0) (by decide +kernel) rfl).trans ?_
  refine (X_getR (m := 45) (pc := 1) (n := 12) (c := 5) (q := 0) (fi := true) (by decide +kernel) (by decide +kernel)).trans ?_
  refine ite_congr rfl (fun _ => ?_) (fun _ => rfl)
  refine (X_aload_n (m := 45) (pc := 4) (n := 0) (by decide +kernel) rfl).trans ?_
  refine (X_getR (m := 45) (pc := 5) (n := 18) (c := 5) (q := 1) (fi := true) (by decide +kernel) (by decide +kernel)).trans ?_
  refine ite_congr rfl (fun _ => ?_) (fun _ => rfl)
  refine (X_aload_n (m := 45) (pc := 8) (n := 0) (by decide +kernel) rfl).trans ?_
  refine (X_getR (m := 45) (pc := 9) (n := 31) (c := 5) (q := 3) (fi := true) (by decide +kernel) (by decide +kernel)).trans ?_
  refine ite_congr rfl (fun _ => ?_) (fun _ => rfl)
  refine (X_iload_n (m := 45) (pc := 12) (n := 1) (by decide +kernel) rfl).trans ?_
  refine (X_aaload (m := 45) (pc := 13)  (by decide +kernel) ).trans ?_
  refine ite_congr rfl (fun _ => ?_) (fun _ => rfl)
  refine (X_getR (m := 45) (pc := 14) (n := 74) (c := 3) (q := 4) (fi := true) (by decide +kernel) (by decide +kernel)).trans ?_
  refine ite_congr rfl (fun _ => ?_) (fun _ => rfl)
  refine (X_call_vi (m := 45) (pc := 17) (q := 170) (y := 89) (n := 3) (as := [a_r (g r0 0), a_r (g r0 1), a_r (g (g (g r0 3) (x1 : Int).toNat) 4)]) (rest := []) (by decide +kernel) (by decide +kernel) (by decide +kernel) (by decide +kernel) rfl rfl (Nat.le_of_ble_eq_true rfl) (Nat.le_of_ble_eq_true rfl) rfl (by rw [show m_maxL 89 = 5 from by decide +kernel]; exact Nat.le_of_ble_eq_true rfl)).trans ?_
  exact ite_congr (by simp [a_rcv, show m_recv 89 = 9 from by decide +kernel]) (fun _ => rfl) (fun _ => rfl)
theorem B_X4_differing_20 {k : Nat → Nat × Nat} {u : Nat → Nat → Int} {g : Nat → Nat → Nat} {t : Nat × Nat × Nat} {r0 : Nat} {x1 : Int} {y0 : Int} : a_X 45 20 [a_r (r0), a_i (x1)] [a_i (y0)] (k, u, g, t) = some (.inl (some (a_i (y0))), (k, u, g, t)) := by
  exact X_ireturn (m := 45) (pc := 20) (f := 1) (by decide +kernel) (by decide +kernel) rfl
theorem E_X4_isPublished {σ : AS} {r0 : Nat} {x1 : Int} : a_m 46 [a_r (r0), a_i (x1)] σ = a_X 46 0 [a_r (r0), a_i (x1)] [] σ := a_m_eq (by rw [a_entry, show m_maxL 46 = 2 from by decide +kernel]; rfl)
theorem B_X4_isPublished_0 {k : Nat → Nat × Nat} {u : Nat → Nat → Int} {g : Nat → Nat → Nat} {t : Nat × Nat × Nat} {r0 : Nat} {x1 : Int} : a_X 46 0 [a_r (r0), a_i (x1)] [] (k, u, g, t) = if (k r0).1 = 5 then (a_m 45 [a_r (r0), a_i (x1)] (k, u, g, t)).bind (a_back 46 2 3 [a_r (r0), a_i (x1)] []) else none := by
  refine (X_aload_n (m := 46) (pc := 0) (n := 0) (by decide +kernel) rfl).trans ?_
  refine (X_iload_n (m := 46) (pc := 1) (n := 1) (by decide +kernel) rfl).trans ?_
  refine (X_call_vi (m := 46) (pc := 2) (q := 174) (y := 45) (n := 2) (as := [a_r (r0), a_i (x1)]) (rest := []) (by decide +kernel) (by decide +kernel) (by decide +kernel) (by decide +kernel) rfl rfl (Nat.le_of_ble_eq_true rfl) (Nat.le_of_ble_eq_true rfl) rfl (by rw [show m_maxL 45 = 2 from by decide +kernel]; exact Nat.le_of_ble_eq_true rfl)).trans ?_
  exact ite_congr (by simp [a_rcv, show m_recv 45 = 5 from by decide +kernel]) (fun _ => rfl) (fun _ => rfl)
theorem B_X4_isPublished_5 {k : Nat → Nat × Nat} {u : Nat → Nat → Int} {g : Nat → Nat → Nat} {t : Nat × Nat × Nat} {r0 : Nat} {x1 : Int} {y0 : Int} : a_X 46 5 [a_r (r0), a_i (x1)] [a_i (y0)] (k, u, g, t) = if (y0 : Int) ≠ 0 then some (.inl (some (a_i (0))), (k, u, g, t)) else some (.inl (some (a_i (1))), (k, u, g, t)) := by
  refine (X_if_ne (m := 46) (pc := 5) (off := 7) (tg := 12) (by decide +kernel) (by decide +kernel)).trans ?_
  refine ite_congr rfl (fun _ => ?_) (fun _ => ?_)
  · refine (X_iconst (m := 46) (pc := 12) (n := 0) (by decide +kernel) ).trans ?_
    exact X_ireturn (m := 46) (pc := 13) (f := 2) (by decide +kernel) (by decide +kernel) rfl
  · refine (X_iconst (m := 46) (pc := 8) (n := 1) (by decide +kernel) ).trans ?_
    refine (X_goto (m := 46) (pc := 9) (off := 4) (tg := 13) (by decide +kernel) (by decide +kernel)).trans ?_
    exact X_ireturn (m := 46) (pc := 13) (f := 2) (by decide +kernel) (by decide +kernel) rfl
theorem E_X4_minutesWrong {σ : AS} {r0 : Nat} {x1 : Int} : a_m 47 [a_r (r0), a_i (x1)] σ = a_X 47 0 [a_r (r0), a_i (x1)] [] σ := a_m_eq (by rw [a_entry, show m_maxL 47 = 2 from by decide +kernel]; rfl)
theorem B_X4_minutesWrong_0 {k : Nat → Nat × Nat} {u : Nat → Nat → Int} {g : Nat → Nat → Nat} {t : Nat × Nat × Nat} {r0 : Nat} {x1 : Int} : a_X 47 0 [a_r (r0), a_i (x1)] [] (k, u, g, t) = if (k r0).1 = 5 then if (k r0).1 = 5 then if (k r0).1 = 5 then if 30 ≤ (k (g r0 3)).1 ∧ 0 ≤ (x1 : Int) ∧ (x1 : Int) < ((k (g r0 3)).2 : Int) then if (k (g (g r0 3) (x1 : Int).toNat)).1 = 3 then (a_m 298 [a_r (g r0 0), a_r (g r0 1), a_r (g (g (g r0 3) (x1 : Int).toNat) 4)] (k, u, g, t)).bind (a_back 47 17 3 [a_r (r0), a_i (x1)] []) else none else none else none else none else none := by
  refine (X_aload_n (m := 47) (pc := 0) (n := 0) (by decide +kernel) rfl).trans ?_
  refine (X_getR (m := 47) (pc := 1) (n := 12) (c := 5) (q := 0) (fi := true) (by decide +kernel) (by decide +kernel)).trans ?_
  refine ite_congr rfl (fun _ => ?_) (fun _ => rfl)
  refine (X_aload_n (m := 47) (pc := 4) (n := 0) (by decide +kernel) rfl).trans ?_
  refine (X_getR (m := 47) (pc := 5) (n := 18) (c := 5) (q := 1) (fi := true) (by decide +kernel) (by decide +kernel)).trans ?_
  refine ite_congr rfl (fun _ => ?_) (fun _ => rfl)
  refine (X_aload_n (m := 47) (pc := 8) (n := 0) (by decide +kernel) rfl).trans ?_
  refine (X_getR (m := 47) (pc := 9) (n := 31) (c := 5) (q := 3) (fi := true) (by decide +kernel) (by decide +kernel)).trans ?_
  refine ite_congr rfl (fun _ => ?_) (fun _ => rfl)
  refine (X_iload_n (m := 47) (pc := 12) (n := 1) (by decide +kernel) rfl).trans ?_
  refine (X_aaload (m := 47) (pc := 13)  (by decide +kernel) ).trans ?_
  refine ite_congr rfl (fun _ => ?_) (fun _ => rfl)
  refine (X_getR (m := 47) (pc := 14) (n := 74) (c := 3) (q := 4) (fi := true) (by decide +kernel) (by decide +kernel)).trans ?_
  refine ite_congr rfl (fun _ => ?_) (fun _ => rfl)
  refine (X_call_st (m := 47) (pc := 17) (q := 178) (y := 298) (n := 3) (as := [a_r (g r0 0), a_r (g r0 1), a_r (g (g (g r0 3) (x1 : Int).toNat) 4)]) (rest := []) (by decide +kernel) (by decide +kernel) (by decide +kernel) (by decide +kernel) rfl rfl (Nat.le_of_ble_eq_true rfl) (Nat.le_of_ble_eq_true rfl) rfl (by rw [show m_maxL 298 = 8 from by decide +kernel]; exact Nat.le_of_ble_eq_true rfl)).trans ?_
  exact if_pos rfl
theorem B_X4_minutesWrong_20 {k : Nat → Nat × Nat} {u : Nat → Nat → Int} {g : Nat → Nat → Nat} {t : Nat × Nat × Nat} {r0 : Nat} {x1 : Int} {y0 : Int} : a_X 47 20 [a_r (r0), a_i (x1)] [a_i (y0)] (k, u, g, t) = some (.inl (some (a_i (y0))), (k, u, g, t)) := by
  exact X_ireturn (m := 47) (pc := 20) (f := 1) (by decide +kernel) (by decide +kernel) rfl
theorem E_X4_sameListeners {σ : AS} {r0 : Nat} : a_m 48 [a_r (r0)] σ = a_X 48 0 [a_r (r0), a_x false, a_x false] [] σ := a_m_eq (by rw [a_entry, show m_maxL 48 = 3 from by decide +kernel]; rfl)
theorem B_X4_sameListeners_0 {k : Nat → Nat × Nat} {u : Nat → Nat → Int} {g : Nat → Nat → Nat} {t : Nat × Nat × Nat} {r0 : Nat} {v1 : AV} {v2 : AV} : a_X 48 0 [a_r (r0), v1, v2] [] (k, u, g, t) = a_X 48 4 [a_r (r0), a_i (0), a_i (0)] [] (k, u, g, t) := by
  refine (X_iconst (m := 48) (pc := 0) (n := 0) (by decide +kernel) ).trans ?_
  refine (X_istore_n (m := 48) (pc := 1) (n := 1) (by decide +kernel) rfl (Nat.le_of_ble_eq_true rfl) rfl).trans ?_
  refine (X_iconst (m := 48) (pc := 2) (n := 0) (by decide +kernel) ).trans ?_
  refine (X_istore_n (m := 48) (pc := 3) (n := 2) (by decide +kernel) rfl (Nat.le_of_ble_eq_true rfl) rfl).trans ?_
  rfl
theorem B_X4_sameListeners_4 {k : Nat → Nat × Nat} {u : Nat → Nat → Int} {g : Nat → Nat → Nat} {t : Nat × Nat × Nat} {r0 : Nat} {x1 : Int} {x2 : Int} : a_X 48 4 [a_r (r0), a_i (x1), a_i (x2)] [] (k, u, g, t) = if (k r0).1 = 5 then if (x2 : Int) ≥ (u r0 4 : Int) then some (.inl (some (a_i (x1))), (k, u, g, t)) else if (k r0).1 = 5 then (a_m 46 [a_r (r0), a_i (x2)] (k, u, g, t)).bind (a_back 48 14 3 [a_r (r0), a_i (x1), a_i (x2)] []) else none else none := by
  refine (X_iload_n (m := 48) (pc := 4) (n := 2) (by decide +kernel) rfl).trans ?_
  refine (X_aload_n (m := 48) (pc := 5) (n := 0) (by decide +kernel) rfl).trans ?_
  refine (X_getI (m := 48) (pc := 6) (n := 49) (c := 5) (q := 4) (ty := 1) (fi := false) (by decide +kernel) (by decide +kernel) (by decide +kernel)).trans ?_
  refine ite_congr rfl (fun _ => ?_) (fun _ => rfl)
  refine (X_ic_ge (m := 48) (pc := 9) (off := 20) (tg := 29) (by decide +kernel) (by decide +kernel)).trans ?_
  refine ite_congr rfl (fun _ => ?_) (fun _ => ?_)
  · refine (X_iload_n (m := 48) (pc := 29) (n := 1) (by decide +kernel) rfl).trans ?_
    exact X_ireturn (m := 48) (pc := 30) (f := 1) (by decide +kernel) (by decide +kernel) rfl
  · refine (X_aload_n (m := 48) (pc := 12) (n := 0) (by decide +kernel) rfl).trans ?_
    refine (X_iload_n (m := 48) (pc := 13) (n := 2) (by decide +kernel) rfl).trans ?_
    refine (X_call_vi (m := 48) (pc := 14) (q := 184) (y := 46) (n := 2) (as := [a_r (r0), a_i (x2)]) (rest := []) (by decide +kernel) (by decide +kernel) (by decide +kernel) (by decide +kernel) rfl rfl (Nat.le_of_ble_eq_true rfl) (Nat.le_of_ble_eq_true rfl) rfl (by rw [show m_maxL 46 = 2 from by decide +kernel]; exact Nat.le_of_ble_eq_true rfl)).trans ?_
    exact ite_congr (by simp [a_rcv, show m_recv 46 = 5 from by decide +kernel]) (fun _ => rfl) (fun _ => rfl)
theorem B_X4_sameListeners_17 {k : Nat → Nat × Nat} {u : Nat → Nat → Int} {g : Nat → Nat → Nat} {t : Nat × Nat × Nat} {r0 : Nat} {x1 : Int} {x2 : Int} {y0 : Int} : a_X 48 17 [a_r (r0), a_i (x1), a_i (x2)] [a_i (y0)] (k, u, g, t) = if (y0 : Int) = 0 then a_X 48 4 [a_r (r0), a_i (x1), a_i (wr (x2 + 1))] [] (k, u, g, t) else a_X 48 4 [a_r (r0), a_i (wr (x1 + 1)), a_i (wr (x2 + 1))] [] (k, u, g, t) := by
  refine (X_if_eq (m := 48) (pc := 17) (off := 6) (tg := 23) (by decide +kernel) (by decide +kernel)).trans ?_
  refine ite_congr rfl (fun _ => ?_) (fun _ => ?_)
  · refine (X_iinc (m := 48) (pc := 23) (n := 2) (c := 1) (by decide +kernel) rfl rfl (Nat.le_of_ble_eq_true rfl) rfl).trans ?_
    refine (X_goto (m := 48) (pc := 26) (off := -22) (tg := 4) (by decide +kernel) (by decide +kernel)).trans ?_
    rfl
  · refine (X_iinc (m := 48) (pc := 20) (n := 1) (c := 1) (by decide +kernel) rfl rfl (Nat.le_of_ble_eq_true rfl) rfl).trans ?_
    refine (X_iinc (m := 48) (pc := 23) (n := 2) (c := 1) (by decide +kernel) rfl rfl (Nat.le_of_ble_eq_true rfl) rfl).trans ?_
    refine (X_goto (m := 48) (pc := 26) (off := -22) (tg := 4) (by decide +kernel) (by decide +kernel)).trans ?_
    rfl
theorem E_X4_allDropped {σ : AS} {r0 : Nat} : a_m 49 [a_r (r0)] σ = a_X 49 0 [a_r (r0), a_x false, a_x false] [] σ := a_m_eq (by rw [a_entry, show m_maxL 49 = 3 from by decide +kernel]; rfl)
theorem B_X4_allDropped_0 {k : Nat → Nat × Nat} {u : Nat → Nat → Int} {g : Nat → Nat → Nat} {t : Nat × Nat × Nat} {r0 : Nat} {v1 : AV} {v2 : AV} : a_X 49 0 [a_r (r0), v1, v2] [] (k, u, g, t) = a_X 49 4 [a_r (r0), a_i (0), a_i (0)] [] (k, u, g, t) := by
  refine (X_iconst (m := 49) (pc := 0) (n := 0) (by decide +kernel) ).trans ?_
  refine (X_istore_n (m := 49) (pc := 1) (n := 1) (by decide +kernel) rfl (Nat.le_of_ble_eq_true rfl) rfl).trans ?_
  refine (X_iconst (m := 49) (pc := 2) (n := 0) (by decide +kernel) ).trans ?_
  refine (X_istore_n (m := 49) (pc := 3) (n := 2) (by decide +kernel) rfl (Nat.le_of_ble_eq_true rfl) rfl).trans ?_
  rfl
theorem B_X4_allDropped_4 {k : Nat → Nat × Nat} {u : Nat → Nat → Int} {g : Nat → Nat → Nat} {t : Nat × Nat × Nat} {r0 : Nat} {x1 : Int} {x2 : Int} : a_X 49 4 [a_r (r0), a_i (x1), a_i (x2)] [] (k, u, g, t) = if (k r0).1 = 5 then if (x2 : Int) ≥ (u r0 4 : Int) then some (.inl (some (a_i (x1))), (k, u, g, t)) else if (k r0).1 = 5 then if 30 ≤ (k (g r0 3)).1 ∧ 0 ≤ (x2 : Int) ∧ (x2 : Int) < ((k (g r0 3)).2 : Int) then if (k (g (g r0 3) (x2 : Int).toNat)).1 = 3 then a_X 49 4 [a_r (r0), a_i (wr (x1 + (u (g (g r0 3) (x2 : Int).toNat) 7))), a_i (wr (x2 + 1))] [] (k, u, g, t) else none else none else none else none := by
  refine (X_iload_n (m := 49) (pc := 4) (n := 2) (by decide +kernel) rfl).trans ?_
  refine (X_aload_n (m := 49) (pc := 5) (n := 0) (by decide +kernel) rfl).trans ?_
  refine (X_getI (m := 49) (pc := 6) (n := 49) (c := 5) (q := 4) (ty := 1) (fi := false) (by decide +kernel) (by decide +kernel) (by decide +kernel)).trans ?_
  refine ite_congr rfl (fun _ => ?_) (fun _ => rfl)
  refine (X_ic_ge (m := 49) (pc := 9) (off := 21) (tg := 30) (by decide +kernel) (by decide +kernel)).trans ?_
  refine ite_congr rfl (fun _ => ?_) (fun _ => ?_)
  · refine (X_iload_n (m := 49) (pc := 30) (n := 1) (by decide +kernel) rfl).trans ?_
    exact X_ireturn (m := 49) (pc := 31) (f := 1) (by decide +kernel) (by decide +kernel) rfl
  · refine (X_iload_n (m := 49) (pc := 12) (n := 1) (by decide +kernel) rfl).trans ?_
    refine (X_aload_n (m := 49) (pc := 13) (n := 0) (by decide +kernel) rfl).trans ?_
    refine (X_getR (m := 49) (pc := 14) (n := 31) (c := 5) (q := 3) (fi := true) (by decide +kernel) (by decide +kernel)).trans ?_
    refine ite_congr rfl (fun _ => ?_) (fun _ => rfl)
    refine (X_iload_n (m := 49) (pc := 17) (n := 2) (by decide +kernel) rfl).trans ?_
    refine (X_aaload (m := 49) (pc := 18)  (by decide +kernel) ).trans ?_
    refine ite_congr rfl (fun _ => ?_) (fun _ => rfl)
    refine (X_getI (m := 49) (pc := 19) (n := 187) (c := 3) (q := 7) (ty := 1) (fi := false) (by decide +kernel) (by decide +kernel) (by decide +kernel)).trans ?_
    refine ite_congr rfl (fun _ => ?_) (fun _ => rfl)
    refine (X_iadd (m := 49) (pc := 22)  (by decide +kernel) ).trans ?_
    refine (X_istore_n (m := 49) (pc := 23) (n := 1) (by decide +kernel) rfl (Nat.le_of_ble_eq_true rfl) rfl).trans ?_
    refine (X_iinc (m := 49) (pc := 24) (n := 2) (c := 1) (by decide +kernel) rfl rfl (Nat.le_of_ble_eq_true rfl) rfl).trans ?_
    refine (X_goto (m := 49) (pc := 27) (off := -23) (tg := 4) (by decide +kernel) (by decide +kernel)).trans ?_
    rfl
theorem E_X4_allUnheard {σ : AS} {r0 : Nat} : a_m 50 [a_r (r0)] σ = a_X 50 0 [a_r (r0), a_x false, a_x false] [] σ := a_m_eq (by rw [a_entry, show m_maxL 50 = 3 from by decide +kernel]; rfl)
theorem B_X4_allUnheard_0 {k : Nat → Nat × Nat} {u : Nat → Nat → Int} {g : Nat → Nat → Nat} {t : Nat × Nat × Nat} {r0 : Nat} {v1 : AV} {v2 : AV} : a_X 50 0 [a_r (r0), v1, v2] [] (k, u, g, t) = a_X 50 4 [a_r (r0), a_i (0), a_i (0)] [] (k, u, g, t) := by
  refine (X_iconst (m := 50) (pc := 0) (n := 0) (by decide +kernel) ).trans ?_
  refine (X_istore_n (m := 50) (pc := 1) (n := 1) (by decide +kernel) rfl (Nat.le_of_ble_eq_true rfl) rfl).trans ?_
  refine (X_iconst (m := 50) (pc := 2) (n := 0) (by decide +kernel) ).trans ?_
  refine (X_istore_n (m := 50) (pc := 3) (n := 2) (by decide +kernel) rfl (Nat.le_of_ble_eq_true rfl) rfl).trans ?_
  rfl
theorem B_X4_allUnheard_4 {k : Nat → Nat × Nat} {u : Nat → Nat → Int} {g : Nat → Nat → Nat} {t : Nat × Nat × Nat} {r0 : Nat} {x1 : Int} {x2 : Int} : a_X 50 4 [a_r (r0), a_i (x1), a_i (x2)] [] (k, u, g, t) = if (k r0).1 = 5 then if (x2 : Int) ≥ (u r0 4 : Int) then some (.inl (some (a_i (x1))), (k, u, g, t)) else if (k r0).1 = 5 then if 30 ≤ (k (g r0 3)).1 ∧ 0 ≤ (x2 : Int) ∧ (x2 : Int) < ((k (g r0 3)).2 : Int) then if (k (g (g r0 3) (x2 : Int).toNat)).1 = 3 then a_X 50 4 [a_r (r0), a_i (wr (x1 + (u (g (g r0 3) (x2 : Int).toNat) 9))), a_i (wr (x2 + 1))] [] (k, u, g, t) else none else none else none else none := by
  refine (X_iload_n (m := 50) (pc := 4) (n := 2) (by decide +kernel) rfl).trans ?_
  refine (X_aload_n (m := 50) (pc := 5) (n := 0) (by decide +kernel) rfl).trans ?_
  refine (X_getI (m := 50) (pc := 6) (n := 49) (c := 5) (q := 4) (ty := 1) (fi := false) (by decide +kernel) (by decide +kernel) (by decide +kernel)).trans ?_
  refine ite_congr rfl (fun _ => ?_) (fun _ => rfl)
  refine (X_ic_ge (m := 50) (pc := 9) (off := 21) (tg := 30) (by decide +kernel) (by decide +kernel)).trans ?_
  refine ite_congr rfl (fun _ => ?_) (fun _ => ?_)
  · refine (X_iload_n (m := 50) (pc := 30) (n := 1) (by decide +kernel) rfl).trans ?_
    exact X_ireturn (m := 50) (pc := 31) (f := 1) (by decide +kernel) (by decide +kernel) rfl
  · refine (X_iload_n (m := 50) (pc := 12) (n := 1) (by decide +kernel) rfl).trans ?_
    refine (X_aload_n (m := 50) (pc := 13) (n := 0) (by decide +kernel) rfl).trans ?_
    refine (X_getR (m := 50) (pc := 14) (n := 31) (c := 5) (q := 3) (fi := true) (by decide +kernel) (by decide +kernel)).trans ?_
    refine ite_congr rfl (fun _ => ?_) (fun _ => rfl)
    refine (X_iload_n (m := 50) (pc := 17) (n := 2) (by decide +kernel) rfl).trans ?_
    refine (X_aaload (m := 50) (pc := 18)  (by decide +kernel) ).trans ?_
    refine ite_congr rfl (fun _ => ?_) (fun _ => rfl)
    refine (X_getI (m := 50) (pc := 19) (n := 137) (c := 3) (q := 9) (ty := 1) (fi := false) (by decide +kernel) (by decide +kernel) (by decide +kernel)).trans ?_
    refine ite_congr rfl (fun _ => ?_) (fun _ => rfl)
    refine (X_iadd (m := 50) (pc := 22)  (by decide +kernel) ).trans ?_
    refine (X_istore_n (m := 50) (pc := 23) (n := 1) (by decide +kernel) rfl (Nat.le_of_ble_eq_true rfl) rfl).trans ?_
    refine (X_iinc (m := 50) (pc := 24) (n := 2) (c := 1) (by decide +kernel) rfl rfl (Nat.le_of_ble_eq_true rfl) rfl).trans ?_
    refine (X_goto (m := 50) (pc := 27) (off := -23) (tg := 4) (by decide +kernel) (by decide +kernel)).trans ?_
    rfl
theorem E_X4_ticksUntilSame {σ : AS} {r0 : Nat} {x1 : Int} {x2 : Int} : a_m 51 [a_r (r0), a_i (x1), a_i (x2)] σ = a_X 51 0 [a_r (r0), a_i (x1), a_i (x2), a_x false] [] σ := a_m_eq (by rw [a_entry, show m_maxL 51 = 4 from by decide +kernel]; rfl)
theorem B_X4_ticksUntilSame_0 {k : Nat → Nat × Nat} {u : Nat → Nat → Int} {g : Nat → Nat → Nat} {t : Nat × Nat × Nat} {r0 : Nat} {x1 : Int} {x2 : Int} {v3 : AV} : a_X 51 0 [a_r (r0), a_i (x1), a_i (x2), v3] [] (k, u, g, t) = a_X 51 2 [a_r (r0), a_i (x1), a_i (x2), a_i (0)] [] (k, u, g, t) := by
  refine (X_iconst (m := 51) (pc := 0) (n := 0) (by decide +kernel) ).trans ?_
  refine (X_istore_n (m := 51) (pc := 1) (n := 3) (by decide +kernel) rfl (Nat.le_of_ble_eq_true rfl) rfl).trans ?_
  rfl
theorem B_X4_ticksUntilSame_2 {k : Nat → Nat × Nat} {u : Nat → Nat → Int} {g : Nat → Nat → Nat} {t : Nat × Nat × Nat} {r0 : Nat} {x1 : Int} {x2 : Int} {x3 : Int} : a_X 51 2 [a_r (r0), a_i (x1), a_i (x2), a_i (x3)] [] (k, u, g, t) = if (x3 : Int) > (x2 : Int) then some (.inl (some (a_i (-1))), (k, u, g, t)) else if (k r0).1 = 5 then (a_m 46 [a_r (r0), a_i (x1)] (k, u, g, t)).bind (a_back 51 9 3 [a_r (r0), a_i (x1), a_i (x2), a_i (x3)] []) else none := by
  refine (X_iload_n (m := 51) (pc := 2) (n := 3) (by decide +kernel) rfl).trans ?_
  refine (X_iload_n (m := 51) (pc := 3) (n := 2) (by decide +kernel) rfl).trans ?_
  refine (X_ic_gt (m := 51) (pc := 4) (off := 23) (tg := 27) (by decide +kernel) (by decide +kernel)).trans ?_
  refine ite_congr rfl (fun _ => ?_) (fun _ => ?_)
  · refine (X_iconst (m := 51) (pc := 27) (n := -1) (by decide +kernel) ).trans ?_
    exact X_ireturn (m := 51) (pc := 28) (f := 1) (by decide +kernel) (by decide +kernel) rfl
  · refine (X_aload_n (m := 51) (pc := 7) (n := 0) (by decide +kernel) rfl).trans ?_
    refine (X_iload_n (m := 51) (pc := 8) (n := 1) (by decide +kernel) rfl).trans ?_
    refine (X_call_vi (m := 51) (pc := 9) (q := 184) (y := 46) (n := 2) (as := [a_r (r0), a_i (x1)]) (rest := []) (by decide +kernel) (by decide +kernel) (by decide +kernel) (by decide +kernel) rfl rfl (Nat.le_of_ble_eq_true rfl) (Nat.le_of_ble_eq_true rfl) rfl (by rw [show m_maxL 46 = 2 from by decide +kernel]; exact Nat.le_of_ble_eq_true rfl)).trans ?_
    exact ite_congr (by simp [a_rcv, show m_recv 46 = 5 from by decide +kernel]) (fun _ => rfl) (fun _ => rfl)
theorem B_X4_ticksUntilSame_12 {k : Nat → Nat × Nat} {u : Nat → Nat → Int} {g : Nat → Nat → Nat} {t : Nat × Nat × Nat} {r0 : Nat} {x1 : Int} {x2 : Int} {x3 : Int} {y0 : Int} : a_X 51 12 [a_r (r0), a_i (x1), a_i (x2), a_i (x3)] [a_i (y0)] (k, u, g, t) = if (y0 : Int) = 0 then if (k r0).1 = 5 then (a_m 37 [a_r (r0)] (k, u, g, t)).bind (a_back 51 18 3 [a_r (r0), a_i (x1), a_i (x2), a_i (x3)] []) else none else some (.inl (some (a_i (x3))), (k, u, g, t)) := by
  refine (X_if_eq (m := 51) (pc := 12) (off := 5) (tg := 17) (by decide +kernel) (by decide +kernel)).trans ?_
  refine ite_congr rfl (fun _ => ?_) (fun _ => ?_)
  · refine (X_aload_n (m := 51) (pc := 17) (n := 0) (by decide +kernel) rfl).trans ?_
    refine (X_call_vi (m := 51) (pc := 18) (q := 109) (y := 37) (n := 1) (as := [a_r (r0)]) (rest := []) (by decide +kernel) (by decide +kernel) (by decide +kernel) (by decide +kernel) rfl rfl (Nat.le_of_ble_eq_true rfl) (Nat.le_of_ble_eq_true rfl) rfl (by rw [show m_maxL 37 = 2 from by decide +kernel]; exact Nat.le_of_ble_eq_true rfl)).trans ?_
    exact ite_congr (by simp [a_rcv, show m_recv 37 = 5 from by decide +kernel]) (fun _ => rfl) (fun _ => rfl)
  · refine (X_iload_n (m := 51) (pc := 15) (n := 3) (by decide +kernel) rfl).trans ?_
    exact X_ireturn (m := 51) (pc := 16) (f := 1) (by decide +kernel) (by decide +kernel) rfl
theorem B_X4_ticksUntilSame_21 {k : Nat → Nat × Nat} {u : Nat → Nat → Int} {g : Nat → Nat → Nat} {t : Nat × Nat × Nat} {r0 : Nat} {x1 : Int} {x2 : Int} {x3 : Int} : a_X 51 21 [a_r (r0), a_i (x1), a_i (x2), a_i (x3)] [] (k, u, g, t) = a_X 51 2 [a_r (r0), a_i (x1), a_i (x2), a_i (wr (x3 + 1))] [] (k, u, g, t) := by
  refine (X_iinc (m := 51) (pc := 21) (n := 3) (c := 1) (by decide +kernel) rfl rfl (Nat.le_of_ble_eq_true rfl) rfl).trans ?_
  refine (X_goto (m := 51) (pc := 24) (off := -22) (tg := 2) (by decide +kernel) (by decide +kernel)).trans ?_
  rfl
theorem E_X5_init {σ : AS} {r0 : Nat} : a_m 52 [a_r (r0)] σ = a_X 52 0 [a_r (r0)] [] σ := a_m_eq (by rw [a_entry, show m_maxL 52 = 1 from by decide +kernel]; rfl)
theorem B_X5_init_0 {k : Nat → Nat × Nat} {u : Nat → Nat → Int} {g : Nat → Nat → Nat} {t : Nat × Nat × Nat} {r0 : Nat} : a_X 52 0 [a_r (r0)] [] (k, u, g, t) = if (k r0).1 ≠ 0 then if 0 ≤ (500 : Int) ∧ (500 : Int) ≤ 65536 then a_X 52 10 [a_r (r0)] [a_r (t.1), a_r (r0)] (a_new (k, u, g, t) 20 (500 : Int).toNat (500 : Int).toNat) else none else none := by
  refine (X_aload_n (m := 52) (pc := 0) (n := 0) (by decide +kernel) rfl).trans ?_
  refine (X_objinit (m := 52) (pc := 1) (q := 3) (by decide +kernel) (by decide +kernel) (Nat.le_of_ble_eq_true rfl)).trans ?_
  refine ite_congr rfl (fun _ => ?_) (fun _ => rfl)
  refine (X_aload_n (m := 52) (pc := 4) (n := 0) (by decide +kernel) rfl).trans ?_
  refine (X_sipush (m := 52) (pc := 5) (n := 500) (by decide +kernel) ).trans ?_
  refine (X_newa_int (m := 52) (pc := 8)  (by decide +kernel) ).trans ?_
  refine ite_congr rfl (fun _ => ?_) (fun _ => rfl)
  rfl
theorem B_X5_init_10 {k : Nat → Nat × Nat} {u : Nat → Nat → Int} {g : Nat → Nat → Nat} {t : Nat × Nat × Nat} {r0 : Nat} {q0 : Nat} {q1 : Nat} : a_X 52 10 [a_r (r0)] [a_r (q1), a_r (q0)] (k, u, g, t) = if (k q0).1 = 6 then if (k r0).1 = 6 then some (.inl none, (k, (upm u r0 3 (-1)), (upm g q0 0 q1), t)) else none else none := by
  refine (X_putR (m := 52) (pc := 10) (n := 9) (c := 6) (q := 0) (fi := true) (by decide +kernel) (by decide +kernel) (fun _ => (by decide +kernel)) (by decide +kernel)).trans ?_
  refine ite_congr rfl (fun _ => ?_) (fun _ => rfl)
  refine (X_aload_n (m := 52) (pc := 13) (n := 0) (by decide +kernel) rfl).trans ?_
  refine (X_iconst (m := 52) (pc := 14) (n := -1) (by decide +kernel) ).trans ?_
  refine (X_putI (m := 52) (pc := 15) (n := 15) (c := 6) (q := 3) (fi := false) (by decide +kernel) (by decide +kernel) (fun h => by cases h) (by decide +kernel)).trans ?_
  refine ite_congr rfl (fun _ => ?_) (fun _ => rfl)
  exact X_return (m := 52) (pc := 18) (by decide +kernel) (by decide +kernel)
theorem E_X5_hasRoom {σ : AS} {r0 : Nat} : a_m 53 [a_r (r0)] σ = a_X 53 0 [a_r (r0)] [] σ := a_m_eq (by rw [a_entry, show m_maxL 53 = 1 from by decide +kernel]; rfl)
theorem B_X5_hasRoom_0 {k : Nat → Nat × Nat} {u : Nat → Nat → Int} {g : Nat → Nat → Nat} {t : Nat × Nat × Nat} {r0 : Nat} : a_X 53 0 [a_r (r0)] [] (k, u, g, t) = if (k r0).1 = 6 then if (wr ((u r0 1) + 20) : Int) > (500 : Int) then some (.inl (some (a_i (0))), (k, u, g, t)) else some (.inl (some (a_i (1))), (k, u, g, t)) else none := by
  refine (X_aload_n (m := 53) (pc := 0) (n := 0) (by decide +kernel) rfl).trans ?_
  refine (X_getI (m := 53) (pc := 1) (n := 19) (c := 6) (q := 1) (ty := 1) (fi := false) (by decide +kernel) (by decide +kernel) (by decide +kernel)).trans ?_
  refine ite_congr rfl (fun _ => ?_) (fun _ => rfl)
  refine (X_bipush (m := 53) (pc := 4) (n := 20) (by decide +kernel) ).trans ?_
  refine (X_iadd (m := 53) (pc := 6)  (by decide +kernel) ).trans ?_
  refine (X_sipush (m := 53) (pc := 7) (n := 500) (by decide +kernel) ).trans ?_
  refine (X_ic_gt (m := 53) (pc := 10) (off := 7) (tg := 17) (by decide +kernel) (by decide +kernel)).trans ?_
  refine ite_congr rfl (fun _ => ?_) (fun _ => ?_)
  · refine (X_iconst (m := 53) (pc := 17) (n := 0) (by decide +kernel) ).trans ?_
    exact X_ireturn (m := 53) (pc := 18) (f := 2) (by decide +kernel) (by decide +kernel) rfl
  · refine (X_iconst (m := 53) (pc := 13) (n := 1) (by decide +kernel) ).trans ?_
    refine (X_goto (m := 53) (pc := 14) (off := 4) (tg := 18) (by decide +kernel) (by decide +kernel)).trans ?_
    exact X_ireturn (m := 53) (pc := 18) (f := 2) (by decide +kernel) (by decide +kernel) rfl
theorem E_X5_takeIn {σ : AS} {r0 : Nat} {x1 : Int} : a_m 54 [a_r (r0), a_i (x1)] σ = a_X 54 0 [a_r (r0), a_i (x1), a_x false] [] σ := a_m_eq (by rw [a_entry, show m_maxL 54 = 3 from by decide +kernel]; rfl)
theorem B_X5_takeIn_0 {k : Nat → Nat × Nat} {u : Nat → Nat → Int} {g : Nat → Nat → Nat} {t : Nat × Nat × Nat} {r0 : Nat} {x1 : Int} {v2 : AV} : a_X 54 0 [a_r (r0), a_i (x1), v2] [] (k, u, g, t) = a_X 54 3 [a_r (r0), a_i (x1), a_i (24)] [] (k, u, g, t) := by
  refine (X_bipush (m := 54) (pc := 0) (n := 24) (by decide +kernel) ).trans ?_
  refine (X_istore_n (m := 54) (pc := 2) (n := 2) (by decide +kernel) rfl (Nat.le_of_ble_eq_true rfl) rfl).trans ?_
  rfl
theorem B_X5_takeIn_3 {k : Nat → Nat × Nat} {u : Nat → Nat → Int} {g : Nat → Nat → Nat} {t : Nat × Nat × Nat} {r0 : Nat} {x1 : Int} {x2 : Int} : a_X 54 3 [a_r (r0), a_i (x1), a_i (x2)] [] (k, u, g, t) = if (x2 : Int) < 0 then some (.inl none, (k, u, g, t)) else if (k r0).1 = 6 then if (k r0).1 = 6 then if (k (g r0 0)).1 = 20 ∧ 0 ≤ (u r0 1 : Int) ∧ (u r0 1 : Int) < ((k (g r0 0)).2 : Int) then if (k r0).1 = 6 then if (k r0).1 = 6 then a_X 54 3 [a_r (r0), a_i (x1), a_i (wr (x2 + (-8)))] [] (k, (upm (upm u (g r0 0) (u r0 1 : Int).toNat (zand (zshr (x1) (x2)) (255))) r0 1 (wr (((upm u (g r0 0) (u r0 1 : Int).toNat (zand (zshr (x1) (x2)) (255))) r0 1) + 1))), g, t) else none else none else none else none else none := by
  refine (X_iload_n (m := 54) (pc := 3) (n := 2) (by decide +kernel) rfl).trans ?_
  refine (X_if_lt (m := 54) (pc := 4) (off := 35) (tg := 39) (by decide +kernel) (by decide +kernel)).trans ?_
  refine ite_congr rfl (fun _ => ?_) (fun _ => ?_)
  · exact X_return (m := 54) (pc := 39) (by decide +kernel) (by decide +kernel)
  · refine (X_aload_n (m := 54) (pc := 7) (n := 0) (by decide +kernel) rfl).trans ?_
    refine (X_getR (m := 54) (pc := 8) (n := 9) (c := 6) (q := 0) (fi := true) (by decide +kernel) (by decide +kernel)).trans ?_
    refine ite_congr rfl (fun _ => ?_) (fun _ => rfl)
    refine (X_aload_n (m := 54) (pc := 11) (n := 0) (by decide +kernel) rfl).trans ?_
    refine (X_getI (m := 54) (pc := 12) (n := 19) (c := 6) (q := 1) (ty := 1) (fi := false) (by decide +kernel) (by decide +kernel) (by decide +kernel)).trans ?_
    refine ite_congr rfl (fun _ => ?_) (fun _ => rfl)
    refine (X_iload_n (m := 54) (pc := 15) (n := 1) (by decide +kernel) rfl).trans ?_
    refine (X_iload_n (m := 54) (pc := 16) (n := 2) (by decide +kernel) rfl).trans ?_
    refine (X_ishr (m := 54) (pc := 17)  (by decide +kernel) ).trans ?_
    refine (X_sipush (m := 54) (pc := 18) (n := 255) (by decide +kernel) ).trans ?_
    refine (X_iand (m := 54) (pc := 21)  (by decide +kernel) ).trans ?_
    refine (X_iastore (m := 54) (pc := 22)  (by decide +kernel) ).trans ?_
    refine ite_congr rfl (fun _ => ?_) (fun _ => rfl)
    refine (X_aload_n (m := 54) (pc := 23) (n := 0) (by decide +kernel) rfl).trans ?_
    refine (X_dup (m := 54) (pc := 24)  (by decide +kernel) rfl rfl).trans ?_
    refine (X_getI (m := 54) (pc := 25) (n := 19) (c := 6) (q := 1) (ty := 1) (fi := false) (by decide +kernel) (by decide +kernel) (by decide +kernel)).trans ?_
    refine ite_congr rfl (fun _ => ?_) (fun _ => rfl)
    refine (X_iconst (m := 54) (pc := 28) (n := 1) (by decide +kernel) ).trans ?_
    refine (X_iadd (m := 54) (pc := 29)  (by decide +kernel) ).trans ?_
    refine (X_putI (m := 54) (pc := 30) (n := 19) (c := 6) (q := 1) (fi := false) (by decide +kernel) (by decide +kernel) (fun h => by cases h) (by decide +kernel)).trans ?_
    refine ite_congr rfl (fun _ => ?_) (fun _ => rfl)
    refine (X_iinc (m := 54) (pc := 33) (n := 2) (c := -8) (by decide +kernel) rfl rfl (Nat.le_of_ble_eq_true rfl) rfl).trans ?_
    refine (X_goto (m := 54) (pc := 36) (off := -33) (tg := 3) (by decide +kernel) (by decide +kernel)).trans ?_
    rfl
theorem E_X5_parse {σ : AS} {r0 : Nat} {x1 : Int} {r2 : Nat} : a_m 55 [a_r (r0), a_i (x1), a_r (r2)] σ = a_X 55 0 [a_r (r0), a_i (x1), a_r (r2), a_x false, a_x false] [] σ := a_m_eq (by rw [a_entry, show m_maxL 55 = 5 from by decide +kernel]; rfl)
theorem B_X5_parse_0 {k : Nat → Nat × Nat} {u : Nat → Nat → Int} {g : Nat → Nat → Nat} {t : Nat × Nat × Nat} {r0 : Nat} {x1 : Int} {r2 : Nat} {v3 : AV} {v4 : AV} : a_X 55 0 [a_r (r0), a_i (x1), a_r (r2), v3, v4] [] (k, u, g, t) = if (k r0).1 = 6 then if (k r0).1 = 6 then if (k r0).1 = 6 then if (k r0).1 = 6 then if (k r0).1 = 6 then if (k r0).1 = 6 then if (k r2).1 = 5 then (a_m 30 [a_r (r2)] (k, (upm (upm (upm (upm (upm (upm u r0 4 x1) r0 5 0) r0 1 0) r0 10 0) r0 2 0) r0 3 (-1)), g, t)).bind (a_back 55 31 3 [a_r (r0), a_i (x1), a_r (r2), v3, v4] []) else none else none else none else none else none else none else none := by
  refine (X_aload_n (m := 55) (pc := 0) (n := 0) (by decide +kernel) rfl).trans ?_
  refine (X_iload_n (m := 55) (pc := 1) (n := 1) (by decide +kernel) rfl).trans ?_
  refine (X_putI (m := 55) (pc := 2) (n := 22) (c := 6) (q := 4) (fi := false) (by decide +kernel) (by decide +kernel) (fun h => by cases h) (by decide +kernel)).trans ?_
  refine ite_congr rfl (fun _ => ?_) (fun _ => rfl)
  refine (X_aload_n (m := 55) (pc := 5) (n := 0) (by decide +kernel) rfl).trans ?_
  refine (X_iconst (m := 55) (pc := 6) (n := 0) (by decide +kernel) ).trans ?_
  refine (X_putI (m := 55) (pc := 7) (n := 25) (c := 6) (q := 5) (fi := false) (by decide +kernel) (by decide +kernel) (fun h => by cases h) (by decide +kernel)).trans ?_
  refine ite_congr rfl (fun _ => ?_) (fun _ => rfl)
  refine (X_aload_n (m := 55) (pc := 10) (n := 0) (by decide +kernel) rfl).trans ?_
  refine (X_iconst (m := 55) (pc := 11) (n := 0) (by decide +kernel) ).trans ?_
  refine (X_putI (m := 55) (pc := 12) (n := 19) (c := 6) (q := 1) (fi := false) (by decide +kernel) (by decide +kernel) (fun h => by cases h) (by decide +kernel)).trans ?_
  refine ite_congr rfl (fun _ => ?_) (fun _ => rfl)
  refine (X_aload_n (m := 55) (pc := 15) (n := 0) (by decide +kernel) rfl).trans ?_
  refine (X_iconst (m := 55) (pc := 16) (n := 0) (by decide +kernel) ).trans ?_
  refine (X_putI (m := 55) (pc := 17) (n := 28) (c := 6) (q := 10) (fi := false) (by decide +kernel) (by decide +kernel) (fun h => by cases h) (by decide +kernel)).trans ?_
  refine ite_congr rfl (fun _ => ?_) (fun _ => rfl)
  refine (X_aload_n (m := 55) (pc := 20) (n := 0) (by decide +kernel) rfl).trans ?_
  refine (X_iconst (m := 55) (pc := 21) (n := 0) (by decide +kernel) ).trans ?_
  refine (X_putI (m := 55) (pc := 22) (n := 31) (c := 6) (q := 2) (fi := false) (by decide +kernel) (by decide +kernel) (fun h => by cases h) (by decide +kernel)).trans ?_
  refine ite_congr rfl (fun _ => ?_) (fun _ => rfl)
  refine (X_aload_n (m := 55) (pc := 25) (n := 0) (by decide +kernel) rfl).trans ?_
  refine (X_iconst (m := 55) (pc := 26) (n := -1) (by decide +kernel) ).trans ?_
  refine (X_putI (m := 55) (pc := 27) (n := 15) (c := 6) (q := 3) (fi := false) (by decide +kernel) (by decide +kernel) (fun h => by cases h) (by decide +kernel)).trans ?_
  refine ite_congr rfl (fun _ => ?_) (fun _ => rfl)
  refine (X_aload_n (m := 55) (pc := 30) (n := 2) (by decide +kernel) rfl).trans ?_
  refine (X_call_vi (m := 55) (pc := 31) (q := 34) (y := 30) (n := 1) (as := [a_r (r2)]) (rest := []) (by decide +kernel) (by decide +kernel) (by decide +kernel) (by decide +kernel) rfl rfl (Nat.le_of_ble_eq_true rfl) (Nat.le_of_ble_eq_true rfl) rfl (by rw [show m_maxL 30 = 2 from by decide +kernel]; exact Nat.le_of_ble_eq_true rfl)).trans ?_
  exact ite_congr (by simp [a_rcv, show m_recv 30 = 5 from by decide +kernel]) (fun _ => rfl) (fun _ => rfl)
theorem B_X5_parse_34 {k : Nat → Nat × Nat} {u : Nat → Nat → Int} {g : Nat → Nat → Nat} {t : Nat × Nat × Nat} {r0 : Nat} {x1 : Int} {r2 : Nat} {v3 : AV} {v4 : AV} : a_X 55 34 [a_r (r0), a_i (x1), a_r (r2), v3, v4] [] (k, u, g, t) = if (k r0).1 = 6 then (a_m 64 [a_r (r0)] (k, u, g, t)).bind (a_back 55 35 3 [a_r (r0), a_i (x1), a_r (r2), v3, v4] []) else none := by
  refine (X_aload_n (m := 55) (pc := 34) (n := 0) (by decide +kernel) rfl).trans ?_
  refine (X_call_vi (m := 55) (pc := 35) (q := 39) (y := 64) (n := 1) (as := [a_r (r0)]) (rest := []) (by decide +kernel) (by decide +kernel) (by decide +kernel) (by decide +kernel) rfl rfl (Nat.le_of_ble_eq_true rfl) (Nat.le_of_ble_eq_true rfl) rfl (by rw [show m_maxL 64 = 1 from by decide +kernel]; exact Nat.le_of_ble_eq_true rfl)).trans ?_
  exact ite_congr (by simp [a_rcv, show m_recv 64 = 6 from by decide +kernel]) (fun _ => rfl) (fun _ => rfl)
theorem B_X5_parse_38 {k : Nat → Nat × Nat} {u : Nat → Nat → Int} {g : Nat → Nat → Nat} {t : Nat × Nat × Nat} {r0 : Nat} {x1 : Int} {r2 : Nat} {v3 : AV} {v4 : AV} : a_X 55 38 [a_r (r0), a_i (x1), a_r (r2), v3, v4] [] (k, u, g, t) = if (k r0).1 = 6 then (a_m 60 [a_r (r0), a_r (1)] (k, u, g, t)).bind (a_back 55 41 3 [a_r (r0), a_i (x1), a_r (r2), v3, v4] []) else none := by
  refine (X_aload_n (m := 55) (pc := 38) (n := 0) (by decide +kernel) rfl).trans ?_
  refine (X_ldcs (m := 55) (pc := 39) (n := 42) (q := 1) (by decide +kernel) (by decide +kernel) (by decide +kernel)).trans ?_
  refine (X_call_vi (m := 55) (pc := 41) (q := 44) (y := 60) (n := 2) (as := [a_r (r0), a_r (1)]) (rest := []) (by decide +kernel) (by decide +kernel) (by decide +kernel) (by decide +kernel) rfl rfl (Nat.le_of_ble_eq_true rfl) (Nat.le_of_ble_eq_true rfl) rfl (by rw [show m_maxL 60 = 2 from by decide +kernel]; exact Nat.le_of_ble_eq_true rfl)).trans ?_
  exact ite_congr (by simp [a_rcv, show m_recv 60 = 6 from by decide +kernel]) (fun _ => rfl) (fun _ => rfl)
theorem B_X5_parse_44 {k : Nat → Nat × Nat} {u : Nat → Nat → Int} {g : Nat → Nat → Nat} {t : Nat × Nat × Nat} {r0 : Nat} {x1 : Int} {r2 : Nat} {v3 : AV} {v4 : AV} {y0 : Int} : a_X 55 44 [a_r (r0), a_i (x1), a_r (r2), v3, v4] [a_i (y0)] (k, u, g, t) = if (y0 : Int) = 0 then some (.inl (some (a_i (0))), (k, u, g, t)) else if (k r0).1 = 6 then (a_m 62 [a_r (r0), a_i (0), a_i (99)] (k, u, g, t)).bind (a_back 55 51 3 [a_r (r0), a_i (x1), a_r (r2), v3, v4] []) else none := by
  refine (X_if_eq (m := 55) (pc := 44) (off := 13) (tg := 57) (by decide +kernel) (by decide +kernel)).trans ?_
  refine ite_congr rfl (fun _ => ?_) (fun _ => ?_)
  · refine (X_iconst (m := 55) (pc := 57) (n := 0) (by decide +kernel) ).trans ?_
    exact X_ireturn (m := 55) (pc := 58) (f := 2) (by decide +kernel) (by decide +kernel) rfl
  · refine (X_aload_n (m := 55) (pc := 47) (n := 0) (by decide +kernel) rfl).trans ?_
    refine (X_iconst (m := 55) (pc := 48) (n := 0) (by decide +kernel) ).trans ?_
    refine (X_bipush (m := 55) (pc := 49) (n := 99) (by decide +kernel) ).trans ?_
    refine (X_call_vi (m := 55) (pc := 51) (q := 48) (y := 62) (n := 3) (as := [a_r (r0), a_i (0), a_i (99)]) (rest := []) (by decide +kernel) (by decide +kernel) (by decide +kernel) (by decide +kernel) rfl rfl (Nat.le_of_ble_eq_true rfl) (Nat.le_of_ble_eq_true rfl) rfl (by rw [show m_maxL 62 = 3 from by decide +kernel]; exact Nat.le_of_ble_eq_true rfl)).trans ?_
    exact ite_congr (by simp [a_rcv, show m_recv 62 = 6 from by decide +kernel]) (fun _ => rfl) (fun _ => rfl)
theorem B_X5_parse_54 {k : Nat → Nat × Nat} {u : Nat → Nat → Int} {g : Nat → Nat → Nat} {t : Nat × Nat × Nat} {r0 : Nat} {x1 : Int} {r2 : Nat} {v3 : AV} {v4 : AV} {y0 : Int} : a_X 55 54 [a_r (r0), a_i (x1), a_r (r2), v3, v4] [a_i (y0)] (k, u, g, t) = if (y0 : Int) ≠ 0 then if (k r0).1 = 6 then if (k r2).1 = 5 then a_X 55 69 [a_r (r0), a_i (x1), a_r (r2), a_i (0), v4] [] (k, (upm u r2 5 (u r0 9)), g, t) else none else none else some (.inl (some (a_i (0))), (k, u, g, t)) := by
  refine (X_if_ne (m := 55) (pc := 54) (off := 5) (tg := 59) (by decide +kernel) (by decide +kernel)).trans ?_
  refine ite_congr rfl (fun _ => ?_) (fun _ => ?_)
  · refine (X_aload_n (m := 55) (pc := 59) (n := 2) (by decide +kernel) rfl).trans ?_
    refine (X_aload_n (m := 55) (pc := 60) (n := 0) (by decide +kernel) rfl).trans ?_
    refine (X_getI (m := 55) (pc := 61) (n := 52) (c := 6) (q := 9) (ty := 1) (fi := false) (by decide +kernel) (by decide +kernel) (by decide +kernel)).trans ?_
    refine ite_congr rfl (fun _ => ?_) (fun _ => rfl)
    refine (X_putI (m := 55) (pc := 64) (n := 55) (c := 5) (q := 5) (fi := false) (by decide +kernel) (by decide +kernel) (fun h => by cases h) (by decide +kernel)).trans ?_
    refine ite_congr rfl (fun _ => ?_) (fun _ => rfl)
    refine (X_iconst (m := 55) (pc := 67) (n := 0) (by decide +kernel) ).trans ?_
    refine (X_istore_n (m := 55) (pc := 68) (n := 3) (by decide +kernel) rfl (Nat.le_of_ble_eq_true rfl) rfl).trans ?_
    rfl
  · refine (X_iconst (m := 55) (pc := 57) (n := 0) (by decide +kernel) ).trans ?_
    exact X_ireturn (m := 55) (pc := 58) (f := 2) (by decide +kernel) (by decide +kernel) rfl
theorem B_X5_parse_69 {k : Nat → Nat × Nat} {u : Nat → Nat → Int} {g : Nat → Nat → Nat} {t : Nat × Nat × Nat} {r0 : Nat} {x1 : Int} {r2 : Nat} {x3 : Int} {v4 : AV} : a_X 55 69 [a_r (r0), a_i (x1), a_r (r2), a_i (x3), v4] [] (k, u, g, t) = if (x3 : Int) ≥ (500 : Int) then if (k r2).1 = 5 then if (u r2 4 : Int) > 0 then some (.inl (some (a_i (1))), (k, u, g, t)) else if (k r0).1 = 6 then (a_m 59 [a_r (r0), a_i (1)] (k, u, g, t)).bind (a_back 55 138 3 [a_r (r0), a_i (x1), a_r (r2), a_i (x3), v4] []) else none else none else if (k r0).1 = 6 then if (u r0 6 : Int) = 0 then if (k r2).1 = 5 then if (u r2 4 : Int) > 0 then some (.inl (some (a_i (1))), (k, u, g, t)) else if (k r0).1 = 6 then (a_m 59 [a_r (r0), a_i (1)] (k, u, g, t)).bind (a_back 55 138 3 [a_r (r0), a_i (x1), a_r (r2), a_i (x3), v4] []) else none else none else if (k r0).1 = 6 then (a_m 61 [a_r (r0)] (k, u, g, t)).bind (a_back 55 84 3 [a_r (r0), a_i (x1), a_r (r2), a_i (x3), v4] []) else none else none := by
  refine (X_iload_n (m := 55) (pc := 69) (n := 3) (by decide +kernel) rfl).trans ?_
  refine (X_sipush (m := 55) (pc := 70) (n := 500) (by decide +kernel) ).trans ?_
  refine (X_ic_ge (m := 55) (pc := 73) (off := 56) (tg := 129) (by decide +kernel) (by decide +kernel)).trans ?_
  refine ite_congr rfl (fun _ => ?_) (fun _ => ?_)
  · refine (X_aload_n (m := 55) (pc := 129) (n := 2) (by decide +kernel) rfl).trans ?_
    refine (X_getI (m := 55) (pc := 130) (n := 77) (c := 5) (q := 4) (ty := 1) (fi := false) (by decide +kernel) (by decide +kernel) (by decide +kernel)).trans ?_
    refine ite_congr rfl (fun _ => ?_) (fun _ => rfl)
    refine (X_if_gt (m := 55) (pc := 133) (off := 11) (tg := 144) (by decide +kernel) (by decide +kernel)).trans ?_
    refine ite_congr rfl (fun _ => ?_) (fun _ => ?_)
    · refine (X_iconst (m := 55) (pc := 144) (n := 1) (by decide +kernel) ).trans ?_
      refine (X_goto (m := 55) (pc := 145) (off := 4) (tg := 149) (by decide +kernel) (by decide +kernel)).trans ?_
      exact X_ireturn (m := 55) (pc := 149) (f := 2) (by decide +kernel) (by decide +kernel) rfl
    · refine (X_aload_n (m := 55) (pc := 136) (n := 0) (by decide +kernel) rfl).trans ?_
      refine (X_iconst (m := 55) (pc := 137) (n := 1) (by decide +kernel) ).trans ?_
      refine (X_call_vi (m := 55) (pc := 138) (q := 80) (y := 59) (n := 2) (as := [a_r (r0), a_i (1)]) (rest := []) (by decide +kernel) (by decide +kernel) (by decide +kernel) (by decide +kernel) rfl rfl (Nat.le_of_ble_eq_true rfl) (Nat.le_of_ble_eq_true rfl) rfl (by rw [show m_maxL 59 = 2 from by decide +kernel]; exact Nat.le_of_ble_eq_true rfl)).trans ?_
      exact ite_congr (by simp [a_rcv, show m_recv 59 = 6 from by decide +kernel]) (fun _ => rfl) (fun _ => rfl)
  · refine (X_aload_n (m := 55) (pc := 76) (n := 0) (by decide +kernel) rfl).trans ?_
    refine (X_getI (m := 55) (pc := 77) (n := 58) (c := 6) (q := 6) (ty := 1) (fi := false) (by decide +kernel) (by decide +kernel) (by decide +kernel)).trans ?_
    refine ite_congr rfl (fun _ => ?_) (fun _ => rfl)
    refine (X_if_eq (m := 55) (pc := 80) (off := 49) (tg := 129) (by decide +kernel) (by decide +kernel)).trans ?_
    refine ite_congr rfl (fun _ => ?_) (fun _ => ?_)
    · refine (X_aload_n (m := 55) (pc := 129) (n := 2) (by decide +kernel) rfl).trans ?_
      refine (X_getI (m := 55) (pc := 130) (n := 77) (c := 5) (q := 4) (ty := 1) (fi := false) (by decide +kernel) (by decide +kernel) (by decide +kernel)).trans ?_
      refine ite_congr rfl (fun _ => ?_) (fun _ => rfl)
      refine (X_if_gt (m := 55) (pc := 133) (off := 11) (tg := 144) (by decide +kernel) (by decide +kernel)).trans ?_
      refine ite_congr rfl (fun _ => ?_) (fun _ => ?_)
      · refine (X_iconst (m := 55) (pc := 144) (n := 1) (by decide +kernel) ).trans ?_
        refine (X_goto (m := 55) (pc := 145) (off := 4) (tg := 149) (by decide +kernel) (by decide +kernel)).trans ?_
        exact X_ireturn (m := 55) (pc := 149) (f := 2) (by decide +kernel) (by decide +kernel) rfl
      · refine (X_aload_n (m := 55) (pc := 136) (n := 0) (by decide +kernel) rfl).trans ?_
        refine (X_iconst (m := 55) (pc := 137) (n := 1) (by decide +kernel) ).trans ?_
        refine (X_call_vi (m := 55) (pc := 138) (q := 80) (y := 59) (n := 2) (as := [a_r (r0), a_i (1)]) (rest := []) (by decide +kernel) (by decide +kernel) (by decide +kernel) (by decide +kernel) rfl rfl (Nat.le_of_ble_eq_true rfl) (Nat.le_of_ble_eq_true rfl) rfl (by rw [show m_maxL 59 = 2 from by decide +kernel]; exact Nat.le_of_ble_eq_true rfl)).trans ?_
        exact ite_congr (by simp [a_rcv, show m_recv 59 = 6 from by decide +kernel]) (fun _ => rfl) (fun _ => rfl)
    · refine (X_aload_n (m := 55) (pc := 83) (n := 0) (by decide +kernel) rfl).trans ?_
      refine (X_call_vi (m := 55) (pc := 84) (q := 61) (y := 61) (n := 1) (as := [a_r (r0)]) (rest := []) (by decide +kernel) (by decide +kernel) (by decide +kernel) (by decide +kernel) rfl rfl (Nat.le_of_ble_eq_true rfl) (Nat.le_of_ble_eq_true rfl) rfl (by rw [show m_maxL 61 = 1 from by decide +kernel]; exact Nat.le_of_ble_eq_true rfl)).trans ?_
      exact ite_congr (by simp [a_rcv, show m_recv 61 = 6 from by decide +kernel]) (fun _ => rfl) (fun _ => rfl)
theorem B_X5_parse_141 {k : Nat → Nat × Nat} {u : Nat → Nat → Int} {g : Nat → Nat → Nat} {t : Nat × Nat × Nat} {r0 : Nat} {x1 : Int} {r2 : Nat} {x3 : Int} {v4 : AV} {y0 : Int} : a_X 55 141 [a_r (r0), a_i (x1), a_r (r2), a_i (x3), v4] [a_i (y0)] (k, u, g, t) = if (y0 : Int) = 0 then some (.inl (some (a_i (0))), (k, u, g, t)) else some (.inl (some (a_i (1))), (k, u, g, t)) := by
  refine (X_if_eq (m := 55) (pc := 141) (off := 7) (tg := 148) (by decide +kernel) (by decide +kernel)).trans ?_
  refine ite_congr rfl (fun _ => ?_) (fun _ => ?_)
  · refine (X_iconst (m := 55) (pc := 148) (n := 0) (by decide +kernel) ).trans ?_
    exact X_ireturn (m := 55) (pc := 149) (f := 2) (by decide +kernel) (by decide +kernel) rfl
  · refine (X_iconst (m := 55) (pc := 144) (n := 1) (by decide +kernel) ).trans ?_
    refine (X_goto (m := 55) (pc := 145) (off := 4) (tg := 149) (by decide +kernel) (by decide +kernel)).trans ?_
    exact X_ireturn (m := 55) (pc := 149) (f := 2) (by decide +kernel) (by decide +kernel) rfl
theorem B_X5_parse_87 {k : Nat → Nat × Nat} {u : Nat → Nat → Int} {g : Nat → Nat → Nat} {t : Nat × Nat × Nat} {r0 : Nat} {x1 : Int} {r2 : Nat} {x3 : Int} {v4 : AV} {y0 : Int} : a_X 55 87 [a_r (r0), a_i (x1), a_r (r2), a_i (x3), v4] [a_i (y0)] (k, u, g, t) = if (y0 : Int) ≠ 0 then if (k r0).1 = 6 then (a_m 63 [a_r (r0), a_r (3)] (k, u, g, t)).bind (a_back 55 95 3 [a_r (r0), a_i (x1), a_r (r2), a_i (x3), v4] []) else none else some (.inl (some (a_i (0))), (k, u, g, t)) := by
  refine (X_if_ne (m := 55) (pc := 87) (off := 5) (tg := 92) (by decide +kernel) (by decide +kernel)).trans ?_
  refine ite_congr rfl (fun _ => ?_) (fun _ => ?_)
  · refine (X_aload_n (m := 55) (pc := 92) (n := 0) (by decide +kernel) rfl).trans ?_
    refine (X_ldcs (m := 55) (pc := 93) (n := 65) (q := 3) (by decide +kernel) (by decide +kernel) (by decide +kernel)).trans ?_
    refine (X_call_vi (m := 55) (pc := 95) (q := 67) (y := 63) (n := 2) (as := [a_r (r0), a_r (3)]) (rest := []) (by decide +kernel) (by decide +kernel) (by decide +kernel) (by decide +kernel) rfl rfl (Nat.le_of_ble_eq_true rfl) (Nat.le_of_ble_eq_true rfl) rfl (by rw [show m_maxL 63 = 3 from by decide +kernel]; exact Nat.le_of_ble_eq_true rfl)).trans ?_
    exact ite_congr (by simp [a_rcv, show m_recv 63 = 6 from by decide +kernel]) (fun _ => rfl) (fun _ => rfl)
  · refine (X_iconst (m := 55) (pc := 90) (n := 0) (by decide +kernel) ).trans ?_
    exact X_ireturn (m := 55) (pc := 91) (f := 2) (by decide +kernel) (by decide +kernel) rfl
theorem B_X5_parse_98 {k : Nat → Nat × Nat} {u : Nat → Nat → Int} {g : Nat → Nat → Nat} {t : Nat × Nat × Nat} {r0 : Nat} {x1 : Int} {r2 : Nat} {x3 : Int} {v4 : AV} {y0 : Int} : a_X 55 98 [a_r (r0), a_i (x1), a_r (r2), a_i (x3), v4] [a_i (y0)] (k, u, g, t) = if (y0 : Int) = 0 then if (k r0).1 = 6 then (a_m 57 [a_r (r0), a_r (r2)] (k, u, g, t)).bind (a_back 55 111 3 [a_r (r0), a_i (x1), a_r (r2), a_i (x3), v4] []) else none else if (k r0).1 = 6 then (a_m 56 [a_r (r0), a_r (r2)] (k, u, g, t)).bind (a_back 55 103 3 [a_r (r0), a_i (x1), a_r (r2), a_i (x3), v4] []) else none := by
  refine (X_if_eq (m := 55) (pc := 98) (off := 11) (tg := 109) (by decide +kernel) (by decide +kernel)).trans ?_
  refine ite_congr rfl (fun _ => ?_) (fun _ => ?_)
  · refine (X_aload_n (m := 55) (pc := 109) (n := 0) (by decide +kernel) rfl).trans ?_
    refine (X_aload_n (m := 55) (pc := 110) (n := 2) (by decide +kernel) rfl).trans ?_
    refine (X_call_vi (m := 55) (pc := 111) (q := 74) (y := 57) (n := 2) (as := [a_r (r0), a_r (r2)]) (rest := []) (by decide +kernel) (by decide +kernel) (by decide +kernel) (by decide +kernel) rfl rfl (Nat.le_of_ble_eq_true rfl) (Nat.le_of_ble_eq_true rfl) rfl (by rw [show m_maxL 57 = 4 from by decide +kernel]; exact Nat.le_of_ble_eq_true rfl)).trans ?_
    exact ite_congr (by simp [a_rcv, show m_recv 57 = 6 from by decide +kernel]) (fun _ => rfl) (fun _ => rfl)
  · refine (X_aload_n (m := 55) (pc := 101) (n := 0) (by decide +kernel) rfl).trans ?_
    refine (X_aload_n (m := 55) (pc := 102) (n := 2) (by decide +kernel) rfl).trans ?_
    refine (X_call_vi (m := 55) (pc := 103) (q := 70) (y := 56) (n := 2) (as := [a_r (r0), a_r (r2)]) (rest := []) (by decide +kernel) (by decide +kernel) (by decide +kernel) (by decide +kernel) rfl rfl (Nat.le_of_ble_eq_true rfl) (Nat.le_of_ble_eq_true rfl) rfl (by rw [show m_maxL 56 = 5 from by decide +kernel]; exact Nat.le_of_ble_eq_true rfl)).trans ?_
    exact ite_congr (by simp [a_rcv, show m_recv 56 = 6 from by decide +kernel]) (fun _ => rfl) (fun _ => rfl)
theorem B_X5_parse_114 {k : Nat → Nat × Nat} {u : Nat → Nat → Int} {g : Nat → Nat → Nat} {t : Nat × Nat × Nat} {r0 : Nat} {x1 : Int} {r2 : Nat} {x3 : Int} {v4 : AV} {y0 : Int} : a_X 55 114 [a_r (r0), a_i (x1), a_r (r2), a_i (x3), v4] [a_i (y0)] (k, u, g, t) = if (y0 : Int) ≠ 0 then a_X 55 69 [a_r (r0), a_i (x1), a_r (r2), a_i (wr (x3 + 1)), a_i (y0)] [] (k, u, g, t) else some (.inl (some (a_i (0))), (k, u, g, t)) := by
  refine (X_istore (m := 55) (pc := 114) (n := 4) (by decide +kernel) rfl (Nat.le_of_ble_eq_true rfl) rfl).trans ?_
  refine (X_iload (m := 55) (pc := 116) (n := 4) (by decide +kernel) rfl).trans ?_
  refine (X_if_ne (m := 55) (pc := 118) (off := 5) (tg := 123) (by decide +kernel) (by decide +kernel)).trans ?_
  refine ite_congr rfl (fun _ => ?_) (fun _ => ?_)
  · refine (X_iinc (m := 55) (pc := 123) (n := 3) (c := 1) (by decide +kernel) rfl rfl (Nat.le_of_ble_eq_true rfl) rfl).trans ?_
    refine (X_goto (m := 55) (pc := 126) (off := -57) (tg := 69) (by decide +kernel) (by decide +kernel)).trans ?_
    rfl
  · refine (X_iconst (m := 55) (pc := 121) (n := 0) (by decide +kernel) ).trans ?_
    exact X_ireturn (m := 55) (pc := 122) (f := 2) (by decide +kernel) (by decide +kernel) rfl
theorem B_X5_parse_106 {k : Nat → Nat × Nat} {u : Nat → Nat → Int} {g : Nat → Nat → Nat} {t : Nat × Nat × Nat} {r0 : Nat} {x1 : Int} {r2 : Nat} {x3 : Int} {v4 : AV} {y0 : Int} : a_X 55 106 [a_r (r0), a_i (x1), a_r (r2), a_i (x3), v4] [a_i (y0)] (k, u, g, t) = if (y0 : Int) ≠ 0 then a_X 55 69 [a_r (r0), a_i (x1), a_r (r2), a_i (wr (x3 + 1)), a_i (y0)] [] (k, u, g, t) else some (.inl (some (a_i (0))), (k, u, g, t)) := by
  refine (X_goto (m := 55) (pc := 106) (off := 8) (tg := 114) (by decide +kernel) (by decide +kernel)).trans ?_
  refine (X_istore (m := 55) (pc := 114) (n := 4) (by decide +kernel) rfl (Nat.le_of_ble_eq_true rfl) rfl).trans ?_
  refine (X_iload (m := 55) (pc := 116) (n := 4) (by decide +kernel) rfl).trans ?_
  refine (X_if_ne (m := 55) (pc := 118) (off := 5) (tg := 123) (by decide +kernel) (by decide +kernel)).trans ?_
  refine ite_congr rfl (fun _ => ?_) (fun _ => ?_)
  · refine (X_iinc (m := 55) (pc := 123) (n := 3) (c := 1) (by decide +kernel) rfl rfl (Nat.le_of_ble_eq_true rfl) rfl).trans ?_
    refine (X_goto (m := 55) (pc := 126) (off := -57) (tg := 69) (by decide +kernel) (by decide +kernel)).trans ?_
    rfl
  · refine (X_iconst (m := 55) (pc := 121) (n := 0) (by decide +kernel) ).trans ?_
    exact X_ireturn (m := 55) (pc := 122) (f := 2) (by decide +kernel) (by decide +kernel) rfl
theorem E_X5_parseStop {σ : AS} {r0 : Nat} {r1 : Nat} : a_m 56 [a_r (r0), a_r (r1)] σ = a_X 56 0 [a_r (r0), a_r (r1), a_x false, a_x false, a_x false] [] σ := a_m_eq (by rw [a_entry, show m_maxL 56 = 5 from by decide +kernel]; rfl)
theorem B_X5_parseStop_0 {k : Nat → Nat × Nat} {u : Nat → Nat → Int} {g : Nat → Nat → Nat} {t : Nat × Nat × Nat} {r0 : Nat} {r1 : Nat} {v2 : AV} {v3 : AV} {v4 : AV} : a_X 56 0 [a_r (r0), a_r (r1), v2, v3, v4] [] (k, u, g, t) = if (k r0).1 = 6 then if (u r0 10 : Int) < (12 : Int) then if (k r0).1 = 6 then (a_m 64 [a_r (r0)] (k, u, g, t)).bind (a_back 56 16 3 [a_r (r0), a_r (r1), v2, v3, v4] []) else none else if (k r0).1 = 6 then (a_m 59 [a_r (r0), a_i (3)] (k, u, g, t)).bind (a_back 56 11 3 [a_r (r0), a_r (r1), v2, v3, v4] []) else none else none := by
  refine (X_aload_n (m := 56) (pc := 0) (n := 0) (by decide +kernel) rfl).trans ?_
  refine (X_getI (m := 56) (pc := 1) (n := 28) (c := 6) (q := 10) (ty := 1) (fi := false) (by decide +kernel) (by decide +kernel) (by decide +kernel)).trans ?_
  refine ite_congr rfl (fun _ => ?_) (fun _ => rfl)
  refine (X_bipush (m := 56) (pc := 4) (n := 12) (by decide +kernel) ).trans ?_
  refine (X_ic_lt (m := 56) (pc := 6) (off := 9) (tg := 15) (by decide +kernel) (by decide +kernel)).trans ?_
  refine ite_congr rfl (fun _ => ?_) (fun _ => ?_)
  · refine (X_aload_n (m := 56) (pc := 15) (n := 0) (by decide +kernel) rfl).trans ?_
    refine (X_call_vi (m := 56) (pc := 16) (q := 39) (y := 64) (n := 1) (as := [a_r (r0)]) (rest := []) (by decide +kernel) (by decide +kernel) (by decide +kernel) (by decide +kernel) rfl rfl (Nat.le_of_ble_eq_true rfl) (Nat.le_of_ble_eq_true rfl) rfl (by rw [show m_maxL 64 = 1 from by decide +kernel]; exact Nat.le_of_ble_eq_true rfl)).trans ?_
    exact ite_congr (by simp [a_rcv, show m_recv 64 = 6 from by decide +kernel]) (fun _ => rfl) (fun _ => rfl)
  · refine (X_aload_n (m := 56) (pc := 9) (n := 0) (by decide +kernel) rfl).trans ?_
    refine (X_iconst (m := 56) (pc := 10) (n := 3) (by decide +kernel) ).trans ?_
    refine (X_call_vi (m := 56) (pc := 11) (q := 80) (y := 59) (n := 2) (as := [a_r (r0), a_i (3)]) (rest := []) (by decide +kernel) (by decide +kernel) (by decide +kernel) (by decide +kernel) rfl rfl (Nat.le_of_ble_eq_true rfl) (Nat.le_of_ble_eq_true rfl) rfl (by rw [show m_maxL 59 = 2 from by decide +kernel]; exact Nat.le_of_ble_eq_true rfl)).trans ?_
    exact ite_congr (by simp [a_rcv, show m_recv 59 = 6 from by decide +kernel]) (fun _ => rfl) (fun _ => rfl)
theorem B_X5_parseStop_19 {k : Nat → Nat × Nat} {u : Nat → Nat → Int} {g : Nat → Nat → Nat} {t : Nat × Nat × Nat} {r0 : Nat} {r1 : Nat} {v2 : AV} {v3 : AV} {v4 : AV} : a_X 56 19 [a_r (r0), a_r (r1), v2, v3, v4] [] (k, u, g, t) = if (k r0).1 = 6 then (a_m 62 [a_r (r0), a_i (0), a_i (29)] (k, u, g, t)).bind (a_back 56 23 3 [a_r (r0), a_r (r1), v2, v3, v4] []) else none := by
  refine (X_aload_n (m := 56) (pc := 19) (n := 0) (by decide +kernel) rfl).trans ?_
  refine (X_iconst (m := 56) (pc := 20) (n := 0) (by decide +kernel) ).trans ?_
  refine (X_bipush (m := 56) (pc := 21) (n := 29) (by decide +kernel) ).trans ?_
  refine (X_call_vi (m := 56) (pc := 23) (q := 48) (y := 62) (n := 3) (as := [a_r (r0), a_i (0), a_i (29)]) (rest := []) (by decide +kernel) (by decide +kernel) (by decide +kernel) (by decide +kernel) rfl rfl (Nat.le_of_ble_eq_true rfl) (Nat.le_of_ble_eq_true rfl) rfl (by rw [show m_maxL 62 = 3 from by decide +kernel]; exact Nat.le_of_ble_eq_true rfl)).trans ?_
  exact ite_congr (by simp [a_rcv, show m_recv 62 = 6 from by decide +kernel]) (fun _ => rfl) (fun _ => rfl)
theorem B_X5_parseStop_14 {k : Nat → Nat × Nat} {u : Nat → Nat → Int} {g : Nat → Nat → Nat} {t : Nat × Nat × Nat} {r0 : Nat} {r1 : Nat} {v2 : AV} {v3 : AV} {v4 : AV} {y0 : Int} : a_X 56 14 [a_r (r0), a_r (r1), v2, v3, v4] [a_i (y0)] (k, u, g, t) = if a_fit 2 (y0) = true then some (.inl (some (a_i (y0))), (k, u, g, t)) else none := by
  exact X_ireturnF (m := 56) (pc := 14) (f := 2) (by decide +kernel) (by decide +kernel)
theorem B_X5_parseStop_26 {k : Nat → Nat × Nat} {u : Nat → Nat → Int} {g : Nat → Nat → Nat} {t : Nat × Nat × Nat} {r0 : Nat} {r1 : Nat} {v2 : AV} {v3 : AV} {v4 : AV} {y0 : Int} : a_X 56 26 [a_r (r0), a_r (r1), v2, v3, v4] [a_i (y0)] (k, u, g, t) = if (y0 : Int) ≠ 0 then if (k r0).1 = 6 then if (k r0).1 = 6 then (a_m 62 [a_r (r0), a_i (0), a_i (6)] (k, u, g, t)).bind (a_back 56 40 3 [a_r (r0), a_r (r1), a_i (u r0 9), v3, v4] []) else none else none else some (.inl (some (a_i (0))), (k, u, g, t)) := by
  refine (X_if_ne (m := 56) (pc := 26) (off := 5) (tg := 31) (by decide +kernel) (by decide +kernel)).trans ?_
  refine ite_congr rfl (fun _ => ?_) (fun _ => ?_)
  · refine (X_aload_n (m := 56) (pc := 31) (n := 0) (by decide +kernel) rfl).trans ?_
    refine (X_getI (m := 56) (pc := 32) (n := 52) (c := 6) (q := 9) (ty := 1) (fi := false) (by decide +kernel) (by decide +kernel) (by decide +kernel)).trans ?_
    refine ite_congr rfl (fun _ => ?_) (fun _ => rfl)
    refine (X_istore_n (m := 56) (pc := 35) (n := 2) (by decide +kernel) rfl (Nat.le_of_ble_eq_true rfl) rfl).trans ?_
    refine (X_aload_n (m := 56) (pc := 36) (n := 0) (by decide +kernel) rfl).trans ?_
    refine (X_iconst (m := 56) (pc := 37) (n := 0) (by decide +kernel) ).trans ?_
    refine (X_bipush (m := 56) (pc := 38) (n := 6) (by decide +kernel) ).trans ?_
    refine (X_call_vi (m := 56) (pc := 40) (q := 48) (y := 62) (n := 3) (as := [a_r (r0), a_i (0), a_i (6)]) (rest := []) (by decide +kernel) (by decide +kernel) (by decide +kernel) (by decide +kernel) rfl rfl (Nat.le_of_ble_eq_true rfl) (Nat.le_of_ble_eq_true rfl) rfl (by rw [show m_maxL 62 = 3 from by decide +kernel]; exact Nat.le_of_ble_eq_true rfl)).trans ?_
    exact ite_congr (by simp [a_rcv, show m_recv 62 = 6 from by decide +kernel]) (fun _ => rfl) (fun _ => rfl)
  · refine (X_iconst (m := 56) (pc := 29) (n := 0) (by decide +kernel) ).trans ?_
    exact X_ireturn (m := 56) (pc := 30) (f := 2) (by decide +kernel) (by decide +kernel) rfl
theorem B_X5_parseStop_43 {k : Nat → Nat × Nat} {u : Nat → Nat → Int} {g : Nat → Nat → Nat} {t : Nat × Nat × Nat} {r0 : Nat} {r1 : Nat} {x2 : Int} {v3 : AV} {v4 : AV} {y0 : Int} : a_X 56 43 [a_r (r0), a_r (r1), a_i (x2), v3, v4] [a_i (y0)] (k, u, g, t) = if (y0 : Int) ≠ 0 then if (k r0).1 = 6 then if (k r0).1 = 6 then (a_m 62 [a_r (r0), a_i (0), a_i (1438)] (k, u, g, t)).bind (a_back 56 58 3 [a_r (r0), a_r (r1), a_i (x2), a_i (u r0 9), v4] []) else none else none else some (.inl (some (a_i (0))), (k, u, g, t)) := by
  refine (X_if_ne (m := 56) (pc := 43) (off := 5) (tg := 48) (by decide +kernel) (by decide +kernel)).trans ?_
  refine ite_congr rfl (fun _ => ?_) (fun _ => ?_)
  · refine (X_aload_n (m := 56) (pc := 48) (n := 0) (by decide +kernel) rfl).trans ?_
    refine (X_getI (m := 56) (pc := 49) (n := 52) (c := 6) (q := 9) (ty := 1) (fi := false) (by decide +kernel) (by decide +kernel) (by decide +kernel)).trans ?_
    refine ite_congr rfl (fun _ => ?_) (fun _ => rfl)
    refine (X_istore_n (m := 56) (pc := 52) (n := 3) (by decide +kernel) rfl (Nat.le_of_ble_eq_true rfl) rfl).trans ?_
    refine (X_aload_n (m := 56) (pc := 53) (n := 0) (by decide +kernel) rfl).trans ?_
    refine (X_iconst (m := 56) (pc := 54) (n := 0) (by decide +kernel) ).trans ?_
    refine (X_sipush (m := 56) (pc := 55) (n := 1438) (by decide +kernel) ).trans ?_
    refine (X_call_vi (m := 56) (pc := 58) (q := 48) (y := 62) (n := 3) (as := [a_r (r0), a_i (0), a_i (1438)]) (rest := []) (by decide +kernel) (by decide +kernel) (by decide +kernel) (by decide +kernel) rfl rfl (Nat.le_of_ble_eq_true rfl) (Nat.le_of_ble_eq_true rfl) rfl (by rw [show m_maxL 62 = 3 from by decide +kernel]; exact Nat.le_of_ble_eq_true rfl)).trans ?_
    exact ite_congr (by simp [a_rcv, show m_recv 62 = 6 from by decide +kernel]) (fun _ => rfl) (fun _ => rfl)
  · refine (X_iconst (m := 56) (pc := 46) (n := 0) (by decide +kernel) ).trans ?_
    exact X_ireturn (m := 56) (pc := 47) (f := 2) (by decide +kernel) (by decide +kernel) rfl
theorem B_X5_parseStop_61 {k : Nat → Nat × Nat} {u : Nat → Nat → Int} {g : Nat → Nat → Nat} {t : Nat × Nat × Nat} {r0 : Nat} {r1 : Nat} {x2 : Int} {x3 : Int} {v4 : AV} {y0 : Int} : a_X 56 61 [a_r (r0), a_r (r1), a_i (x2), a_i (x3), v4] [a_i (y0)] (k, u, g, t) = if (y0 : Int) ≠ 0 then if (k r0).1 = 6 then if (k r0).1 = 6 then (a_m 62 [a_r (r0), a_i (wr ((u r0 9) + 1)), a_i (1439)] (k, u, g, t)).bind (a_back 56 80 3 [a_r (r0), a_r (r1), a_i (x2), a_i (x3), a_i (u r0 9)] []) else none else none else some (.inl (some (a_i (0))), (k, u, g, t)) := by
  refine (X_if_ne (m := 56) (pc := 61) (off := 5) (tg := 66) (by decide +kernel) (by decide +kernel)).trans ?_
  refine ite_congr rfl (fun _ => ?_) (fun _ => ?_)
  · refine (X_aload_n (m := 56) (pc := 66) (n := 0) (by decide +kernel) rfl).trans ?_
    refine (X_getI (m := 56) (pc := 67) (n := 52) (c := 6) (q := 9) (ty := 1) (fi := false) (by decide +kernel) (by decide +kernel) (by decide +kernel)).trans ?_
    refine ite_congr rfl (fun _ => ?_) (fun _ => rfl)
    refine (X_istore (m := 56) (pc := 70) (n := 4) (by decide +kernel) rfl (Nat.le_of_ble_eq_true rfl) rfl).trans ?_
    refine (X_aload_n (m := 56) (pc := 72) (n := 0) (by decide +kernel) rfl).trans ?_
    refine (X_iload (m := 56) (pc := 73) (n := 4) (by decide +kernel) rfl).trans ?_
    refine (X_iconst (m := 56) (pc := 75) (n := 1) (by decide +kernel) ).trans ?_
    refine (X_iadd (m := 56) (pc := 76)  (by decide +kernel) ).trans ?_
    refine (X_sipush (m := 56) (pc := 77) (n := 1439) (by decide +kernel) ).trans ?_
    refine (X_call_vi (m := 56) (pc := 80) (q := 48) (y := 62) (n := 3) (as := [a_r (r0), a_i (wr ((u r0 9) + 1)), a_i (1439)]) (rest := []) (by decide +kernel) (by decide +kernel) (by decide +kernel) (by decide +kernel) rfl rfl (Nat.le_of_ble_eq_true rfl) (Nat.le_of_ble_eq_true rfl) rfl (by rw [show m_maxL 62 = 3 from by decide +kernel]; exact Nat.le_of_ble_eq_true rfl)).trans ?_
    exact ite_congr (by simp [a_rcv, show m_recv 62 = 6 from by decide +kernel]) (fun _ => rfl) (fun _ => rfl)
  · refine (X_iconst (m := 56) (pc := 64) (n := 0) (by decide +kernel) ).trans ?_
    exact X_ireturn (m := 56) (pc := 65) (f := 2) (by decide +kernel) (by decide +kernel) rfl
theorem B_X5_parseStop_83 {k : Nat → Nat × Nat} {u : Nat → Nat → Int} {g : Nat → Nat → Nat} {t : Nat × Nat × Nat} {r0 : Nat} {r1 : Nat} {x2 : Int} {x3 : Int} {x4 : Int} {y0 : Int} : a_X 56 83 [a_r (r0), a_r (r1), a_i (x2), a_i (x3), a_i (x4)] [a_i (y0)] (k, u, g, t) = if (y0 : Int) ≠ 0 then if (k r1).1 = 5 then if (k r0).1 = 6 then if (k r0).1 = 6 then if (k (g r1 0)).1 = 9 then (a_m 81 [a_r (g r1 0), a_i (u r0 10), a_i (x2), a_i (x3), a_i (x4), a_i (u r0 9)] (k, u, g, t)).bind (a_back 56 104 3 [a_r (r0), a_r (r1), a_i (x2), a_i (x3), a_i (x4)] []) else none else none else none else none else some (.inl (some (a_i (0))), (k, u, g, t)) := by
  refine (X_if_ne (m := 56) (pc := 83) (off := 5) (tg := 88) (by decide +kernel) (by decide +kernel)).trans ?_
  refine ite_congr rfl (fun _ => ?_) (fun _ => ?_)
  · refine (X_aload_n (m := 56) (pc := 88) (n := 1) (by decide +kernel) rfl).trans ?_
    refine (X_getR (m := 56) (pc := 89) (n := 84) (c := 5) (q := 0) (fi := true) (by decide +kernel) (by decide +kernel)).trans ?_
    refine ite_congr rfl (fun _ => ?_) (fun _ => rfl)
    refine (X_aload_n (m := 56) (pc := 92) (n := 0) (by decide +kernel) rfl).trans ?_
    refine (X_getI (m := 56) (pc := 93) (n := 28) (c := 6) (q := 10) (ty := 1) (fi := false) (by decide +kernel) (by decide +kernel) (by decide +kernel)).trans ?_
    refine ite_congr rfl (fun _ => ?_) (fun _ => rfl)
    refine (X_iload_n (m := 56) (pc := 96) (n := 2) (by decide +kernel) rfl).trans ?_
    refine (X_iload_n (m := 56) (pc := 97) (n := 3) (by decide +kernel) rfl).trans ?_
    refine (X_iload (m := 56) (pc := 98) (n := 4) (by decide +kernel) rfl).trans ?_
    refine (X_aload_n (m := 56) (pc := 100) (n := 0) (by decide +kernel) rfl).trans ?_
    refine (X_getI (m := 56) (pc := 101) (n := 52) (c := 6) (q := 9) (ty := 1) (fi := false) (by decide +kernel) (by decide +kernel) (by decide +kernel)).trans ?_
    refine ite_congr rfl (fun _ => ?_) (fun _ => rfl)
    refine (X_call_vi (m := 56) (pc := 104) (q := 88) (y := 81) (n := 6) (as := [a_r (g r1 0), a_i (u r0 10), a_i (x2), a_i (x3), a_i (x4), a_i (u r0 9)]) (rest := []) (by decide +kernel) (by decide +kernel) (by decide +kernel) (by decide +kernel) rfl rfl (Nat.le_of_ble_eq_true rfl) (Nat.le_of_ble_eq_true rfl) rfl (by rw [show m_maxL 81 = 6 from by decide +kernel]; exact Nat.le_of_ble_eq_true rfl)).trans ?_
    exact ite_congr (by simp [a_rcv, show m_recv 81 = 9 from by decide +kernel]) (fun _ => rfl) (fun _ => rfl)
  · refine (X_iconst (m := 56) (pc := 86) (n := 0) (by decide +kernel) ).trans ?_
    exact X_ireturn (m := 56) (pc := 87) (f := 2) (by decide +kernel) (by decide +kernel) rfl
theorem B_X5_parseStop_107 {k : Nat → Nat × Nat} {u : Nat → Nat → Int} {g : Nat → Nat → Nat} {t : Nat × Nat × Nat} {r0 : Nat} {r1 : Nat} {x2 : Int} {x3 : Int} {x4 : Int} : a_X 56 107 [a_r (r0), a_r (r1), a_i (x2), a_i (x3), a_i (x4)] [] (k, u, g, t) = if (k r0).1 = 6 then if (k r0).1 = 6 then some (.inl (some (a_i (1))), (k, (upm u r0 10 (wr ((u r0 10) + 1))), g, t)) else none else none := by
  refine (X_aload_n (m := 56) (pc := 107) (n := 0) (by decide +kernel) rfl).trans ?_
  refine (X_dup (m := 56) (pc := 108)  (by decide +kernel) rfl rfl).trans ?_
  refine (X_getI (m := 56) (pc := 109) (n := 28) (c := 6) (q := 10) (ty := 1) (fi := false) (by decide +kernel) (by decide +kernel) (by decide +kernel)).trans ?_
  refine ite_congr rfl (fun _ => ?_) (fun _ => rfl)
  refine (X_iconst (m := 56) (pc := 112) (n := 1) (by decide +kernel) ).trans ?_
  refine (X_iadd (m := 56) (pc := 113)  (by decide +kernel) ).trans ?_
  refine (X_putI (m := 56) (pc := 114) (n := 28) (c := 6) (q := 10) (fi := false) (by decide +kernel) (by decide +kernel) (fun h => by cases h) (by decide +kernel)).trans ?_
  refine ite_congr rfl (fun _ => ?_) (fun _ => rfl)
  refine (X_iconst (m := 56) (pc := 117) (n := 1) (by decide +kernel) ).trans ?_
  exact X_ireturn (m := 56) (pc := 118) (f := 2) (by decide +kernel) (by decide +kernel) rfl
theorem E_X5_parseListener {σ : AS} {r0 : Nat} {r1 : Nat} : a_m 57 [a_r (r0), a_r (r1)] σ = a_X 57 0 [a_r (r0), a_r (r1), a_x false, a_x false] [] σ := a_m_eq (by rw [a_entry, show m_maxL 57 = 4 from by decide +kernel]; rfl)
theorem B_X5_parseListener_0 {k : Nat → Nat × Nat} {u : Nat → Nat → Int} {g : Nat → Nat → Nat} {t : Nat × Nat × Nat} {r0 : Nat} {r1 : Nat} {v2 : AV} {v3 : AV} : a_X 57 0 [a_r (r0), a_r (r1), v2, v3] [] (k, u, g, t) = if (k r0).1 = 6 then (a_m 63 [a_r (r0), a_r (5)] (k, u, g, t)).bind (a_back 57 3 3 [a_r (r0), a_r (r1), v2, v3] []) else none := by
  refine (X_aload_n (m := 57) (pc := 0) (n := 0) (by decide +kernel) rfl).trans ?_
  refine (X_ldcs (m := 57) (pc := 1) (n := 94) (q := 5) (by decide +kernel) (by decide +kernel) (by decide +kernel)).trans ?_
  refine (X_call_vi (m := 57) (pc := 3) (q := 67) (y := 63) (n := 2) (as := [a_r (r0), a_r (5)]) (rest := []) (by decide +kernel) (by decide +kernel) (by decide +kernel) (by decide +kernel) rfl rfl (Nat.le_of_ble_eq_true rfl) (Nat.le_of_ble_eq_true rfl) rfl (by rw [show m_maxL 63 = 3 from by decide +kernel]; exact Nat.le_of_ble_eq_true rfl)).trans ?_
  exact ite_congr (by simp [a_rcv, show m_recv 63 = 6 from by decide +kernel]) (fun _ => rfl) (fun _ => rfl)
theorem B_X5_parseListener_6 {k : Nat → Nat × Nat} {u : Nat → Nat → Int} {g : Nat → Nat → Nat} {t : Nat × Nat × Nat} {r0 : Nat} {r1 : Nat} {v2 : AV} {v3 : AV} {y0 : Int} : a_X 57 6 [a_r (r0), a_r (r1), v2, v3] [a_i (y0)] (k, u, g, t) = if (y0 : Int) ≠ 0 then if (k r1).1 = 5 then if (u r1 4 : Int) < (6 : Int) then if (k r1).1 = 5 then if (k r1).1 = 5 then if 30 ≤ (k (g r1 3)).1 ∧ 0 ≤ (u r1 4 : Int) ∧ (u r1 4 : Int) < ((k (g r1 3)).2 : Int) then if (k (g (g r1 3) (u r1 4 : Int).toNat)).1 = 3 then (a_m 16 [a_r (g (g r1 3) (u r1 4 : Int).toNat)] (k, u, g, t)).bind (a_back 57 41 3 [a_r (r0), a_r (r1), a_r (g (g r1 3) (u r1 4 : Int).toNat), v3] []) else none else none else none else none else if (k r0).1 = 6 then (a_m 59 [a_r (r0), a_i (3)] (k, u, g, t)).bind (a_back 57 26 3 [a_r (r0), a_r (r1), v2, v3] []) else none else none else if (k r0).1 = 6 then (a_m 59 [a_r (r0), a_i (1)] (k, u, g, t)).bind (a_back 57 11 3 [a_r (r0), a_r (r1), v2, v3] []) else none := by
  refine (X_if_ne (m := 57) (pc := 6) (off := 9) (tg := 15) (by decide +kernel) (by decide +kernel)).trans ?_
  refine ite_congr rfl (fun _ => ?_) (fun _ => ?_)
  · refine (X_aload_n (m := 57) (pc := 15) (n := 1) (by decide +kernel) rfl).trans ?_
    refine (X_getI (m := 57) (pc := 16) (n := 77) (c := 5) (q := 4) (ty := 1) (fi := false) (by decide +kernel) (by decide +kernel) (by decide +kernel)).trans ?_
    refine ite_congr rfl (fun _ => ?_) (fun _ => rfl)
    refine (X_bipush (m := 57) (pc := 19) (n := 6) (by decide +kernel) ).trans ?_
    refine (X_ic_lt (m := 57) (pc := 21) (off := 9) (tg := 30) (by decide +kernel) (by decide +kernel)).trans ?_
    refine ite_congr rfl (fun _ => ?_) (fun _ => ?_)
    · refine (X_aload_n (m := 57) (pc := 30) (n := 1) (by decide +kernel) rfl).trans ?_
      refine (X_getR (m := 57) (pc := 31) (n := 96) (c := 5) (q := 3) (fi := true) (by decide +kernel) (by decide +kernel)).trans ?_
      refine ite_congr rfl (fun _ => ?_) (fun _ => rfl)
      refine (X_aload_n (m := 57) (pc := 34) (n := 1) (by decide +kernel) rfl).trans ?_
      refine (X_getI (m := 57) (pc := 35) (n := 77) (c := 5) (q := 4) (ty := 1) (fi := false) (by decide +kernel) (by decide +kernel) (by decide +kernel)).trans ?_
      refine ite_congr rfl (fun _ => ?_) (fun _ => rfl)
      refine (X_aaload (m := 57) (pc := 38)  (by decide +kernel) ).trans ?_
      refine ite_congr rfl (fun _ => ?_) (fun _ => rfl)
      refine (X_astore_n (m := 57) (pc := 39) (n := 2) (by decide +kernel) rfl (Nat.le_of_ble_eq_true rfl) rfl).trans ?_
      refine (X_aload_n (m := 57) (pc := 40) (n := 2) (by decide +kernel) rfl).trans ?_
      refine (X_call_vi (m := 57) (pc := 41) (q := 100) (y := 16) (n := 1) (as := [a_r (g (g r1 3) (u r1 4 : Int).toNat)]) (rest := []) (by decide +kernel) (by decide +kernel) (by decide +kernel) (by decide +kernel) rfl rfl (Nat.le_of_ble_eq_true rfl) (Nat.le_of_ble_eq_true rfl) rfl (by rw [show m_maxL 16 = 2 from by decide +kernel]; exact Nat.le_of_ble_eq_true rfl)).trans ?_
      exact ite_congr (by simp [a_rcv, show m_recv 16 = 3 from by decide +kernel]) (fun _ => rfl) (fun _ => rfl)
    · refine (X_aload_n (m := 57) (pc := 24) (n := 0) (by decide +kernel) rfl).trans ?_
      refine (X_iconst (m := 57) (pc := 25) (n := 3) (by decide +kernel) ).trans ?_
      refine (X_call_vi (m := 57) (pc := 26) (q := 80) (y := 59) (n := 2) (as := [a_r (r0), a_i (3)]) (rest := []) (by decide +kernel) (by decide +kernel) (by decide +kernel) (by decide +kernel) rfl rfl (Nat.le_of_ble_eq_true rfl) (Nat.le_of_ble_eq_true rfl) rfl (by rw [show m_maxL 59 = 2 from by decide +kernel]; exact Nat.le_of_ble_eq_true rfl)).trans ?_
      exact ite_congr (by simp [a_rcv, show m_recv 59 = 6 from by decide +kernel]) (fun _ => rfl) (fun _ => rfl)
  · refine (X_aload_n (m := 57) (pc := 9) (n := 0) (by decide +kernel) rfl).trans ?_
    refine (X_iconst (m := 57) (pc := 10) (n := 1) (by decide +kernel) ).trans ?_
    refine (X_call_vi (m := 57) (pc := 11) (q := 80) (y := 59) (n := 2) (as := [a_r (r0), a_i (1)]) (rest := []) (by decide +kernel) (by decide +kernel) (by decide +kernel) (by decide +kernel) rfl rfl (Nat.le_of_ble_eq_true rfl) (Nat.le_of_ble_eq_true rfl) rfl (by rw [show m_maxL 59 = 2 from by decide +kernel]; exact Nat.le_of_ble_eq_true rfl)).trans ?_
    exact ite_congr (by simp [a_rcv, show m_recv 59 = 6 from by decide +kernel]) (fun _ => rfl) (fun _ => rfl)
theorem B_X5_parseListener_44 {k : Nat → Nat × Nat} {u : Nat → Nat → Int} {g : Nat → Nat → Nat} {t : Nat × Nat × Nat} {r0 : Nat} {r1 : Nat} {r2 : Nat} {v3 : AV} : a_X 57 44 [a_r (r0), a_r (r1), a_r (r2), v3] [] (k, u, g, t) = if (k r1).1 = 5 then if (k r1).1 = 5 then if (k r0).1 = 6 then (a_m 64 [a_r (r0)] (k, (upm u r1 4 (wr ((u r1 4) + 1))), g, t)).bind (a_back 57 55 3 [a_r (r0), a_r (r1), a_r (r2), v3] []) else none else none else none := by
  refine (X_aload_n (m := 57) (pc := 44) (n := 1) (by decide +kernel) rfl).trans ?_
  refine (X_dup (m := 57) (pc := 45)  (by decide +kernel) rfl rfl).trans ?_
  refine (X_getI (m := 57) (pc := 46) (n := 77) (c := 5) (q := 4) (ty := 1) (fi := false) (by decide +kernel) (by decide +kernel) (by decide +kernel)).trans ?_
  refine ite_congr rfl (fun _ => ?_) (fun _ => rfl)
  refine (X_iconst (m := 57) (pc := 49) (n := 1) (by decide +kernel) ).trans ?_
  refine (X_iadd (m := 57) (pc := 50)  (by decide +kernel) ).trans ?_
  refine (X_putI (m := 57) (pc := 51) (n := 77) (c := 5) (q := 4) (fi := false) (by decide +kernel) (by decide +kernel) (fun h => by cases h) (by decide +kernel)).trans ?_
  refine ite_congr rfl (fun _ => ?_) (fun _ => rfl)
  refine (X_aload_n (m := 57) (pc := 54) (n := 0) (by decide +kernel) rfl).trans ?_
  refine (X_call_vi (m := 57) (pc := 55) (q := 39) (y := 64) (n := 1) (as := [a_r (r0)]) (rest := []) (by decide +kernel) (by decide +kernel) (by decide +kernel) (by decide +kernel) rfl rfl (Nat.le_of_ble_eq_true rfl) (Nat.le_of_ble_eq_true rfl) rfl (by rw [show m_maxL 64 = 1 from by decide +kernel]; exact Nat.le_of_ble_eq_true rfl)).trans ?_
  exact ite_congr (by simp [a_rcv, show m_recv 64 = 6 from by decide +kernel]) (fun _ => rfl) (fun _ => rfl)
theorem B_X5_parseListener_29 {k : Nat → Nat × Nat} {u : Nat → Nat → Int} {g : Nat → Nat → Nat} {t : Nat × Nat × Nat} {r0 : Nat} {r1 : Nat} {v2 : AV} {v3 : AV} {y0 : Int} : a_X 57 29 [a_r (r0), a_r (r1), v2, v3] [a_i (y0)] (k, u, g, t) = if a_fit 2 (y0) = true then some (.inl (some (a_i (y0))), (k, u, g, t)) else none := by
  exact X_ireturnF (m := 57) (pc := 29) (f := 2) (by decide +kernel) (by decide +kernel)
theorem B_X5_parseListener_14 {k : Nat → Nat × Nat} {u : Nat → Nat → Int} {g : Nat → Nat → Nat} {t : Nat × Nat × Nat} {r0 : Nat} {r1 : Nat} {v2 : AV} {v3 : AV} {y0 : Int} : a_X 57 14 [a_r (r0), a_r (r1), v2, v3] [a_i (y0)] (k, u, g, t) = if a_fit 2 (y0) = true then some (.inl (some (a_i (y0))), (k, u, g, t)) else none := by
  exact X_ireturnF (m := 57) (pc := 14) (f := 2) (by decide +kernel) (by decide +kernel)
theorem B_X5_parseListener_58 {k : Nat → Nat × Nat} {u : Nat → Nat → Int} {g : Nat → Nat → Nat} {t : Nat × Nat × Nat} {r0 : Nat} {r1 : Nat} {r2 : Nat} {v3 : AV} : a_X 57 58 [a_r (r0), a_r (r1), a_r (r2), v3] [] (k, u, g, t) = if (k r0).1 = 6 then (a_m 62 [a_r (r0), a_i (0), a_i (9)] (k, u, g, t)).bind (a_back 57 62 3 [a_r (r0), a_r (r1), a_r (r2), v3] []) else none := by
  refine (X_aload_n (m := 57) (pc := 58) (n := 0) (by decide +kernel) rfl).trans ?_
  refine (X_iconst (m := 57) (pc := 59) (n := 0) (by decide +kernel) ).trans ?_
  refine (X_bipush (m := 57) (pc := 60) (n := 9) (by decide +kernel) ).trans ?_
  refine (X_call_vi (m := 57) (pc := 62) (q := 48) (y := 62) (n := 3) (as := [a_r (r0), a_i (0), a_i (9)]) (rest := []) (by decide +kernel) (by decide +kernel) (by decide +kernel) (by decide +kernel) rfl rfl (Nat.le_of_ble_eq_true rfl) (Nat.le_of_ble_eq_true rfl) rfl (by rw [show m_maxL 62 = 3 from by decide +kernel]; exact Nat.le_of_ble_eq_true rfl)).trans ?_
  exact ite_congr (by simp [a_rcv, show m_recv 62 = 6 from by decide +kernel]) (fun _ => rfl) (fun _ => rfl)
theorem B_X5_parseListener_65 {k : Nat → Nat × Nat} {u : Nat → Nat → Int} {g : Nat → Nat → Nat} {t : Nat × Nat × Nat} {r0 : Nat} {r1 : Nat} {r2 : Nat} {v3 : AV} {y0 : Int} : a_X 57 65 [a_r (r0), a_r (r1), a_r (r2), v3] [a_i (y0)] (k, u, g, t) = if (y0 : Int) ≠ 0 then if (k r0).1 = 6 then if (k r2).1 = 3 then a_X 57 80 [a_r (r0), a_r (r1), a_r (r2), a_i (0)] [] (k, (upm u r2 0 (u r0 9)), g, t) else none else none else some (.inl (some (a_i (0))), (k, u, g, t)) := by
  refine (X_if_ne (m := 57) (pc := 65) (off := 5) (tg := 70) (by decide +kernel) (by decide +kernel)).trans ?_
  refine ite_congr rfl (fun _ => ?_) (fun _ => ?_)
  · refine (X_aload_n (m := 57) (pc := 70) (n := 2) (by decide +kernel) rfl).trans ?_
    refine (X_aload_n (m := 57) (pc := 71) (n := 0) (by decide +kernel) rfl).trans ?_
    refine (X_getI (m := 57) (pc := 72) (n := 52) (c := 6) (q := 9) (ty := 1) (fi := false) (by decide +kernel) (by decide +kernel) (by decide +kernel)).trans ?_
    refine ite_congr rfl (fun _ => ?_) (fun _ => rfl)
    refine (X_putI (m := 57) (pc := 75) (n := 103) (c := 3) (q := 0) (fi := false) (by decide +kernel) (by decide +kernel) (fun h => by cases h) (by decide +kernel)).trans ?_
    refine ite_congr rfl (fun _ => ?_) (fun _ => rfl)
    refine (X_iconst (m := 57) (pc := 78) (n := 0) (by decide +kernel) ).trans ?_
    refine (X_istore_n (m := 57) (pc := 79) (n := 3) (by decide +kernel) rfl (Nat.le_of_ble_eq_true rfl) rfl).trans ?_
    rfl
  · refine (X_iconst (m := 57) (pc := 68) (n := 0) (by decide +kernel) ).trans ?_
    exact X_ireturn (m := 57) (pc := 69) (f := 2) (by decide +kernel) (by decide +kernel) rfl
theorem B_X5_parseListener_80 {k : Nat → Nat × Nat} {u : Nat → Nat → Int} {g : Nat → Nat → Nat} {t : Nat × Nat × Nat} {r0 : Nat} {r1 : Nat} {r2 : Nat} {x3 : Int} : a_X 57 80 [a_r (r0), a_r (r1), a_r (r2), a_i (x3)] [] (k, u, g, t) = if (x3 : Int) > (4 : Int) then some (.inl (some (a_i (1))), (k, u, g, t)) else if (k r0).1 = 6 then (a_m 63 [a_r (r0), a_r (7)] (k, u, g, t)).bind (a_back 57 88 3 [a_r (r0), a_r (r1), a_r (r2), a_i (x3)] []) else none := by
  refine (X_iload_n (m := 57) (pc := 80) (n := 3) (by decide +kernel) rfl).trans ?_
  refine (X_iconst (m := 57) (pc := 81) (n := 4) (by decide +kernel) ).trans ?_
  refine (X_ic_gt (m := 57) (pc := 82) (off := 28) (tg := 110) (by decide +kernel) (by decide +kernel)).trans ?_
  refine ite_congr rfl (fun _ => ?_) (fun _ => ?_)
  · refine (X_iconst (m := 57) (pc := 110) (n := 1) (by decide +kernel) ).trans ?_
    exact X_ireturn (m := 57) (pc := 111) (f := 2) (by decide +kernel) (by decide +kernel) rfl
  · refine (X_aload_n (m := 57) (pc := 85) (n := 0) (by decide +kernel) rfl).trans ?_
    refine (X_ldcs (m := 57) (pc := 86) (n := 106) (q := 7) (by decide +kernel) (by decide +kernel) (by decide +kernel)).trans ?_
    refine (X_call_vi (m := 57) (pc := 88) (q := 67) (y := 63) (n := 2) (as := [a_r (r0), a_r (7)]) (rest := []) (by decide +kernel) (by decide +kernel) (by decide +kernel) (by decide +kernel) rfl rfl (Nat.le_of_ble_eq_true rfl) (Nat.le_of_ble_eq_true rfl) rfl (by rw [show m_maxL 63 = 3 from by decide +kernel]; exact Nat.le_of_ble_eq_true rfl)).trans ?_
    exact ite_congr (by simp [a_rcv, show m_recv 63 = 6 from by decide +kernel]) (fun _ => rfl) (fun _ => rfl)
theorem B_X5_parseListener_91 {k : Nat → Nat × Nat} {u : Nat → Nat → Int} {g : Nat → Nat → Nat} {t : Nat × Nat × Nat} {r0 : Nat} {r1 : Nat} {r2 : Nat} {x3 : Int} {y0 : Int} : a_X 57 91 [a_r (r0), a_r (r1), a_r (r2), a_i (x3)] [a_i (y0)] (k, u, g, t) = if (y0 : Int) = 0 then some (.inl (some (a_i (1))), (k, u, g, t)) else if (k r0).1 = 6 then (a_m 58 [a_r (r0), a_r (r2)] (k, u, g, t)).bind (a_back 57 96 3 [a_r (r0), a_r (r1), a_r (r2), a_i (x3)] []) else none := by
  refine (X_if_eq (m := 57) (pc := 91) (off := 19) (tg := 110) (by decide +kernel) (by decide +kernel)).trans ?_
  refine ite_congr rfl (fun _ => ?_) (fun _ => ?_)
  · refine (X_iconst (m := 57) (pc := 110) (n := 1) (by decide +kernel) ).trans ?_
    exact X_ireturn (m := 57) (pc := 111) (f := 2) (by decide +kernel) (by decide +kernel) rfl
  · refine (X_aload_n (m := 57) (pc := 94) (n := 0) (by decide +kernel) rfl).trans ?_
    refine (X_aload_n (m := 57) (pc := 95) (n := 2) (by decide +kernel) rfl).trans ?_
    refine (X_call_vi (m := 57) (pc := 96) (q := 108) (y := 58) (n := 2) (as := [a_r (r0), a_r (r2)]) (rest := []) (by decide +kernel) (by decide +kernel) (by decide +kernel) (by decide +kernel) rfl rfl (Nat.le_of_ble_eq_true rfl) (Nat.le_of_ble_eq_true rfl) rfl (by rw [show m_maxL 58 = 3 from by decide +kernel]; exact Nat.le_of_ble_eq_true rfl)).trans ?_
    exact ite_congr (by simp [a_rcv, show m_recv 58 = 6 from by decide +kernel]) (fun _ => rfl) (fun _ => rfl)
theorem B_X5_parseListener_99 {k : Nat → Nat × Nat} {u : Nat → Nat → Int} {g : Nat → Nat → Nat} {t : Nat × Nat × Nat} {r0 : Nat} {r1 : Nat} {r2 : Nat} {x3 : Int} {y0 : Int} : a_X 57 99 [a_r (r0), a_r (r1), a_r (r2), a_i (x3)] [a_i (y0)] (k, u, g, t) = if (y0 : Int) ≠ 0 then a_X 57 80 [a_r (r0), a_r (r1), a_r (r2), a_i (wr (x3 + 1))] [] (k, u, g, t) else some (.inl (some (a_i (0))), (k, u, g, t)) := by
  refine (X_if_ne (m := 57) (pc := 99) (off := 5) (tg := 104) (by decide +kernel) (by decide +kernel)).trans ?_
  refine ite_congr rfl (fun _ => ?_) (fun _ => ?_)
  · refine (X_iinc (m := 57) (pc := 104) (n := 3) (c := 1) (by decide +kernel) rfl rfl (Nat.le_of_ble_eq_true rfl) rfl).trans ?_
    refine (X_goto (m := 57) (pc := 107) (off := -27) (tg := 80) (by decide +kernel) (by decide +kernel)).trans ?_
    rfl
  · refine (X_iconst (m := 57) (pc := 102) (n := 0) (by decide +kernel) ).trans ?_
    exact X_ireturn (m := 57) (pc := 103) (f := 2) (by decide +kernel) (by decide +kernel) rfl
theorem E_X5_parseGap {σ : AS} {r0 : Nat} {r1 : Nat} : a_m 58 [a_r (r0), a_r (r1)] σ = a_X 58 0 [a_r (r0), a_r (r1), a_x false] [] σ := a_m_eq (by rw [a_entry, show m_maxL 58 = 3 from by decide +kernel]; rfl)
theorem B_X5_parseGap_0 {k : Nat → Nat × Nat} {u : Nat → Nat → Int} {g : Nat → Nat → Nat} {t : Nat × Nat × Nat} {r0 : Nat} {r1 : Nat} {v2 : AV} : a_X 58 0 [a_r (r0), a_r (r1), v2] [] (k, u, g, t) = if (k r1).1 = 3 then if (u r1 1 : Int) < (4 : Int) then if (k r0).1 = 6 then (a_m 64 [a_r (r0)] (k, u, g, t)).bind (a_back 58 15 3 [a_r (r0), a_r (r1), v2] []) else none else if (k r0).1 = 6 then (a_m 59 [a_r (r0), a_i (3)] (k, u, g, t)).bind (a_back 58 10 3 [a_r (r0), a_r (r1), v2] []) else none else none := by
  refine (X_aload_n (m := 58) (pc := 0) (n := 1) (by decide +kernel) rfl).trans ?_
  refine (X_getI (m := 58) (pc := 1) (n := 112) (c := 3) (q := 1) (ty := 1) (fi := false) (by decide +kernel) (by decide +kernel) (by decide +kernel)).trans ?_
  refine ite_congr rfl (fun _ => ?_) (fun _ => rfl)
  refine (X_iconst (m := 58) (pc := 4) (n := 4) (by decide +kernel) ).trans ?_
  refine (X_ic_lt (m := 58) (pc := 5) (off := 9) (tg := 14) (by decide +kernel) (by decide +kernel)).trans ?_
  refine ite_congr rfl (fun _ => ?_) (fun _ => ?_)
  · refine (X_aload_n (m := 58) (pc := 14) (n := 0) (by decide +kernel) rfl).trans ?_
    refine (X_call_vi (m := 58) (pc := 15) (q := 39) (y := 64) (n := 1) (as := [a_r (r0)]) (rest := []) (by decide +kernel) (by decide +kernel) (by decide +kernel) (by decide +kernel) rfl rfl (Nat.le_of_ble_eq_true rfl) (Nat.le_of_ble_eq_true rfl) rfl (by rw [show m_maxL 64 = 1 from by decide +kernel]; exact Nat.le_of_ble_eq_true rfl)).trans ?_
    exact ite_congr (by simp [a_rcv, show m_recv 64 = 6 from by decide +kernel]) (fun _ => rfl) (fun _ => rfl)
  · refine (X_aload_n (m := 58) (pc := 8) (n := 0) (by decide +kernel) rfl).trans ?_
    refine (X_iconst (m := 58) (pc := 9) (n := 3) (by decide +kernel) ).trans ?_
    refine (X_call_vi (m := 58) (pc := 10) (q := 80) (y := 59) (n := 2) (as := [a_r (r0), a_i (3)]) (rest := []) (by decide +kernel) (by decide +kernel) (by decide +kernel) (by decide +kernel) rfl rfl (Nat.le_of_ble_eq_true rfl) (Nat.le_of_ble_eq_true rfl) rfl (by rw [show m_maxL 59 = 2 from by decide +kernel]; exact Nat.le_of_ble_eq_true rfl)).trans ?_
    exact ite_congr (by simp [a_rcv, show m_recv 59 = 6 from by decide +kernel]) (fun _ => rfl) (fun _ => rfl)
theorem B_X5_parseGap_18 {k : Nat → Nat × Nat} {u : Nat → Nat → Int} {g : Nat → Nat → Nat} {t : Nat × Nat × Nat} {r0 : Nat} {r1 : Nat} {v2 : AV} : a_X 58 18 [a_r (r0), a_r (r1), v2] [] (k, u, g, t) = if (k r0).1 = 6 then (a_m 62 [a_r (r0), a_i (0), a_i (9999)] (k, u, g, t)).bind (a_back 58 23 3 [a_r (r0), a_r (r1), v2] []) else none := by
  refine (X_aload_n (m := 58) (pc := 18) (n := 0) (by decide +kernel) rfl).trans ?_
  refine (X_iconst (m := 58) (pc := 19) (n := 0) (by decide +kernel) ).trans ?_
  refine (X_sipush (m := 58) (pc := 20) (n := 9999) (by decide +kernel) ).trans ?_
  refine (X_call_vi (m := 58) (pc := 23) (q := 48) (y := 62) (n := 3) (as := [a_r (r0), a_i (0), a_i (9999)]) (rest := []) (by decide +kernel) (by decide +kernel) (by decide +kernel) (by decide +kernel) rfl rfl (Nat.le_of_ble_eq_true rfl) (Nat.le_of_ble_eq_true rfl) rfl (by rw [show m_maxL 62 = 3 from by decide +kernel]; exact Nat.le_of_ble_eq_true rfl)).trans ?_
  exact ite_congr (by simp [a_rcv, show m_recv 62 = 6 from by decide +kernel]) (fun _ => rfl) (fun _ => rfl)
theorem B_X5_parseGap_13 {k : Nat → Nat × Nat} {u : Nat → Nat → Int} {g : Nat → Nat → Nat} {t : Nat × Nat × Nat} {r0 : Nat} {r1 : Nat} {v2 : AV} {y0 : Int} : a_X 58 13 [a_r (r0), a_r (r1), v2] [a_i (y0)] (k, u, g, t) = if a_fit 2 (y0) = true then some (.inl (some (a_i (y0))), (k, u, g, t)) else none := by
  exact X_ireturnF (m := 58) (pc := 13) (f := 2) (by decide +kernel) (by decide +kernel)
theorem B_X5_parseGap_26 {k : Nat → Nat × Nat} {u : Nat → Nat → Int} {g : Nat → Nat → Nat} {t : Nat × Nat × Nat} {r0 : Nat} {r1 : Nat} {v2 : AV} {y0 : Int} : a_X 58 26 [a_r (r0), a_r (r1), v2] [a_i (y0)] (k, u, g, t) = if (y0 : Int) ≠ 0 then if (k r0).1 = 6 then if (k r0).1 = 6 then (a_m 62 [a_r (r0), a_i (u r0 9), a_i (9999)] (k, u, g, t)).bind (a_back 58 41 3 [a_r (r0), a_r (r1), a_i (u r0 9)] []) else none else none else some (.inl (some (a_i (0))), (k, u, g, t)) := by
  refine (X_if_ne (m := 58) (pc := 26) (off := 5) (tg := 31) (by decide +kernel) (by decide +kernel)).trans ?_
  refine ite_congr rfl (fun _ => ?_) (fun _ => ?_)
  · refine (X_aload_n (m := 58) (pc := 31) (n := 0) (by decide +kernel) rfl).trans ?_
    refine (X_getI (m := 58) (pc := 32) (n := 52) (c := 6) (q := 9) (ty := 1) (fi := false) (by decide +kernel) (by decide +kernel) (by decide +kernel)).trans ?_
    refine ite_congr rfl (fun _ => ?_) (fun _ => rfl)
    refine (X_istore_n (m := 58) (pc := 35) (n := 2) (by decide +kernel) rfl (Nat.le_of_ble_eq_true rfl) rfl).trans ?_
    refine (X_aload_n (m := 58) (pc := 36) (n := 0) (by decide +kernel) rfl).trans ?_
    refine (X_iload_n (m := 58) (pc := 37) (n := 2) (by decide +kernel) rfl).trans ?_
    refine (X_sipush (m := 58) (pc := 38) (n := 9999) (by decide +kernel) ).trans ?_
    refine (X_call_vi (m := 58) (pc := 41) (q := 48) (y := 62) (n := 3) (as := [a_r (r0), a_i (u r0 9), a_i (9999)]) (rest := []) (by decide +kernel) (by decide +kernel) (by decide +kernel) (by decide +kernel) rfl rfl (Nat.le_of_ble_eq_true rfl) (Nat.le_of_ble_eq_true rfl) rfl (by rw [show m_maxL 62 = 3 from by decide +kernel]; exact Nat.le_of_ble_eq_true rfl)).trans ?_
    exact ite_congr (by simp [a_rcv, show m_recv 62 = 6 from by decide +kernel]) (fun _ => rfl) (fun _ => rfl)
  · refine (X_iconst (m := 58) (pc := 29) (n := 0) (by decide +kernel) ).trans ?_
    exact X_ireturn (m := 58) (pc := 30) (f := 2) (by decide +kernel) (by decide +kernel) rfl
theorem B_X5_parseGap_44 {k : Nat → Nat × Nat} {u : Nat → Nat → Int} {g : Nat → Nat → Nat} {t : Nat × Nat × Nat} {r0 : Nat} {r1 : Nat} {x2 : Int} {y0 : Int} : a_X 58 44 [a_r (r0), a_r (r1), a_i (x2)] [a_i (y0)] (k, u, g, t) = if (y0 : Int) ≠ 0 then if (k r0).1 = 6 then if (k r1).1 = 3 then (a_m 18 [a_r (r1), a_i (x2), a_i (u r0 9)] (k, u, g, t)).bind (a_back 58 55 3 [a_r (r0), a_r (r1), a_i (x2)] []) else none else none else some (.inl (some (a_i (0))), (k, u, g, t)) := by
  refine (X_if_ne (m := 58) (pc := 44) (off := 5) (tg := 49) (by decide +kernel) (by decide +kernel)).trans ?_
  refine ite_congr rfl (fun _ => ?_) (fun _ => ?_)
  · refine (X_aload_n (m := 58) (pc := 49) (n := 1) (by decide +kernel) rfl).trans ?_
    refine (X_iload_n (m := 58) (pc := 50) (n := 2) (by decide +kernel) rfl).trans ?_
    refine (X_aload_n (m := 58) (pc := 51) (n := 0) (by decide +kernel) rfl).trans ?_
    refine (X_getI (m := 58) (pc := 52) (n := 52) (c := 6) (q := 9) (ty := 1) (fi := false) (by decide +kernel) (by decide +kernel) (by decide +kernel)).trans ?_
    refine ite_congr rfl (fun _ => ?_) (fun _ => rfl)
    refine (X_call_vi (m := 58) (pc := 55) (q := 115) (y := 18) (n := 3) (as := [a_r (r1), a_i (x2), a_i (u r0 9)]) (rest := []) (by decide +kernel) (by decide +kernel) (by decide +kernel) (by decide +kernel) rfl rfl (Nat.le_of_ble_eq_true rfl) (Nat.le_of_ble_eq_true rfl) rfl (by rw [show m_maxL 18 = 3 from by decide +kernel]; exact Nat.le_of_ble_eq_true rfl)).trans ?_
    exact ite_congr (by simp [a_rcv, show m_recv 18 = 3 from by decide +kernel]) (fun _ => rfl) (fun _ => rfl)
  · refine (X_iconst (m := 58) (pc := 47) (n := 0) (by decide +kernel) ).trans ?_
    exact X_ireturn (m := 58) (pc := 48) (f := 2) (by decide +kernel) (by decide +kernel) rfl
theorem B_X5_parseGap_58 {k : Nat → Nat × Nat} {u : Nat → Nat → Int} {g : Nat → Nat → Nat} {t : Nat × Nat × Nat} {r0 : Nat} {r1 : Nat} {x2 : Int} : a_X 58 58 [a_r (r0), a_r (r1), a_i (x2)] [] (k, u, g, t) = some (.inl (some (a_i (1))), (k, u, g, t)) := by
  refine (X_iconst (m := 58) (pc := 58) (n := 1) (by decide +kernel) ).trans ?_
  exact X_ireturn (m := 58) (pc := 59) (f := 2) (by decide +kernel) (by decide +kernel) rfl
theorem E_X5_fail {σ : AS} {r0 : Nat} {x1 : Int} : a_m 59 [a_r (r0), a_i (x1)] σ = a_X 59 0 [a_r (r0), a_i (x1)] [] σ := a_m_eq (by rw [a_entry, show m_maxL 59 = 2 from by decide +kernel]; rfl)
theorem B_X5_fail_0 {k : Nat → Nat × Nat} {u : Nat → Nat → Int} {g : Nat → Nat → Nat} {t : Nat × Nat × Nat} {r0 : Nat} {x1 : Int} : a_X 59 0 [a_r (r0), a_i (x1)] [] (k, u, g, t) = if (k r0).1 = 6 then if (k r0).1 = 6 then if (k r0).1 = 6 then some (.inl (some (a_i (0))), (k, (upm (upm u r0 2 x1) r0 3 ((upm u r0 2 x1) r0 7)), g, t)) else none else none else none := by
  refine (X_aload_n (m := 59) (pc := 0) (n := 0) (by decide +kernel) rfl).trans ?_
  refine (X_iload_n (m := 59) (pc := 1) (n := 1) (by decide +kernel) rfl).trans ?_
  refine (X_putI (m := 59) (pc := 2) (n := 31) (c := 6) (q := 2) (fi := false) (by decide +kernel) (by decide +kernel) (fun h => by cases h) (by decide +kernel)).trans ?_
  refine ite_congr rfl (fun _ => ?_) (fun _ => rfl)
  refine (X_aload_n (m := 59) (pc := 5) (n := 0) (by decide +kernel) rfl).trans ?_
  refine (X_aload_n (m := 59) (pc := 6) (n := 0) (by decide +kernel) rfl).trans ?_
  refine (X_getI (m := 59) (pc := 7) (n := 119) (c := 6) (q := 7) (ty := 1) (fi := false) (by decide +kernel) (by decide +kernel) (by decide +kernel)).trans ?_
  refine ite_congr rfl (fun _ => ?_) (fun _ => rfl)
  refine (X_putI (m := 59) (pc := 10) (n := 15) (c := 6) (q := 3) (fi := false) (by decide +kernel) (by decide +kernel) (fun h => by cases h) (by decide +kernel)).trans ?_
  refine ite_congr rfl (fun _ => ?_) (fun _ => rfl)
  refine (X_iconst (m := 59) (pc := 13) (n := 0) (by decide +kernel) ).trans ?_
  exact X_ireturn (m := 59) (pc := 14) (f := 2) (by decide +kernel) (by decide +kernel) rfl
theorem E_X5_takeWord {σ : AS} {r0 : Nat} {r1 : Nat} : a_m 60 [a_r (r0), a_r (r1)] σ = a_X 60 0 [a_r (r0), a_r (r1)] [] σ := a_m_eq (by rw [a_entry, show m_maxL 60 = 2 from by decide +kernel]; rfl)
theorem B_X5_takeWord_0 {k : Nat → Nat × Nat} {u : Nat → Nat → Int} {g : Nat → Nat → Nat} {t : Nat × Nat × Nat} {r0 : Nat} {r1 : Nat} : a_X 60 0 [a_r (r0), a_r (r1)] [] (k, u, g, t) = if (k r0).1 = 6 then (a_m 63 [a_r (r0), a_r (r1)] (k, u, g, t)).bind (a_back 60 2 3 [a_r (r0), a_r (r1)] []) else none := by
  refine (X_aload_n (m := 60) (pc := 0) (n := 0) (by decide +kernel) rfl).trans ?_
  refine (X_aload_n (m := 60) (pc := 1) (n := 1) (by decide +kernel) rfl).trans ?_
  refine (X_call_vi (m := 60) (pc := 2) (q := 67) (y := 63) (n := 2) (as := [a_r (r0), a_r (r1)]) (rest := []) (by decide +kernel) (by decide +kernel) (by decide +kernel) (by decide +kernel) rfl rfl (Nat.le_of_ble_eq_true rfl) (Nat.le_of_ble_eq_true rfl) rfl (by rw [show m_maxL 63 = 3 from by decide +kernel]; exact Nat.le_of_ble_eq_true rfl)).trans ?_
  exact ite_congr (by simp [a_rcv, show m_recv 63 = 6 from by decide +kernel]) (fun _ => rfl) (fun _ => rfl)
theorem B_X5_takeWord_5 {k : Nat → Nat × Nat} {u : Nat → Nat → Int} {g : Nat → Nat → Nat} {t : Nat × Nat × Nat} {r0 : Nat} {r1 : Nat} {y0 : Int} : a_X 60 5 [a_r (r0), a_r (r1)] [a_i (y0)] (k, u, g, t) = if (y0 : Int) ≠ 0 then if (k r0).1 = 6 then (a_m 64 [a_r (r0)] (k, u, g, t)).bind (a_back 60 15 3 [a_r (r0), a_r (r1)] []) else none else if (k r0).1 = 6 then (a_m 59 [a_r (r0), a_i (1)] (k, u, g, t)).bind (a_back 60 10 3 [a_r (r0), a_r (r1)] []) else none := by
  refine (X_if_ne (m := 60) (pc := 5) (off := 9) (tg := 14) (by decide +kernel) (by decide +kernel)).trans ?_
  refine ite_congr rfl (fun _ => ?_) (fun _ => ?_)
  · refine (X_aload_n (m := 60) (pc := 14) (n := 0) (by decide +kernel) rfl).trans ?_
    refine (X_call_vi (m := 60) (pc := 15) (q := 39) (y := 64) (n := 1) (as := [a_r (r0)]) (rest := []) (by decide +kernel) (by decide +kernel) (by decide +kernel) (by decide +kernel) rfl rfl (Nat.le_of_ble_eq_true rfl) (Nat.le_of_ble_eq_true rfl) rfl (by rw [show m_maxL 64 = 1 from by decide +kernel]; exact Nat.le_of_ble_eq_true rfl)).trans ?_
    exact ite_congr (by simp [a_rcv, show m_recv 64 = 6 from by decide +kernel]) (fun _ => rfl) (fun _ => rfl)
  · refine (X_aload_n (m := 60) (pc := 8) (n := 0) (by decide +kernel) rfl).trans ?_
    refine (X_iconst (m := 60) (pc := 9) (n := 1) (by decide +kernel) ).trans ?_
    refine (X_call_vi (m := 60) (pc := 10) (q := 80) (y := 59) (n := 2) (as := [a_r (r0), a_i (1)]) (rest := []) (by decide +kernel) (by decide +kernel) (by decide +kernel) (by decide +kernel) rfl rfl (Nat.le_of_ble_eq_true rfl) (Nat.le_of_ble_eq_true rfl) rfl (by rw [show m_maxL 59 = 2 from by decide +kernel]; exact Nat.le_of_ble_eq_true rfl)).trans ?_
    exact ite_congr (by simp [a_rcv, show m_recv 59 = 6 from by decide +kernel]) (fun _ => rfl) (fun _ => rfl)
theorem B_X5_takeWord_18 {k : Nat → Nat × Nat} {u : Nat → Nat → Int} {g : Nat → Nat → Nat} {t : Nat × Nat × Nat} {r0 : Nat} {r1 : Nat} : a_X 60 18 [a_r (r0), a_r (r1)] [] (k, u, g, t) = some (.inl (some (a_i (1))), (k, u, g, t)) := by
  refine (X_iconst (m := 60) (pc := 18) (n := 1) (by decide +kernel) ).trans ?_
  exact X_ireturn (m := 60) (pc := 19) (f := 2) (by decide +kernel) (by decide +kernel) rfl
theorem B_X5_takeWord_13 {k : Nat → Nat × Nat} {u : Nat → Nat → Int} {g : Nat → Nat → Nat} {t : Nat × Nat × Nat} {r0 : Nat} {r1 : Nat} {y0 : Int} : a_X 60 13 [a_r (r0), a_r (r1)] [a_i (y0)] (k, u, g, t) = if a_fit 2 (y0) = true then some (.inl (some (a_i (y0))), (k, u, g, t)) else none := by
  exact X_ireturnF (m := 60) (pc := 13) (f := 2) (by decide +kernel) (by decide +kernel)
theorem E_X5_takeSemicolon {σ : AS} {r0 : Nat} : a_m 61 [a_r (r0)] σ = a_X 61 0 [a_r (r0)] [] σ := a_m_eq (by rw [a_entry, show m_maxL 61 = 1 from by decide +kernel]; rfl)
theorem B_X5_takeSemicolon_0 {k : Nat → Nat × Nat} {u : Nat → Nat → Int} {g : Nat → Nat → Nat} {t : Nat × Nat × Nat} {r0 : Nat} : a_X 61 0 [a_r (r0)] [] (k, u, g, t) = if (k r0).1 = 6 then if (u r0 6 : Int) = (3 : Int) then if (k r0).1 = 6 then (a_m 64 [a_r (r0)] (k, u, g, t)).bind (a_back 61 15 3 [a_r (r0)] []) else none else if (k r0).1 = 6 then (a_m 59 [a_r (r0), a_i (1)] (k, u, g, t)).bind (a_back 61 10 3 [a_r (r0)] []) else none else none := by
  refine (X_aload_n (m := 61) (pc := 0) (n := 0) (by decide +kernel) rfl).trans ?_
  refine (X_getI (m := 61) (pc := 1) (n := 58) (c := 6) (q := 6) (ty := 1) (fi := false) (by decide +kernel) (by decide +kernel) (by decide +kernel)).trans ?_
  refine ite_congr rfl (fun _ => ?_) (fun _ => rfl)
  refine (X_iconst (m := 61) (pc := 4) (n := 3) (by decide +kernel) ).trans ?_
  refine (X_ic_eq (m := 61) (pc := 5) (off := 9) (tg := 14) (by decide +kernel) (by decide +kernel)).trans ?_
  refine ite_congr rfl (fun _ => ?_) (fun _ => ?_)
  · refine (X_aload_n (m := 61) (pc := 14) (n := 0) (by decide +kernel) rfl).trans ?_
    refine (X_call_vi (m := 61) (pc := 15) (q := 39) (y := 64) (n := 1) (as := [a_r (r0)]) (rest := []) (by decide +kernel) (by decide +kernel) (by decide +kernel) (by decide +kernel) rfl rfl (Nat.le_of_ble_eq_true rfl) (Nat.le_of_ble_eq_true rfl) rfl (by rw [show m_maxL 64 = 1 from by decide +kernel]; exact Nat.le_of_ble_eq_true rfl)).trans ?_
    exact ite_congr (by simp [a_rcv, show m_recv 64 = 6 from by decide +kernel]) (fun _ => rfl) (fun _ => rfl)
  · refine (X_aload_n (m := 61) (pc := 8) (n := 0) (by decide +kernel) rfl).trans ?_
    refine (X_iconst (m := 61) (pc := 9) (n := 1) (by decide +kernel) ).trans ?_
    refine (X_call_vi (m := 61) (pc := 10) (q := 80) (y := 59) (n := 2) (as := [a_r (r0), a_i (1)]) (rest := []) (by decide +kernel) (by decide +kernel) (by decide +kernel) (by decide +kernel) rfl rfl (Nat.le_of_ble_eq_true rfl) (Nat.le_of_ble_eq_true rfl) rfl (by rw [show m_maxL 59 = 2 from by decide +kernel]; exact Nat.le_of_ble_eq_true rfl)).trans ?_
    exact ite_congr (by simp [a_rcv, show m_recv 59 = 6 from by decide +kernel]) (fun _ => rfl) (fun _ => rfl)
theorem B_X5_takeSemicolon_18 {k : Nat → Nat × Nat} {u : Nat → Nat → Int} {g : Nat → Nat → Nat} {t : Nat × Nat × Nat} {r0 : Nat} : a_X 61 18 [a_r (r0)] [] (k, u, g, t) = some (.inl (some (a_i (1))), (k, u, g, t)) := by
  refine (X_iconst (m := 61) (pc := 18) (n := 1) (by decide +kernel) ).trans ?_
  exact X_ireturn (m := 61) (pc := 19) (f := 2) (by decide +kernel) (by decide +kernel) rfl
theorem B_X5_takeSemicolon_13 {k : Nat → Nat × Nat} {u : Nat → Nat → Int} {g : Nat → Nat → Nat} {t : Nat × Nat × Nat} {r0 : Nat} {y0 : Int} : a_X 61 13 [a_r (r0)] [a_i (y0)] (k, u, g, t) = if a_fit 2 (y0) = true then some (.inl (some (a_i (y0))), (k, u, g, t)) else none := by
  exact X_ireturnF (m := 61) (pc := 13) (f := 2) (by decide +kernel) (by decide +kernel)
theorem E_X5_takeNumber {σ : AS} {r0 : Nat} {x1 : Int} {x2 : Int} : a_m 62 [a_r (r0), a_i (x1), a_i (x2)] σ = a_X 62 0 [a_r (r0), a_i (x1), a_i (x2)] [] σ := a_m_eq (by rw [a_entry, show m_maxL 62 = 3 from by decide +kernel]; rfl)
theorem B_X5_takeNumber_0 {k : Nat → Nat × Nat} {u : Nat → Nat → Int} {g : Nat → Nat → Nat} {t : Nat × Nat × Nat} {r0 : Nat} {x1 : Int} {x2 : Int} : a_X 62 0 [a_r (r0), a_i (x1), a_i (x2)] [] (k, u, g, t) = if (k r0).1 = 6 then if (u r0 6 : Int) = (2 : Int) then if (k r0).1 = 6 then if (u r0 8 : Int) < (x1 : Int) then if (k r0).1 = 6 then (a_m 59 [a_r (r0), a_i (2)] (k, u, g, t)).bind (a_back 62 32 3 [a_r (r0), a_i (x1), a_i (x2)] []) else none else if (k r0).1 = 6 then if (u r0 8 : Int) ≤ (x2 : Int) then if (k r0).1 = 6 then if (k r0).1 = 6 then if (k r0).1 = 6 then (a_m 64 [a_r (r0)] (k, (upm u r0 9 (u r0 8)), g, t)).bind (a_back 62 45 3 [a_r (r0), a_i (x1), a_i (x2)] []) else none else none else none else if (k r0).1 = 6 then (a_m 59 [a_r (r0), a_i (2)] (k, u, g, t)).bind (a_back 62 32 3 [a_r (r0), a_i (x1), a_i (x2)] []) else none else none else none else if (k r0).1 = 6 then (a_m 59 [a_r (r0), a_i (1)] (k, u, g, t)).bind (a_back 62 10 3 [a_r (r0), a_i (x1), a_i (x2)] []) else none else none := by
  refine (X_aload_n (m := 62) (pc := 0) (n := 0) (by decide +kernel) rfl).trans ?_
  refine (X_getI (m := 62) (pc := 1) (n := 58) (c := 6) (q := 6) (ty := 1) (fi := false) (by decide +kernel) (by decide +kernel) (by decide +kernel)).trans ?_
  refine ite_congr rfl (fun _ => ?_) (fun _ => rfl)
  refine (X_iconst (m := 62) (pc := 4) (n := 2) (by decide +kernel) ).trans ?_
  refine (X_ic_eq (m := 62) (pc := 5) (off := 9) (tg := 14) (by decide +kernel) (by decide +kernel)).trans ?_
  refine ite_congr rfl (fun _ => ?_) (fun _ => ?_)
  · refine (X_aload_n (m := 62) (pc := 14) (n := 0) (by decide +kernel) rfl).trans ?_
    refine (X_getI (m := 62) (pc := 15) (n := 122) (c := 6) (q := 8) (ty := 1) (fi := false) (by decide +kernel) (by decide +kernel) (by decide +kernel)).trans ?_
    refine ite_congr rfl (fun _ => ?_) (fun _ => rfl)
    refine (X_iload_n (m := 62) (pc := 18) (n := 1) (by decide +kernel) rfl).trans ?_
    refine (X_ic_lt (m := 62) (pc := 19) (off := 11) (tg := 30) (by decide +kernel) (by decide +kernel)).trans ?_
    refine ite_congr rfl (fun _ => ?_) (fun _ => ?_)
    · refine (X_aload_n (m := 62) (pc := 30) (n := 0) (by decide +kernel) rfl).trans ?_
      refine (X_iconst (m := 62) (pc := 31) (n := 2) (by decide +kernel) ).trans ?_
      refine (X_call_vi (m := 62) (pc := 32) (q := 80) (y := 59) (n := 2) (as := [a_r (r0), a_i (2)]) (rest := []) (by decide +kernel) (by decide +kernel) (by decide +kernel) (by decide +kernel) rfl rfl (Nat.le_of_ble_eq_true rfl) (Nat.le_of_ble_eq_true rfl) rfl (by rw [show m_maxL 59 = 2 from by decide +kernel]; exact Nat.le_of_ble_eq_true rfl)).trans ?_
      exact ite_congr (by simp [a_rcv, show m_recv 59 = 6 from by decide +kernel]) (fun _ => rfl) (fun _ => rfl)
    · refine (X_aload_n (m := 62) (pc := 22) (n := 0) (by decide +kernel) rfl).trans ?_
      refine (X_getI (m := 62) (pc := 23) (n := 122) (c := 6) (q := 8) (ty := 1) (fi := false) (by decide +kernel) (by decide +kernel) (by decide +kernel)).trans ?_
      refine ite_congr rfl (fun _ => ?_) (fun _ => rfl)
      refine (X_iload_n (m := 62) (pc := 26) (n := 2) (by decide +kernel) rfl).trans ?_
      refine (X_ic_le (m := 62) (pc := 27) (off := 9) (tg := 36) (by decide +kernel) (by decide +kernel)).trans ?_
      refine ite_congr rfl (fun _ => ?_) (fun _ => ?_)
      · refine (X_aload_n (m := 62) (pc := 36) (n := 0) (by decide +kernel) rfl).trans ?_
        refine (X_aload_n (m := 62) (pc := 37) (n := 0) (by decide +kernel) rfl).trans ?_
        refine (X_getI (m := 62) (pc := 38) (n := 122) (c := 6) (q := 8) (ty := 1) (fi := false) (by decide +kernel) (by decide +kernel) (by decide +kernel)).trans ?_
        refine ite_congr rfl (fun _ => ?_) (fun _ => rfl)
        refine (X_putI (m := 62) (pc := 41) (n := 52) (c := 6) (q := 9) (fi := false) (by decide +kernel) (by decide +kernel) (fun h => by cases h) (by decide +kernel)).trans ?_
        refine ite_congr rfl (fun _ => ?_) (fun _ => rfl)
        refine (X_aload_n (m := 62) (pc := 44) (n := 0) (by decide +kernel) rfl).trans ?_
        refine (X_call_vi (m := 62) (pc := 45) (q := 39) (y := 64) (n := 1) (as := [a_r (r0)]) (rest := []) (by decide +kernel) (by decide +kernel) (by decide +kernel) (by decide +kernel) rfl rfl (Nat.le_of_ble_eq_true rfl) (Nat.le_of_ble_eq_true rfl) rfl (by rw [show m_maxL 64 = 1 from by decide +kernel]; exact Nat.le_of_ble_eq_true rfl)).trans ?_
        exact ite_congr (by simp [a_rcv, show m_recv 64 = 6 from by decide +kernel]) (fun _ => rfl) (fun _ => rfl)
      · refine (X_aload_n (m := 62) (pc := 30) (n := 0) (by decide +kernel) rfl).trans ?_
        refine (X_iconst (m := 62) (pc := 31) (n := 2) (by decide +kernel) ).trans ?_
        refine (X_call_vi (m := 62) (pc := 32) (q := 80) (y := 59) (n := 2) (as := [a_r (r0), a_i (2)]) (rest := []) (by decide +kernel) (by decide +kernel) (by decide +kernel) (by decide +kernel) rfl rfl (Nat.le_of_ble_eq_true rfl) (Nat.le_of_ble_eq_true rfl) rfl (by rw [show m_maxL 59 = 2 from by decide +kernel]; exact Nat.le_of_ble_eq_true rfl)).trans ?_
        exact ite_congr (by simp [a_rcv, show m_recv 59 = 6 from by decide +kernel]) (fun _ => rfl) (fun _ => rfl)
  · refine (X_aload_n (m := 62) (pc := 8) (n := 0) (by decide +kernel) rfl).trans ?_
    refine (X_iconst (m := 62) (pc := 9) (n := 1) (by decide +kernel) ).trans ?_
    refine (X_call_vi (m := 62) (pc := 10) (q := 80) (y := 59) (n := 2) (as := [a_r (r0), a_i (1)]) (rest := []) (by decide +kernel) (by decide +kernel) (by decide +kernel) (by decide +kernel) rfl rfl (Nat.le_of_ble_eq_true rfl) (Nat.le_of_ble_eq_true rfl) rfl (by rw [show m_maxL 59 = 2 from by decide +kernel]; exact Nat.le_of_ble_eq_true rfl)).trans ?_
    exact ite_congr (by simp [a_rcv, show m_recv 59 = 6 from by decide +kernel]) (fun _ => rfl) (fun _ => rfl)
theorem B_X5_takeNumber_35 {k : Nat → Nat × Nat} {u : Nat → Nat → Int} {g : Nat → Nat → Nat} {t : Nat × Nat × Nat} {r0 : Nat} {x1 : Int} {x2 : Int} {y0 : Int} : a_X 62 35 [a_r (r0), a_i (x1), a_i (x2)] [a_i (y0)] (k, u, g, t) = if a_fit 2 (y0) = true then some (.inl (some (a_i (y0))), (k, u, g, t)) else none := by
  exact X_ireturnF (m := 62) (pc := 35) (f := 2) (by decide +kernel) (by decide +kernel)
theorem B_X5_takeNumber_48 {k : Nat → Nat × Nat} {u : Nat → Nat → Int} {g : Nat → Nat → Nat} {t : Nat × Nat × Nat} {r0 : Nat} {x1 : Int} {x2 : Int} : a_X 62 48 [a_r (r0), a_i (x1), a_i (x2)] [] (k, u, g, t) = some (.inl (some (a_i (1))), (k, u, g, t)) := by
  refine (X_iconst (m := 62) (pc := 48) (n := 1) (by decide +kernel) ).trans ?_
  exact X_ireturn (m := 62) (pc := 49) (f := 2) (by decide +kernel) (by decide +kernel) rfl
theorem B_X5_takeNumber_13 {k : Nat → Nat × Nat} {u : Nat → Nat → Int} {g : Nat → Nat → Nat} {t : Nat × Nat × Nat} {r0 : Nat} {x1 : Int} {x2 : Int} {y0 : Int} : a_X 62 13 [a_r (r0), a_i (x1), a_i (x2)] [a_i (y0)] (k, u, g, t) = if a_fit 2 (y0) = true then some (.inl (some (a_i (y0))), (k, u, g, t)) else none := by
  exact X_ireturnF (m := 62) (pc := 13) (f := 2) (by decide +kernel) (by decide +kernel)
theorem E_X5_isWord {σ : AS} {r0 : Nat} {r1 : Nat} : a_m 63 [a_r (r0), a_r (r1)] σ = a_X 63 0 [a_r (r0), a_r (r1), a_x false] [] σ := a_m_eq (by rw [a_entry, show m_maxL 63 = 3 from by decide +kernel]; rfl)
theorem B_X5_isWord_0 {k : Nat → Nat × Nat} {u : Nat → Nat → Int} {g : Nat → Nat → Nat} {t : Nat × Nat × Nat} {r0 : Nat} {r1 : Nat} {v2 : AV} : a_X 63 0 [a_r (r0), a_r (r1), v2] [] (k, u, g, t) = if (k r0).1 = 6 then if (u r0 6 : Int) ≠ (1 : Int) then some (.inl (some (a_i (0))), (k, u, g, t)) else if (k r0).1 = 6 then if (k r0).1 = 6 then if (k r1).1 = 25 then (a_m 352 [a_r (r1)] (k, u, g, t)).bind (a_back 63 18 3 [a_r (r0), a_r (r1), v2] [a_i (wr ((u r0 5) - (u r0 7)))]) else none else none else none else none := by
  refine (X_aload_n (m := 63) (pc := 0) (n := 0) (by decide +kernel) rfl).trans ?_
  refine (X_getI (m := 63) (pc := 1) (n := 58) (c := 6) (q := 6) (ty := 1) (fi := false) (by decide +kernel) (by decide +kernel) (by decide +kernel)).trans ?_
  refine ite_congr rfl (fun _ => ?_) (fun _ => rfl)
  refine (X_iconst (m := 63) (pc := 4) (n := 1) (by decide +kernel) ).trans ?_
  refine (X_ic_ne (m := 63) (pc := 5) (off := 19) (tg := 24) (by decide +kernel) (by decide +kernel)).trans ?_
  refine ite_congr rfl (fun _ => ?_) (fun _ => ?_)
  · refine (X_iconst (m := 63) (pc := 24) (n := 0) (by decide +kernel) ).trans ?_
    exact X_ireturn (m := 63) (pc := 25) (f := 2) (by decide +kernel) (by decide +kernel) rfl
  · refine (X_aload_n (m := 63) (pc := 8) (n := 0) (by decide +kernel) rfl).trans ?_
    refine (X_getI (m := 63) (pc := 9) (n := 25) (c := 6) (q := 5) (ty := 1) (fi := false) (by decide +kernel) (by decide +kernel) (by decide +kernel)).trans ?_
    refine ite_congr rfl (fun _ => ?_) (fun _ => rfl)
    refine (X_aload_n (m := 63) (pc := 12) (n := 0) (by decide +kernel) rfl).trans ?_
    refine (X_getI (m := 63) (pc := 13) (n := 119) (c := 6) (q := 7) (ty := 1) (fi := false) (by decide +kernel) (by decide +kernel) (by decide +kernel)).trans ?_
    refine ite_congr rfl (fun _ => ?_) (fun _ => rfl)
    refine (X_isub (m := 63) (pc := 16)  (by decide +kernel) ).trans ?_
    refine (X_aload_n (m := 63) (pc := 17) (n := 1) (by decide +kernel) rfl).trans ?_
    refine (X_call_vi (m := 63) (pc := 18) (q := 125) (y := 352) (n := 1) (as := [a_r (r1)]) (rest := [a_i (wr ((u r0 5) - (u r0 7)))]) (by decide +kernel) (by decide +kernel) (by decide +kernel) (by decide +kernel) rfl rfl (Nat.le_of_ble_eq_true rfl) (Nat.le_of_ble_eq_true rfl) rfl (by rw [show m_maxL 352 = 1 from by decide +kernel]; exact Nat.le_of_ble_eq_true rfl)).trans ?_
    exact ite_congr (by simp [a_rcv, show m_recv 352 = 25 from by decide +kernel]) (fun _ => rfl) (fun _ => rfl)
theorem B_X5_isWord_21 {k : Nat → Nat × Nat} {u : Nat → Nat → Int} {g : Nat → Nat → Nat} {t : Nat × Nat × Nat} {r0 : Nat} {r1 : Nat} {v2 : AV} {y0 : Int} {y1 : Int} : a_X 63 21 [a_r (r0), a_r (r1), v2] [a_i (y1), a_i (y0)] (k, u, g, t) = if (y0 : Int) = (y1 : Int) then a_X 63 28 [a_r (r0), a_r (r1), a_i (0)] [] (k, u, g, t) else some (.inl (some (a_i (0))), (k, u, g, t)) := by
  refine (X_ic_eq (m := 63) (pc := 21) (off := 5) (tg := 26) (by decide +kernel) (by decide +kernel)).trans ?_
  refine ite_congr rfl (fun _ => ?_) (fun _ => ?_)
  · refine (X_iconst (m := 63) (pc := 26) (n := 0) (by decide +kernel) ).trans ?_
    refine (X_istore_n (m := 63) (pc := 27) (n := 2) (by decide +kernel) rfl (Nat.le_of_ble_eq_true rfl) rfl).trans ?_
    rfl
  · refine (X_iconst (m := 63) (pc := 24) (n := 0) (by decide +kernel) ).trans ?_
    exact X_ireturn (m := 63) (pc := 25) (f := 2) (by decide +kernel) (by decide +kernel) rfl
theorem B_X5_isWord_28 {k : Nat → Nat × Nat} {u : Nat → Nat → Int} {g : Nat → Nat → Nat} {t : Nat × Nat × Nat} {r0 : Nat} {r1 : Nat} {x2 : Int} : a_X 63 28 [a_r (r0), a_r (r1), a_i (x2)] [] (k, u, g, t) = if (k r1).1 = 25 then (a_m 352 [a_r (r1)] (k, u, g, t)).bind (a_back 63 30 3 [a_r (r0), a_r (r1), a_i (x2)] [a_i (x2)]) else none := by
  refine (X_iload_n (m := 63) (pc := 28) (n := 2) (by decide +kernel) rfl).trans ?_
  refine (X_aload_n (m := 63) (pc := 29) (n := 1) (by decide +kernel) rfl).trans ?_
  refine (X_call_vi (m := 63) (pc := 30) (q := 125) (y := 352) (n := 1) (as := [a_r (r1)]) (rest := [a_i (x2)]) (by decide +kernel) (by decide +kernel) (by decide +kernel) (by decide +kernel) rfl rfl (Nat.le_of_ble_eq_true rfl) (Nat.le_of_ble_eq_true rfl) rfl (by rw [show m_maxL 352 = 1 from by decide +kernel]; exact Nat.le_of_ble_eq_true rfl)).trans ?_
  exact ite_congr (by simp [a_rcv, show m_recv 352 = 25 from by decide +kernel]) (fun _ => rfl) (fun _ => rfl)
theorem B_X5_isWord_33 {k : Nat → Nat × Nat} {u : Nat → Nat → Int} {g : Nat → Nat → Nat} {t : Nat × Nat × Nat} {r0 : Nat} {r1 : Nat} {x2 : Int} {y0 : Int} {y1 : Int} : a_X 63 33 [a_r (r0), a_r (r1), a_i (x2)] [a_i (y1), a_i (y0)] (k, u, g, t) = if (y0 : Int) ≥ (y1 : Int) then some (.inl (some (a_i (1))), (k, u, g, t)) else if (k r0).1 = 6 then if (k r0).1 = 6 then if ((k (g r0 0)).1 = 20 ∨ (k (g r0 0)).1 = 24) ∧ 0 ≤ (wr ((u r0 7) + x2) : Int) ∧ (wr ((u r0 7) + x2) : Int) < ((k (g r0 0)).2 : Int) then if (k r1).1 = 25 then (a_m 353 [a_r (r1), a_i (x2)] (k, u, g, t)).bind (a_back 63 49 3 [a_r (r0), a_r (r1), a_i (x2)] [a_i (u (g r0 0) (wr ((u r0 7) + x2) : Int).toNat)]) else none else none else none else none := by
  refine (X_ic_ge (m := 63) (pc := 33) (off := 30) (tg := 63) (by decide +kernel) (by decide +kernel)).trans ?_
  refine ite_congr rfl (fun _ => ?_) (fun _ => ?_)
  · refine (X_iconst (m := 63) (pc := 63) (n := 1) (by decide +kernel) ).trans ?_
    exact X_ireturn (m := 63) (pc := 64) (f := 2) (by decide +kernel) (by decide +kernel) rfl
  · refine (X_aload_n (m := 63) (pc := 36) (n := 0) (by decide +kernel) rfl).trans ?_
    refine (X_getR (m := 63) (pc := 37) (n := 9) (c := 6) (q := 0) (fi := true) (by decide +kernel) (by decide +kernel)).trans ?_
    refine ite_congr rfl (fun _ => ?_) (fun _ => rfl)
    refine (X_aload_n (m := 63) (pc := 40) (n := 0) (by decide +kernel) rfl).trans ?_
    refine (X_getI (m := 63) (pc := 41) (n := 119) (c := 6) (q := 7) (ty := 1) (fi := false) (by decide +kernel) (by decide +kernel) (by decide +kernel)).trans ?_
    refine ite_congr rfl (fun _ => ?_) (fun _ => rfl)
    refine (X_iload_n (m := 63) (pc := 44) (n := 2) (by decide +kernel) rfl).trans ?_
    refine (X_iadd (m := 63) (pc := 45)  (by decide +kernel) ).trans ?_
    refine (X_iaload (m := 63) (pc := 46)  (by decide +kernel) ).trans ?_
    refine ite_congr rfl (fun _ => ?_) (fun _ => rfl)
    refine (X_aload_n (m := 63) (pc := 47) (n := 1) (by decide +kernel) rfl).trans ?_
    refine (X_iload_n (m := 63) (pc := 48) (n := 2) (by decide +kernel) rfl).trans ?_
    refine (X_call_vi (m := 63) (pc := 49) (q := 131) (y := 353) (n := 2) (as := [a_r (r1), a_i (x2)]) (rest := [a_i (u (g r0 0) (wr ((u r0 7) + x2) : Int).toNat)]) (by decide +kernel) (by decide +kernel) (by decide +kernel) (by decide +kernel) rfl rfl (Nat.le_of_ble_eq_true rfl) (Nat.le_of_ble_eq_true rfl) rfl (by rw [show m_maxL 353 = 2 from by decide +kernel]; exact Nat.le_of_ble_eq_true rfl)).trans ?_
    exact ite_congr (by simp [a_rcv, show m_recv 353 = 25 from by decide +kernel]) (fun _ => rfl) (fun _ => rfl)
theorem B_X5_isWord_52 {k : Nat → Nat × Nat} {u : Nat → Nat → Int} {g : Nat → Nat → Nat} {t : Nat × Nat × Nat} {r0 : Nat} {r1 : Nat} {x2 : Int} {y0 : Int} {y1 : Int} : a_X 63 52 [a_r (r0), a_r (r1), a_i (x2)] [a_i (y1), a_i (y0)] (k, u, g, t) = if (y0 : Int) = (y1 : Int) then a_X 63 28 [a_r (r0), a_r (r1), a_i (wr (x2 + 1))] [] (k, u, g, t) else some (.inl (some (a_i (0))), (k, u, g, t)) := by
  refine (X_ic_eq (m := 63) (pc := 52) (off := 5) (tg := 57) (by decide +kernel) (by decide +kernel)).trans ?_
  refine ite_congr rfl (fun _ => ?_) (fun _ => ?_)
  · refine (X_iinc (m := 63) (pc := 57) (n := 2) (c := 1) (by decide +kernel) rfl rfl (Nat.le_of_ble_eq_true rfl) rfl).trans ?_
    refine (X_goto (m := 63) (pc := 60) (off := -32) (tg := 28) (by decide +kernel) (by decide +kernel)).trans ?_
    rfl
  · refine (X_iconst (m := 63) (pc := 55) (n := 0) (by decide +kernel) ).trans ?_
    exact X_ireturn (m := 63) (pc := 56) (f := 2) (by decide +kernel) (by decide +kernel) rfl
theorem E_X5_advance {σ : AS} {r0 : Nat} : a_m 64 [a_r (r0)] σ = a_X 64 0 [a_r (r0)] [] σ := a_m_eq (by rw [a_entry, show m_maxL 64 = 1 from by decide +kernel]; rfl)
theorem B_X5_advance_0 {k : Nat → Nat × Nat} {u : Nat → Nat → Int} {g : Nat → Nat → Nat} {t : Nat × Nat × Nat} {r0 : Nat} : a_X 64 0 [a_r (r0)] [] (k, u, g, t) = if (k r0).1 = 6 then if (k r0).1 = 6 then if (u r0 5 : Int) ≥ (u r0 4 : Int) then if (k r0).1 = 6 then if (k r0).1 = 6 then if (k r0).1 = 6 then if (k r0).1 = 6 then if (k r0).1 = 6 then if ((upm (upm u r0 7 (u r0 5)) r0 8 0) r0 5 : Int) < ((upm (upm u r0 7 (u r0 5)) r0 8 0) r0 4 : Int) then if (k r0).1 = 6 then if (k r0).1 = 6 then if ((k (g r0 0)).1 = 20 ∨ (k (g r0 0)).1 = 24) ∧ 0 ≤ ((upm (upm u r0 7 (u r0 5)) r0 8 0) r0 5 : Int) ∧ ((upm (upm u r0 7 (u r0 5)) r0 8 0) r0 5 : Int) < ((k (g r0 0)).2 : Int) then (a_m 65 [a_i ((upm (upm u r0 7 (u r0 5)) r0 8 0) (g r0 0) ((upm (upm u r0 7 (u r0 5)) r0 8 0) r0 5 : Int).toNat)] (k, (upm (upm u r0 7 (u r0 5)) r0 8 0), g, t)).bind (a_back 64 79 3 [a_r (r0)] []) else none else none else none else if (k r0).1 = 6 then some (.inl none, (k, (upm (upm (upm u r0 7 (u r0 5)) r0 8 0) r0 6 0), g, t)) else none else none else none else none else none else none else if (k r0).1 = 6 then if (k r0).1 = 6 then if ((k (g r0 0)).1 = 20 ∨ (k (g r0 0)).1 = 24) ∧ 0 ≤ (u r0 5 : Int) ∧ (u r0 5 : Int) < ((k (g r0 0)).2 : Int) then if (u (g r0 0) (u r0 5 : Int).toNat : Int) ≠ (32 : Int) then if (k r0).1 = 6 then if (k r0).1 = 6 then if (k r0).1 = 6 then if (k r0).1 = 6 then if (k r0).1 = 6 then if ((upm (upm u r0 7 (u r0 5)) r0 8 0) r0 5 : Int) < ((upm (upm u r0 7 (u r0 5)) r0 8 0) r0 4 : Int) then if (k r0).1 = 6 then if (k r0).1 = 6 then if ((k (g r0 0)).1 = 20 ∨ (k (g r0 0)).1 = 24) ∧ 0 ≤ ((upm (upm u r0 7 (u r0 5)) r0 8 0) r0 5 : Int) ∧ ((upm (upm u r0 7 (u r0 5)) r0 8 0) r0 5 : Int) < ((k (g r0 0)).2 : Int) then (a_m 65 [a_i ((upm (upm u r0 7 (u r0 5)) r0 8 0) (g r0 0) ((upm (upm u r0 7 (u r0 5)) r0 8 0) r0 5 : Int).toNat)] (k, (upm (upm u r0 7 (u r0 5)) r0 8 0), g, t)).bind (a_back 64 79 3 [a_r (r0)] []) else none else none else none else if (k r0).1 = 6 then some (.inl none, (k, (upm (upm (upm u r0 7 (u r0 5)) r0 8 0) r0 6 0), g, t)) else none else none else none else none else none else none else if (k r0).1 = 6 then a_X 64 30 [a_r (r0)] [a_i (u r0 5), a_r (r0)] (k, u, g, t) else none else none else none else none else none else none := by
  refine (X_aload_n (m := 64) (pc := 0) (n := 0) (by decide +kernel) rfl).trans ?_
  refine (X_getI (m := 64) (pc := 1) (n := 25) (c := 6) (q := 5) (ty := 1) (fi := false) (by decide +kernel) (by decide +kernel) (by decide +kernel)).trans ?_
  refine ite_congr rfl (fun _ => ?_) (fun _ => rfl)
  refine (X_aload_n (m := 64) (pc := 4) (n := 0) (by decide +kernel) rfl).trans ?_
  refine (X_getI (m := 64) (pc := 5) (n := 22) (c := 6) (q := 4) (ty := 1) (fi := false) (by decide +kernel) (by decide +kernel) (by decide +kernel)).trans ?_
  refine ite_congr rfl (fun _ => ?_) (fun _ => rfl)
  refine (X_ic_ge (m := 64) (pc := 8) (off := 30) (tg := 38) (by decide +kernel) (by decide +kernel)).trans ?_
  refine ite_congr rfl (fun _ => ?_) (fun _ => ?_)
  · refine (X_aload_n (m := 64) (pc := 38) (n := 0) (by decide +kernel) rfl).trans ?_
    refine (X_aload_n (m := 64) (pc := 39) (n := 0) (by decide +kernel) rfl).trans ?_
    refine (X_getI (m := 64) (pc := 40) (n := 25) (c := 6) (q := 5) (ty := 1) (fi := false) (by decide +kernel) (by decide +kernel) (by decide +kernel)).trans ?_
    refine ite_congr rfl (fun _ => ?_) (fun _ => rfl)
    refine (X_putI (m := 64) (pc := 43) (n := 119) (c := 6) (q := 7) (fi := false) (by decide +kernel) (by decide +kernel) (fun h => by cases h) (by decide +kernel)).trans ?_
    refine ite_congr rfl (fun _ => ?_) (fun _ => rfl)
    refine (X_aload_n (m := 64) (pc := 46) (n := 0) (by decide +kernel) rfl).trans ?_
    refine (X_iconst (m := 64) (pc := 47) (n := 0) (by decide +kernel) ).trans ?_
    refine (X_putI (m := 64) (pc := 48) (n := 122) (c := 6) (q := 8) (fi := false) (by decide +kernel) (by decide +kernel) (fun h => by cases h) (by decide +kernel)).trans ?_
    refine ite_congr rfl (fun _ => ?_) (fun _ => rfl)
    refine (X_aload_n (m := 64) (pc := 51) (n := 0) (by decide +kernel) rfl).trans ?_
    refine (X_getI (m := 64) (pc := 52) (n := 25) (c := 6) (q := 5) (ty := 1) (fi := false) (by decide +kernel) (by decide +kernel) (by decide +kernel)).trans ?_
    refine ite_congr rfl (fun _ => ?_) (fun _ => rfl)
    refine (X_aload_n (m := 64) (pc := 55) (n := 0) (by decide +kernel) rfl).trans ?_
    refine (X_getI (m := 64) (pc := 56) (n := 22) (c := 6) (q := 4) (ty := 1) (fi := false) (by decide +kernel) (by decide +kernel) (by decide +kernel)).trans ?_
    refine ite_congr rfl (fun _ => ?_) (fun _ => rfl)
    refine (X_ic_lt (m := 64) (pc := 59) (off := 11) (tg := 70) (by decide +kernel) (by decide +kernel)).trans ?_
    refine ite_congr rfl (fun _ => ?_) (fun _ => ?_)
    · refine (X_aload_n (m := 64) (pc := 70) (n := 0) (by decide +kernel) rfl).trans ?_
      refine (X_getR (m := 64) (pc := 71) (n := 9) (c := 6) (q := 0) (fi := true) (by decide +kernel) (by decide +kernel)).trans ?_
      refine ite_congr rfl (fun _ => ?_) (fun _ => rfl)
      refine (X_aload_n (m := 64) (pc := 74) (n := 0) (by decide +kernel) rfl).trans ?_
      refine (X_getI (m := 64) (pc := 75) (n := 25) (c := 6) (q := 5) (ty := 1) (fi := false) (by decide +kernel) (by decide +kernel) (by decide +kernel)).trans ?_
      refine ite_congr rfl (fun _ => ?_) (fun _ => rfl)
      refine (X_iaload (m := 64) (pc := 78)  (by decide +kernel) ).trans ?_
      refine ite_congr rfl (fun _ => ?_) (fun _ => rfl)
      refine (X_call_st (m := 64) (pc := 79) (q := 135) (y := 65) (n := 1) (as := [a_i ((upm (upm u r0 7 (u r0 5)) r0 8 0) (g r0 0) ((upm (upm u r0 7 (u r0 5)) r0 8 0) r0 5 : Int).toNat)]) (rest := []) (by decide +kernel) (by decide +kernel) (by decide +kernel) (by decide +kernel) rfl rfl (Nat.le_of_ble_eq_true rfl) (Nat.le_of_ble_eq_true rfl) rfl (by rw [show m_maxL 65 = 1 from by decide +kernel]; exact Nat.le_of_ble_eq_true rfl)).trans ?_
      exact if_pos rfl
    · refine (X_aload_n (m := 64) (pc := 62) (n := 0) (by decide +kernel) rfl).trans ?_
      refine (X_iconst (m := 64) (pc := 63) (n := 0) (by decide +kernel) ).trans ?_
      refine (X_putI (m := 64) (pc := 64) (n := 58) (c := 6) (q := 6) (fi := false) (by decide +kernel) (by decide +kernel) (fun h => by cases h) (by decide +kernel)).trans ?_
      refine ite_congr rfl (fun _ => ?_) (fun _ => rfl)
      refine (X_goto (m := 64) (pc := 67) (off := 219) (tg := 286) (by decide +kernel) (by decide +kernel)).trans ?_
      exact X_return (m := 64) (pc := 286) (by decide +kernel) (by decide +kernel)
  · refine (X_aload_n (m := 64) (pc := 11) (n := 0) (by decide +kernel) rfl).trans ?_
    refine (X_getR (m := 64) (pc := 12) (n := 9) (c := 6) (q := 0) (fi := true) (by decide +kernel) (by decide +kernel)).trans ?_
    refine ite_congr rfl (fun _ => ?_) (fun _ => rfl)
    refine (X_aload_n (m := 64) (pc := 15) (n := 0) (by decide +kernel) rfl).trans ?_
    refine (X_getI (m := 64) (pc := 16) (n := 25) (c := 6) (q := 5) (ty := 1) (fi := false) (by decide +kernel) (by decide +kernel) (by decide +kernel)).trans ?_
    refine ite_congr rfl (fun _ => ?_) (fun _ => rfl)
    refine (X_iaload (m := 64) (pc := 19)  (by decide +kernel) ).trans ?_
    refine ite_congr rfl (fun _ => ?_) (fun _ => rfl)
    refine (X_bipush (m := 64) (pc := 20) (n := 32) (by decide +kernel) ).trans ?_
    refine (X_ic_ne (m := 64) (pc := 22) (off := 16) (tg := 38) (by decide +kernel) (by decide +kernel)).trans ?_
    refine ite_congr rfl (fun _ => ?_) (fun _ => ?_)
    · refine (X_aload_n (m := 64) (pc := 38) (n := 0) (by decide +kernel) rfl).trans ?_
      refine (X_aload_n (m := 64) (pc := 39) (n := 0) (by decide +kernel) rfl).trans ?_
      refine (X_getI (m := 64) (pc := 40) (n := 25) (c := 6) (q := 5) (ty := 1) (fi := false) (by decide +kernel) (by decide +kernel) (by decide +kernel)).trans ?_
      refine ite_congr rfl (fun _ => ?_) (fun _ => rfl)
      refine (X_putI (m := 64) (pc := 43) (n := 119) (c := 6) (q := 7) (fi := false) (by decide +kernel) (by decide +kernel) (fun h => by cases h) (by decide +kernel)).trans ?_
      refine ite_congr rfl (fun _ => ?_) (fun _ => rfl)
      refine (X_aload_n (m := 64) (pc := 46) (n := 0) (by decide +kernel) rfl).trans ?_
      refine (X_iconst (m := 64) (pc := 47) (n := 0) (by decide +kernel) ).trans ?_
      refine (X_putI (m := 64) (pc := 48) (n := 122) (c := 6) (q := 8) (fi := false) (by decide +kernel) (by decide +kernel) (fun h => by cases h) (by decide +kernel)).trans ?_
      refine ite_congr rfl (fun _ => ?_) (fun _ => rfl)
      refine (X_aload_n (m := 64) (pc := 51) (n := 0) (by decide +kernel) rfl).trans ?_
      refine (X_getI (m := 64) (pc := 52) (n := 25) (c := 6) (q := 5) (ty := 1) (fi := false) (by decide +kernel) (by decide +kernel) (by decide +kernel)).trans ?_
      refine ite_congr rfl (fun _ => ?_) (fun _ => rfl)
      refine (X_aload_n (m := 64) (pc := 55) (n := 0) (by decide +kernel) rfl).trans ?_
      refine (X_getI (m := 64) (pc := 56) (n := 22) (c := 6) (q := 4) (ty := 1) (fi := false) (by decide +kernel) (by decide +kernel) (by decide +kernel)).trans ?_
      refine ite_congr rfl (fun _ => ?_) (fun _ => rfl)
      refine (X_ic_lt (m := 64) (pc := 59) (off := 11) (tg := 70) (by decide +kernel) (by decide +kernel)).trans ?_
      refine ite_congr rfl (fun _ => ?_) (fun _ => ?_)
      · refine (X_aload_n (m := 64) (pc := 70) (n := 0) (by decide +kernel) rfl).trans ?_
        refine (X_getR (m := 64) (pc := 71) (n := 9) (c := 6) (q := 0) (fi := true) (by decide +kernel) (by decide +kernel)).trans ?_
        refine ite_congr rfl (fun _ => ?_) (fun _ => rfl)
        refine (X_aload_n (m := 64) (pc := 74) (n := 0) (by decide +kernel) rfl).trans ?_
        refine (X_getI (m := 64) (pc := 75) (n := 25) (c := 6) (q := 5) (ty := 1) (fi := false) (by decide +kernel) (by decide +kernel) (by decide +kernel)).trans ?_
        refine ite_congr rfl (fun _ => ?_) (fun _ => rfl)
        refine (X_iaload (m := 64) (pc := 78)  (by decide +kernel) ).trans ?_
        refine ite_congr rfl (fun _ => ?_) (fun _ => rfl)
        refine (X_call_st (m := 64) (pc := 79) (q := 135) (y := 65) (n := 1) (as := [a_i ((upm (upm u r0 7 (u r0 5)) r0 8 0) (g r0 0) ((upm (upm u r0 7 (u r0 5)) r0 8 0) r0 5 : Int).toNat)]) (rest := []) (by decide +kernel) (by decide +kernel) (by decide +kernel) (by decide +kernel) rfl rfl (Nat.le_of_ble_eq_true rfl) (Nat.le_of_ble_eq_true rfl) rfl (by rw [show m_maxL 65 = 1 from by decide +kernel]; exact Nat.le_of_ble_eq_true rfl)).trans ?_
        exact if_pos rfl
      · refine (X_aload_n (m := 64) (pc := 62) (n := 0) (by decide +kernel) rfl).trans ?_
        refine (X_iconst (m := 64) (pc := 63) (n := 0) (by decide +kernel) ).trans ?_
        refine (X_putI (m := 64) (pc := 64) (n := 58) (c := 6) (q := 6) (fi := false) (by decide +kernel) (by decide +kernel) (fun h => by cases h) (by decide +kernel)).trans ?_
        refine ite_congr rfl (fun _ => ?_) (fun _ => rfl)
        refine (X_goto (m := 64) (pc := 67) (off := 219) (tg := 286) (by decide +kernel) (by decide +kernel)).trans ?_
        exact X_return (m := 64) (pc := 286) (by decide +kernel) (by decide +kernel)
    · refine (X_aload_n (m := 64) (pc := 25) (n := 0) (by decide +kernel) rfl).trans ?_
      refine (X_dup (m := 64) (pc := 26)  (by decide +kernel) rfl rfl).trans ?_
      refine (X_getI (m := 64) (pc := 27) (n := 25) (c := 6) (q := 5) (ty := 1) (fi := false) (by decide +kernel) (by decide +kernel) (by decide +kernel)).trans ?_
      refine ite_congr rfl (fun _ => ?_) (fun _ => rfl)
      rfl
theorem B_X5_advance_82 {k : Nat → Nat × Nat} {u : Nat → Nat → Int} {g : Nat → Nat → Nat} {t : Nat × Nat × Nat} {r0 : Nat} {y0 : Int} : a_X 64 82 [a_r (r0)] [a_i (y0)] (k, u, g, t) = if (y0 : Int) = 0 then if (k r0).1 = 6 then if (k r0).1 = 6 then if ((k (g r0 0)).1 = 20 ∨ (k (g r0 0)).1 = 24) ∧ 0 ≤ (u r0 5 : Int) ∧ (u r0 5 : Int) < ((k (g r0 0)).2 : Int) then (a_m 66 [a_i (u (g r0 0) (u r0 5 : Int).toNat)] (k, u, g, t)).bind (a_back 64 159 3 [a_r (r0)] []) else none else none else none else a_X 64 85 [a_r (r0)] [] (k, u, g, t) := by
  refine (X_if_eq (m := 64) (pc := 82) (off := 68) (tg := 150) (by decide +kernel) (by decide +kernel)).trans ?_
  refine ite_congr rfl (fun _ => ?_) (fun _ => ?_)
  · refine (X_aload_n (m := 64) (pc := 150) (n := 0) (by decide +kernel) rfl).trans ?_
    refine (X_getR (m := 64) (pc := 151) (n := 9) (c := 6) (q := 0) (fi := true) (by decide +kernel) (by decide +kernel)).trans ?_
    refine ite_congr rfl (fun _ => ?_) (fun _ => rfl)
    refine (X_aload_n (m := 64) (pc := 154) (n := 0) (by decide +kernel) rfl).trans ?_
    refine (X_getI (m := 64) (pc := 155) (n := 25) (c := 6) (q := 5) (ty := 1) (fi := false) (by decide +kernel) (by decide +kernel) (by decide +kernel)).trans ?_
    refine ite_congr rfl (fun _ => ?_) (fun _ => rfl)
    refine (X_iaload (m := 64) (pc := 158)  (by decide +kernel) ).trans ?_
    refine ite_congr rfl (fun _ => ?_) (fun _ => rfl)
    refine (X_call_st (m := 64) (pc := 159) (q := 138) (y := 66) (n := 1) (as := [a_i (u (g r0 0) (u r0 5 : Int).toNat)]) (rest := []) (by decide +kernel) (by decide +kernel) (by decide +kernel) (by decide +kernel) rfl rfl (Nat.le_of_ble_eq_true rfl) (Nat.le_of_ble_eq_true rfl) rfl (by rw [show m_maxL 66 = 1 from by decide +kernel]; exact Nat.le_of_ble_eq_true rfl)).trans ?_
    exact if_pos rfl
  · rfl
theorem B_X5_advance_30 {k : Nat → Nat × Nat} {u : Nat → Nat → Int} {g : Nat → Nat → Nat} {t : Nat × Nat × Nat} {r0 : Nat} {q0 : Nat} {y1 : Int} : a_X 64 30 [a_r (r0)] [a_i (y1), a_r (q0)] (k, u, g, t) = if (k q0).1 = 6 then a_X 64 0 [a_r (r0)] [] (k, (upm u q0 5 (wr (y1 + 1))), g, t) else none := by
  refine (X_iconst (m := 64) (pc := 30) (n := 1) (by decide +kernel) ).trans ?_
  refine (X_iadd (m := 64) (pc := 31)  (by decide +kernel) ).trans ?_
  refine (X_putI (m := 64) (pc := 32) (n := 25) (c := 6) (q := 5) (fi := false) (by decide +kernel) (by decide +kernel) (fun h => by cases h) (by decide +kernel)).trans ?_
  refine ite_congr rfl (fun _ => ?_) (fun _ => rfl)
  refine (X_goto (m := 64) (pc := 35) (off := -35) (tg := 0) (by decide +kernel) (by decide +kernel)).trans ?_
  rfl
theorem B_X5_advance_162 {k : Nat → Nat × Nat} {u : Nat → Nat → Int} {g : Nat → Nat → Nat} {t : Nat × Nat × Nat} {r0 : Nat} {y0 : Int} : a_X 64 162 [a_r (r0)] [a_i (y0)] (k, u, g, t) = if (y0 : Int) = 0 then if (k r0).1 = 6 then if (k r0).1 = 6 then if ((k (g r0 0)).1 = 20 ∨ (k (g r0 0)).1 = 24) ∧ 0 ≤ (u r0 5 : Int) ∧ (u r0 5 : Int) < ((k (g r0 0)).2 : Int) then if (u (g r0 0) (u r0 5 : Int).toNat : Int) ≠ (59 : Int) then if (k r0).1 = 6 then if (k r0).1 = 6 then if (k r0).1 = 6 then some (.inl none, (k, (upm (upm u r0 6 4) r0 5 (wr (((upm u r0 6 4) r0 5) + 1))), g, t)) else none else none else none else if (k r0).1 = 6 then if (k r0).1 = 6 then if (k r0).1 = 6 then some (.inl none, (k, (upm (upm u r0 6 3) r0 5 (wr (((upm u r0 6 3) r0 5) + 1))), g, t)) else none else none else none else none else none else none else a_X 64 165 [a_r (r0)] [] (k, u, g, t) := by
  refine (X_if_eq (m := 64) (pc := 162) (off := 91) (tg := 253) (by decide +kernel) (by decide +kernel)).trans ?_
  refine ite_congr rfl (fun _ => ?_) (fun _ => ?_)
  · refine (X_aload_n (m := 64) (pc := 253) (n := 0) (by decide +kernel) rfl).trans ?_
    refine (X_aload_n (m := 64) (pc := 254) (n := 0) (by decide +kernel) rfl).trans ?_
    refine (X_getR (m := 64) (pc := 255) (n := 9) (c := 6) (q := 0) (fi := true) (by decide +kernel) (by decide +kernel)).trans ?_
    refine ite_congr rfl (fun _ => ?_) (fun _ => rfl)
    refine (X_aload_n (m := 64) (pc := 258) (n := 0) (by decide +kernel) rfl).trans ?_
    refine (X_getI (m := 64) (pc := 259) (n := 25) (c := 6) (q := 5) (ty := 1) (fi := false) (by decide +kernel) (by decide +kernel) (by decide +kernel)).trans ?_
    refine ite_congr rfl (fun _ => ?_) (fun _ => rfl)
    refine (X_iaload (m := 64) (pc := 262)  (by decide +kernel) ).trans ?_
    refine ite_congr rfl (fun _ => ?_) (fun _ => rfl)
    refine (X_bipush (m := 64) (pc := 263) (n := 59) (by decide +kernel) ).trans ?_
    refine (X_ic_ne (m := 64) (pc := 265) (off := 7) (tg := 272) (by decide +kernel) (by decide +kernel)).trans ?_
    refine ite_congr rfl (fun _ => ?_) (fun _ => ?_)
    · refine (X_iconst (m := 64) (pc := 272) (n := 4) (by decide +kernel) ).trans ?_
      refine (X_putI (m := 64) (pc := 273) (n := 58) (c := 6) (q := 6) (fi := false) (by decide +kernel) (by decide +kernel) (fun h => by cases h) (by decide +kernel)).trans ?_
      refine ite_congr rfl (fun _ => ?_) (fun _ => rfl)
      refine (X_aload_n (m := 64) (pc := 276) (n := 0) (by decide +kernel) rfl).trans ?_
      refine (X_dup (m := 64) (pc := 277)  (by decide +kernel) rfl rfl).trans ?_
      refine (X_getI (m := 64) (pc := 278) (n := 25) (c := 6) (q := 5) (ty := 1) (fi := false) (by decide +kernel) (by decide +kernel) (by decide +kernel)).trans ?_
      refine ite_congr rfl (fun _ => ?_) (fun _ => rfl)
      refine (X_iconst (m := 64) (pc := 281) (n := 1) (by decide +kernel) ).trans ?_
      refine (X_iadd (m := 64) (pc := 282)  (by decide +kernel) ).trans ?_
      refine (X_putI (m := 64) (pc := 283) (n := 25) (c := 6) (q := 5) (fi := false) (by decide +kernel) (by decide +kernel) (fun h => by cases h) (by decide +kernel)).trans ?_
      refine ite_congr rfl (fun _ => ?_) (fun _ => rfl)
      exact X_return (m := 64) (pc := 286) (by decide +kernel) (by decide +kernel)
    · refine (X_iconst (m := 64) (pc := 268) (n := 3) (by decide +kernel) ).trans ?_
      refine (X_goto (m := 64) (pc := 269) (off := 4) (tg := 273) (by decide +kernel) (by decide +kernel)).trans ?_
      refine (X_putI (m := 64) (pc := 273) (n := 58) (c := 6) (q := 6) (fi := false) (by decide +kernel) (by decide +kernel) (fun h => by cases h) (by decide +kernel)).trans ?_
      refine ite_congr rfl (fun _ => ?_) (fun _ => rfl)
      refine (X_aload_n (m := 64) (pc := 276) (n := 0) (by decide +kernel) rfl).trans ?_
      refine (X_dup (m := 64) (pc := 277)  (by decide +kernel) rfl rfl).trans ?_
      refine (X_getI (m := 64) (pc := 278) (n := 25) (c := 6) (q := 5) (ty := 1) (fi := false) (by decide +kernel) (by decide +kernel) (by decide +kernel)).trans ?_
      refine ite_congr rfl (fun _ => ?_) (fun _ => rfl)
      refine (X_iconst (m := 64) (pc := 281) (n := 1) (by decide +kernel) ).trans ?_
      refine (X_iadd (m := 64) (pc := 282)  (by decide +kernel) ).trans ?_
      refine (X_putI (m := 64) (pc := 283) (n := 25) (c := 6) (q := 5) (fi := false) (by decide +kernel) (by decide +kernel) (fun h => by cases h) (by decide +kernel)).trans ?_
      refine ite_congr rfl (fun _ => ?_) (fun _ => rfl)
      exact X_return (m := 64) (pc := 286) (by decide +kernel) (by decide +kernel)
  · rfl
theorem B_X5_advance_85 {k : Nat → Nat × Nat} {u : Nat → Nat → Int} {g : Nat → Nat → Nat} {t : Nat × Nat × Nat} {r0 : Nat} : a_X 64 85 [a_r (r0)] [] (k, u, g, t) = if (k r0).1 = 6 then if (k r0).1 = 6 then if (u r0 5 : Int) ≥ (u r0 4 : Int) then if (k r0).1 = 6 then if (k r0).1 = 6 then if (wr ((u r0 5) - (u r0 7)) : Int) > (6 : Int) then if (k r0).1 = 6 then some (.inl none, (k, (upm u r0 6 4), g, t)) else none else if (k r0).1 = 6 then some (.inl none, (k, (upm u r0 6 1), g, t)) else none else none else none else if (k r0).1 = 6 then if (k r0).1 = 6 then if ((k (g r0 0)).1 = 20 ∨ (k (g r0 0)).1 = 24) ∧ 0 ≤ (u r0 5 : Int) ∧ (u r0 5 : Int) < ((k (g r0 0)).2 : Int) then (a_m 65 [a_i (u (g r0 0) (u r0 5 : Int).toNat)] (k, u, g, t)).bind (a_back 64 105 3 [a_r (r0)] []) else none else none else none else none else none := by
  refine (X_aload_n (m := 64) (pc := 85) (n := 0) (by decide +kernel) rfl).trans ?_
  refine (X_getI (m := 64) (pc := 86) (n := 25) (c := 6) (q := 5) (ty := 1) (fi := false) (by decide +kernel) (by decide +kernel) (by decide +kernel)).trans ?_
  refine ite_congr rfl (fun _ => ?_) (fun _ => rfl)
  refine (X_aload_n (m := 64) (pc := 89) (n := 0) (by decide +kernel) rfl).trans ?_
  refine (X_getI (m := 64) (pc := 90) (n := 22) (c := 6) (q := 4) (ty := 1) (fi := false) (by decide +kernel) (by decide +kernel) (by decide +kernel)).trans ?_
  refine ite_congr rfl (fun _ => ?_) (fun _ => rfl)
  refine (X_ic_ge (m := 64) (pc := 93) (off := 31) (tg := 124) (by decide +kernel) (by decide +kernel)).trans ?_
  refine ite_congr rfl (fun _ => ?_) (fun _ => ?_)
  · refine (X_aload_n (m := 64) (pc := 124) (n := 0) (by decide +kernel) rfl).trans ?_
    refine (X_aload_n (m := 64) (pc := 125) (n := 0) (by decide +kernel) rfl).trans ?_
    refine (X_getI (m := 64) (pc := 126) (n := 25) (c := 6) (q := 5) (ty := 1) (fi := false) (by decide +kernel) (by decide +kernel) (by decide +kernel)).trans ?_
    refine ite_congr rfl (fun _ => ?_) (fun _ => rfl)
    refine (X_aload_n (m := 64) (pc := 129) (n := 0) (by decide +kernel) rfl).trans ?_
    refine (X_getI (m := 64) (pc := 130) (n := 119) (c := 6) (q := 7) (ty := 1) (fi := false) (by decide +kernel) (by decide +kernel) (by decide +kernel)).trans ?_
    refine ite_congr rfl (fun _ => ?_) (fun _ => rfl)
    refine (X_isub (m := 64) (pc := 133)  (by decide +kernel) ).trans ?_
    refine (X_bipush (m := 64) (pc := 134) (n := 6) (by decide +kernel) ).trans ?_
    refine (X_ic_gt (m := 64) (pc := 136) (off := 7) (tg := 143) (by decide +kernel) (by decide +kernel)).trans ?_
    refine ite_congr rfl (fun _ => ?_) (fun _ => ?_)
    · refine (X_iconst (m := 64) (pc := 143) (n := 4) (by decide +kernel) ).trans ?_
      refine (X_putI (m := 64) (pc := 144) (n := 58) (c := 6) (q := 6) (fi := false) (by decide +kernel) (by decide +kernel) (fun h => by cases h) (by decide +kernel)).trans ?_
      refine ite_congr rfl (fun _ => ?_) (fun _ => rfl)
      refine (X_goto (m := 64) (pc := 147) (off := 139) (tg := 286) (by decide +kernel) (by decide +kernel)).trans ?_
      exact X_return (m := 64) (pc := 286) (by decide +kernel) (by decide +kernel)
    · refine (X_iconst (m := 64) (pc := 139) (n := 1) (by decide +kernel) ).trans ?_
      refine (X_goto (m := 64) (pc := 140) (off := 4) (tg := 144) (by decide +kernel) (by decide +kernel)).trans ?_
      refine (X_putI (m := 64) (pc := 144) (n := 58) (c := 6) (q := 6) (fi := false) (by decide +kernel) (by decide +kernel) (fun h => by cases h) (by decide +kernel)).trans ?_
      refine ite_congr rfl (fun _ => ?_) (fun _ => rfl)
      refine (X_goto (m := 64) (pc := 147) (off := 139) (tg := 286) (by decide +kernel) (by decide +kernel)).trans ?_
      exact X_return (m := 64) (pc := 286) (by decide +kernel) (by decide +kernel)
  · refine (X_aload_n (m := 64) (pc := 96) (n := 0) (by decide +kernel) rfl).trans ?_
    refine (X_getR (m := 64) (pc := 97) (n := 9) (c := 6) (q := 0) (fi := true) (by decide +kernel) (by decide +kernel)).trans ?_
    refine ite_congr rfl (fun _ => ?_) (fun _ => rfl)
    refine (X_aload_n (m := 64) (pc := 100) (n := 0) (by decide +kernel) rfl).trans ?_
    refine (X_getI (m := 64) (pc := 101) (n := 25) (c := 6) (q := 5) (ty := 1) (fi := false) (by decide +kernel) (by decide +kernel) (by decide +kernel)).trans ?_
    refine ite_congr rfl (fun _ => ?_) (fun _ => rfl)
    refine (X_iaload (m := 64) (pc := 104)  (by decide +kernel) ).trans ?_
    refine ite_congr rfl (fun _ => ?_) (fun _ => rfl)
    refine (X_call_st (m := 64) (pc := 105) (q := 135) (y := 65) (n := 1) (as := [a_i (u (g r0 0) (u r0 5 : Int).toNat)]) (rest := []) (by decide +kernel) (by decide +kernel) (by decide +kernel) (by decide +kernel) rfl rfl (Nat.le_of_ble_eq_true rfl) (Nat.le_of_ble_eq_true rfl) rfl (by rw [show m_maxL 65 = 1 from by decide +kernel]; exact Nat.le_of_ble_eq_true rfl)).trans ?_
    exact if_pos rfl
theorem B_X5_advance_165 {k : Nat → Nat × Nat} {u : Nat → Nat → Int} {g : Nat → Nat → Nat} {t : Nat × Nat × Nat} {r0 : Nat} : a_X 64 165 [a_r (r0)] [] (k, u, g, t) = if (k r0).1 = 6 then if (k r0).1 = 6 then if (u r0 5 : Int) ≥ (u r0 4 : Int) then if (k r0).1 = 6 then if (k r0).1 = 6 then if (wr ((u r0 5) - (u r0 7)) : Int) > (4 : Int) then if (k r0).1 = 6 then some (.inl none, (k, (upm u r0 6 4), g, t)) else none else if (k r0).1 = 6 then some (.inl none, (k, (upm u r0 6 2), g, t)) else none else none else none else if (k r0).1 = 6 then if (k r0).1 = 6 then if ((k (g r0 0)).1 = 20 ∨ (k (g r0 0)).1 = 24) ∧ 0 ≤ (u r0 5 : Int) ∧ (u r0 5 : Int) < ((k (g r0 0)).2 : Int) then (a_m 66 [a_i (u (g r0 0) (u r0 5 : Int).toNat)] (k, u, g, t)).bind (a_back 64 185 3 [a_r (r0)] []) else none else none else none else none else none := by
  refine (X_aload_n (m := 64) (pc := 165) (n := 0) (by decide +kernel) rfl).trans ?_
  refine (X_getI (m := 64) (pc := 166) (n := 25) (c := 6) (q := 5) (ty := 1) (fi := false) (by decide +kernel) (by decide +kernel) (by decide +kernel)).trans ?_
  refine ite_congr rfl (fun _ => ?_) (fun _ => rfl)
  refine (X_aload_n (m := 64) (pc := 169) (n := 0) (by decide +kernel) rfl).trans ?_
  refine (X_getI (m := 64) (pc := 170) (n := 22) (c := 6) (q := 4) (ty := 1) (fi := false) (by decide +kernel) (by decide +kernel) (by decide +kernel)).trans ?_
  refine ite_congr rfl (fun _ => ?_) (fun _ => rfl)
  refine (X_ic_ge (m := 64) (pc := 173) (off := 55) (tg := 228) (by decide +kernel) (by decide +kernel)).trans ?_
  refine ite_congr rfl (fun _ => ?_) (fun _ => ?_)
  · refine (X_aload_n (m := 64) (pc := 228) (n := 0) (by decide +kernel) rfl).trans ?_
    refine (X_aload_n (m := 64) (pc := 229) (n := 0) (by decide +kernel) rfl).trans ?_
    refine (X_getI (m := 64) (pc := 230) (n := 25) (c := 6) (q := 5) (ty := 1) (fi := false) (by decide +kernel) (by decide +kernel) (by decide +kernel)).trans ?_
    refine ite_congr rfl (fun _ => ?_) (fun _ => rfl)
    refine (X_aload_n (m := 64) (pc := 233) (n := 0) (by decide +kernel) rfl).trans ?_
    refine (X_getI (m := 64) (pc := 234) (n := 119) (c := 6) (q := 7) (ty := 1) (fi := false) (by decide +kernel) (by decide +kernel) (by decide +kernel)).trans ?_
    refine ite_congr rfl (fun _ => ?_) (fun _ => rfl)
    refine (X_isub (m := 64) (pc := 237)  (by decide +kernel) ).trans ?_
    refine (X_iconst (m := 64) (pc := 238) (n := 4) (by decide +kernel) ).trans ?_
    refine (X_ic_gt (m := 64) (pc := 239) (off := 7) (tg := 246) (by decide +kernel) (by decide +kernel)).trans ?_
    refine ite_congr rfl (fun _ => ?_) (fun _ => ?_)
    · refine (X_iconst (m := 64) (pc := 246) (n := 4) (by decide +kernel) ).trans ?_
      refine (X_putI (m := 64) (pc := 247) (n := 58) (c := 6) (q := 6) (fi := false) (by decide +kernel) (by decide +kernel) (fun h => by cases h) (by decide +kernel)).trans ?_
      refine ite_congr rfl (fun _ => ?_) (fun _ => rfl)
      refine (X_goto (m := 64) (pc := 250) (off := 36) (tg := 286) (by decide +kernel) (by decide +kernel)).trans ?_
      exact X_return (m := 64) (pc := 286) (by decide +kernel) (by decide +kernel)
    · refine (X_iconst (m := 64) (pc := 242) (n := 2) (by decide +kernel) ).trans ?_
      refine (X_goto (m := 64) (pc := 243) (off := 4) (tg := 247) (by decide +kernel) (by decide +kernel)).trans ?_
      refine (X_putI (m := 64) (pc := 247) (n := 58) (c := 6) (q := 6) (fi := false) (by decide +kernel) (by decide +kernel) (fun h => by cases h) (by decide +kernel)).trans ?_
      refine ite_congr rfl (fun _ => ?_) (fun _ => rfl)
      refine (X_goto (m := 64) (pc := 250) (off := 36) (tg := 286) (by decide +kernel) (by decide +kernel)).trans ?_
      exact X_return (m := 64) (pc := 286) (by decide +kernel) (by decide +kernel)
  · refine (X_aload_n (m := 64) (pc := 176) (n := 0) (by decide +kernel) rfl).trans ?_
    refine (X_getR (m := 64) (pc := 177) (n := 9) (c := 6) (q := 0) (fi := true) (by decide +kernel) (by decide +kernel)).trans ?_
    refine ite_congr rfl (fun _ => ?_) (fun _ => rfl)
    refine (X_aload_n (m := 64) (pc := 180) (n := 0) (by decide +kernel) rfl).trans ?_
    refine (X_getI (m := 64) (pc := 181) (n := 25) (c := 6) (q := 5) (ty := 1) (fi := false) (by decide +kernel) (by decide +kernel) (by decide +kernel)).trans ?_
    refine ite_congr rfl (fun _ => ?_) (fun _ => rfl)
    refine (X_iaload (m := 64) (pc := 184)  (by decide +kernel) ).trans ?_
    refine ite_congr rfl (fun _ => ?_) (fun _ => rfl)
    refine (X_call_st (m := 64) (pc := 185) (q := 138) (y := 66) (n := 1) (as := [a_i (u (g r0 0) (u r0 5 : Int).toNat)]) (rest := []) (by decide +kernel) (by decide +kernel) (by decide +kernel) (by decide +kernel) rfl rfl (Nat.le_of_ble_eq_true rfl) (Nat.le_of_ble_eq_true rfl) rfl (by rw [show m_maxL 66 = 1 from by decide +kernel]; exact Nat.le_of_ble_eq_true rfl)).trans ?_
    exact if_pos rfl
theorem B_X5_advance_108 {k : Nat → Nat × Nat} {u : Nat → Nat → Int} {g : Nat → Nat → Nat} {t : Nat × Nat × Nat} {r0 : Nat} {y0 : Int} : a_X 64 108 [a_r (r0)] [a_i (y0)] (k, u, g, t) = if (y0 : Int) = 0 then if (k r0).1 = 6 then if (k r0).1 = 6 then if (wr ((u r0 5) - (u r0 7)) : Int) > (6 : Int) then if (k r0).1 = 6 then some (.inl none, (k, (upm u r0 6 4), g, t)) else none else if (k r0).1 = 6 then some (.inl none, (k, (upm u r0 6 1), g, t)) else none else none else none else if (k r0).1 = 6 then if (k r0).1 = 6 then a_X 64 85 [a_r (r0)] [] (k, (upm u r0 5 (wr ((u r0 5) + 1))), g, t) else none else none := by
  refine (X_if_eq (m := 64) (pc := 108) (off := 16) (tg := 124) (by decide +kernel) (by decide +kernel)).trans ?_
  refine ite_congr rfl (fun _ => ?_) (fun _ => ?_)
  · refine (X_aload_n (m := 64) (pc := 124) (n := 0) (by decide +kernel) rfl).trans ?_
    refine (X_aload_n (m := 64) (pc := 125) (n := 0) (by decide +kernel) rfl).trans ?_
    refine (X_getI (m := 64) (pc := 126) (n := 25) (c := 6) (q := 5) (ty := 1) (fi := false) (by decide +kernel) (by decide +kernel) (by decide +kernel)).trans ?_
    refine ite_congr rfl (fun _ => ?_) (fun _ => rfl)
    refine (X_aload_n (m := 64) (pc := 129) (n := 0) (by decide +kernel) rfl).trans ?_
    refine (X_getI (m := 64) (pc := 130) (n := 119) (c := 6) (q := 7) (ty := 1) (fi := false) (by decide +kernel) (by decide +kernel) (by decide +kernel)).trans ?_
    refine ite_congr rfl (fun _ => ?_) (fun _ => rfl)
    refine (X_isub (m := 64) (pc := 133)  (by decide +kernel) ).trans ?_
    refine (X_bipush (m := 64) (pc := 134) (n := 6) (by decide +kernel) ).trans ?_
    refine (X_ic_gt (m := 64) (pc := 136) (off := 7) (tg := 143) (by decide +kernel) (by decide +kernel)).trans ?_
    refine ite_congr rfl (fun _ => ?_) (fun _ => ?_)
    · refine (X_iconst (m := 64) (pc := 143) (n := 4) (by decide +kernel) ).trans ?_
      refine (X_putI (m := 64) (pc := 144) (n := 58) (c := 6) (q := 6) (fi := false) (by decide +kernel) (by decide +kernel) (fun h => by cases h) (by decide +kernel)).trans ?_
      refine ite_congr rfl (fun _ => ?_) (fun _ => rfl)
      refine (X_goto (m := 64) (pc := 147) (off := 139) (tg := 286) (by decide +kernel) (by decide +kernel)).trans ?_
      exact X_return (m := 64) (pc := 286) (by decide +kernel) (by decide +kernel)
    · refine (X_iconst (m := 64) (pc := 139) (n := 1) (by decide +kernel) ).trans ?_
      refine (X_goto (m := 64) (pc := 140) (off := 4) (tg := 144) (by decide +kernel) (by decide +kernel)).trans ?_
      refine (X_putI (m := 64) (pc := 144) (n := 58) (c := 6) (q := 6) (fi := false) (by decide +kernel) (by decide +kernel) (fun h => by cases h) (by decide +kernel)).trans ?_
      refine ite_congr rfl (fun _ => ?_) (fun _ => rfl)
      refine (X_goto (m := 64) (pc := 147) (off := 139) (tg := 286) (by decide +kernel) (by decide +kernel)).trans ?_
      exact X_return (m := 64) (pc := 286) (by decide +kernel) (by decide +kernel)
  · refine (X_aload_n (m := 64) (pc := 111) (n := 0) (by decide +kernel) rfl).trans ?_
    refine (X_dup (m := 64) (pc := 112)  (by decide +kernel) rfl rfl).trans ?_
    refine (X_getI (m := 64) (pc := 113) (n := 25) (c := 6) (q := 5) (ty := 1) (fi := false) (by decide +kernel) (by decide +kernel) (by decide +kernel)).trans ?_
    refine ite_congr rfl (fun _ => ?_) (fun _ => rfl)
    refine (X_iconst (m := 64) (pc := 116) (n := 1) (by decide +kernel) ).trans ?_
    refine (X_iadd (m := 64) (pc := 117)  (by decide +kernel) ).trans ?_
    refine (X_putI (m := 64) (pc := 118) (n := 25) (c := 6) (q := 5) (fi := false) (by decide +kernel) (by decide +kernel) (fun h => by cases h) (by decide +kernel)).trans ?_
    refine ite_congr rfl (fun _ => ?_) (fun _ => rfl)
    refine (X_goto (m := 64) (pc := 121) (off := -36) (tg := 85) (by decide +kernel) (by decide +kernel)).trans ?_
    rfl
theorem B_X5_advance_188 {k : Nat → Nat × Nat} {u : Nat → Nat → Int} {g : Nat → Nat → Nat} {t : Nat × Nat × Nat} {r0 : Nat} {y0 : Int} : a_X 64 188 [a_r (r0)] [a_i (y0)] (k, u, g, t) = if (y0 : Int) = 0 then if (k r0).1 = 6 then if (k r0).1 = 6 then if (wr ((u r0 5) - (u r0 7)) : Int) > (4 : Int) then if (k r0).1 = 6 then some (.inl none, (k, (upm u r0 6 4), g, t)) else none else if (k r0).1 = 6 then some (.inl none, (k, (upm u r0 6 2), g, t)) else none else none else none else if (k r0).1 = 6 then if (k r0).1 = 6 then if (k r0).1 = 6 then if ((k (g r0 0)).1 = 20 ∨ (k (g r0 0)).1 = 24) ∧ 0 ≤ (u r0 5 : Int) ∧ (u r0 5 : Int) < ((k (g r0 0)).2 : Int) then if (k r0).1 = 6 then if (k r0).1 = 6 then if (k r0).1 = 6 then a_X 64 165 [a_r (r0)] [] (k, (upm (upm u r0 8 (wr ((wr ((wr ((u r0 8) * 10)) + (u (g r0 0) (u r0 5 : Int).toNat))) - 48))) r0 5 (wr (((upm u r0 8 (wr ((wr ((wr ((u r0 8) * 10)) + (u (g r0 0) (u r0 5 : Int).toNat))) - 48))) r0 5) + 1))), g, t) else none else none else none else none else none else none else none := by
  refine (X_if_eq (m := 64) (pc := 188) (off := 40) (tg := 228) (by decide +kernel) (by decide +kernel)).trans ?_
  refine ite_congr rfl (fun _ => ?_) (fun _ => ?_)
  · refine (X_aload_n (m := 64) (pc := 228) (n := 0) (by decide +kernel) rfl).trans ?_
    refine (X_aload_n (m := 64) (pc := 229) (n := 0) (by decide +kernel) rfl).trans ?_
    refine (X_getI (m := 64) (pc := 230) (n := 25) (c := 6) (q := 5) (ty := 1) (fi := false) (by decide +kernel) (by decide +kernel) (by decide +kernel)).trans ?_
    refine ite_congr rfl (fun _ => ?_) (fun _ => rfl)
    refine (X_aload_n (m := 64) (pc := 233) (n := 0) (by decide +kernel) rfl).trans ?_
    refine (X_getI (m := 64) (pc := 234) (n := 119) (c := 6) (q := 7) (ty := 1) (fi := false) (by decide +kernel) (by decide +kernel) (by decide +kernel)).trans ?_
    refine ite_congr rfl (fun _ => ?_) (fun _ => rfl)
    refine (X_isub (m := 64) (pc := 237)  (by decide +kernel) ).trans ?_
    refine (X_iconst (m := 64) (pc := 238) (n := 4) (by decide +kernel) ).trans ?_
    refine (X_ic_gt (m := 64) (pc := 239) (off := 7) (tg := 246) (by decide +kernel) (by decide +kernel)).trans ?_
    refine ite_congr rfl (fun _ => ?_) (fun _ => ?_)
    · refine (X_iconst (m := 64) (pc := 246) (n := 4) (by decide +kernel) ).trans ?_
      refine (X_putI (m := 64) (pc := 247) (n := 58) (c := 6) (q := 6) (fi := false) (by decide +kernel) (by decide +kernel) (fun h => by cases h) (by decide +kernel)).trans ?_
      refine ite_congr rfl (fun _ => ?_) (fun _ => rfl)
      refine (X_goto (m := 64) (pc := 250) (off := 36) (tg := 286) (by decide +kernel) (by decide +kernel)).trans ?_
      exact X_return (m := 64) (pc := 286) (by decide +kernel) (by decide +kernel)
    · refine (X_iconst (m := 64) (pc := 242) (n := 2) (by decide +kernel) ).trans ?_
      refine (X_goto (m := 64) (pc := 243) (off := 4) (tg := 247) (by decide +kernel) (by decide +kernel)).trans ?_
      refine (X_putI (m := 64) (pc := 247) (n := 58) (c := 6) (q := 6) (fi := false) (by decide +kernel) (by decide +kernel) (fun h => by cases h) (by decide +kernel)).trans ?_
      refine ite_congr rfl (fun _ => ?_) (fun _ => rfl)
      refine (X_goto (m := 64) (pc := 250) (off := 36) (tg := 286) (by decide +kernel) (by decide +kernel)).trans ?_
      exact X_return (m := 64) (pc := 286) (by decide +kernel) (by decide +kernel)
  · refine (X_aload_n (m := 64) (pc := 191) (n := 0) (by decide +kernel) rfl).trans ?_
    refine (X_aload_n (m := 64) (pc := 192) (n := 0) (by decide +kernel) rfl).trans ?_
    refine (X_getI (m := 64) (pc := 193) (n := 122) (c := 6) (q := 8) (ty := 1) (fi := false) (by decide +kernel) (by decide +kernel) (by decide +kernel)).trans ?_
    refine ite_congr rfl (fun _ => ?_) (fun _ => rfl)
    refine (X_bipush (m := 64) (pc := 196) (n := 10) (by decide +kernel) ).trans ?_
    refine (X_imul (m := 64) (pc := 198)  (by decide +kernel) ).trans ?_
    refine (X_aload_n (m := 64) (pc := 199) (n := 0) (by decide +kernel) rfl).trans ?_
    refine (X_getR (m := 64) (pc := 200) (n := 9) (c := 6) (q := 0) (fi := true) (by decide +kernel) (by decide +kernel)).trans ?_
    refine ite_congr rfl (fun _ => ?_) (fun _ => rfl)
    refine (X_aload_n (m := 64) (pc := 203) (n := 0) (by decide +kernel) rfl).trans ?_
    refine (X_getI (m := 64) (pc := 204) (n := 25) (c := 6) (q := 5) (ty := 1) (fi := false) (by decide +kernel) (by decide +kernel) (by decide +kernel)).trans ?_
    refine ite_congr rfl (fun _ => ?_) (fun _ => rfl)
    refine (X_iaload (m := 64) (pc := 207)  (by decide +kernel) ).trans ?_
    refine ite_congr rfl (fun _ => ?_) (fun _ => rfl)
    refine (X_iadd (m := 64) (pc := 208)  (by decide +kernel) ).trans ?_
    refine (X_bipush (m := 64) (pc := 209) (n := 48) (by decide +kernel) ).trans ?_
    refine (X_isub (m := 64) (pc := 211)  (by decide +kernel) ).trans ?_
    refine (X_putI (m := 64) (pc := 212) (n := 122) (c := 6) (q := 8) (fi := false) (by decide +kernel) (by decide +kernel) (fun h => by cases h) (by decide +kernel)).trans ?_
    refine ite_congr rfl (fun _ => ?_) (fun _ => rfl)
    refine (X_aload_n (m := 64) (pc := 215) (n := 0) (by decide +kernel) rfl).trans ?_
    refine (X_dup (m := 64) (pc := 216)  (by decide +kernel) rfl rfl).trans ?_
    refine (X_getI (m := 64) (pc := 217) (n := 25) (c := 6) (q := 5) (ty := 1) (fi := false) (by decide +kernel) (by decide +kernel) (by decide +kernel)).trans ?_
    refine ite_congr rfl (fun _ => ?_) (fun _ => rfl)
    refine (X_iconst (m := 64) (pc := 220) (n := 1) (by decide +kernel) ).trans ?_
    refine (X_iadd (m := 64) (pc := 221)  (by decide +kernel) ).trans ?_
    refine (X_putI (m := 64) (pc := 222) (n := 25) (c := 6) (q := 5) (fi := false) (by decide +kernel) (by decide +kernel) (fun h => by cases h) (by decide +kernel)).trans ?_
    refine ite_congr rfl (fun _ => ?_) (fun _ => rfl)
    refine (X_goto (m := 64) (pc := 225) (off := -60) (tg := 165) (by decide +kernel) (by decide +kernel)).trans ?_
    rfl
theorem E_X5_isLetter {σ : AS} {x0 : Int} : a_m 65 [a_i (x0)] σ = a_X 65 0 [a_i (x0)] [] σ := a_m_eq (by rw [a_entry, show m_maxL 65 = 1 from by decide +kernel]; rfl)
theorem B_X5_isLetter_0 {k : Nat → Nat × Nat} {u : Nat → Nat → Int} {g : Nat → Nat → Nat} {t : Nat × Nat × Nat} {x0 : Int} : a_X 65 0 [a_i (x0)] [] (k, u, g, t) = if (x0 : Int) < (97 : Int) then some (.inl (some (a_i (0))), (k, u, g, t)) else if (x0 : Int) > (122 : Int) then some (.inl (some (a_i (0))), (k, u, g, t)) else some (.inl (some (a_i (1))), (k, u, g, t)) := by
  refine (X_iload_n (m := 65) (pc := 0) (n := 0) (by decide +kernel) rfl).trans ?_
  refine (X_bipush (m := 65) (pc := 1) (n := 97) (by decide +kernel) ).trans ?_
  refine (X_ic_lt (m := 65) (pc := 3) (off := 13) (tg := 16) (by decide +kernel) (by decide +kernel)).trans ?_
  refine ite_congr rfl (fun _ => ?_) (fun _ => ?_)
  · refine (X_iconst (m := 65) (pc := 16) (n := 0) (by decide +kernel) ).trans ?_
    exact X_ireturn (m := 65) (pc := 17) (f := 2) (by decide +kernel) (by decide +kernel) rfl
  · refine (X_iload_n (m := 65) (pc := 6) (n := 0) (by decide +kernel) rfl).trans ?_
    refine (X_bipush (m := 65) (pc := 7) (n := 122) (by decide +kernel) ).trans ?_
    refine (X_ic_gt (m := 65) (pc := 9) (off := 7) (tg := 16) (by decide +kernel) (by decide +kernel)).trans ?_
    refine ite_congr rfl (fun _ => ?_) (fun _ => ?_)
    · refine (X_iconst (m := 65) (pc := 16) (n := 0) (by decide +kernel) ).trans ?_
      exact X_ireturn (m := 65) (pc := 17) (f := 2) (by decide +kernel) (by decide +kernel) rfl
    · refine (X_iconst (m := 65) (pc := 12) (n := 1) (by decide +kernel) ).trans ?_
      refine (X_goto (m := 65) (pc := 13) (off := 4) (tg := 17) (by decide +kernel) (by decide +kernel)).trans ?_
      exact X_ireturn (m := 65) (pc := 17) (f := 2) (by decide +kernel) (by decide +kernel) rfl
theorem E_X5_isDigit {σ : AS} {x0 : Int} : a_m 66 [a_i (x0)] σ = a_X 66 0 [a_i (x0)] [] σ := a_m_eq (by rw [a_entry, show m_maxL 66 = 1 from by decide +kernel]; rfl)
theorem B_X5_isDigit_0 {k : Nat → Nat × Nat} {u : Nat → Nat → Int} {g : Nat → Nat → Nat} {t : Nat × Nat × Nat} {x0 : Int} : a_X 66 0 [a_i (x0)] [] (k, u, g, t) = if (x0 : Int) < (48 : Int) then some (.inl (some (a_i (0))), (k, u, g, t)) else if (x0 : Int) > (57 : Int) then some (.inl (some (a_i (0))), (k, u, g, t)) else some (.inl (some (a_i (1))), (k, u, g, t)) := by
  refine (X_iload_n (m := 66) (pc := 0) (n := 0) (by decide +kernel) rfl).trans ?_
  refine (X_bipush (m := 66) (pc := 1) (n := 48) (by decide +kernel) ).trans ?_
  refine (X_ic_lt (m := 66) (pc := 3) (off := 13) (tg := 16) (by decide +kernel) (by decide +kernel)).trans ?_
  refine ite_congr rfl (fun _ => ?_) (fun _ => ?_)
  · refine (X_iconst (m := 66) (pc := 16) (n := 0) (by decide +kernel) ).trans ?_
    exact X_ireturn (m := 66) (pc := 17) (f := 2) (by decide +kernel) (by decide +kernel) rfl
  · refine (X_iload_n (m := 66) (pc := 6) (n := 0) (by decide +kernel) rfl).trans ?_
    refine (X_bipush (m := 66) (pc := 7) (n := 57) (by decide +kernel) ).trans ?_
    refine (X_ic_gt (m := 66) (pc := 9) (off := 7) (tg := 16) (by decide +kernel) (by decide +kernel)).trans ?_
    refine ite_congr rfl (fun _ => ?_) (fun _ => ?_)
    · refine (X_iconst (m := 66) (pc := 16) (n := 0) (by decide +kernel) ).trans ?_
      exact X_ireturn (m := 66) (pc := 17) (f := 2) (by decide +kernel) (by decide +kernel) rfl
    · refine (X_iconst (m := 66) (pc := 12) (n := 1) (by decide +kernel) ).trans ?_
      refine (X_goto (m := 66) (pc := 13) (off := 4) (tg := 17) (by decide +kernel) (by decide +kernel)).trans ?_
      exact X_ireturn (m := 66) (pc := 17) (f := 2) (by decide +kernel) (by decide +kernel) rfl
