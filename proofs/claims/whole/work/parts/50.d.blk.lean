/-! block equations, by wip/whole/gen_blocks.py -/
theorem E_X0_init {σ : AS} {r0 : Nat} : a_m 0 [a_r (r0)] σ = a_X 0 0 [a_r (r0), a_x false] [] σ := a_m_eq (by rw [a_entry, show m_maxL 0 = 2 from by decide +kernel]; rfl)
theorem B_X0_init_0 {k : Nat → Nat × Nat} {u : Nat → Nat → Int} {g : Nat → Nat → Nat} {t : Nat × Nat × Nat} {r0 : Nat} {v1 : AV} : a_X 0 0 [a_r (r0), v1] [] (k, u, g, t) = if (k r0).1 ≠ 0 then if 0 ≤ (30 : Int) ∧ (30 : Int) ≤ 65536 then a_X 0 10 [a_r (r0), v1] [a_r (t.1), a_r (r0)] (a_new (k, u, g, t) 36 (30 : Int).toNat (30 : Int).toNat) else none else none := by
  refine (X_aload_n (m := 0) (pc := 0) (n := 0) (by decide +kernel) rfl).trans ?_
  refine (X_objinit (m := 0) (pc := 1) (q := 3) (by decide +kernel) (by decide +kernel) (Nat.le_of_ble_eq_true rfl)).trans ?_
  refine ite_congr rfl (fun _ => ?_) (fun _ => rfl)
  refine (X_aload_n (m := 0) (pc := 4) (n := 0) (by decide +kernel) rfl).trans ?_
  refine (X_bipush (m := 0) (pc := 5) (n := 30) (by decide +kernel) ).trans ?_
  refine (X_anewa (m := 0) (pc := 7) (q := 9) (c := 6) (by decide +kernel) (by decide +kernel)).trans ?_
  refine ite_congr rfl (fun _ => ?_) (fun _ => rfl)
  rfl
theorem B_X0_init_10 {k : Nat → Nat × Nat} {u : Nat → Nat → Int} {g : Nat → Nat → Nat} {t : Nat × Nat × Nat} {r0 : Nat} {v1 : AV} {q0 : Nat} {q1 : Nat} : a_X 0 10 [a_r (r0), v1] [a_r (q1), a_r (q0)] (k, u, g, t) = if (k q0).1 = 1 then a_X 0 15 [a_r (r0), a_i (0)] [] (k, u, (upm g q0 0 q1), t) else none := by
  refine (X_putR (m := 0) (pc := 10) (n := 11) (c := 1) (q := 0) (fi := true) (by decide +kernel) (by decide +kernel) (fun _ => (by decide +kernel)) (by decide +kernel)).trans ?_
  refine ite_congr rfl (fun _ => ?_) (fun _ => rfl)
  refine (X_iconst (m := 0) (pc := 13) (n := 0) (by decide +kernel) ).trans ?_
  refine (X_istore_n (m := 0) (pc := 14) (n := 1) (by decide +kernel) rfl (Nat.le_of_ble_eq_true rfl) rfl).trans ?_
  rfl
theorem B_X0_init_15 {k : Nat → Nat × Nat} {u : Nat → Nat → Int} {g : Nat → Nat → Nat} {t : Nat × Nat × Nat} {r0 : Nat} {x1 : Int} : a_X 0 15 [a_r (r0), a_i (x1)] [] (k, u, g, t) = if (x1 : Int) ≥ (30 : Int) then some (.inl none, (k, u, g, t)) else if (k r0).1 = 1 then a_X 0 29 [a_r (r0), a_i (x1)] [a_r (t.1), a_i (x1), a_r (g r0 0)] (a_new (k, u, g, t) 7 0 8) else none := by
  refine (X_iload_n (m := 0) (pc := 15) (n := 1) (by decide +kernel) rfl).trans ?_
  refine (X_bipush (m := 0) (pc := 16) (n := 30) (by decide +kernel) ).trans ?_
  refine (X_ic_ge (m := 0) (pc := 18) (off := 22) (tg := 40) (by decide +kernel) (by decide +kernel)).trans ?_
  refine ite_congr rfl (fun _ => ?_) (fun _ => ?_)
  · exact X_return (m := 0) (pc := 40) (by decide +kernel) (by decide +kernel)
  · refine (X_aload_n (m := 0) (pc := 21) (n := 0) (by decide +kernel) rfl).trans ?_
    refine (X_getR (m := 0) (pc := 22) (n := 11) (c := 1) (q := 0) (fi := true) (by decide +kernel) (by decide +kernel)).trans ?_
    refine ite_congr rfl (fun _ => ?_) (fun _ => rfl)
    refine (X_iload_n (m := 0) (pc := 25) (n := 1) (by decide +kernel) rfl).trans ?_
    refine (X_new (m := 0) (pc := 26) (n := 9) (c := 6) (by decide +kernel) (by decide +kernel)).trans ?_
    rfl
theorem B_X0_init_29 {k : Nat → Nat × Nat} {u : Nat → Nat → Int} {g : Nat → Nat → Nat} {t : Nat × Nat × Nat} {r0 : Nat} {x1 : Int} {q0 : Nat} {y1 : Int} {q2 : Nat} : a_X 0 29 [a_r (r0), a_i (x1)] [a_r (q2), a_i (y1), a_r (q0)] (k, u, g, t) = if (k q2).1 = 7 then (a_m 67 [a_r (q2)] (k, u, g, t)).bind (a_back 0 30 3 [a_r (r0), a_i (x1)] [a_r (q2), a_i (y1), a_r (q0)]) else none := by
  refine (X_dup (m := 0) (pc := 29)  (by decide +kernel) rfl rfl).trans ?_
  refine (X_call_sp (m := 0) (pc := 30) (q := 17) (y := 67) (n := 1) (as := [a_r (q2)]) (rest := [a_r (q2), a_i (y1), a_r (q0)]) (by decide +kernel) (by decide +kernel) (by decide +kernel) (by decide +kernel) rfl rfl (Nat.le_of_ble_eq_true rfl) (Nat.le_of_ble_eq_true rfl) rfl (by rw [show m_maxL 67 = 1 from by decide +kernel]; exact Nat.le_of_ble_eq_true rfl)).trans ?_
  exact ite_congr (by simp [a_rcv, show m_recv 67 = 7 from by decide +kernel]) (fun _ => rfl) (fun _ => rfl)
theorem B_X0_init_33 {k : Nat → Nat × Nat} {u : Nat → Nat → Int} {g : Nat → Nat → Nat} {t : Nat × Nat × Nat} {r0 : Nat} {x1 : Int} {q0 : Nat} {y1 : Int} {q2 : Nat} : a_X 0 33 [a_r (r0), a_i (x1)] [a_r (q2), a_i (y1), a_r (q0)] (k, u, g, t) = if 30 ≤ (k q0).1 ∧ (k q2).1 + 29 = (k q0).1 ∧ (k q2).1 ≠ 0 ∧ 0 ≤ (y1 : Int) ∧ (y1 : Int) < ((k q0).2 : Int) then a_X 0 15 [a_r (r0), a_i (wr (x1 + 1))] [] (k, u, (upm g q0 (y1 : Int).toNat q2), t) else none := by
  refine (X_aastore (m := 0) (pc := 33)  (by decide +kernel) ).trans ?_
  refine ite_congr rfl (fun _ => ?_) (fun _ => rfl)
  refine (X_iinc (m := 0) (pc := 34) (n := 1) (c := 1) (by decide +kernel) rfl rfl (Nat.le_of_ble_eq_true rfl) rfl).trans ?_
  refine (X_goto (m := 0) (pc := 37) (off := -22) (tg := 15) (by decide +kernel) (by decide +kernel)).trans ?_
  rfl
theorem E_X0_copyFrom {σ : AS} {r0 : Nat} {r1 : Nat} : a_m 1 [a_r (r0), a_r (r1)] σ = a_X 1 0 [a_r (r0), a_r (r1), a_x false] [] σ := a_m_eq (by rw [a_entry, show m_maxL 1 = 3 from by decide +kernel]; rfl)
theorem B_X0_copyFrom_0 {k : Nat → Nat × Nat} {u : Nat → Nat → Int} {g : Nat → Nat → Nat} {t : Nat × Nat × Nat} {r0 : Nat} {r1 : Nat} {v2 : AV} : a_X 1 0 [a_r (r0), a_r (r1), v2] [] (k, u, g, t) = if (k r1).1 = 1 then if (k r0).1 = 1 then a_X 1 10 [a_r (r0), a_r (r1), a_i (0)] [] (k, (upm u r0 1 (u r1 1)), g, t) else none else none := by
  refine (X_aload_n (m := 1) (pc := 0) (n := 0) (by decide +kernel) rfl).trans ?_
  refine (X_aload_n (m := 1) (pc := 1) (n := 1) (by decide +kernel) rfl).trans ?_
  refine (X_getI (m := 1) (pc := 2) (n := 18) (c := 1) (q := 1) (ty := 1) (fi := false) (by decide +kernel) (by decide +kernel) (by decide +kernel)).trans ?_
  refine ite_congr rfl (fun _ => ?_) (fun _ => rfl)
  refine (X_putI (m := 1) (pc := 5) (n := 18) (c := 1) (q := 1) (fi := false) (by decide +kernel) (by decide +kernel) (fun h => by cases h) (by decide +kernel)).trans ?_
  refine ite_congr rfl (fun _ => ?_) (fun _ => rfl)
  refine (X_iconst (m := 1) (pc := 8) (n := 0) (by decide +kernel) ).trans ?_
  refine (X_istore_n (m := 1) (pc := 9) (n := 2) (by decide +kernel) rfl (Nat.le_of_ble_eq_true rfl) rfl).trans ?_
  rfl
theorem B_X0_copyFrom_10 {k : Nat → Nat × Nat} {u : Nat → Nat → Int} {g : Nat → Nat → Nat} {t : Nat × Nat × Nat} {r0 : Nat} {r1 : Nat} {x2 : Int} : a_X 1 10 [a_r (r0), a_r (r1), a_i (x2)] [] (k, u, g, t) = if (k r0).1 = 1 then if (x2 : Int) ≥ (u r0 1 : Int) then some (.inl none, (k, u, g, t)) else if (k r0).1 = 1 then if 30 ≤ (k (g r0 0)).1 ∧ 0 ≤ (x2 : Int) ∧ (x2 : Int) < ((k (g r0 0)).2 : Int) then if (k r1).1 = 1 then if 30 ≤ (k (g r1 0)).1 ∧ 0 ≤ (x2 : Int) ∧ (x2 : Int) < ((k (g r1 0)).2 : Int) then if (k (g (g r0 0) (x2 : Int).toNat)).1 = 7 then (a_m 68 [a_r (g (g r0 0) (x2 : Int).toNat), a_r (g (g r1 0) (x2 : Int).toNat)] (k, u, g, t)).bind (a_back 1 30 3 [a_r (r0), a_r (r1), a_i (x2)] []) else none else none else none else none else none else none := by
  refine (X_iload_n (m := 1) (pc := 10) (n := 2) (by decide +kernel) rfl).trans ?_
  refine (X_aload_n (m := 1) (pc := 11) (n := 0) (by decide +kernel) rfl).trans ?_
  refine (X_getI (m := 1) (pc := 12) (n := 18) (c := 1) (q := 1) (ty := 1) (fi := false) (by decide +kernel) (by decide +kernel) (by decide +kernel)).trans ?_
  refine ite_congr rfl (fun _ => ?_) (fun _ => rfl)
  refine (X_ic_ge (m := 1) (pc := 15) (off := 24) (tg := 39) (by decide +kernel) (by decide +kernel)).trans ?_
  refine ite_congr rfl (fun _ => ?_) (fun _ => ?_)
  · exact X_return (m := 1) (pc := 39) (by decide +kernel) (by decide +kernel)
  · refine (X_aload_n (m := 1) (pc := 18) (n := 0) (by decide +kernel) rfl).trans ?_
    refine (X_getR (m := 1) (pc := 19) (n := 11) (c := 1) (q := 0) (fi := true) (by decide +kernel) (by decide +kernel)).trans ?_
    refine ite_congr rfl (fun _ => ?_) (fun _ => rfl)
    refine (X_iload_n (m := 1) (pc := 22) (n := 2) (by decide +kernel) rfl).trans ?_
    refine (X_aaload (m := 1) (pc := 23)  (by decide +kernel) ).trans ?_
    refine ite_congr rfl (fun _ => ?_) (fun _ => rfl)
    refine (X_aload_n (m := 1) (pc := 24) (n := 1) (by decide +kernel) rfl).trans ?_
    refine (X_getR (m := 1) (pc := 25) (n := 11) (c := 1) (q := 0) (fi := true) (by decide +kernel) (by decide +kernel)).trans ?_
    refine ite_congr rfl (fun _ => ?_) (fun _ => rfl)
    refine (X_iload_n (m := 1) (pc := 28) (n := 2) (by decide +kernel) rfl).trans ?_
    refine (X_aaload (m := 1) (pc := 29)  (by decide +kernel) ).trans ?_
    refine ite_congr rfl (fun _ => ?_) (fun _ => rfl)
    refine (X_call_vi (m := 1) (pc := 30) (q := 22) (y := 68) (n := 2) (as := [a_r (g (g r0 0) (x2 : Int).toNat), a_r (g (g r1 0) (x2 : Int).toNat)]) (rest := []) (by decide +kernel) (by decide +kernel) (by decide +kernel) (by decide +kernel) rfl rfl (Nat.le_of_ble_eq_true rfl) (Nat.le_of_ble_eq_true rfl) rfl (by rw [show m_maxL 68 = 2 from by decide +kernel]; exact Nat.le_of_ble_eq_true rfl)).trans ?_
    exact ite_congr (by simp [a_rcv, show m_recv 68 = 7 from by decide +kernel]) (fun _ => rfl) (fun _ => rfl)
theorem B_X0_copyFrom_33 {k : Nat → Nat × Nat} {u : Nat → Nat → Int} {g : Nat → Nat → Nat} {t : Nat × Nat × Nat} {r0 : Nat} {r1 : Nat} {x2 : Int} : a_X 1 33 [a_r (r0), a_r (r1), a_i (x2)] [] (k, u, g, t) = a_X 1 10 [a_r (r0), a_r (r1), a_i (wr (x2 + 1))] [] (k, u, g, t) := by
  refine (X_iinc (m := 1) (pc := 33) (n := 2) (c := 1) (by decide +kernel) rfl rfl (Nat.le_of_ble_eq_true rfl) rfl).trans ?_
  refine (X_goto (m := 1) (pc := 36) (off := -26) (tg := 10) (by decide +kernel) (by decide +kernel)).trans ?_
  rfl
theorem E_X0_isFull {σ : AS} {r0 : Nat} : a_m 2 [a_r (r0)] σ = a_X 2 0 [a_r (r0)] [] σ := a_m_eq (by rw [a_entry, show m_maxL 2 = 1 from by decide +kernel]; rfl)
theorem B_X0_isFull_0 {k : Nat → Nat × Nat} {u : Nat → Nat → Int} {g : Nat → Nat → Nat} {t : Nat × Nat × Nat} {r0 : Nat} : a_X 2 0 [a_r (r0)] [] (k, u, g, t) = if (k r0).1 = 1 then if (u r0 1 : Int) < (30 : Int) then some (.inl (some (a_i (0))), (k, u, g, t)) else some (.inl (some (a_i (1))), (k, u, g, t)) else none := by
  refine (X_aload_n (m := 2) (pc := 0) (n := 0) (by decide +kernel) rfl).trans ?_
  refine (X_getI (m := 2) (pc := 1) (n := 18) (c := 1) (q := 1) (ty := 1) (fi := false) (by decide +kernel) (by decide +kernel) (by decide +kernel)).trans ?_
  refine ite_congr rfl (fun _ => ?_) (fun _ => rfl)
  refine (X_bipush (m := 2) (pc := 4) (n := 30) (by decide +kernel) ).trans ?_
  refine (X_ic_lt (m := 2) (pc := 6) (off := 7) (tg := 13) (by decide +kernel) (by decide +kernel)).trans ?_
  refine ite_congr rfl (fun _ => ?_) (fun _ => ?_)
  · refine (X_iconst (m := 2) (pc := 13) (n := 0) (by decide +kernel) ).trans ?_
    exact X_ireturn (m := 2) (pc := 14) (f := 2) (by decide +kernel) (by decide +kernel) rfl
  · refine (X_iconst (m := 2) (pc := 9) (n := 1) (by decide +kernel) ).trans ?_
    refine (X_goto (m := 2) (pc := 10) (off := 4) (tg := 14) (by decide +kernel) (by decide +kernel)).trans ?_
    exact X_ireturn (m := 2) (pc := 14) (f := 2) (by decide +kernel) (by decide +kernel) rfl
theorem E_X0_insert {σ : AS} {r0 : Nat} {x1 : Int} {x2 : Int} : a_m 3 [a_r (r0), a_i (x1), a_i (x2)] σ = a_X 3 0 [a_r (r0), a_i (x1), a_i (x2), a_x false, a_x false] [] σ := a_m_eq (by rw [a_entry, show m_maxL 3 = 5 from by decide +kernel]; rfl)
theorem B_X0_insert_0 {k : Nat → Nat × Nat} {u : Nat → Nat → Int} {g : Nat → Nat → Nat} {t : Nat × Nat × Nat} {r0 : Nat} {x1 : Int} {x2 : Int} {v3 : AV} {v4 : AV} : a_X 3 0 [a_r (r0), a_i (x1), a_i (x2), v3, v4] [] (k, u, g, t) = if (k r0).1 = 1 then if (k r0).1 = 1 then if 30 ≤ (k (g r0 0)).1 ∧ 0 ≤ (u r0 1 : Int) ∧ (u r0 1 : Int) < ((k (g r0 0)).2 : Int) then if (k (g (g r0 0) (u r0 1 : Int).toNat)).1 = 7 then if (k (g (g r0 0) (u r0 1 : Int).toNat)).1 = 7 then if (k r0).1 = 1 then a_X 3 26 [a_r (r0), a_i (x1), a_i (x2), a_r (g (g r0 0) (u r0 1 : Int).toNat), a_i ((upm (upm u (g (g r0 0) (u r0 1 : Int).toNat) 0 x1) (g (g r0 0) (u r0 1 : Int).toNat) 1 x2) r0 1)] [] (k, (upm (upm u (g (g r0 0) (u r0 1 : Int).toNat) 0 x1) (g (g r0 0) (u r0 1 : Int).toNat) 1 x2), g, t) else none else none else none else none else none else none := by
  refine (X_aload_n (m := 3) (pc := 0) (n := 0) (by decide +kernel) rfl).trans ?_
  refine (X_getR (m := 3) (pc := 1) (n := 11) (c := 1) (q := 0) (fi := true) (by decide +kernel) (by decide +kernel)).trans ?_
  refine ite_congr rfl (fun _ => ?_) (fun _ => rfl)
  refine (X_aload_n (m := 3) (pc := 4) (n := 0) (by decide +kernel) rfl).trans ?_
  refine (X_getI (m := 3) (pc := 5) (n := 18) (c := 1) (q := 1) (ty := 1) (fi := false) (by decide +kernel) (by decide +kernel) (by decide +kernel)).trans ?_
  refine ite_congr rfl (fun _ => ?_) (fun _ => rfl)
  refine (X_aaload (m := 3) (pc := 8)  (by decide +kernel) ).trans ?_
  refine ite_congr rfl (fun _ => ?_) (fun _ => rfl)
  refine (X_astore_n (m := 3) (pc := 9) (n := 3) (by decide +kernel) rfl (Nat.le_of_ble_eq_true rfl) rfl).trans ?_
  refine (X_aload_n (m := 3) (pc := 10) (n := 3) (by decide +kernel) rfl).trans ?_
  refine (X_iload_n (m := 3) (pc := 11) (n := 1) (by decide +kernel) rfl).trans ?_
  refine (X_putI (m := 3) (pc := 12) (n := 26) (c := 7) (q := 0) (fi := false) (by decide +kernel) (by decide +kernel) (fun h => by cases h) (by decide +kernel)).trans ?_
  refine ite_congr rfl (fun _ => ?_) (fun _ => rfl)
  refine (X_aload_n (m := 3) (pc := 15) (n := 3) (by decide +kernel) rfl).trans ?_
  refine (X_iload_n (m := 3) (pc := 16) (n := 2) (by decide +kernel) rfl).trans ?_
  refine (X_putI (m := 3) (pc := 17) (n := 29) (c := 7) (q := 1) (fi := false) (by decide +kernel) (by decide +kernel) (fun h => by cases h) (by decide +kernel)).trans ?_
  refine ite_congr rfl (fun _ => ?_) (fun _ => rfl)
  refine (X_aload_n (m := 3) (pc := 20) (n := 0) (by decide +kernel) rfl).trans ?_
  refine (X_getI (m := 3) (pc := 21) (n := 18) (c := 1) (q := 1) (ty := 1) (fi := false) (by decide +kernel) (by decide +kernel) (by decide +kernel)).trans ?_
  refine ite_congr rfl (fun _ => ?_) (fun _ => rfl)
  refine (X_istore (m := 3) (pc := 24) (n := 4) (by decide +kernel) rfl (Nat.le_of_ble_eq_true rfl) rfl).trans ?_
  rfl
theorem B_X0_insert_26 {k : Nat → Nat × Nat} {u : Nat → Nat → Int} {g : Nat → Nat → Nat} {t : Nat × Nat × Nat} {r0 : Nat} {x1 : Int} {x2 : Int} {r3 : Nat} {x4 : Int} : a_X 3 26 [a_r (r0), a_i (x1), a_i (x2), a_r (r3), a_i (x4)] [] (k, u, g, t) = if (x4 : Int) ≤ 0 then if (k r0).1 = 1 then if 30 ≤ (k (g r0 0)).1 ∧ (k r3).1 + 29 = (k (g r0 0)).1 ∧ (k r3).1 ≠ 0 ∧ 0 ≤ (x4 : Int) ∧ (x4 : Int) < ((k (g r0 0)).2 : Int) then if (k r0).1 = 1 then if (k r0).1 = 1 then some (.inl (some (a_r (r3))), (k, (upm u r0 1 (wr ((u r0 1) + 1))), (upm g (g r0 0) (x4 : Int).toNat r3), t)) else none else none else none else none else if (k r0).1 = 1 then if 30 ≤ (k (g r0 0)).1 ∧ 0 ≤ (wr (x4 - 1) : Int) ∧ (wr (x4 - 1) : Int) < ((k (g r0 0)).2 : Int) then if (k r0).1 = 1 then (a_m 4 [a_r (r0), a_r (r3), a_r (g (g r0 0) (wr (x4 - 1) : Int).toNat)] (k, u, g, t)).bind (a_back 3 42 3 [a_r (r0), a_i (x1), a_i (x2), a_r (r3), a_i (x4)] []) else none else none else none := by
  refine (X_iload (m := 3) (pc := 26) (n := 4) (by decide +kernel) rfl).trans ?_
  refine (X_if_le (m := 3) (pc := 28) (off := 42) (tg := 70) (by decide +kernel) (by decide +kernel)).trans ?_
  refine ite_congr rfl (fun _ => ?_) (fun _ => ?_)
  · refine (X_aload_n (m := 3) (pc := 70) (n := 0) (by decide +kernel) rfl).trans ?_
    refine (X_getR (m := 3) (pc := 71) (n := 11) (c := 1) (q := 0) (fi := true) (by decide +kernel) (by decide +kernel)).trans ?_
    refine ite_congr rfl (fun _ => ?_) (fun _ => rfl)
    refine (X_iload (m := 3) (pc := 74) (n := 4) (by decide +kernel) rfl).trans ?_
    refine (X_aload_n (m := 3) (pc := 76) (n := 3) (by decide +kernel) rfl).trans ?_
    refine (X_aastore (m := 3) (pc := 77)  (by decide +kernel) ).trans ?_
    refine ite_congr rfl (fun _ => ?_) (fun _ => rfl)
    refine (X_aload_n (m := 3) (pc := 78) (n := 0) (by decide +kernel) rfl).trans ?_
    refine (X_dup (m := 3) (pc := 79)  (by decide +kernel) rfl rfl).trans ?_
    refine (X_getI (m := 3) (pc := 80) (n := 18) (c := 1) (q := 1) (ty := 1) (fi := false) (by decide +kernel) (by decide +kernel) (by decide +kernel)).trans ?_
    refine ite_congr rfl (fun _ => ?_) (fun _ => rfl)
    refine (X_iconst (m := 3) (pc := 83) (n := 1) (by decide +kernel) ).trans ?_
    refine (X_iadd (m := 3) (pc := 84)  (by decide +kernel) ).trans ?_
    refine (X_putI (m := 3) (pc := 85) (n := 18) (c := 1) (q := 1) (fi := false) (by decide +kernel) (by decide +kernel) (fun h => by cases h) (by decide +kernel)).trans ?_
    refine ite_congr rfl (fun _ => ?_) (fun _ => rfl)
    refine (X_aload_n (m := 3) (pc := 88) (n := 3) (by decide +kernel) rfl).trans ?_
    exact X_areturn (m := 3) (pc := 89) (by decide +kernel) (by decide +kernel)
  · refine (X_aload_n (m := 3) (pc := 31) (n := 0) (by decide +kernel) rfl).trans ?_
    refine (X_aload_n (m := 3) (pc := 32) (n := 3) (by decide +kernel) rfl).trans ?_
    refine (X_aload_n (m := 3) (pc := 33) (n := 0) (by decide +kernel) rfl).trans ?_
    refine (X_getR (m := 3) (pc := 34) (n := 11) (c := 1) (q := 0) (fi := true) (by decide +kernel) (by decide +kernel)).trans ?_
    refine ite_congr rfl (fun _ => ?_) (fun _ => rfl)
    refine (X_iload (m := 3) (pc := 37) (n := 4) (by decide +kernel) rfl).trans ?_
    refine (X_iconst (m := 3) (pc := 39) (n := 1) (by decide +kernel) ).trans ?_
    refine (X_isub (m := 3) (pc := 40)  (by decide +kernel) ).trans ?_
    refine (X_aaload (m := 3) (pc := 41)  (by decide +kernel) ).trans ?_
    refine ite_congr rfl (fun _ => ?_) (fun _ => rfl)
    refine (X_call_vi (m := 3) (pc := 42) (q := 32) (y := 4) (n := 3) (as := [a_r (r0), a_r (r3), a_r (g (g r0 0) (wr (x4 - 1) : Int).toNat)]) (rest := []) (by decide +kernel) (by decide +kernel) (by decide +kernel) (by decide +kernel) rfl rfl (Nat.le_of_ble_eq_true rfl) (Nat.le_of_ble_eq_true rfl) rfl (by rw [show m_maxL 4 = 3 from by decide +kernel]; exact Nat.le_of_ble_eq_true rfl)).trans ?_
    exact ite_congr (by simp [a_rcv, show m_recv 4 = 1 from by decide +kernel]) (fun _ => rfl) (fun _ => rfl)
theorem B_X0_insert_45 {k : Nat → Nat × Nat} {u : Nat → Nat → Int} {g : Nat → Nat → Nat} {t : Nat × Nat × Nat} {r0 : Nat} {x1 : Int} {x2 : Int} {r3 : Nat} {x4 : Int} {y0 : Int} : a_X 3 45 [a_r (r0), a_i (x1), a_i (x2), a_r (r3), a_i (x4)] [a_i (y0)] (k, u, g, t) = if (y0 : Int) = 0 then if (k r0).1 = 1 then if 30 ≤ (k (g r0 0)).1 ∧ (k r3).1 + 29 = (k (g r0 0)).1 ∧ (k r3).1 ≠ 0 ∧ 0 ≤ (x4 : Int) ∧ (x4 : Int) < ((k (g r0 0)).2 : Int) then if (k r0).1 = 1 then if (k r0).1 = 1 then some (.inl (some (a_r (r3))), (k, (upm u r0 1 (wr ((u r0 1) + 1))), (upm g (g r0 0) (x4 : Int).toNat r3), t)) else none else none else none else none else if (k r0).1 = 1 then if (k r0).1 = 1 then if 30 ≤ (k (g r0 0)).1 ∧ 0 ≤ (wr (x4 - 1) : Int) ∧ (wr (x4 - 1) : Int) < ((k (g r0 0)).2 : Int) then if 30 ≤ (k (g r0 0)).1 ∧ (k (g (g r0 0) (wr (x4 - 1) : Int).toNat)).1 + 29 = (k (g r0 0)).1 ∧ (k (g (g r0 0) (wr (x4 - 1) : Int).toNat)).1 ≠ 0 ∧ 0 ≤ (x4 : Int) ∧ (x4 : Int) < ((k (g r0 0)).2 : Int) then a_X 3 26 [a_r (r0), a_i (x1), a_i (x2), a_r (r3), a_i (wr (x4 + (-1)))] [] (k, u, (upm g (g r0 0) (x4 : Int).toNat (g (g r0 0) (wr (x4 - 1) : Int).toNat)), t) else none else none else none else none := by
  refine (X_if_eq (m := 3) (pc := 45) (off := 25) (tg := 70) (by decide +kernel) (by decide +kernel)).trans ?_
  refine ite_congr rfl (fun _ => ?_) (fun _ => ?_)
  · refine (X_aload_n (m := 3) (pc := 70) (n := 0) (by decide +kernel) rfl).trans ?_
    refine (X_getR (m := 3) (pc := 71) (n := 11) (c := 1) (q := 0) (fi := true) (by decide +kernel) (by decide +kernel)).trans ?_
    refine ite_congr rfl (fun _ => ?_) (fun _ => rfl)
    refine (X_iload (m := 3) (pc := 74) (n := 4) (by decide +kernel) rfl).trans ?_
    refine (X_aload_n (m := 3) (pc := 76) (n := 3) (by decide +kernel) rfl).trans ?_
    refine (X_aastore (m := 3) (pc := 77)  (by decide +kernel) ).trans ?_
    refine ite_congr rfl (fun _ => ?_) (fun _ => rfl)
    refine (X_aload_n (m := 3) (pc := 78) (n := 0) (by decide +kernel) rfl).trans ?_
    refine (X_dup (m := 3) (pc := 79)  (by decide +kernel) rfl rfl).trans ?_
    refine (X_getI (m := 3) (pc := 80) (n := 18) (c := 1) (q := 1) (ty := 1) (fi := false) (by decide +kernel) (by decide +kernel) (by decide +kernel)).trans ?_
    refine ite_congr rfl (fun _ => ?_) (fun _ => rfl)
    refine (X_iconst (m := 3) (pc := 83) (n := 1) (by decide +kernel) ).trans ?_
    refine (X_iadd (m := 3) (pc := 84)  (by decide +kernel) ).trans ?_
    refine (X_putI (m := 3) (pc := 85) (n := 18) (c := 1) (q := 1) (fi := false) (by decide +kernel) (by decide +kernel) (fun h => by cases h) (by decide +kernel)).trans ?_
    refine ite_congr rfl (fun _ => ?_) (fun _ => rfl)
    refine (X_aload_n (m := 3) (pc := 88) (n := 3) (by decide +kernel) rfl).trans ?_
    exact X_areturn (m := 3) (pc := 89) (by decide +kernel) (by decide +kernel)
  · refine (X_aload_n (m := 3) (pc := 48) (n := 0) (by decide +kernel) rfl).trans ?_
    refine (X_getR (m := 3) (pc := 49) (n := 11) (c := 1) (q := 0) (fi := true) (by decide +kernel) (by decide +kernel)).trans ?_
    refine ite_congr rfl (fun _ => ?_) (fun _ => rfl)
    refine (X_iload (m := 3) (pc := 52) (n := 4) (by decide +kernel) rfl).trans ?_
    refine (X_aload_n (m := 3) (pc := 54) (n := 0) (by decide +kernel) rfl).trans ?_
    refine (X_getR (m := 3) (pc := 55) (n := 11) (c := 1) (q := 0) (fi := true) (by decide +kernel) (by decide +kernel)).trans ?_
    refine ite_congr rfl (fun _ => ?_) (fun _ => rfl)
    refine (X_iload (m := 3) (pc := 58) (n := 4) (by decide +kernel) rfl).trans ?_
    refine (X_iconst (m := 3) (pc := 60) (n := 1) (by decide +kernel) ).trans ?_
    refine (X_isub (m := 3) (pc := 61)  (by decide +kernel) ).trans ?_
    refine (X_aaload (m := 3) (pc := 62)  (by decide +kernel) ).trans ?_
    refine ite_congr rfl (fun _ => ?_) (fun _ => rfl)
    refine (X_aastore (m := 3) (pc := 63)  (by decide +kernel) ).trans ?_
    refine ite_congr rfl (fun _ => ?_) (fun _ => rfl)
    refine (X_iinc (m := 3) (pc := 64) (n := 4) (c := -1) (by decide +kernel) rfl rfl (Nat.le_of_ble_eq_true rfl) rfl).trans ?_
    refine (X_goto (m := 3) (pc := 67) (off := -41) (tg := 26) (by decide +kernel) (by decide +kernel)).trans ?_
    rfl
theorem E_X0_isAhead {σ : AS} {r0 : Nat} {r1 : Nat} {r2 : Nat} : a_m 4 [a_r (r0), a_r (r1), a_r (r2)] σ = a_X 4 0 [a_r (r0), a_r (r1), a_r (r2)] [] σ := a_m_eq (by rw [a_entry, show m_maxL 4 = 3 from by decide +kernel]; rfl)
theorem B_X0_isAhead_0 {k : Nat → Nat × Nat} {u : Nat → Nat → Int} {g : Nat → Nat → Nat} {t : Nat × Nat × Nat} {r0 : Nat} {r1 : Nat} {r2 : Nat} : a_X 4 0 [a_r (r0), a_r (r1), a_r (r2)] [] (k, u, g, t) = if (k r1).1 = 7 then if (k r2).1 = 7 then if (u r1 0 : Int) = (u r2 0 : Int) then if (k r1).1 = 7 then (a_m 69 [a_r (r1)] (k, u, g, t)).bind (a_back 4 29 3 [a_r (r0), a_r (r1), a_r (r2)] []) else none else if (k r1).1 = 7 then if (k r2).1 = 7 then if (u r1 0 : Int) ≥ (u r2 0 : Int) then some (.inl (some (a_i (0))), (k, u, g, t)) else some (.inl (some (a_i (1))), (k, u, g, t)) else none else none else none else none := by
  refine (X_aload_n (m := 4) (pc := 0) (n := 1) (by decide +kernel) rfl).trans ?_
  refine (X_getI (m := 4) (pc := 1) (n := 26) (c := 7) (q := 0) (ty := 1) (fi := false) (by decide +kernel) (by decide +kernel) (by decide +kernel)).trans ?_
  refine ite_congr rfl (fun _ => ?_) (fun _ => rfl)
  refine (X_aload_n (m := 4) (pc := 4) (n := 2) (by decide +kernel) rfl).trans ?_
  refine (X_getI (m := 4) (pc := 5) (n := 26) (c := 7) (q := 0) (ty := 1) (fi := false) (by decide +kernel) (by decide +kernel) (by decide +kernel)).trans ?_
  refine ite_congr rfl (fun _ => ?_) (fun _ => rfl)
  refine (X_ic_eq (m := 4) (pc := 8) (off := 20) (tg := 28) (by decide +kernel) (by decide +kernel)).trans ?_
  refine ite_congr rfl (fun _ => ?_) (fun _ => ?_)
  · refine (X_aload_n (m := 4) (pc := 28) (n := 1) (by decide +kernel) rfl).trans ?_
    refine (X_call_vi (m := 4) (pc := 29) (q := 36) (y := 69) (n := 1) (as := [a_r (r1)]) (rest := []) (by decide +kernel) (by decide +kernel) (by decide +kernel) (by decide +kernel) rfl rfl (Nat.le_of_ble_eq_true rfl) (Nat.le_of_ble_eq_true rfl) rfl (by rw [show m_maxL 69 = 1 from by decide +kernel]; exact Nat.le_of_ble_eq_true rfl)).trans ?_
    exact ite_congr (by simp [a_rcv, show m_recv 69 = 7 from by decide +kernel]) (fun _ => rfl) (fun _ => rfl)
  · refine (X_aload_n (m := 4) (pc := 11) (n := 1) (by decide +kernel) rfl).trans ?_
    refine (X_getI (m := 4) (pc := 12) (n := 26) (c := 7) (q := 0) (ty := 1) (fi := false) (by decide +kernel) (by decide +kernel) (by decide +kernel)).trans ?_
    refine ite_congr rfl (fun _ => ?_) (fun _ => rfl)
    refine (X_aload_n (m := 4) (pc := 15) (n := 2) (by decide +kernel) rfl).trans ?_
    refine (X_getI (m := 4) (pc := 16) (n := 26) (c := 7) (q := 0) (ty := 1) (fi := false) (by decide +kernel) (by decide +kernel) (by decide +kernel)).trans ?_
    refine ite_congr rfl (fun _ => ?_) (fun _ => rfl)
    refine (X_ic_ge (m := 4) (pc := 19) (off := 7) (tg := 26) (by decide +kernel) (by decide +kernel)).trans ?_
    refine ite_congr rfl (fun _ => ?_) (fun _ => ?_)
    · refine (X_iconst (m := 4) (pc := 26) (n := 0) (by decide +kernel) ).trans ?_
      exact X_ireturn (m := 4) (pc := 27) (f := 2) (by decide +kernel) (by decide +kernel) rfl
    · refine (X_iconst (m := 4) (pc := 22) (n := 1) (by decide +kernel) ).trans ?_
      refine (X_goto (m := 4) (pc := 23) (off := 4) (tg := 27) (by decide +kernel) (by decide +kernel)).trans ?_
      exact X_ireturn (m := 4) (pc := 27) (f := 2) (by decide +kernel) (by decide +kernel) rfl
theorem B_X0_isAhead_32 {k : Nat → Nat × Nat} {u : Nat → Nat → Int} {g : Nat → Nat → Nat} {t : Nat × Nat × Nat} {r0 : Nat} {r1 : Nat} {r2 : Nat} {y0 : Int} : a_X 4 32 [a_r (r0), a_r (r1), a_r (r2)] [a_i (y0)] (k, u, g, t) = if (y0 : Int) ≠ 0 then some (.inl (some (a_i (0))), (k, u, g, t)) else if (k r2).1 = 7 then (a_m 69 [a_r (r2)] (k, u, g, t)).bind (a_back 4 36 3 [a_r (r0), a_r (r1), a_r (r2)] []) else none := by
  refine (X_if_ne (m := 4) (pc := 32) (off := 14) (tg := 46) (by decide +kernel) (by decide +kernel)).trans ?_
  refine ite_congr rfl (fun _ => ?_) (fun _ => ?_)
  · refine (X_iconst (m := 4) (pc := 46) (n := 0) (by decide +kernel) ).trans ?_
    exact X_ireturn (m := 4) (pc := 47) (f := 2) (by decide +kernel) (by decide +kernel) rfl
  · refine (X_aload_n (m := 4) (pc := 35) (n := 2) (by decide +kernel) rfl).trans ?_
    refine (X_call_vi (m := 4) (pc := 36) (q := 36) (y := 69) (n := 1) (as := [a_r (r2)]) (rest := []) (by decide +kernel) (by decide +kernel) (by decide +kernel) (by decide +kernel) rfl rfl (Nat.le_of_ble_eq_true rfl) (Nat.le_of_ble_eq_true rfl) rfl (by rw [show m_maxL 69 = 1 from by decide +kernel]; exact Nat.le_of_ble_eq_true rfl)).trans ?_
    exact ite_congr (by simp [a_rcv, show m_recv 69 = 7 from by decide +kernel]) (fun _ => rfl) (fun _ => rfl)
theorem B_X0_isAhead_39 {k : Nat → Nat × Nat} {u : Nat → Nat → Int} {g : Nat → Nat → Nat} {t : Nat × Nat × Nat} {r0 : Nat} {r1 : Nat} {r2 : Nat} {y0 : Int} : a_X 4 39 [a_r (r0), a_r (r1), a_r (r2)] [a_i (y0)] (k, u, g, t) = if (y0 : Int) = 0 then some (.inl (some (a_i (0))), (k, u, g, t)) else some (.inl (some (a_i (1))), (k, u, g, t)) := by
  refine (X_if_eq (m := 4) (pc := 39) (off := 7) (tg := 46) (by decide +kernel) (by decide +kernel)).trans ?_
  refine ite_congr rfl (fun _ => ?_) (fun _ => ?_)
  · refine (X_iconst (m := 4) (pc := 46) (n := 0) (by decide +kernel) ).trans ?_
    exact X_ireturn (m := 4) (pc := 47) (f := 2) (by decide +kernel) (by decide +kernel) rfl
  · refine (X_iconst (m := 4) (pc := 42) (n := 1) (by decide +kernel) ).trans ?_
    refine (X_goto (m := 4) (pc := 43) (off := 4) (tg := 47) (by decide +kernel) (by decide +kernel)).trans ?_
    exact X_ireturn (m := 4) (pc := 47) (f := 2) (by decide +kernel) (by decide +kernel) rfl
theorem E_X0_removeEnded {σ : AS} {r0 : Nat} {x1 : Int} : a_m 5 [a_r (r0), a_i (x1)] σ = a_X 5 0 [a_r (r0), a_i (x1), a_x false, a_x false, a_x false] [] σ := a_m_eq (by rw [a_entry, show m_maxL 5 = 5 from by decide +kernel]; rfl)
theorem B_X0_removeEnded_0 {k : Nat → Nat × Nat} {u : Nat → Nat → Int} {g : Nat → Nat → Nat} {t : Nat × Nat × Nat} {r0 : Nat} {x1 : Int} {v2 : AV} {v3 : AV} {v4 : AV} : a_X 5 0 [a_r (r0), a_i (x1), v2, v3, v4] [] (k, u, g, t) = a_X 5 4 [a_r (r0), a_i (x1), a_i (0), a_i (0), v4] [] (k, u, g, t) := by
  refine (X_iconst (m := 5) (pc := 0) (n := 0) (by decide +kernel) ).trans ?_
  refine (X_istore_n (m := 5) (pc := 1) (n := 2) (by decide +kernel) rfl (Nat.le_of_ble_eq_true rfl) rfl).trans ?_
  refine (X_iconst (m := 5) (pc := 2) (n := 0) (by decide +kernel) ).trans ?_
  refine (X_istore_n (m := 5) (pc := 3) (n := 3) (by decide +kernel) rfl (Nat.le_of_ble_eq_true rfl) rfl).trans ?_
  rfl
theorem B_X0_removeEnded_4 {k : Nat → Nat × Nat} {u : Nat → Nat → Int} {g : Nat → Nat → Nat} {t : Nat × Nat × Nat} {r0 : Nat} {x1 : Int} {x2 : Int} {x3 : Int} {v4 : AV} : a_X 5 4 [a_r (r0), a_i (x1), a_i (x2), a_i (x3), v4] [] (k, u, g, t) = if (k r0).1 = 1 then if (x3 : Int) ≥ (u r0 1 : Int) then if (k r0).1 = 1 then some (.inl none, (k, (upm u r0 1 x2), g, t)) else none else if (k r0).1 = 1 then if 30 ≤ (k (g r0 0)).1 ∧ 0 ≤ (x3 : Int) ∧ (x3 : Int) < ((k (g r0 0)).2 : Int) then if (k (g (g r0 0) (x3 : Int).toNat)).1 = 7 then if (u (g (g r0 0) (x3 : Int).toNat) 5 : Int) ≤ (x1 : Int) then a_X 5 4 [a_r (r0), a_i (x1), a_i (x2), a_i (wr (x3 + 1)), a_r (g (g r0 0) (x3 : Int).toNat)] [] (k, u, g, t) else if (k r0).1 = 1 then if (k r0).1 = 1 then if 30 ≤ (k (g r0 0)).1 ∧ 0 ≤ (x2 : Int) ∧ (x2 : Int) < ((k (g r0 0)).2 : Int) then if 30 ≤ (k (g r0 0)).1 ∧ (k (g (g r0 0) (x2 : Int).toNat)).1 + 29 = (k (g r0 0)).1 ∧ (k (g (g r0 0) (x2 : Int).toNat)).1 ≠ 0 ∧ 0 ≤ (x3 : Int) ∧ (x3 : Int) < ((k (g r0 0)).2 : Int) then if (k r0).1 = 1 then if 30 ≤ (k ((upm g (g r0 0) (x3 : Int).toNat (g (g r0 0) (x2 : Int).toNat)) r0 0)).1 ∧ (k (g (g r0 0) (x3 : Int).toNat)).1 + 29 = (k ((upm g (g r0 0) (x3 : Int).toNat (g (g r0 0) (x2 : Int).toNat)) r0 0)).1 ∧ (k (g (g r0 0) (x3 : Int).toNat)).1 ≠ 0 ∧ 0 ≤ (x2 : Int) ∧ (x2 : Int) < ((k ((upm g (g r0 0) (x3 : Int).toNat (g (g r0 0) (x2 : Int).toNat)) r0 0)).2 : Int) then a_X 5 4 [a_r (r0), a_i (x1), a_i (wr (x2 + 1)), a_i (wr (x3 + 1)), a_r (g (g r0 0) (x3 : Int).toNat)] [] (k, u, (upm (upm g (g r0 0) (x3 : Int).toNat (g (g r0 0) (x2 : Int).toNat)) ((upm g (g r0 0) (x3 : Int).toNat (g (g r0 0) (x2 : Int).toNat)) r0 0) (x2 : Int).toNat (g (g r0 0) (x3 : Int).toNat)), t) else none else none else none else none else none else none else none else none else none else none := by
  refine (X_iload_n (m := 5) (pc := 4) (n := 3) (by decide +kernel) rfl).trans ?_
  refine (X_aload_n (m := 5) (pc := 5) (n := 0) (by decide +kernel) rfl).trans ?_
  refine (X_getI (m := 5) (pc := 6) (n := 18) (c := 1) (q := 1) (ty := 1) (fi := false) (by decide +kernel) (by decide +kernel) (by decide +kernel)).trans ?_
  refine ite_congr rfl (fun _ => ?_) (fun _ => rfl)
  refine (X_ic_ge (m := 5) (pc := 9) (off := 49) (tg := 58) (by decide +kernel) (by decide +kernel)).trans ?_
  refine ite_congr rfl (fun _ => ?_) (fun _ => ?_)
  · refine (X_aload_n (m := 5) (pc := 58) (n := 0) (by decide +kernel) rfl).trans ?_
    refine (X_iload_n (m := 5) (pc := 59) (n := 2) (by decide +kernel) rfl).trans ?_
    refine (X_putI (m := 5) (pc := 60) (n := 18) (c := 1) (q := 1) (fi := false) (by decide +kernel) (by decide +kernel) (fun h => by cases h) (by decide +kernel)).trans ?_
    refine ite_congr rfl (fun _ => ?_) (fun _ => rfl)
    exact X_return (m := 5) (pc := 63) (by decide +kernel) (by decide +kernel)
  · refine (X_aload_n (m := 5) (pc := 12) (n := 0) (by decide +kernel) rfl).trans ?_
    refine (X_getR (m := 5) (pc := 13) (n := 11) (c := 1) (q := 0) (fi := true) (by decide +kernel) (by decide +kernel)).trans ?_
    refine ite_congr rfl (fun _ => ?_) (fun _ => rfl)
    refine (X_iload_n (m := 5) (pc := 16) (n := 3) (by decide +kernel) rfl).trans ?_
    refine (X_aaload (m := 5) (pc := 17)  (by decide +kernel) ).trans ?_
    refine ite_congr rfl (fun _ => ?_) (fun _ => rfl)
    refine (X_astore (m := 5) (pc := 18) (n := 4) (by decide +kernel) rfl (Nat.le_of_ble_eq_true rfl) rfl).trans ?_
    refine (X_aload (m := 5) (pc := 20) (n := 4) (by decide +kernel) rfl).trans ?_
    refine (X_getI (m := 5) (pc := 22) (n := 40) (c := 7) (q := 5) (ty := 1) (fi := false) (by decide +kernel) (by decide +kernel) (by decide +kernel)).trans ?_
    refine ite_congr rfl (fun _ => ?_) (fun _ => rfl)
    refine (X_iload_n (m := 5) (pc := 25) (n := 1) (by decide +kernel) rfl).trans ?_
    refine (X_ic_le (m := 5) (pc := 26) (off := 26) (tg := 52) (by decide +kernel) (by decide +kernel)).trans ?_
    refine ite_congr rfl (fun _ => ?_) (fun _ => ?_)
    · refine (X_iinc (m := 5) (pc := 52) (n := 3) (c := 1) (by decide +kernel) rfl rfl (Nat.le_of_ble_eq_true rfl) rfl).trans ?_
      refine (X_goto (m := 5) (pc := 55) (off := -51) (tg := 4) (by decide +kernel) (by decide +kernel)).trans ?_
      rfl
    · refine (X_aload_n (m := 5) (pc := 29) (n := 0) (by decide +kernel) rfl).trans ?_
      refine (X_getR (m := 5) (pc := 30) (n := 11) (c := 1) (q := 0) (fi := true) (by decide +kernel) (by decide +kernel)).trans ?_
      refine ite_congr rfl (fun _ => ?_) (fun _ => rfl)
      refine (X_iload_n (m := 5) (pc := 33) (n := 3) (by decide +kernel) rfl).trans ?_
      refine (X_aload_n (m := 5) (pc := 34) (n := 0) (by decide +kernel) rfl).trans ?_
      refine (X_getR (m := 5) (pc := 35) (n := 11) (c := 1) (q := 0) (fi := true) (by decide +kernel) (by decide +kernel)).trans ?_
      refine ite_congr rfl (fun _ => ?_) (fun _ => rfl)
      refine (X_iload_n (m := 5) (pc := 38) (n := 2) (by decide +kernel) rfl).trans ?_
      refine (X_aaload (m := 5) (pc := 39)  (by decide +kernel) ).trans ?_
      refine ite_congr rfl (fun _ => ?_) (fun _ => rfl)
      refine (X_aastore (m := 5) (pc := 40)  (by decide +kernel) ).trans ?_
      refine ite_congr rfl (fun _ => ?_) (fun _ => rfl)
      refine (X_aload_n (m := 5) (pc := 41) (n := 0) (by decide +kernel) rfl).trans ?_
      refine (X_getR (m := 5) (pc := 42) (n := 11) (c := 1) (q := 0) (fi := true) (by decide +kernel) (by decide +kernel)).trans ?_
      refine ite_congr rfl (fun _ => ?_) (fun _ => rfl)
      refine (X_iload_n (m := 5) (pc := 45) (n := 2) (by decide +kernel) rfl).trans ?_
      refine (X_aload (m := 5) (pc := 46) (n := 4) (by decide +kernel) rfl).trans ?_
      refine (X_aastore (m := 5) (pc := 48)  (by decide +kernel) ).trans ?_
      refine ite_congr rfl (fun _ => ?_) (fun _ => rfl)
      refine (X_iinc (m := 5) (pc := 49) (n := 2) (c := 1) (by decide +kernel) rfl rfl (Nat.le_of_ble_eq_true rfl) rfl).trans ?_
      refine (X_iinc (m := 5) (pc := 52) (n := 3) (c := 1) (by decide +kernel) rfl rfl (Nat.le_of_ble_eq_true rfl) rfl).trans ?_
      refine (X_goto (m := 5) (pc := 55) (off := -51) (tg := 4) (by decide +kernel) (by decide +kernel)).trans ?_
      rfl
theorem E_X0_byFirstDue {σ : AS} {r0 : Nat} {x1 : Int} : a_m 6 [a_r (r0), a_i (x1)] σ = a_X 6 0 [a_r (r0), a_i (x1), a_x false] [] σ := a_m_eq (by rw [a_entry, show m_maxL 6 = 3 from by decide +kernel]; rfl)
theorem B_X0_byFirstDue_0 {k : Nat → Nat × Nat} {u : Nat → Nat → Int} {g : Nat → Nat → Nat} {t : Nat × Nat × Nat} {r0 : Nat} {x1 : Int} {v2 : AV} : a_X 6 0 [a_r (r0), a_i (x1), v2] [] (k, u, g, t) = a_X 6 2 [a_r (r0), a_i (x1), a_i (0)] [] (k, u, g, t) := by
  refine (X_iconst (m := 6) (pc := 0) (n := 0) (by decide +kernel) ).trans ?_
  refine (X_istore_n (m := 6) (pc := 1) (n := 2) (by decide +kernel) rfl (Nat.le_of_ble_eq_true rfl) rfl).trans ?_
  rfl
theorem B_X0_byFirstDue_2 {k : Nat → Nat × Nat} {u : Nat → Nat → Int} {g : Nat → Nat → Nat} {t : Nat × Nat × Nat} {r0 : Nat} {x1 : Int} {x2 : Int} : a_X 6 2 [a_r (r0), a_i (x1), a_i (x2)] [] (k, u, g, t) = if (k r0).1 = 1 then if (x2 : Int) ≥ (u r0 1 : Int) then if (k r0).1 = 1 then if 30 ≤ (k (g r0 0)).1 ∧ 0 ≤ (0 : Int) ∧ (0 : Int) < ((k (g r0 0)).2 : Int) then some (.inl (some (a_r (g (g r0 0) (0 : Int).toNat))), (k, u, g, t)) else none else none else if (k r0).1 = 1 then (a_m 7 [a_r (r0), a_i (x2)] (k, u, g, t)).bind (a_back 6 12 3 [a_r (r0), a_i (x1), a_i (x2)] []) else none else none := by
  refine (X_iload_n (m := 6) (pc := 2) (n := 2) (by decide +kernel) rfl).trans ?_
  refine (X_aload_n (m := 6) (pc := 3) (n := 0) (by decide +kernel) rfl).trans ?_
  refine (X_getI (m := 6) (pc := 4) (n := 18) (c := 1) (q := 1) (ty := 1) (fi := false) (by decide +kernel) (by decide +kernel) (by decide +kernel)).trans ?_
  refine ite_congr rfl (fun _ => ?_) (fun _ => rfl)
  refine (X_ic_ge (m := 6) (pc := 7) (off := 25) (tg := 32) (by decide +kernel) (by decide +kernel)).trans ?_
  refine ite_congr rfl (fun _ => ?_) (fun _ => ?_)
  · refine (X_aload_n (m := 6) (pc := 32) (n := 0) (by decide +kernel) rfl).trans ?_
    refine (X_getR (m := 6) (pc := 33) (n := 11) (c := 1) (q := 0) (fi := true) (by decide +kernel) (by decide +kernel)).trans ?_
    refine ite_congr rfl (fun _ => ?_) (fun _ => rfl)
    refine (X_iconst (m := 6) (pc := 36) (n := 0) (by decide +kernel) ).trans ?_
    refine (X_aaload (m := 6) (pc := 37)  (by decide +kernel) ).trans ?_
    refine ite_congr rfl (fun _ => ?_) (fun _ => rfl)
    exact X_areturn (m := 6) (pc := 38) (by decide +kernel) (by decide +kernel)
  · refine (X_aload_n (m := 6) (pc := 10) (n := 0) (by decide +kernel) rfl).trans ?_
    refine (X_iload_n (m := 6) (pc := 11) (n := 2) (by decide +kernel) rfl).trans ?_
    refine (X_call_vi (m := 6) (pc := 12) (q := 43) (y := 7) (n := 2) (as := [a_r (r0), a_i (x2)]) (rest := []) (by decide +kernel) (by decide +kernel) (by decide +kernel) (by decide +kernel) rfl rfl (Nat.le_of_ble_eq_true rfl) (Nat.le_of_ble_eq_true rfl) rfl (by rw [show m_maxL 7 = 5 from by decide +kernel]; exact Nat.le_of_ble_eq_true rfl)).trans ?_
    exact ite_congr (by simp [a_rcv, show m_recv 7 = 1 from by decide +kernel]) (fun _ => rfl) (fun _ => rfl)
theorem B_X0_byFirstDue_15 {k : Nat → Nat × Nat} {u : Nat → Nat → Int} {g : Nat → Nat → Nat} {t : Nat × Nat × Nat} {r0 : Nat} {x1 : Int} {x2 : Int} {y0 : Int} : a_X 6 15 [a_r (r0), a_i (x1), a_i (x2)] [a_i (y0)] (k, u, g, t) = if (y0 : Int) ≠ (x1 : Int) then a_X 6 2 [a_r (r0), a_i (x1), a_i (wr (x2 + 1))] [] (k, u, g, t) else if (k r0).1 = 1 then if 30 ≤ (k (g r0 0)).1 ∧ 0 ≤ (x2 : Int) ∧ (x2 : Int) < ((k (g r0 0)).2 : Int) then some (.inl (some (a_r (g (g r0 0) (x2 : Int).toNat))), (k, u, g, t)) else none else none := by
  refine (X_iload_n (m := 6) (pc := 15) (n := 1) (by decide +kernel) rfl).trans ?_
  refine (X_ic_ne (m := 6) (pc := 16) (off := 10) (tg := 26) (by decide +kernel) (by decide +kernel)).trans ?_
  refine ite_congr rfl (fun _ => ?_) (fun _ => ?_)
  · refine (X_iinc (m := 6) (pc := 26) (n := 2) (c := 1) (by decide +kernel) rfl rfl (Nat.le_of_ble_eq_true rfl) rfl).trans ?_
    refine (X_goto (m := 6) (pc := 29) (off := -27) (tg := 2) (by decide +kernel) (by decide +kernel)).trans ?_
    rfl
  · refine (X_aload_n (m := 6) (pc := 19) (n := 0) (by decide +kernel) rfl).trans ?_
    refine (X_getR (m := 6) (pc := 20) (n := 11) (c := 1) (q := 0) (fi := true) (by decide +kernel) (by decide +kernel)).trans ?_
    refine ite_congr rfl (fun _ => ?_) (fun _ => rfl)
    refine (X_iload_n (m := 6) (pc := 23) (n := 2) (by decide +kernel) rfl).trans ?_
    refine (X_aaload (m := 6) (pc := 24)  (by decide +kernel) ).trans ?_
    refine ite_congr rfl (fun _ => ?_) (fun _ => rfl)
    exact X_areturn (m := 6) (pc := 25) (by decide +kernel) (by decide +kernel)
theorem E_X0_rankByFirstDue {σ : AS} {r0 : Nat} {x1 : Int} : a_m 7 [a_r (r0), a_i (x1)] σ = a_X 7 0 [a_r (r0), a_i (x1), a_x false, a_x false, a_x false] [] σ := a_m_eq (by rw [a_entry, show m_maxL 7 = 5 from by decide +kernel]; rfl)
theorem B_X0_rankByFirstDue_0 {k : Nat → Nat × Nat} {u : Nat → Nat → Int} {g : Nat → Nat → Nat} {t : Nat × Nat × Nat} {r0 : Nat} {x1 : Int} {v2 : AV} {v3 : AV} {v4 : AV} : a_X 7 0 [a_r (r0), a_i (x1), v2, v3, v4] [] (k, u, g, t) = a_X 7 4 [a_r (r0), a_i (x1), a_i (0), a_i (0), v4] [] (k, u, g, t) := by
  refine (X_iconst (m := 7) (pc := 0) (n := 0) (by decide +kernel) ).trans ?_
  refine (X_istore_n (m := 7) (pc := 1) (n := 2) (by decide +kernel) rfl (Nat.le_of_ble_eq_true rfl) rfl).trans ?_
  refine (X_iconst (m := 7) (pc := 2) (n := 0) (by decide +kernel) ).trans ?_
  refine (X_istore_n (m := 7) (pc := 3) (n := 3) (by decide +kernel) rfl (Nat.le_of_ble_eq_true rfl) rfl).trans ?_
  rfl
theorem B_X0_rankByFirstDue_4 {k : Nat → Nat × Nat} {u : Nat → Nat → Int} {g : Nat → Nat → Nat} {t : Nat × Nat × Nat} {r0 : Nat} {x1 : Int} {x2 : Int} {x3 : Int} {v4 : AV} : a_X 7 4 [a_r (r0), a_i (x1), a_i (x2), a_i (x3), v4] [] (k, u, g, t) = if (k r0).1 = 1 then if (x3 : Int) ≥ (u r0 1 : Int) then some (.inl (some (a_i (x2))), (k, u, g, t)) else if (k r0).1 = 1 then if 30 ≤ (k (g r0 0)).1 ∧ 0 ≤ (x3 : Int) ∧ (x3 : Int) < ((k (g r0 0)).2 : Int) then if (k (g (g r0 0) (x3 : Int).toNat)).1 = 7 then if (k r0).1 = 1 then if 30 ≤ (k (g r0 0)).1 ∧ 0 ≤ (x1 : Int) ∧ (x1 : Int) < ((k (g r0 0)).2 : Int) then if (k (g (g r0 0) (x1 : Int).toNat)).1 = 7 then if (wr ((u (g (g r0 0) (x3 : Int).toNat) 4) - (u (g (g r0 0) (x1 : Int).toNat) 4)) : Int) < 0 then a_X 7 4 [a_r (r0), a_i (x1), a_i (wr (x2 + 1)), a_i (wr (x3 + 1)), a_i (wr ((u (g (g r0 0) (x3 : Int).toNat) 4) - (u (g (g r0 0) (x1 : Int).toNat) 4)))] [] (k, u, g, t) else if (wr ((u (g (g r0 0) (x3 : Int).toNat) 4) - (u (g (g r0 0) (x1 : Int).toNat) 4)) : Int) ≠ 0 then a_X 7 4 [a_r (r0), a_i (x1), a_i (x2), a_i (wr (x3 + 1)), a_i (wr ((u (g (g r0 0) (x3 : Int).toNat) 4) - (u (g (g r0 0) (x1 : Int).toNat) 4)))] [] (k, u, g, t) else if (x3 : Int) ≥ (x1 : Int) then a_X 7 4 [a_r (r0), a_i (x1), a_i (x2), a_i (wr (x3 + 1)), a_i (wr ((u (g (g r0 0) (x3 : Int).toNat) 4) - (u (g (g r0 0) (x1 : Int).toNat) 4)))] [] (k, u, g, t) else a_X 7 4 [a_r (r0), a_i (x1), a_i (wr (x2 + 1)), a_i (wr (x3 + 1)), a_i (wr ((u (g (g r0 0) (x3 : Int).toNat) 4) - (u (g (g r0 0) (x1 : Int).toNat) 4)))] [] (k, u, g, t) else none else none else none else none else none else none else none := by
  refine (X_iload_n (m := 7) (pc := 4) (n := 3) (by decide +kernel) rfl).trans ?_
  refine (X_aload_n (m := 7) (pc := 5) (n := 0) (by decide +kernel) rfl).trans ?_
  refine (X_getI (m := 7) (pc := 6) (n := 18) (c := 1) (q := 1) (ty := 1) (fi := false) (by decide +kernel) (by decide +kernel) (by decide +kernel)).trans ?_
  refine ite_congr rfl (fun _ => ?_) (fun _ => rfl)
  refine (X_ic_ge (m := 7) (pc := 9) (off := 48) (tg := 57) (by decide +kernel) (by decide +kernel)).trans ?_
  refine ite_congr rfl (fun _ => ?_) (fun _ => ?_)
  · refine (X_iload_n (m := 7) (pc := 57) (n := 2) (by decide +kernel) rfl).trans ?_
    exact X_ireturn (m := 7) (pc := 58) (f := 1) (by decide +kernel) (by decide +kernel) rfl
  · refine (X_aload_n (m := 7) (pc := 12) (n := 0) (by decide +kernel) rfl).trans ?_
    refine (X_getR (m := 7) (pc := 13) (n := 11) (c := 1) (q := 0) (fi := true) (by decide +kernel) (by decide +kernel)).trans ?_
    refine ite_congr rfl (fun _ => ?_) (fun _ => rfl)
    refine (X_iload_n (m := 7) (pc := 16) (n := 3) (by decide +kernel) rfl).trans ?_
    refine (X_aaload (m := 7) (pc := 17)  (by decide +kernel) ).trans ?_
    refine ite_congr rfl (fun _ => ?_) (fun _ => rfl)
    refine (X_getI (m := 7) (pc := 18) (n := 47) (c := 7) (q := 4) (ty := 1) (fi := false) (by decide +kernel) (by decide +kernel) (by decide +kernel)).trans ?_
    refine ite_congr rfl (fun _ => ?_) (fun _ => rfl)
    refine (X_aload_n (m := 7) (pc := 21) (n := 0) (by decide +kernel) rfl).trans ?_
    refine (X_getR (m := 7) (pc := 22) (n := 11) (c := 1) (q := 0) (fi := true) (by decide +kernel) (by decide +kernel)).trans ?_
    refine ite_congr rfl (fun _ => ?_) (fun _ => rfl)
    refine (X_iload_n (m := 7) (pc := 25) (n := 1) (by decide +kernel) rfl).trans ?_
    refine (X_aaload (m := 7) (pc := 26)  (by decide +kernel) ).trans ?_
    refine ite_congr rfl (fun _ => ?_) (fun _ => rfl)
    refine (X_getI (m := 7) (pc := 27) (n := 47) (c := 7) (q := 4) (ty := 1) (fi := false) (by decide +kernel) (by decide +kernel) (by decide +kernel)).trans ?_
    refine ite_congr rfl (fun _ => ?_) (fun _ => rfl)
    refine (X_isub (m := 7) (pc := 30)  (by decide +kernel) ).trans ?_
    refine (X_istore (m := 7) (pc := 31) (n := 4) (by decide +kernel) rfl (Nat.le_of_ble_eq_true rfl) rfl).trans ?_
    refine (X_iload (m := 7) (pc := 33) (n := 4) (by decide +kernel) rfl).trans ?_
    refine (X_if_lt (m := 7) (pc := 35) (off := 13) (tg := 48) (by decide +kernel) (by decide +kernel)).trans ?_
    refine ite_congr rfl (fun _ => ?_) (fun _ => ?_)
    · refine (X_iinc (m := 7) (pc := 48) (n := 2) (c := 1) (by decide +kernel) rfl rfl (Nat.le_of_ble_eq_true rfl) rfl).trans ?_
      refine (X_iinc (m := 7) (pc := 51) (n := 3) (c := 1) (by decide +kernel) rfl rfl (Nat.le_of_ble_eq_true rfl) rfl).trans ?_
      refine (X_goto (m := 7) (pc := 54) (off := -50) (tg := 4) (by decide +kernel) (by decide +kernel)).trans ?_
      rfl
    · refine (X_iload (m := 7) (pc := 38) (n := 4) (by decide +kernel) rfl).trans ?_
      refine (X_if_ne (m := 7) (pc := 40) (off := 11) (tg := 51) (by decide +kernel) (by decide +kernel)).trans ?_
      refine ite_congr rfl (fun _ => ?_) (fun _ => ?_)
      · refine (X_iinc (m := 7) (pc := 51) (n := 3) (c := 1) (by decide +kernel) rfl rfl (Nat.le_of_ble_eq_true rfl) rfl).trans ?_
        refine (X_goto (m := 7) (pc := 54) (off := -50) (tg := 4) (by decide +kernel) (by decide +kernel)).trans ?_
        rfl
      · refine (X_iload_n (m := 7) (pc := 43) (n := 3) (by decide +kernel) rfl).trans ?_
        refine (X_iload_n (m := 7) (pc := 44) (n := 1) (by decide +kernel) rfl).trans ?_
        refine (X_ic_ge (m := 7) (pc := 45) (off := 6) (tg := 51) (by decide +kernel) (by decide +kernel)).trans ?_
        refine ite_congr rfl (fun _ => ?_) (fun _ => ?_)
        · refine (X_iinc (m := 7) (pc := 51) (n := 3) (c := 1) (by decide +kernel) rfl rfl (Nat.le_of_ble_eq_true rfl) rfl).trans ?_
          refine (X_goto (m := 7) (pc := 54) (off := -50) (tg := 4) (by decide +kernel) (by decide +kernel)).trans ?_
          rfl
        · refine (X_iinc (m := 7) (pc := 48) (n := 2) (c := 1) (by decide +kernel) rfl rfl (Nat.le_of_ble_eq_true rfl) rfl).trans ?_
          refine (X_iinc (m := 7) (pc := 51) (n := 3) (c := 1) (by decide +kernel) rfl rfl (Nat.le_of_ble_eq_true rfl) rfl).trans ?_
          refine (X_goto (m := 7) (pc := 54) (off := -50) (tg := 4) (by decide +kernel) (by decide +kernel)).trans ?_
          rfl
theorem E_X0_wholeLists {σ : AS} {r0 : Nat} : a_m 8 [a_r (r0)] σ = a_X 8 0 [a_r (r0), a_x false, a_x false] [] σ := a_m_eq (by rw [a_entry, show m_maxL 8 = 3 from by decide +kernel]; rfl)
theorem B_X0_wholeLists_0 {k : Nat → Nat × Nat} {u : Nat → Nat → Int} {g : Nat → Nat → Nat} {t : Nat × Nat × Nat} {r0 : Nat} {v1 : AV} {v2 : AV} : a_X 8 0 [a_r (r0), v1, v2] [] (k, u, g, t) = a_X 8 4 [a_r (r0), a_i (0), a_i (0)] [] (k, u, g, t) := by
  refine (X_iconst (m := 8) (pc := 0) (n := 0) (by decide +kernel) ).trans ?_
  refine (X_istore_n (m := 8) (pc := 1) (n := 1) (by decide +kernel) rfl (Nat.le_of_ble_eq_true rfl) rfl).trans ?_
  refine (X_iconst (m := 8) (pc := 2) (n := 0) (by decide +kernel) ).trans ?_
  refine (X_istore_n (m := 8) (pc := 3) (n := 2) (by decide +kernel) rfl (Nat.le_of_ble_eq_true rfl) rfl).trans ?_
  rfl
theorem B_X0_wholeLists_4 {k : Nat → Nat × Nat} {u : Nat → Nat → Int} {g : Nat → Nat → Nat} {t : Nat × Nat × Nat} {r0 : Nat} {x1 : Int} {x2 : Int} : a_X 8 4 [a_r (r0), a_i (x1), a_i (x2)] [] (k, u, g, t) = if (k r0).1 = 1 then if (x2 : Int) ≥ (u r0 1 : Int) then some (.inl (some (a_i (x1))), (k, u, g, t)) else if (k r0).1 = 1 then if 30 ≤ (k (g r0 0)).1 ∧ 0 ≤ (x2 : Int) ∧ (x2 : Int) < ((k (g r0 0)).2 : Int) then if (k (g (g r0 0) (x2 : Int).toNat)).1 = 7 then (a_m 69 [a_r (g (g r0 0) (x2 : Int).toNat)] (k, u, g, t)).bind (a_back 8 18 3 [a_r (r0), a_i (x1), a_i (x2)] []) else none else none else none else none := by
  refine (X_iload_n (m := 8) (pc := 4) (n := 2) (by decide +kernel) rfl).trans ?_
  refine (X_aload_n (m := 8) (pc := 5) (n := 0) (by decide +kernel) rfl).trans ?_
  refine (X_getI (m := 8) (pc := 6) (n := 18) (c := 1) (q := 1) (ty := 1) (fi := false) (by decide +kernel) (by decide +kernel) (by decide +kernel)).trans ?_
  refine ite_congr rfl (fun _ => ?_) (fun _ => rfl)
  refine (X_ic_ge (m := 8) (pc := 9) (off := 24) (tg := 33) (by decide +kernel) (by decide +kernel)).trans ?_
  refine ite_congr rfl (fun _ => ?_) (fun _ => ?_)
  · refine (X_iload_n (m := 8) (pc := 33) (n := 1) (by decide +kernel) rfl).trans ?_
    exact X_ireturn (m := 8) (pc := 34) (f := 1) (by decide +kernel) (by decide +kernel) rfl
  · refine (X_aload_n (m := 8) (pc := 12) (n := 0) (by decide +kernel) rfl).trans ?_
    refine (X_getR (m := 8) (pc := 13) (n := 11) (c := 1) (q := 0) (fi := true) (by decide +kernel) (by decide +kernel)).trans ?_
    refine ite_congr rfl (fun _ => ?_) (fun _ => rfl)
    refine (X_iload_n (m := 8) (pc := 16) (n := 2) (by decide +kernel) rfl).trans ?_
    refine (X_aaload (m := 8) (pc := 17)  (by decide +kernel) ).trans ?_
    refine ite_congr rfl (fun _ => ?_) (fun _ => rfl)
    refine (X_call_vi (m := 8) (pc := 18) (q := 36) (y := 69) (n := 1) (as := [a_r (g (g r0 0) (x2 : Int).toNat)]) (rest := []) (by decide +kernel) (by decide +kernel) (by decide +kernel) (by decide +kernel) rfl rfl (Nat.le_of_ble_eq_true rfl) (Nat.le_of_ble_eq_true rfl) rfl (by rw [show m_maxL 69 = 1 from by decide +kernel]; exact Nat.le_of_ble_eq_true rfl)).trans ?_
    exact ite_congr (by simp [a_rcv, show m_recv 69 = 7 from by decide +kernel]) (fun _ => rfl) (fun _ => rfl)
theorem B_X0_wholeLists_21 {k : Nat → Nat × Nat} {u : Nat → Nat → Int} {g : Nat → Nat → Nat} {t : Nat × Nat × Nat} {r0 : Nat} {x1 : Int} {x2 : Int} {y0 : Int} : a_X 8 21 [a_r (r0), a_i (x1), a_i (x2)] [a_i (y0)] (k, u, g, t) = if (y0 : Int) = 0 then a_X 8 4 [a_r (r0), a_i (x1), a_i (wr (x2 + 1))] [] (k, u, g, t) else a_X 8 4 [a_r (r0), a_i (wr (x1 + 1)), a_i (wr (x2 + 1))] [] (k, u, g, t) := by
  refine (X_if_eq (m := 8) (pc := 21) (off := 6) (tg := 27) (by decide +kernel) (by decide +kernel)).trans ?_
  refine ite_congr rfl (fun _ => ?_) (fun _ => ?_)
  · refine (X_iinc (m := 8) (pc := 27) (n := 2) (c := 1) (by decide +kernel) rfl rfl (Nat.le_of_ble_eq_true rfl) rfl).trans ?_
    refine (X_goto (m := 8) (pc := 30) (off := -26) (tg := 4) (by decide +kernel) (by decide +kernel)).trans ?_
    rfl
  · refine (X_iinc (m := 8) (pc := 24) (n := 1) (c := 1) (by decide +kernel) rfl rfl (Nat.le_of_ble_eq_true rfl) rfl).trans ?_
    refine (X_iinc (m := 8) (pc := 27) (n := 2) (c := 1) (by decide +kernel) rfl rfl (Nat.le_of_ble_eq_true rfl) rfl).trans ?_
    refine (X_goto (m := 8) (pc := 30) (off := -26) (tg := 4) (by decide +kernel) (by decide +kernel)).trans ?_
    rfl
theorem E_X0_hasCorrection {σ : AS} {r0 : Nat} {x1 : Int} : a_m 9 [a_r (r0), a_i (x1)] σ = a_X 9 0 [a_r (r0), a_i (x1), a_x false] [] σ := a_m_eq (by rw [a_entry, show m_maxL 9 = 3 from by decide +kernel]; rfl)
theorem B_X0_hasCorrection_0 {k : Nat → Nat × Nat} {u : Nat → Nat → Int} {g : Nat → Nat → Nat} {t : Nat × Nat × Nat} {r0 : Nat} {x1 : Int} {v2 : AV} : a_X 9 0 [a_r (r0), a_i (x1), v2] [] (k, u, g, t) = a_X 9 2 [a_r (r0), a_i (x1), a_i (0)] [] (k, u, g, t) := by
  refine (X_iconst (m := 9) (pc := 0) (n := 0) (by decide +kernel) ).trans ?_
  refine (X_istore_n (m := 9) (pc := 1) (n := 2) (by decide +kernel) rfl (Nat.le_of_ble_eq_true rfl) rfl).trans ?_
  rfl
theorem B_X0_hasCorrection_2 {k : Nat → Nat × Nat} {u : Nat → Nat → Int} {g : Nat → Nat → Nat} {t : Nat × Nat × Nat} {r0 : Nat} {x1 : Int} {x2 : Int} : a_X 9 2 [a_r (r0), a_i (x1), a_i (x2)] [] (k, u, g, t) = if (k r0).1 = 1 then if (x2 : Int) ≥ (u r0 1 : Int) then some (.inl (some (a_i (0))), (k, u, g, t)) else if (k r0).1 = 1 then if 30 ≤ (k (g r0 0)).1 ∧ 0 ≤ (x2 : Int) ∧ (x2 : Int) < ((k (g r0 0)).2 : Int) then if (k (g (g r0 0) (x2 : Int).toNat)).1 = 7 then (a_m 69 [a_r (g (g r0 0) (x2 : Int).toNat)] (k, u, g, t)).bind (a_back 9 16 3 [a_r (r0), a_i (x1), a_i (x2)] []) else none else none else none else none := by
  refine (X_iload_n (m := 9) (pc := 2) (n := 2) (by decide +kernel) rfl).trans ?_
  refine (X_aload_n (m := 9) (pc := 3) (n := 0) (by decide +kernel) rfl).trans ?_
  refine (X_getI (m := 9) (pc := 4) (n := 18) (c := 1) (q := 1) (ty := 1) (fi := false) (by decide +kernel) (by decide +kernel) (by decide +kernel)).trans ?_
  refine ite_congr rfl (fun _ => ?_) (fun _ => rfl)
  refine (X_ic_ge (m := 9) (pc := 7) (off := 36) (tg := 43) (by decide +kernel) (by decide +kernel)).trans ?_
  refine ite_congr rfl (fun _ => ?_) (fun _ => ?_)
  · refine (X_iconst (m := 9) (pc := 43) (n := 0) (by decide +kernel) ).trans ?_
    exact X_ireturn (m := 9) (pc := 44) (f := 2) (by decide +kernel) (by decide +kernel) rfl
  · refine (X_aload_n (m := 9) (pc := 10) (n := 0) (by decide +kernel) rfl).trans ?_
    refine (X_getR (m := 9) (pc := 11) (n := 11) (c := 1) (q := 0) (fi := true) (by decide +kernel) (by decide +kernel)).trans ?_
    refine ite_congr rfl (fun _ => ?_) (fun _ => rfl)
    refine (X_iload_n (m := 9) (pc := 14) (n := 2) (by decide +kernel) rfl).trans ?_
    refine (X_aaload (m := 9) (pc := 15)  (by decide +kernel) ).trans ?_
    refine ite_congr rfl (fun _ => ?_) (fun _ => rfl)
    refine (X_call_vi (m := 9) (pc := 16) (q := 36) (y := 69) (n := 1) (as := [a_r (g (g r0 0) (x2 : Int).toNat)]) (rest := []) (by decide +kernel) (by decide +kernel) (by decide +kernel) (by decide +kernel) rfl rfl (Nat.le_of_ble_eq_true rfl) (Nat.le_of_ble_eq_true rfl) rfl (by rw [show m_maxL 69 = 1 from by decide +kernel]; exact Nat.le_of_ble_eq_true rfl)).trans ?_
    exact ite_congr (by simp [a_rcv, show m_recv 69 = 7 from by decide +kernel]) (fun _ => rfl) (fun _ => rfl)
theorem B_X0_hasCorrection_19 {k : Nat → Nat × Nat} {u : Nat → Nat → Int} {g : Nat → Nat → Nat} {t : Nat × Nat × Nat} {r0 : Nat} {x1 : Int} {x2 : Int} {y0 : Int} : a_X 9 19 [a_r (r0), a_i (x1), a_i (x2)] [a_i (y0)] (k, u, g, t) = if (y0 : Int) ≠ 0 then a_X 9 2 [a_r (r0), a_i (x1), a_i (wr (x2 + 1))] [] (k, u, g, t) else if (k r0).1 = 1 then if 30 ≤ (k (g r0 0)).1 ∧ 0 ≤ (x2 : Int) ∧ (x2 : Int) < ((k (g r0 0)).2 : Int) then if (k (g (g r0 0) (x2 : Int).toNat)).1 = 7 then if (u (g (g r0 0) (x2 : Int).toNat) 0 : Int) ≠ (x1 : Int) then a_X 9 2 [a_r (r0), a_i (x1), a_i (wr (x2 + 1))] [] (k, u, g, t) else some (.inl (some (a_i (1))), (k, u, g, t)) else none else none else none := by
  refine (X_if_ne (m := 9) (pc := 19) (off := 18) (tg := 37) (by decide +kernel) (by decide +kernel)).trans ?_
  refine ite_congr rfl (fun _ => ?_) (fun _ => ?_)
  · refine (X_iinc (m := 9) (pc := 37) (n := 2) (c := 1) (by decide +kernel) rfl rfl (Nat.le_of_ble_eq_true rfl) rfl).trans ?_
    refine (X_goto (m := 9) (pc := 40) (off := -38) (tg := 2) (by decide +kernel) (by decide +kernel)).trans ?_
    rfl
  · refine (X_aload_n (m := 9) (pc := 22) (n := 0) (by decide +kernel) rfl).trans ?_
    refine (X_getR (m := 9) (pc := 23) (n := 11) (c := 1) (q := 0) (fi := true) (by decide +kernel) (by decide +kernel)).trans ?_
    refine ite_congr rfl (fun _ => ?_) (fun _ => rfl)
    refine (X_iload_n (m := 9) (pc := 26) (n := 2) (by decide +kernel) rfl).trans ?_
    refine (X_aaload (m := 9) (pc := 27)  (by decide +kernel) ).trans ?_
    refine ite_congr rfl (fun _ => ?_) (fun _ => rfl)
    refine (X_getI (m := 9) (pc := 28) (n := 26) (c := 7) (q := 0) (ty := 1) (fi := false) (by decide +kernel) (by decide +kernel) (by decide +kernel)).trans ?_
    refine ite_congr rfl (fun _ => ?_) (fun _ => rfl)
    refine (X_iload_n (m := 9) (pc := 31) (n := 1) (by decide +kernel) rfl).trans ?_
    refine (X_ic_ne (m := 9) (pc := 32) (off := 5) (tg := 37) (by decide +kernel) (by decide +kernel)).trans ?_
    refine ite_congr rfl (fun _ => ?_) (fun _ => ?_)
    · refine (X_iinc (m := 9) (pc := 37) (n := 2) (c := 1) (by decide +kernel) rfl rfl (Nat.le_of_ble_eq_true rfl) rfl).trans ?_
      refine (X_goto (m := 9) (pc := 40) (off := -38) (tg := 2) (by decide +kernel) (by decide +kernel)).trans ?_
      rfl
    · refine (X_iconst (m := 9) (pc := 35) (n := 1) (by decide +kernel) ).trans ?_
      exact X_ireturn (m := 9) (pc := 36) (f := 2) (by decide +kernel) (by decide +kernel) rfl
theorem E_X1_init {σ : AS} {r0 : Nat} : a_m 10 [a_r (r0)] σ = a_X 10 0 [a_r (r0), a_x false] [] σ := a_m_eq (by rw [a_entry, show m_maxL 10 = 2 from by decide +kernel]; rfl)
theorem B_X1_init_0 {k : Nat → Nat × Nat} {u : Nat → Nat → Int} {g : Nat → Nat → Nat} {t : Nat × Nat × Nat} {r0 : Nat} {v1 : AV} : a_X 10 0 [a_r (r0), v1] [] (k, u, g, t) = if (k r0).1 ≠ 0 then if 0 ≤ (8 : Int) ∧ (8 : Int) ≤ 65536 then a_X 10 10 [a_r (r0), v1] [a_r (t.1), a_r (r0)] (a_new (k, u, g, t) 34 (8 : Int).toNat (8 : Int).toNat) else none else none := by
  refine (X_aload_n (m := 10) (pc := 0) (n := 0) (by decide +kernel) rfl).trans ?_
  refine (X_objinit (m := 10) (pc := 1) (q := 3) (by decide +kernel) (by decide +kernel) (Nat.le_of_ble_eq_true rfl)).trans ?_
  refine ite_congr rfl (fun _ => ?_) (fun _ => rfl)
  refine (X_aload_n (m := 10) (pc := 4) (n := 0) (by decide +kernel) rfl).trans ?_
  refine (X_bipush (m := 10) (pc := 5) (n := 8) (by decide +kernel) ).trans ?_
  refine (X_anewa (m := 10) (pc := 7) (q := 9) (c := 4) (by decide +kernel) (by decide +kernel)).trans ?_
  refine ite_congr rfl (fun _ => ?_) (fun _ => rfl)
  rfl
theorem B_X1_init_10 {k : Nat → Nat × Nat} {u : Nat → Nat → Int} {g : Nat → Nat → Nat} {t : Nat × Nat × Nat} {r0 : Nat} {v1 : AV} {q0 : Nat} {q1 : Nat} : a_X 10 10 [a_r (r0), v1] [a_r (q1), a_r (q0)] (k, u, g, t) = if (k q0).1 = 2 then a_X 10 15 [a_r (r0), a_i (0)] [] (k, u, (upm g q0 0 q1), t) else none := by
  refine (X_putR (m := 10) (pc := 10) (n := 11) (c := 2) (q := 0) (fi := true) (by decide +kernel) (by decide +kernel) (fun _ => (by decide +kernel)) (by decide +kernel)).trans ?_
  refine ite_congr rfl (fun _ => ?_) (fun _ => rfl)
  refine (X_iconst (m := 10) (pc := 13) (n := 0) (by decide +kernel) ).trans ?_
  refine (X_istore_n (m := 10) (pc := 14) (n := 1) (by decide +kernel) rfl (Nat.le_of_ble_eq_true rfl) rfl).trans ?_
  rfl
theorem B_X1_init_15 {k : Nat → Nat × Nat} {u : Nat → Nat → Int} {g : Nat → Nat → Nat} {t : Nat × Nat × Nat} {r0 : Nat} {x1 : Int} : a_X 10 15 [a_r (r0), a_i (x1)] [] (k, u, g, t) = if (x1 : Int) ≥ (8 : Int) then some (.inl none, (k, u, g, t)) else if (k r0).1 = 2 then a_X 10 29 [a_r (r0), a_i (x1)] [a_r (t.1), a_i (x1), a_r (g r0 0)] (a_new (k, u, g, t) 5 0 9) else none := by
  refine (X_iload_n (m := 10) (pc := 15) (n := 1) (by decide +kernel) rfl).trans ?_
  refine (X_bipush (m := 10) (pc := 16) (n := 8) (by decide +kernel) ).trans ?_
  refine (X_ic_ge (m := 10) (pc := 18) (off := 22) (tg := 40) (by decide +kernel) (by decide +kernel)).trans ?_
  refine ite_congr rfl (fun _ => ?_) (fun _ => ?_)
  · exact X_return (m := 10) (pc := 40) (by decide +kernel) (by decide +kernel)
  · refine (X_aload_n (m := 10) (pc := 21) (n := 0) (by decide +kernel) rfl).trans ?_
    refine (X_getR (m := 10) (pc := 22) (n := 11) (c := 2) (q := 0) (fi := true) (by decide +kernel) (by decide +kernel)).trans ?_
    refine ite_congr rfl (fun _ => ?_) (fun _ => rfl)
    refine (X_iload_n (m := 10) (pc := 25) (n := 1) (by decide +kernel) rfl).trans ?_
    refine (X_new (m := 10) (pc := 26) (n := 9) (c := 4) (by decide +kernel) (by decide +kernel)).trans ?_
    rfl
theorem B_X1_init_29 {k : Nat → Nat × Nat} {u : Nat → Nat → Int} {g : Nat → Nat → Nat} {t : Nat × Nat × Nat} {r0 : Nat} {x1 : Int} {q0 : Nat} {y1 : Int} {q2 : Nat} : a_X 10 29 [a_r (r0), a_i (x1)] [a_r (q2), a_i (y1), a_r (q0)] (k, u, g, t) = if (k q2).1 = 5 then (a_m 28 [a_r (q2)] (k, u, g, t)).bind (a_back 10 30 3 [a_r (r0), a_i (x1)] [a_r (q2), a_i (y1), a_r (q0)]) else none := by
  refine (X_dup (m := 10) (pc := 29)  (by decide +kernel) rfl rfl).trans ?_
  refine (X_call_sp (m := 10) (pc := 30) (q := 17) (y := 28) (n := 1) (as := [a_r (q2)]) (rest := [a_r (q2), a_i (y1), a_r (q0)]) (by decide +kernel) (by decide +kernel) (by decide +kernel) (by decide +kernel) rfl rfl (Nat.le_of_ble_eq_true rfl) (Nat.le_of_ble_eq_true rfl) rfl (by rw [show m_maxL 28 = 2 from by decide +kernel]; exact Nat.le_of_ble_eq_true rfl)).trans ?_
  exact ite_congr (by simp [a_rcv, show m_recv 28 = 5 from by decide +kernel]) (fun _ => rfl) (fun _ => rfl)
theorem B_X1_init_33 {k : Nat → Nat × Nat} {u : Nat → Nat → Int} {g : Nat → Nat → Nat} {t : Nat × Nat × Nat} {r0 : Nat} {x1 : Int} {q0 : Nat} {y1 : Int} {q2 : Nat} : a_X 10 33 [a_r (r0), a_i (x1)] [a_r (q2), a_i (y1), a_r (q0)] (k, u, g, t) = if 30 ≤ (k q0).1 ∧ (k q2).1 + 29 = (k q0).1 ∧ (k q2).1 ≠ 0 ∧ 0 ≤ (y1 : Int) ∧ (y1 : Int) < ((k q0).2 : Int) then a_X 10 15 [a_r (r0), a_i (wr (x1 + 1))] [] (k, u, (upm g q0 (y1 : Int).toNat q2), t) else none := by
  refine (X_aastore (m := 10) (pc := 33)  (by decide +kernel) ).trans ?_
  refine ite_congr rfl (fun _ => ?_) (fun _ => rfl)
  refine (X_iinc (m := 10) (pc := 34) (n := 1) (c := 1) (by decide +kernel) rfl rfl (Nat.le_of_ble_eq_true rfl) rfl).trans ?_
  refine (X_goto (m := 10) (pc := 37) (off := -22) (tg := 15) (by decide +kernel) (by decide +kernel)).trans ?_
  rfl
theorem E_X1_keep {σ : AS} {r0 : Nat} {r1 : Nat} : a_m 11 [a_r (r0), a_r (r1)] σ = a_X 11 0 [a_r (r0), a_r (r1)] [] σ := a_m_eq (by rw [a_entry, show m_maxL 11 = 2 from by decide +kernel]; rfl)
theorem B_X1_keep_0 {k : Nat → Nat × Nat} {u : Nat → Nat → Int} {g : Nat → Nat → Nat} {t : Nat × Nat × Nat} {r0 : Nat} {r1 : Nat} : a_X 11 0 [a_r (r0), a_r (r1)] [] (k, u, g, t) = if (k r0).1 = 2 then if (k r0).1 = 2 then if 30 ≤ (k (g r0 0)).1 ∧ 0 ≤ (u r0 1 : Int) ∧ (u r0 1 : Int) < ((k (g r0 0)).2 : Int) then if (k (g (g r0 0) (u r0 1 : Int).toNat)).1 = 5 then (a_m 29 [a_r (g (g r0 0) (u r0 1 : Int).toNat), a_r (r1)] (k, u, g, t)).bind (a_back 11 10 3 [a_r (r0), a_r (r1)] []) else none else none else none else none := by
  refine (X_aload_n (m := 11) (pc := 0) (n := 0) (by decide +kernel) rfl).trans ?_
  refine (X_getR (m := 11) (pc := 1) (n := 11) (c := 2) (q := 0) (fi := true) (by decide +kernel) (by decide +kernel)).trans ?_
  refine ite_congr rfl (fun _ => ?_) (fun _ => rfl)
  refine (X_aload_n (m := 11) (pc := 4) (n := 0) (by decide +kernel) rfl).trans ?_
  refine (X_getI (m := 11) (pc := 5) (n := 18) (c := 2) (q := 1) (ty := 1) (fi := false) (by decide +kernel) (by decide +kernel) (by decide +kernel)).trans ?_
  refine ite_congr rfl (fun _ => ?_) (fun _ => rfl)
  refine (X_aaload (m := 11) (pc := 8)  (by decide +kernel) ).trans ?_
  refine ite_congr rfl (fun _ => ?_) (fun _ => rfl)
  refine (X_aload_n (m := 11) (pc := 9) (n := 1) (by decide +kernel) rfl).trans ?_
  refine (X_call_vi (m := 11) (pc := 10) (q := 22) (y := 29) (n := 2) (as := [a_r (g (g r0 0) (u r0 1 : Int).toNat), a_r (r1)]) (rest := []) (by decide +kernel) (by decide +kernel) (by decide +kernel) (by decide +kernel) rfl rfl (Nat.le_of_ble_eq_true rfl) (Nat.le_of_ble_eq_true rfl) rfl (by rw [show m_maxL 29 = 3 from by decide +kernel]; exact Nat.le_of_ble_eq_true rfl)).trans ?_
  exact ite_congr (by simp [a_rcv, show m_recv 29 = 5 from by decide +kernel]) (fun _ => rfl) (fun _ => rfl)
theorem B_X1_keep_13 {k : Nat → Nat × Nat} {u : Nat → Nat → Int} {g : Nat → Nat → Nat} {t : Nat × Nat × Nat} {r0 : Nat} {r1 : Nat} : a_X 11 13 [a_r (r0), a_r (r1)] [] (k, u, g, t) = if (k r0).1 = 2 then if (wr ((u r0 1) + 1) : Int) ≥ (8 : Int) then if (k r0).1 = 2 then if (k r0).1 = 2 then if (k r0).1 = 2 then some (.inl none, (k, (upm (upm u r0 1 0) r0 2 (min (wr (((upm u r0 1 0) r0 2) + 1)) (8))), g, t)) else none else none else none else if (k r0).1 = 2 then if (k r0).1 = 2 then if (k r0).1 = 2 then if (k r0).1 = 2 then some (.inl none, (k, (upm (upm u r0 1 (wr ((u r0 1) + 1))) r0 2 (min (wr (((upm u r0 1 (wr ((u r0 1) + 1))) r0 2) + 1)) (8))), g, t)) else none else none else none else none else none := by
  refine (X_aload_n (m := 11) (pc := 13) (n := 0) (by decide +kernel) rfl).trans ?_
  refine (X_aload_n (m := 11) (pc := 14) (n := 0) (by decide +kernel) rfl).trans ?_
  refine (X_getI (m := 11) (pc := 15) (n := 18) (c := 2) (q := 1) (ty := 1) (fi := false) (by decide +kernel) (by decide +kernel) (by decide +kernel)).trans ?_
  refine ite_congr rfl (fun _ => ?_) (fun _ => rfl)
  refine (X_iconst (m := 11) (pc := 18) (n := 1) (by decide +kernel) ).trans ?_
  refine (X_iadd (m := 11) (pc := 19)  (by decide +kernel) ).trans ?_
  refine (X_bipush (m := 11) (pc := 20) (n := 8) (by decide +kernel) ).trans ?_
  refine (X_ic_ge (m := 11) (pc := 22) (off := 12) (tg := 34) (by decide +kernel) (by decide +kernel)).trans ?_
  refine ite_congr rfl (fun _ => ?_) (fun _ => ?_)
  · refine (X_iconst (m := 11) (pc := 34) (n := 0) (by decide +kernel) ).trans ?_
    refine (X_putI (m := 11) (pc := 35) (n := 18) (c := 2) (q := 1) (fi := false) (by decide +kernel) (by decide +kernel) (fun h => by cases h) (by decide +kernel)).trans ?_
    refine ite_congr rfl (fun _ => ?_) (fun _ => rfl)
    refine (X_aload_n (m := 11) (pc := 38) (n := 0) (by decide +kernel) rfl).trans ?_
    refine (X_aload_n (m := 11) (pc := 39) (n := 0) (by decide +kernel) rfl).trans ?_
    refine (X_getI (m := 11) (pc := 40) (n := 26) (c := 2) (q := 2) (ty := 1) (fi := false) (by decide +kernel) (by decide +kernel) (by decide +kernel)).trans ?_
    refine ite_congr rfl (fun _ => ?_) (fun _ => rfl)
    refine (X_iconst (m := 11) (pc := 43) (n := 1) (by decide +kernel) ).trans ?_
    refine (X_iadd (m := 11) (pc := 44)  (by decide +kernel) ).trans ?_
    refine (X_bipush (m := 11) (pc := 45) (n := 8) (by decide +kernel) ).trans ?_
    refine (X_min (m := 11) (pc := 47) (q := 29) (by decide +kernel) (by decide +kernel) (Nat.le_of_ble_eq_true rfl)).trans ?_
    refine (X_putI (m := 11) (pc := 50) (n := 26) (c := 2) (q := 2) (fi := false) (by decide +kernel) (by decide +kernel) (fun h => by cases h) (by decide +kernel)).trans ?_
    refine ite_congr rfl (fun _ => ?_) (fun _ => rfl)
    exact X_return (m := 11) (pc := 53) (by decide +kernel) (by decide +kernel)
  · refine (X_aload_n (m := 11) (pc := 25) (n := 0) (by decide +kernel) rfl).trans ?_
    refine (X_getI (m := 11) (pc := 26) (n := 18) (c := 2) (q := 1) (ty := 1) (fi := false) (by decide +kernel) (by decide +kernel) (by decide +kernel)).trans ?_
    refine ite_congr rfl (fun _ => ?_) (fun _ => rfl)
    refine (X_iconst (m := 11) (pc := 29) (n := 1) (by decide +kernel) ).trans ?_
    refine (X_iadd (m := 11) (pc := 30)  (by decide +kernel) ).trans ?_
    refine (X_goto (m := 11) (pc := 31) (off := 4) (tg := 35) (by decide +kernel) (by decide +kernel)).trans ?_
    refine (X_putI (m := 11) (pc := 35) (n := 18) (c := 2) (q := 1) (fi := false) (by decide +kernel) (by decide +kernel) (fun h => by cases h) (by decide +kernel)).trans ?_
    refine ite_congr rfl (fun _ => ?_) (fun _ => rfl)
    refine (X_aload_n (m := 11) (pc := 38) (n := 0) (by decide +kernel) rfl).trans ?_
    refine (X_aload_n (m := 11) (pc := 39) (n := 0) (by decide +kernel) rfl).trans ?_
    refine (X_getI (m := 11) (pc := 40) (n := 26) (c := 2) (q := 2) (ty := 1) (fi := false) (by decide +kernel) (by decide +kernel) (by decide +kernel)).trans ?_
    refine ite_congr rfl (fun _ => ?_) (fun _ => rfl)
    refine (X_iconst (m := 11) (pc := 43) (n := 1) (by decide +kernel) ).trans ?_
    refine (X_iadd (m := 11) (pc := 44)  (by decide +kernel) ).trans ?_
    refine (X_bipush (m := 11) (pc := 45) (n := 8) (by decide +kernel) ).trans ?_
    refine (X_min (m := 11) (pc := 47) (q := 29) (by decide +kernel) (by decide +kernel) (Nat.le_of_ble_eq_true rfl)).trans ?_
    refine (X_putI (m := 11) (pc := 50) (n := 26) (c := 2) (q := 2) (fi := false) (by decide +kernel) (by decide +kernel) (fun h => by cases h) (by decide +kernel)).trans ?_
    refine ite_congr rfl (fun _ => ?_) (fun _ => rfl)
    exact X_return (m := 11) (pc := 53) (by decide +kernel) (by decide +kernel)
theorem E_X1_takeBack {σ : AS} {r0 : Nat} {r1 : Nat} : a_m 12 [a_r (r0), a_r (r1)] σ = a_X 12 0 [a_r (r0), a_r (r1)] [] σ := a_m_eq (by rw [a_entry, show m_maxL 12 = 2 from by decide +kernel]; rfl)
theorem B_X1_takeBack_0 {k : Nat → Nat × Nat} {u : Nat → Nat → Int} {g : Nat → Nat → Nat} {t : Nat × Nat × Nat} {r0 : Nat} {r1 : Nat} : a_X 12 0 [a_r (r0), a_r (r1)] [] (k, u, g, t) = if (k r0).1 = 2 then if (u r0 1 : Int) ≤ 0 then if (k r0).1 = 2 then if (k r0).1 = 2 then if (k r0).1 = 2 then if (k r0).1 = 2 then if (k r0).1 = 2 then if 30 ≤ (k (g r0 0)).1 ∧ 0 ≤ ((upm (upm u r0 1 7) r0 2 (wr (((upm u r0 1 7) r0 2) - 1))) r0 1 : Int) ∧ ((upm (upm u r0 1 7) r0 2 (wr (((upm u r0 1 7) r0 2) - 1))) r0 1 : Int) < ((k (g r0 0)).2 : Int) then if (k r1).1 = 5 then (a_m 29 [a_r (r1), a_r (g (g r0 0) ((upm (upm u r0 1 7) r0 2 (wr (((upm u r0 1 7) r0 2) - 1))) r0 1 : Int).toNat)] (k, (upm (upm u r0 1 7) r0 2 (wr (((upm u r0 1 7) r0 2) - 1))), g, t)).bind (a_back 12 42 3 [a_r (r0), a_r (r1)] []) else none else none else none else none else none else none else none else if (k r0).1 = 2 then if (k r0).1 = 2 then if (k r0).1 = 2 then if (k r0).1 = 2 then if (k r0).1 = 2 then if (k r0).1 = 2 then if 30 ≤ (k (g r0 0)).1 ∧ 0 ≤ ((upm (upm u r0 1 (wr ((u r0 1) - 1))) r0 2 (wr (((upm u r0 1 (wr ((u r0 1) - 1))) r0 2) - 1))) r0 1 : Int) ∧ ((upm (upm u r0 1 (wr ((u r0 1) - 1))) r0 2 (wr (((upm u r0 1 (wr ((u r0 1) - 1))) r0 2) - 1))) r0 1 : Int) < ((k (g r0 0)).2 : Int) then if (k r1).1 = 5 then (a_m 29 [a_r (r1), a_r (g (g r0 0) ((upm (upm u r0 1 (wr ((u r0 1) - 1))) r0 2 (wr (((upm u r0 1 (wr ((u r0 1) - 1))) r0 2) - 1))) r0 1 : Int).toNat)] (k, (upm (upm u r0 1 (wr ((u r0 1) - 1))) r0 2 (wr (((upm u r0 1 (wr ((u r0 1) - 1))) r0 2) - 1))), g, t)).bind (a_back 12 42 3 [a_r (r0), a_r (r1)] []) else none else none else none else none else none else none else none else none else none := by
  refine (X_aload_n (m := 12) (pc := 0) (n := 0) (by decide +kernel) rfl).trans ?_
  refine (X_aload_n (m := 12) (pc := 1) (n := 0) (by decide +kernel) rfl).trans ?_
  refine (X_getI (m := 12) (pc := 2) (n := 18) (c := 2) (q := 1) (ty := 1) (fi := false) (by decide +kernel) (by decide +kernel) (by decide +kernel)).trans ?_
  refine ite_congr rfl (fun _ => ?_) (fun _ => rfl)
  refine (X_if_le (m := 12) (pc := 5) (off := 12) (tg := 17) (by decide +kernel) (by decide +kernel)).trans ?_
  refine ite_congr rfl (fun _ => ?_) (fun _ => ?_)
  · refine (X_bipush (m := 12) (pc := 17) (n := 7) (by decide +kernel) ).trans ?_
    refine (X_putI (m := 12) (pc := 19) (n := 18) (c := 2) (q := 1) (fi := false) (by decide +kernel) (by decide +kernel) (fun h => by cases h) (by decide +kernel)).trans ?_
    refine ite_congr rfl (fun _ => ?_) (fun _ => rfl)
    refine (X_aload_n (m := 12) (pc := 22) (n := 0) (by decide +kernel) rfl).trans ?_
    refine (X_dup (m := 12) (pc := 23)  (by decide +kernel) rfl rfl).trans ?_
    refine (X_getI (m := 12) (pc := 24) (n := 26) (c := 2) (q := 2) (ty := 1) (fi := false) (by decide +kernel) (by decide +kernel) (by decide +kernel)).trans ?_
    refine ite_congr rfl (fun _ => ?_) (fun _ => rfl)
    refine (X_iconst (m := 12) (pc := 27) (n := 1) (by decide +kernel) ).trans ?_
    refine (X_isub (m := 12) (pc := 28)  (by decide +kernel) ).trans ?_
    refine (X_putI (m := 12) (pc := 29) (n := 26) (c := 2) (q := 2) (fi := false) (by decide +kernel) (by decide +kernel) (fun h => by cases h) (by decide +kernel)).trans ?_
    refine ite_congr rfl (fun _ => ?_) (fun _ => rfl)
    refine (X_aload_n (m := 12) (pc := 32) (n := 1) (by decide +kernel) rfl).trans ?_
    refine (X_aload_n (m := 12) (pc := 33) (n := 0) (by decide +kernel) rfl).trans ?_
    refine (X_getR (m := 12) (pc := 34) (n := 11) (c := 2) (q := 0) (fi := true) (by decide +kernel) (by decide +kernel)).trans ?_
    refine ite_congr rfl (fun _ => ?_) (fun _ => rfl)
    refine (X_aload_n (m := 12) (pc := 37) (n := 0) (by decide +kernel) rfl).trans ?_
    refine (X_getI (m := 12) (pc := 38) (n := 18) (c := 2) (q := 1) (ty := 1) (fi := false) (by decide +kernel) (by decide +kernel) (by decide +kernel)).trans ?_
    refine ite_congr rfl (fun _ => ?_) (fun _ => rfl)
    refine (X_aaload (m := 12) (pc := 41)  (by decide +kernel) ).trans ?_
    refine ite_congr rfl (fun _ => ?_) (fun _ => rfl)
    refine (X_call_vi (m := 12) (pc := 42) (q := 22) (y := 29) (n := 2) (as := [a_r (r1), a_r (g (g r0 0) ((upm (upm u r0 1 7) r0 2 (wr (((upm u r0 1 7) r0 2) - 1))) r0 1 : Int).toNat)]) (rest := []) (by decide +kernel) (by decide +kernel) (by decide +kernel) (by decide +kernel) rfl rfl (Nat.le_of_ble_eq_true rfl) (Nat.le_of_ble_eq_true rfl) rfl (by rw [show m_maxL 29 = 3 from by decide +kernel]; exact Nat.le_of_ble_eq_true rfl)).trans ?_
    exact ite_congr (by simp [a_rcv, show m_recv 29 = 5 from by decide +kernel]) (fun _ => rfl) (fun _ => rfl)
  · refine (X_aload_n (m := 12) (pc := 8) (n := 0) (by decide +kernel) rfl).trans ?_
    refine (X_getI (m := 12) (pc := 9) (n := 18) (c := 2) (q := 1) (ty := 1) (fi := false) (by decide +kernel) (by decide +kernel) (by decide +kernel)).trans ?_
    refine ite_congr rfl (fun _ => ?_) (fun _ => rfl)
    refine (X_iconst (m := 12) (pc := 12) (n := 1) (by decide +kernel) ).trans ?_
    refine (X_isub (m := 12) (pc := 13)  (by decide +kernel) ).trans ?_
    refine (X_goto (m := 12) (pc := 14) (off := 5) (tg := 19) (by decide +kernel) (by decide +kernel)).trans ?_
    refine (X_putI (m := 12) (pc := 19) (n := 18) (c := 2) (q := 1) (fi := false) (by decide +kernel) (by decide +kernel) (fun h => by cases h) (by decide +kernel)).trans ?_
    refine ite_congr rfl (fun _ => ?_) (fun _ => rfl)
    refine (X_aload_n (m := 12) (pc := 22) (n := 0) (by decide +kernel) rfl).trans ?_
    refine (X_dup (m := 12) (pc := 23)  (by decide +kernel) rfl rfl).trans ?_
    refine (X_getI (m := 12) (pc := 24) (n := 26) (c := 2) (q := 2) (ty := 1) (fi := false) (by decide +kernel) (by decide +kernel) (by decide +kernel)).trans ?_
    refine ite_congr rfl (fun _ => ?_) (fun _ => rfl)
    refine (X_iconst (m := 12) (pc := 27) (n := 1) (by decide +kernel) ).trans ?_
    refine (X_isub (m := 12) (pc := 28)  (by decide +kernel) ).trans ?_
    refine (X_putI (m := 12) (pc := 29) (n := 26) (c := 2) (q := 2) (fi := false) (by decide +kernel) (by decide +kernel) (fun h => by cases h) (by decide +kernel)).trans ?_
    refine ite_congr rfl (fun _ => ?_) (fun _ => rfl)
    refine (X_aload_n (m := 12) (pc := 32) (n := 1) (by decide +kernel) rfl).trans ?_
    refine (X_aload_n (m := 12) (pc := 33) (n := 0) (by decide +kernel) rfl).trans ?_
    refine (X_getR (m := 12) (pc := 34) (n := 11) (c := 2) (q := 0) (fi := true) (by decide +kernel) (by decide +kernel)).trans ?_
    refine ite_congr rfl (fun _ => ?_) (fun _ => rfl)
    refine (X_aload_n (m := 12) (pc := 37) (n := 0) (by decide +kernel) rfl).trans ?_
    refine (X_getI (m := 12) (pc := 38) (n := 18) (c := 2) (q := 1) (ty := 1) (fi := false) (by decide +kernel) (by decide +kernel) (by decide +kernel)).trans ?_
    refine ite_congr rfl (fun _ => ?_) (fun _ => rfl)
    refine (X_aaload (m := 12) (pc := 41)  (by decide +kernel) ).trans ?_
    refine ite_congr rfl (fun _ => ?_) (fun _ => rfl)
    refine (X_call_vi (m := 12) (pc := 42) (q := 22) (y := 29) (n := 2) (as := [a_r (r1), a_r (g (g r0 0) ((upm (upm u r0 1 (wr ((u r0 1) - 1))) r0 2 (wr (((upm u r0 1 (wr ((u r0 1) - 1))) r0 2) - 1))) r0 1 : Int).toNat)]) (rest := []) (by decide +kernel) (by decide +kernel) (by decide +kernel) (by decide +kernel) rfl rfl (Nat.le_of_ble_eq_true rfl) (Nat.le_of_ble_eq_true rfl) rfl (by rw [show m_maxL 29 = 3 from by decide +kernel]; exact Nat.le_of_ble_eq_true rfl)).trans ?_
    exact ite_congr (by simp [a_rcv, show m_recv 29 = 5 from by decide +kernel]) (fun _ => rfl) (fun _ => rfl)
theorem B_X1_takeBack_45 {k : Nat → Nat × Nat} {u : Nat → Nat → Int} {g : Nat → Nat → Nat} {t : Nat × Nat × Nat} {r0 : Nat} {r1 : Nat} : a_X 12 45 [a_r (r0), a_r (r1)] [] (k, u, g, t) = some (.inl none, (k, u, g, t)) := by
  exact X_return (m := 12) (pc := 45) (by decide +kernel) (by decide +kernel)
theorem E_X1_forget {σ : AS} {r0 : Nat} : a_m 13 [a_r (r0)] σ = a_X 13 0 [a_r (r0)] [] σ := a_m_eq (by rw [a_entry, show m_maxL 13 = 1 from by decide +kernel]; rfl)
theorem B_X1_forget_0 {k : Nat → Nat × Nat} {u : Nat → Nat → Int} {g : Nat → Nat → Nat} {t : Nat × Nat × Nat} {r0 : Nat} : a_X 13 0 [a_r (r0)] [] (k, u, g, t) = if (k r0).1 = 2 then some (.inl none, (k, (upm u r0 2 0), g, t)) else none := by
  refine (X_aload_n (m := 13) (pc := 0) (n := 0) (by decide +kernel) rfl).trans ?_
  refine (X_iconst (m := 13) (pc := 1) (n := 0) (by decide +kernel) ).trans ?_
  refine (X_putI (m := 13) (pc := 2) (n := 26) (c := 2) (q := 2) (fi := false) (by decide +kernel) (by decide +kernel) (fun h => by cases h) (by decide +kernel)).trans ?_
  refine ite_congr rfl (fun _ => ?_) (fun _ => rfl)
  exact X_return (m := 13) (pc := 5) (by decide +kernel) (by decide +kernel)
theorem E_X2_init {σ : AS} {r0 : Nat} : a_m 14 [a_r (r0)] σ = a_X 14 0 [a_r (r0)] [] σ := a_m_eq (by rw [a_entry, show m_maxL 14 = 1 from by decide +kernel]; rfl)
theorem B_X2_init_0 {k : Nat → Nat × Nat} {u : Nat → Nat → Int} {g : Nat → Nat → Nat} {t : Nat × Nat × Nat} {r0 : Nat} : a_X 14 0 [a_r (r0)] [] (k, u, g, t) = if (k r0).1 ≠ 0 then if 0 ≤ (4 : Int) ∧ (4 : Int) ≤ 65536 then a_X 14 8 [a_r (r0)] [a_r (t.1), a_r (r0)] (a_new (k, u, g, t) 20 (4 : Int).toNat (4 : Int).toNat) else none else none := by
  refine (X_aload_n (m := 14) (pc := 0) (n := 0) (by decide +kernel) rfl).trans ?_
  refine (X_objinit (m := 14) (pc := 1) (q := 3) (by decide +kernel) (by decide +kernel) (Nat.le_of_ble_eq_true rfl)).trans ?_
  refine ite_congr rfl (fun _ => ?_) (fun _ => rfl)
  refine (X_aload_n (m := 14) (pc := 4) (n := 0) (by decide +kernel) rfl).trans ?_
  refine (X_iconst (m := 14) (pc := 5) (n := 4) (by decide +kernel) ).trans ?_
  refine (X_newa_int (m := 14) (pc := 6)  (by decide +kernel) ).trans ?_
  refine ite_congr rfl (fun _ => ?_) (fun _ => rfl)
  rfl
theorem B_X2_init_8 {k : Nat → Nat × Nat} {u : Nat → Nat → Int} {g : Nat → Nat → Nat} {t : Nat × Nat × Nat} {r0 : Nat} {q0 : Nat} {q1 : Nat} : a_X 14 8 [a_r (r0)] [a_r (q1), a_r (q0)] (k, u, g, t) = if (k q0).1 = 3 then if 0 ≤ (4 : Int) ∧ (4 : Int) ≤ 65536 then a_X 14 15 [a_r (r0)] [a_r (t.1), a_r (r0)] (a_new (k, u, (upm g q0 2 q1), t) 20 (4 : Int).toNat (4 : Int).toNat) else none else none := by
  refine (X_putR (m := 14) (pc := 8) (n := 9) (c := 3) (q := 2) (fi := true) (by decide +kernel) (by decide +kernel) (fun _ => (by decide +kernel)) (by decide +kernel)).trans ?_
  refine ite_congr rfl (fun _ => ?_) (fun _ => rfl)
  refine (X_aload_n (m := 14) (pc := 11) (n := 0) (by decide +kernel) rfl).trans ?_
  refine (X_iconst (m := 14) (pc := 12) (n := 4) (by decide +kernel) ).trans ?_
  refine (X_newa_int (m := 14) (pc := 13)  (by decide +kernel) ).trans ?_
  refine ite_congr rfl (fun _ => ?_) (fun _ => rfl)
  rfl
theorem B_X2_init_15 {k : Nat → Nat × Nat} {u : Nat → Nat → Int} {g : Nat → Nat → Nat} {t : Nat × Nat × Nat} {r0 : Nat} {q0 : Nat} {q1 : Nat} : a_X 14 15 [a_r (r0)] [a_r (q1), a_r (q0)] (k, u, g, t) = if (k q0).1 = 3 then if 0 ≤ (12 : Int) ∧ (12 : Int) ≤ 65536 then a_X 14 23 [a_r (r0)] [a_r (t.1), a_r (r0)] (a_new (k, u, (upm g q0 3 q1), t) 20 (12 : Int).toNat (12 : Int).toNat) else none else none := by
  refine (X_putR (m := 14) (pc := 15) (n := 15) (c := 3) (q := 3) (fi := true) (by decide +kernel) (by decide +kernel) (fun _ => (by decide +kernel)) (by decide +kernel)).trans ?_
  refine ite_congr rfl (fun _ => ?_) (fun _ => rfl)
  refine (X_aload_n (m := 14) (pc := 18) (n := 0) (by decide +kernel) rfl).trans ?_
  refine (X_bipush (m := 14) (pc := 19) (n := 12) (by decide +kernel) ).trans ?_
  refine (X_newa_int (m := 14) (pc := 21)  (by decide +kernel) ).trans ?_
  refine ite_congr rfl (fun _ => ?_) (fun _ => rfl)
  rfl
theorem B_X2_init_23 {k : Nat → Nat × Nat} {u : Nat → Nat → Int} {g : Nat → Nat → Nat} {t : Nat × Nat × Nat} {r0 : Nat} {q0 : Nat} {q1 : Nat} : a_X 14 23 [a_r (r0)] [a_r (q1), a_r (q0)] (k, u, g, t) = if (k q0).1 = 3 then some (.inl none, (k, u, (upm g q0 4 q1), t)) else none := by
  refine (X_putR (m := 14) (pc := 23) (n := 18) (c := 3) (q := 4) (fi := true) (by decide +kernel) (by decide +kernel) (fun _ => (by decide +kernel)) (by decide +kernel)).trans ?_
  refine ite_congr rfl (fun _ => ?_) (fun _ => rfl)
  exact X_return (m := 14) (pc := 26) (by decide +kernel) (by decide +kernel)
theorem E_X2_copyFrom {σ : AS} {r0 : Nat} {r1 : Nat} : a_m 15 [a_r (r0), a_r (r1)] σ = a_X 15 0 [a_r (r0), a_r (r1)] [] σ := a_m_eq (by rw [a_entry, show m_maxL 15 = 2 from by decide +kernel]; rfl)
theorem B_X2_copyFrom_0 {k : Nat → Nat × Nat} {u : Nat → Nat → Int} {g : Nat → Nat → Nat} {t : Nat × Nat × Nat} {r0 : Nat} {r1 : Nat} : a_X 15 0 [a_r (r0), a_r (r1)] [] (k, u, g, t) = if (k r1).1 = 3 then if (k r0).1 = 3 then if (k r1).1 = 3 then if (k r0).1 = 3 then if (k r1).1 = 3 then if (k r0).1 = 3 then if (g r1 2) ≠ (g r0 2) ∧ (k (g r1 2)).1 = 20 ∧ (k (g r0 2)).1 = 20 ∧ 0 ≤ (0 : Int) ∧ 0 ≤ (0 : Int) ∧ 0 ≤ (4 : Int) ∧ (0 : Int) + (4 : Int) ≤ ((k (g r1 2)).2 : Int) ∧ (0 : Int) + (4 : Int) ≤ ((k (g r0 2)).2 : Int) then if (k r1).1 = 3 then if (k r0).1 = 3 then if (g r1 3) ≠ (g r0 3) ∧ (k (g r1 3)).1 = 20 ∧ (k (g r0 3)).1 = 20 ∧ 0 ≤ (0 : Int) ∧ 0 ≤ (0 : Int) ∧ 0 ≤ (4 : Int) ∧ (0 : Int) + (4 : Int) ≤ ((k (g r1 3)).2 : Int) ∧ (0 : Int) + (4 : Int) ≤ ((k (g r0 3)).2 : Int) then if (k r1).1 = 3 then if (k r0).1 = 3 then if (g r1 4) ≠ (g r0 4) ∧ (k (g r1 4)).1 = 20 ∧ (k (g r0 4)).1 = 20 ∧ 0 ≤ (0 : Int) ∧ 0 ≤ (0 : Int) ∧ 0 ≤ (12 : Int) ∧ (0 : Int) + (12 : Int) ≤ ((k (g r1 4)).2 : Int) ∧ (0 : Int) + (12 : Int) ≤ ((k (g r0 4)).2 : Int) then if (k r1).1 = 3 then if (k r0).1 = 3 then if (k r1).1 = 3 then if (k r0).1 = 3 then if (k r1).1 = 3 then if (k r0).1 = 3 then if (k r1).1 = 3 then if (k r0).1 = 3 then if (k r1).1 = 3 then if (k r0).1 = 3 then some (.inl none, (k, (upm (upm (upm (upm (upm (upr (upr (upr (upm (upm u r0 0 (u r1 0)) r0 1 ((upm u r0 0 (u r1 0)) r1 1)) (g r0 2) (a_cpy ((upm (upm u r0 0 (u r1 0)) r0 1 ((upm u r0 0 (u r1 0)) r1 1)) (g r1 2)) ((upm (upm u r0 0 (u r1 0)) r0 1 ((upm u r0 0 (u r1 0)) r1 1)) (g r0 2)) (0 : Int).toNat (0 : Int).toNat (4 : Int).toNat)) (g r0 3) (a_cpy ((upr (upm (upm u r0 0 (u r1 0)) r0 1 ((upm u r0 0 (u r1 0)) r1 1)) (g r0 2) (a_cpy ((upm (upm u r0 0 (u r1 0)) r0 1 ((upm u r0 0 (u r1 0)) r1 1)) (g r1 2)) ((upm (upm u r0 0 (u r1 0)) r0 1 ((upm u r0 0 (u r1 0)) r1 1)) (g r0 2)) (0 : Int).toNat (0 : Int).toNat (4 : Int).toNat)) (g r1 3)) ((upr (upm (upm u r0 0 (u r1 0)) r0 1 ((upm u r0 0 (u r1 0)) r1 1)) (g r0 2) (a_cpy ((upm (upm u r0 0 (u r1 0)) r0 1 ((upm u r0 0 (u r1 0)) r1 1)) (g r1 2)) ((upm (upm u r0 0 (u r1 0)) r0 1 ((upm u r0 0 (u r1 0)) r1 1)) (g r0 2)) (0 : Int).toNat (0 : Int).toNat (4 : Int).toNat)) (g r0 3)) (0 : Int).toNat (0 : Int).toNat (4 : Int).toNat)) (g r0 4) (a_cpy ((upr (upr (upm (upm u r0 0 (u r1 0)) r0 1 ((upm u r0 0 (u r1 0)) r1 1)) (g r0 2) (a_cpy ((upm (upm u r0 0 (u r1 0)) r0 1 ((upm u r0 0 (u r1 0)) r1 1)) (g r1 2)) ((upm (upm u r0 0 (u r1 0)) r0 1 ((upm u r0 0 (u r1 0)) r1 1)) (g r0 2)) (0 : Int).toNat (0 : Int).toNat (4 : Int).toNat)) (g r0 3) (a_cpy ((upr (upm (upm u r0 0 (u r1 0)) r0 1 ((upm u r0 0 (u r1 0)) r1 1)) (g r0 2) (a_cpy ((upm (upm u r0 0 (u r1 0)) r0 1 ((upm u r0 0 (u r1 0)) r1 1)) (g r1 2)) ((upm (upm u r0 0 (u r1 0)) r0 1 ((upm u r0 0 (u r1 0)) r1 1)) (g r0 2)) (0 : Int).toNat (0 : Int).toNat (4 : Int).toNat)) (g r1 3)) ((upr (upm (upm u r0 0 (u r1 0)) r0 1 ((upm u r0 0 (u r1 0)) r1 1)) (g r0 2) (a_cpy ((upm (upm u r0 0 (u r1 0)) r0 1 ((upm u r0 0 (u r1 0)) r1 1)) (g r1 2)) ((upm (upm u r0 0 (u r1 0)) r0 1 ((upm u r0 0 (u r1 0)) r1 1)) (g r0 2)) (0 : Int).toNat (0 : Int).toNat (4 : Int).toNat)) (g r0 3)) (0 : Int).toNat (0 : Int).toNat (4 : Int).toNat)) (g r1 4)) ((upr (upr (upm (upm u r0 0 (u r1 0)) r0 1 ((upm u r0 0 (u r1 0)) r1 1)) (g r0 2) (a_cpy ((upm (upm u r0 0 (u r1 0)) r0 1 ((upm u r0 0 (u r1 0)) r1 1)) (g r1 2)) ((upm (upm u r0 0 (u r1 0)) r0 1 ((upm u r0 0 (u r1 0)) r1 1)) (g r0 2)) (0 : Int).toNat (0 : Int).toNat (4 : Int).toNat)) (g r0 3) (a_cpy ((upr (upm (upm u r0 0 (u r1 0)) r0 1 ((upm u r0 0 (u r1 0)) r1 1)) (g r0 2) (a_cpy ((upm (upm u r0 0 (u r1 0)) r0 1 ((upm u r0 0 (u r1 0)) r1 1)) (g r1 2)) ((upm (upm u r0 0 (u r1 0)) r0 1 ((upm u r0 0 (u r1 0)) r1 1)) (g r0 2)) (0 : Int).toNat (0 : Int).toNat (4 : Int).toNat)) (g r1 3)) ((upr (upm (upm u r0 0 (u r1 0)) r0 1 ((upm u r0 0 (u r1 0)) r1 1)) (g r0 2) (a_cpy ((upm (upm u r0 0 (u r1 0)) r0 1 ((upm u r0 0 (u r1 0)) r1 1)) (g r1 2)) ((upm (upm u r0 0 (u r1 0)) r0 1 ((upm u r0 0 (u r1 0)) r1 1)) (g r0 2)) (0 : Int).toNat (0 : Int).toNat (4 : Int).toNat)) (g r0 3)) (0 : Int).toNat (0 : Int).toNat (4 : Int).toNat)) (g r0 4)) (0 : Int).toNat (0 : Int).toNat (12 : Int).toNat)) r0 5 ((upr (upr (upr (upm (upm u r0 0 (u r1 0)) r0 1 ((upm u r0 0 (u r1 0)) r1 1)) (g r0 2) (a_cpy ((upm (upm u r0 0 (u r1 0)) r0 1 ((upm u r0 0 (u r1 0)) r1 1)) (g r1 2)) ((upm (upm u r0 0 (u r1 0)) r0 1 ((upm u r0 0 (u r1 0)) r1 1)) (g r0 2)) (0 : Int).toNat (0 : Int).toNat (4 : Int).toNat)) (g r0 3) (a_cpy ((upr (upm (upm u r0 0 (u r1 0)) r0 1 ((upm u r0 0 (u r1 0)) r1 1)) (g r0 2) (a_cpy ((upm (upm u r0 0 (u r1 0)) r0 1 ((upm u r0 0 (u r1 0)) r1 1)) (g r1 2)) ((upm (upm u r0 0 (u r1 0)) r0 1 ((upm u r0 0 (u r1 0)) r1 1)) (g r0 2)) (0 : Int).toNat (0 : Int).toNat (4 : Int).toNat)) (g r1 3)) ((upr (upm (upm u r0 0 (u r1 0)) r0 1 ((upm u r0 0 (u r1 0)) r1 1)) (g r0 2) (a_cpy ((upm (upm u r0 0 (u r1 0)) r0 1 ((upm u r0 0 (u r1 0)) r1 1)) (g r1 2)) ((upm (upm u r0 0 (u r1 0)) r0 1 ((upm u r0 0 (u r1 0)) r1 1)) (g r0 2)) (0 : Int).toNat (0 : Int).toNat (4 : Int).toNat)) (g r0 3)) (0 : Int).toNat (0 : Int).toNat (4 : Int).toNat)) (g r0 4) (a_cpy ((upr (upr (upm (upm u r0 0 (u r1 0)) r0 1 ((upm u r0 0 (u r1 0)) r1 1)) (g r0 2) (a_cpy ((upm (upm u r0 0 (u r1 0)) r0 1 ((upm u r0 0 (u r1 0)) r1 1)) (g r1 2)) ((upm (upm u r0 0 (u r1 0)) r0 1 ((upm u r0 0 (u r1 0)) r1 1)) (g r0 2)) (0 : Int).toNat (0 : Int).toNat (4 : Int).toNat)) (g r0 3) (a_cpy ((upr (upm (upm u r0 0 (u r1 0)) r0 1 ((upm u r0 0 (u r1 0)) r1 1)) (g r0 2) (a_cpy ((upm (upm u r0 0 (u r1 0)) r0 1 ((upm u r0 0 (u r1 0)) r1 1)) (g r1 2)) ((upm (upm u r0 0 (u r1 0)) r0 1 ((upm u r0 0 (u r1 0)) r1 1)) (g r0 2)) (0 : Int).toNat (0 : Int).toNat (4 : Int).toNat)) (g r1 3)) ((upr (upm (upm u r0 0 (u r1 0)) r0 1 ((upm u r0 0 (u r1 0)) r1 1)) (g r0 2) (a_cpy ((upm (upm u r0 0 (u r1 0)) r0 1 ((upm u r0 0 (u r1 0)) r1 1)) (g r1 2)) ((upm (upm u r0 0 (u r1 0)) r0 1 ((upm u r0 0 (u r1 0)) r1 1)) (g r0 2)) (0 : Int).toNat (0 : Int).toNat (4 : Int).toNat)) (g r0 3)) (0 : Int).toNat (0 : Int).toNat (4 : Int).toNat)) (g r1 4)) ((upr (upr (upm (upm u r0 0 (u r1 0)) r0 1 ((upm u r0 0 (u r1 0)) r1 1)) (g r0 2) (a_cpy ((upm (upm u r0 0 (u r1 0)) r0 1 ((upm u r0 0 (u r1 0)) r1 1)) (g r1 2)) ((upm (upm u r0 0 (u r1 0)) r0 1 ((upm u r0 0 (u r1 0)) r1 1)) (g r0 2)) (0 : Int).toNat (0 : Int).toNat (4 : Int).toNat)) (g r0 3) (a_cpy ((upr (upm (upm u r0 0 (u r1 0)) r0 1 ((upm u r0 0 (u r1 0)) r1 1)) (g r0 2) (a_cpy ((upm (upm u r0 0 (u r1 0)) r0 1 ((upm u r0 0 (u r1 0)) r1 1)) (g r1 2)) ((upm (upm u r0 0 (u r1 0)) r0 1 ((upm u r0 0 (u r1 0)) r1 1)) (g r0 2)) (0 : Int).toNat (0 : Int).toNat (4 : Int).toNat)) (g r1 3)) ((upr (upm (upm u r0 0 (u r1 0)) r0 1 ((upm u r0 0 (u r1 0)) r1 1)) (g r0 2) (a_cpy ((upm (upm u r0 0 (u r1 0)) r0 1 ((upm u r0 0 (u r1 0)) r1 1)) (g r1 2)) ((upm (upm u r0 0 (u r1 0)) r0 1 ((upm u r0 0 (u r1 0)) r1 1)) (g r0 2)) (0 : Int).toNat (0 : Int).toNat (4 : Int).toNat)) (g r0 3)) (0 : Int).toNat (0 : Int).toNat (4 : Int).toNat)) (g r0 4)) (0 : Int).toNat (0 : Int).toNat (12 : Int).toNat)) r1 5)) r0 6 ((upm (upr (upr (upr (upm (upm u r0 0 (u r1 0)) r0 1 ((upm u r0 0 (u r1 0)) r1 1)) (g r0 2) (a_cpy ((upm (upm u r0 0 (u r1 0)) r0 1 ((upm u r0 0 (u r1 0)) r1 1)) (g r1 2)) ((upm (upm u r0 0 (u r1 0)) r0 1 ((upm u r0 0 (u r1 0)) r1 1)) (g r0 2)) (0 : Int).toNat (0 : Int).toNat (4 : Int).toNat)) (g r0 3) (a_cpy ((upr (upm (upm u r0 0 (u r1 0)) r0 1 ((upm u r0 0 (u r1 0)) r1 1)) (g r0 2) (a_cpy ((upm (upm u r0 0 (u r1 0)) r0 1 ((upm u r0 0 (u r1 0)) r1 1)) (g r1 2)) ((upm (upm u r0 0 (u r1 0)) r0 1 ((upm u r0 0 (u r1 0)) r1 1)) (g r0 2)) (0 : Int).toNat (0 : Int).toNat (4 : Int).toNat)) (g r1 3)) ((upr (upm (upm u r0 0 (u r1 0)) r0 1 ((upm u r0 0 (u r1 0)) r1 1)) (g r0 2) (a_cpy ((upm (upm u r0 0 (u r1 0)) r0 1 ((upm u r0 0 (u r1 0)) r1 1)) (g r1 2)) ((upm (upm u r0 0 (u r1 0)) r0 1 ((upm u r0 0 (u r1 0)) r1 1)) (g r0 2)) (0 : Int).toNat (0 : Int).toNat (4 : Int).toNat)) (g r0 3)) (0 : Int).toNat (0 : Int).toNat (4 : Int).toNat)) (g r0 4) (a_cpy ((upr (upr (upm (upm u r0 0 (u r1 0)) r0 1 ((upm u r0 0 (u r1 0)) r1 1)) (g r0 2) (a_cpy ((upm (upm u r0 0 (u r1 0)) r0 1 ((upm u r0 0 (u r1 0)) r1 1)) (g r1 2)) ((upm (upm u r0 0 (u r1 0)) r0 1 ((upm u r0 0 (u r1 0)) r1 1)) (g r0 2)) (0 : Int).toNat (0 : Int).toNat (4 : Int).toNat)) (g r0 3) (a_cpy ((upr (upm (upm u r0 0 (u r1 0)) r0 1 ((upm u r0 0 (u r1 0)) r1 1)) (g r0 2) (a_cpy ((upm (upm u r0 0 (u r1 0)) r0 1 ((upm u r0 0 (u r1 0)) r1 1)) (g r1 2)) ((upm (upm u r0 0 (u r1 0)) r0 1 ((upm u r0 0 (u r1 0)) r1 1)) (g r0 2)) (0 : Int).toNat (0 : Int).toNat (4 : Int).toNat)) (g r1 3)) ((upr (upm (upm u r0 0 (u r1 0)) r0 1 ((upm u r0 0 (u r1 0)) r1 1)) (g r0 2) (a_cpy ((upm (upm u r0 0 (u r1 0)) r0 1 ((upm u r0 0 (u r1 0)) r1 1)) (g r1 2)) ((upm (upm u r0 0 (u r1 0)) r0 1 ((upm u r0 0 (u r1 0)) r1 1)) (g r0 2)) (0 : Int).toNat (0 : Int).toNat (4 : Int).toNat)) (g r0 3)) (0 : Int).toNat (0 : Int).toNat (4 : Int).toNat)) (g r1 4)) ((upr (upr (upm (upm u r0 0 (u r1 0)) r0 1 ((upm u r0 0 (u r1 0)) r1 1)) (g r0 2) (a_cpy ((upm (upm u r0 0 (u r1 0)) r0 1 ((upm u r0 0 (u r1 0)) r1 1)) (g r1 2)) ((upm (upm u r0 0 (u r1 0)) r0 1 ((upm u r0 0 (u r1 0)) r1 1)) (g r0 2)) (0 : Int).toNat (0 : Int).toNat (4 : Int).toNat)) (g r0 3) (a_cpy ((upr (upm (upm u r0 0 (u r1 0)) r0 1 ((upm u r0 0 (u r1 0)) r1 1)) (g r0 2) (a_cpy ((upm (upm u r0 0 (u r1 0)) r0 1 ((upm u r0 0 (u r1 0)) r1 1)) (g r1 2)) ((upm (upm u r0 0 (u r1 0)) r0 1 ((upm u r0 0 (u r1 0)) r1 1)) (g r0 2)) (0 : Int).toNat (0 : Int).toNat (4 : Int).toNat)) (g r1 3)) ((upr (upm (upm u r0 0 (u r1 0)) r0 1 ((upm u r0 0 (u r1 0)) r1 1)) (g r0 2) (a_cpy ((upm (upm u r0 0 (u r1 0)) r0 1 ((upm u r0 0 (u r1 0)) r1 1)) (g r1 2)) ((upm (upm u r0 0 (u r1 0)) r0 1 ((upm u r0 0 (u r1 0)) r1 1)) (g r0 2)) (0 : Int).toNat (0 : Int).toNat (4 : Int).toNat)) (g r0 3)) (0 : Int).toNat (0 : Int).toNat (4 : Int).toNat)) (g r0 4)) (0 : Int).toNat (0 : Int).toNat (12 : Int).toNat)) r0 5 ((upr (upr (upr (upm (upm u r0 0 (u r1 0)) r0 1 ((upm u r0 0 (u r1 0)) r1 1)) (g r0 2) (a_cpy ((upm (upm u r0 0 (u r1 0)) r0 1 ((upm u r0 0 (u r1 0)) r1 1)) (g r1 2)) ((upm (upm u r0 0 (u r1 0)) r0 1 ((upm u r0 0 (u r1 0)) r1 1)) (g r0 2)) (0 : Int).toNat (0 : Int).toNat (4 : Int).toNat)) (g r0 3) (a_cpy ((upr (upm (upm u r0 0 (u r1 0)) r0 1 ((upm u r0 0 (u r1 0)) r1 1)) (g r0 2) (a_cpy ((upm (upm u r0 0 (u r1 0)) r0 1 ((upm u r0 0 (u r1 0)) r1 1)) (g r1 2)) ((upm (upm u r0 0 (u r1 0)) r0 1 ((upm u r0 0 (u r1 0)) r1 1)) (g r0 2)) (0 : Int).toNat (0 : Int).toNat (4 : Int).toNat)) (g r1 3)) ((upr (upm (upm u r0 0 (u r1 0)) r0 1 ((upm u r0 0 (u r1 0)) r1 1)) (g r0 2) (a_cpy ((upm (upm u r0 0 (u r1 0)) r0 1 ((upm u r0 0 (u r1 0)) r1 1)) (g r1 2)) ((upm (upm u r0 0 (u r1 0)) r0 1 ((upm u r0 0 (u r1 0)) r1 1)) (g r0 2)) (0 : Int).toNat (0 : Int).toNat (4 : Int).toNat)) (g r0 3)) (0 : Int).toNat (0 : Int).toNat (4 : Int).toNat)) (g r0 4) (a_cpy ((upr (upr (upm (upm u r0 0 (u r1 0)) r0 1 ((upm u r0 0 (u r1 0)) r1 1)) (g r0 2) (a_cpy ((upm (upm u r0 0 (u r1 0)) r0 1 ((upm u r0 0 (u r1 0)) r1 1)) (g r1 2)) ((upm (upm u r0 0 (u r1 0)) r0 1 ((upm u r0 0 (u r1 0)) r1 1)) (g r0 2)) (0 : Int).toNat (0 : Int).toNat (4 : Int).toNat)) (g r0 3) (a_cpy ((upr (upm (upm u r0 0 (u r1 0)) r0 1 ((upm u r0 0 (u r1 0)) r1 1)) (g r0 2) (a_cpy ((upm (upm u r0 0 (u r1 0)) r0 1 ((upm u r0 0 (u r1 0)) r1 1)) (g r1 2)) ((upm (upm u r0 0 (u r1 0)) r0 1 ((upm u r0 0 (u r1 0)) r1 1)) (g r0 2)) (0 : Int).toNat (0 : Int).toNat (4 : Int).toNat)) (g r1 3)) ((upr (upm (upm u r0 0 (u r1 0)) r0 1 ((upm u r0 0 (u r1 0)) r1 1)) (g r0 2) (a_cpy ((upm (upm u r0 0 (u r1 0)) r0 1 ((upm u r0 0 (u r1 0)) r1 1)) (g r1 2)) ((upm (upm u r0 0 (u r1 0)) r0 1 ((upm u r0 0 (u r1 0)) r1 1)) (g r0 2)) (0 : Int).toNat (0 : Int).toNat (4 : Int).toNat)) (g r0 3)) (0 : Int).toNat (0 : Int).toNat (4 : Int).toNat)) (g r1 4)) ((upr (upr (upm (upm u r0 0 (u r1 0)) r0 1 ((upm u r0 0 (u r1 0)) r1 1)) (g r0 2) (a_cpy ((upm (upm u r0 0 (u r1 0)) r0 1 ((upm u r0 0 (u r1 0)) r1 1)) (g r1 2)) ((upm (upm u r0 0 (u r1 0)) r0 1 ((upm u r0 0 (u r1 0)) r1 1)) (g r0 2)) (0 : Int).toNat (0 : Int).toNat (4 : Int).toNat)) (g r0 3) (a_cpy ((upr (upm (upm u r0 0 (u r1 0)) r0 1 ((upm u r0 0 (u r1 0)) r1 1)) (g r0 2) (a_cpy ((upm (upm u r0 0 (u r1 0)) r0 1 ((upm u r0 0 (u r1 0)) r1 1)) (g r1 2)) ((upm (upm u r0 0 (u r1 0)) r0 1 ((upm u r0 0 (u r1 0)) r1 1)) (g r0 2)) (0 : Int).toNat (0 : Int).toNat (4 : Int).toNat)) (g r1 3)) ((upr (upm (upm u r0 0 (u r1 0)) r0 1 ((upm u r0 0 (u r1 0)) r1 1)) (g r0 2) (a_cpy ((upm (upm u r0 0 (u r1 0)) r0 1 ((upm u r0 0 (u r1 0)) r1 1)) (g r1 2)) ((upm (upm u r0 0 (u r1 0)) r0 1 ((upm u r0 0 (u r1 0)) r1 1)) (g r0 2)) (0 : Int).toNat (0 : Int).toNat (4 : Int).toNat)) (g r0 3)) (0 : Int).toNat (0 : Int).toNat (4 : Int).toNat)) (g r0 4)) (0 : Int).toNat (0 : Int).toNat (12 : Int).toNat)) r1 5)) r1 6)) r0 7 ((upm (upm (upr (upr (upr (upm (upm u r0 0 (u r1 0)) r0 1 ((upm u r0 0 (u r1 0)) r1 1)) (g r0 2) (a_cpy ((upm (upm u r0 0 (u r1 0)) r0 1 ((upm u r0 0 (u r1 0)) r1 1)) (g r1 2)) ((upm (upm u r0 0 (u r1 0)) r0 1 ((upm u r0 0 (u r1 0)) r1 1)) (g r0 2)) (0 : Int).toNat (0 : Int).toNat (4 : Int).toNat)) (g r0 3) (a_cpy ((upr (upm (upm u r0 0 (u r1 0)) r0 1 ((upm u r0 0 (u r1 0)) r1 1)) (g r0 2) (a_cpy ((upm (upm u r0 0 (u r1 0)) r0 1 ((upm u r0 0 (u r1 0)) r1 1)) (g r1 2)) ((upm (upm u r0 0 (u r1 0)) r0 1 ((upm u r0 0 (u r1 0)) r1 1)) (g r0 2)) (0 : Int).toNat (0 : Int).toNat (4 : Int).toNat)) (g r1 3)) ((upr (upm (upm u r0 0 (u r1 0)) r0 1 ((upm u r0 0 (u r1 0)) r1 1)) (g r0 2) (a_cpy ((upm (upm u r0 0 (u r1 0)) r0 1 ((upm u r0 0 (u r1 0)) r1 1)) (g r1 2)) ((upm (upm u r0 0 (u r1 0)) r0 1 ((upm u r0 0 (u r1 0)) r1 1)) (g r0 2)) (0 : Int).toNat (0 : Int).toNat (4 : Int).toNat)) (g r0 3)) (0 : Int).toNat (0 : Int).toNat (4 : Int).toNat)) (g r0 4) (a_cpy ((upr (upr (upm (upm u r0 0 (u r1 0)) r0 1 ((upm u r0 0 (u r1 0)) r1 1)) (g r0 2) (a_cpy ((upm (upm u r0 0 (u r1 0)) r0 1 ((upm u r0 0 (u r1 0)) r1 1)) (g r1 2)) ((upm (upm u r0 0 (u r1 0)) r0 1 ((upm u r0 0 (u r1 0)) r1 1)) (g r0 2)) (0 : Int).toNat (0 : Int).toNat (4 : Int).toNat)) (g r0 3) (a_cpy ((upr (upm (upm u r0 0 (u r1 0)) r0 1 ((upm u r0 0 (u r1 0)) r1 1)) (g r0 2) (a_cpy ((upm (upm u r0 0 (u r1 0)) r0 1 ((upm u r0 0 (u r1 0)) r1 1)) (g r1 2)) ((upm (upm u r0 0 (u r1 0)) r0 1 ((upm u r0 0 (u r1 0)) r1 1)) (g r0 2)) (0 : Int).toNat (0 : Int).toNat (4 : Int).toNat)) (g r1 3)) ((upr (upm (upm u r0 0 (u r1 0)) r0 1 ((upm u r0 0 (u r1 0)) r1 1)) (g r0 2) (a_cpy ((upm (upm u r0 0 (u r1 0)) r0 1 ((upm u r0 0 (u r1 0)) r1 1)) (g r1 2)) ((upm (upm u r0 0 (u r1 0)) r0 1 ((upm u r0 0 (u r1 0)) r1 1)) (g r0 2)) (0 : Int).toNat (0 : Int).toNat (4 : Int).toNat)) (g r0 3)) (0 : Int).toNat (0 : Int).toNat (4 : Int).toNat)) (g r1 4)) ((upr (upr (upm (upm u r0 0 (u r1 0)) r0 1 ((upm u r0 0 (u r1 0)) r1 1)) (g r0 2) (a_cpy ((upm (upm u r0 0 (u r1 0)) r0 1 ((upm u r0 0 (u r1 0)) r1 1)) (g r1 2)) ((upm (upm u r0 0 (u r1 0)) r0 1 ((upm u r0 0 (u r1 0)) r1 1)) (g r0 2)) (0 : Int).toNat (0 : Int).toNat (4 : Int).toNat)) (g r0 3) (a_cpy ((upr (upm (upm u r0 0 (u r1 0)) r0 1 ((upm u r0 0 (u r1 0)) r1 1)) (g r0 2) (a_cpy ((upm (upm u r0 0 (u r1 0)) r0 1 ((upm u r0 0 (u r1 0)) r1 1)) (g r1 2)) ((upm (upm u r0 0 (u r1 0)) r0 1 ((upm u r0 0 (u r1 0)) r1 1)) (g r0 2)) (0 : Int).toNat (0 : Int).toNat (4 : Int).toNat)) (g r1 3)) ((upr (upm (upm u r0 0 (u r1 0)) r0 1 ((upm u r0 0 (u r1 0)) r1 1)) (g r0 2) (a_cpy ((upm (upm u r0 0 (u r1 0)) r0 1 ((upm u r0 0 (u r1 0)) r1 1)) (g r1 2)) ((upm (upm u r0 0 (u r1 0)) r0 1 ((upm u r0 0 (u r1 0)) r1 1)) (g r0 2)) (0 : Int).toNat (0 : Int).toNat (4 : Int).toNat)) (g r0 3)) (0 : Int).toNat (0 : Int).toNat (4 : Int).toNat)) (g r0 4)) (0 : Int).toNat (0 : Int).toNat (12 : Int).toNat)) r0 5 ((upr (upr (upr (upm (upm u r0 0 (u r1 0)) r0 1 ((upm u r0 0 (u r1 0)) r1 1)) (g r0 2) (a_cpy ((upm (upm u r0 0 (u r1 0)) r0 1 ((upm u r0 0 (u r1 0)) r1 1)) (g r1 2)) ((upm (upm u r0 0 (u r1 0)) r0 1 ((upm u r0 0 (u r1 0)) r1 1)) (g r0 2)) (0 : Int).toNat (0 : Int).toNat (4 : Int).toNat)) (g r0 3) (a_cpy ((upr (upm (upm u r0 0 (u r1 0)) r0 1 ((upm u r0 0 (u r1 0)) r1 1)) (g r0 2) (a_cpy ((upm (upm u r0 0 (u r1 0)) r0 1 ((upm u r0 0 (u r1 0)) r1 1)) (g r1 2)) ((upm (upm u r0 0 (u r1 0)) r0 1 ((upm u r0 0 (u r1 0)) r1 1)) (g r0 2)) (0 : Int).toNat (0 : Int).toNat (4 : Int).toNat)) (g r1 3)) ((upr (upm (upm u r0 0 (u r1 0)) r0 1 ((upm u r0 0 (u r1 0)) r1 1)) (g r0 2) (a_cpy ((upm (upm u r0 0 (u r1 0)) r0 1 ((upm u r0 0 (u r1 0)) r1 1)) (g r1 2)) ((upm (upm u r0 0 (u r1 0)) r0 1 ((upm u r0 0 (u r1 0)) r1 1)) (g r0 2)) (0 : Int).toNat (0 : Int).toNat (4 : Int).toNat)) (g r0 3)) (0 : Int).toNat (0 : Int).toNat (4 : Int).toNat)) (g r0 4) (a_cpy ((upr (upr (upm (upm u r0 0 (u r1 0)) r0 1 ((upm u r0 0 (u r1 0)) r1 1)) (g r0 2) (a_cpy ((upm (upm u r0 0 (u r1 0)) r0 1 ((upm u r0 0 (u r1 0)) r1 1)) (g r1 2)) ((upm (upm u r0 0 (u r1 0)) r0 1 ((upm u r0 0 (u r1 0)) r1 1)) (g r0 2)) (0 : Int).toNat (0 : Int).toNat (4 : Int).toNat)) (g r0 3) (a_cpy ((upr (upm (upm u r0 0 (u r1 0)) r0 1 ((upm u r0 0 (u r1 0)) r1 1)) (g r0 2) (a_cpy ((upm (upm u r0 0 (u r1 0)) r0 1 ((upm u r0 0 (u r1 0)) r1 1)) (g r1 2)) ((upm (upm u r0 0 (u r1 0)) r0 1 ((upm u r0 0 (u r1 0)) r1 1)) (g r0 2)) (0 : Int).toNat (0 : Int).toNat (4 : Int).toNat)) (g r1 3)) ((upr (upm (upm u r0 0 (u r1 0)) r0 1 ((upm u r0 0 (u r1 0)) r1 1)) (g r0 2) (a_cpy ((upm (upm u r0 0 (u r1 0)) r0 1 ((upm u r0 0 (u r1 0)) r1 1)) (g r1 2)) ((upm (upm u r0 0 (u r1 0)) r0 1 ((upm u r0 0 (u r1 0)) r1 1)) (g r0 2)) (0 : Int).toNat (0 : Int).toNat (4 : Int).toNat)) (g r0 3)) (0 : Int).toNat (0 : Int).toNat (4 : Int).toNat)) (g r1 4)) ((upr (upr (upm (upm u r0 0 (u r1 0)) r0 1 ((upm u r0 0 (u r1 0)) r1 1)) (g r0 2) (a_cpy ((upm (upm u r0 0 (u r1 0)) r0 1 ((upm u r0 0 (u r1 0)) r1 1)) (g r1 2)) ((upm (upm u r0 0 (u r1 0)) r0 1 ((upm u r0 0 (u r1 0)) r1 1)) (g r0 2)) (0 : Int).toNat (0 : Int).toNat (4 : Int).toNat)) (g r0 3) (a_cpy ((upr (upm (upm u r0 0 (u r1 0)) r0 1 ((upm u r0 0 (u r1 0)) r1 1)) (g r0 2) (a_cpy ((upm (upm u r0 0 (u r1 0)) r0 1 ((upm u r0 0 (u r1 0)) r1 1)) (g r1 2)) ((upm (upm u r0 0 (u r1 0)) r0 1 ((upm u r0 0 (u r1 0)) r1 1)) (g r0 2)) (0 : Int).toNat (0 : Int).toNat (4 : Int).toNat)) (g r1 3)) ((upr (upm (upm u r0 0 (u r1 0)) r0 1 ((upm u r0 0 (u r1 0)) r1 1)) (g r0 2) (a_cpy ((upm (upm u r0 0 (u r1 0)) r0 1 ((upm u r0 0 (u r1 0)) r1 1)) (g r1 2)) ((upm (upm u r0 0 (u r1 0)) r0 1 ((upm u r0 0 (u r1 0)) r1 1)) (g r0 2)) (0 : Int).toNat (0 : Int).toNat (4 : Int).toNat)) (g r0 3)) (0 : Int).toNat (0 : Int).toNat (4 : Int).toNat)) (g r0 4)) (0 : Int).toNat (0 : Int).toNat (12 : Int).toNat)) r1 5)) r0 6 ((upm (upr (upr (upr (upm (upm u r0 0 (u r1 0)) r0 1 ((upm u r0 0 (u r1 0)) r1 1)) (g r0 2) (a_cpy ((upm (upm u r0 0 (u r1 0)) r0 1 ((upm u r0 0 (u r1 0)) r1 1)) (g r1 2)) ((upm (upm u r0 0 (u r1 0)) r0 1 ((upm u r0 0 (u r1 0)) r1 1)) (g r0 2)) (0 : Int).toNat (0 : Int).toNat (4 : Int).toNat)) (g r0 3) (a_cpy ((upr (upm (upm u r0 0 (u r1 0)) r0 1 ((upm u r0 0 (u r1 0)) r1 1)) (g r0 2) (a_cpy ((upm (upm u r0 0 (u r1 0)) r0 1 ((upm u r0 0 (u r1 0)) r1 1)) (g r1 2)) ((upm (upm u r0 0 (u r1 0)) r0 1 ((upm u r0 0 (u r1 0)) r1 1)) (g r0 2)) (0 : Int).toNat (0 : Int).toNat (4 : Int).toNat)) (g r1 3)) ((upr (upm (upm u r0 0 (u r1 0)) r0 1 ((upm u r0 0 (u r1 0)) r1 1)) (g r0 2) (a_cpy ((upm (upm u r0 0 (u r1 0)) r0 1 ((upm u r0 0 (u r1 0)) r1 1)) (g r1 2)) ((upm (upm u r0 0 (u r1 0)) r0 1 ((upm u r0 0 (u r1 0)) r1 1)) (g r0 2)) (0 : Int).toNat (0 : Int).toNat (4 : Int).toNat)) (g r0 3)) (0 : Int).toNat (0 : Int).toNat (4 : Int).toNat)) (g r0 4) (a_cpy ((upr (upr (upm (upm u r0 0 (u r1 0)) r0 1 ((upm u r0 0 (u r1 0)) r1 1)) (g r0 2) (a_cpy ((upm (upm u r0 0 (u r1 0)) r0 1 ((upm u r0 0 (u r1 0)) r1 1)) (g r1 2)) ((upm (upm u r0 0 (u r1 0)) r0 1 ((upm u r0 0 (u r1 0)) r1 1)) (g r0 2)) (0 : Int).toNat (0 : Int).toNat (4 : Int).toNat)) (g r0 3) (a_cpy ((upr (upm (upm u r0 0 (u r1 0)) r0 1 ((upm u r0 0 (u r1 0)) r1 1)) (g r0 2) (a_cpy ((upm (upm u r0 0 (u r1 0)) r0 1 ((upm u r0 0 (u r1 0)) r1 1)) (g r1 2)) ((upm (upm u r0 0 (u r1 0)) r0 1 ((upm u r0 0 (u r1 0)) r1 1)) (g r0 2)) (0 : Int).toNat (0 : Int).toNat (4 : Int).toNat)) (g r1 3)) ((upr (upm (upm u r0 0 (u r1 0)) r0 1 ((upm u r0 0 (u r1 0)) r1 1)) (g r0 2) (a_cpy ((upm (upm u r0 0 (u r1 0)) r0 1 ((upm u r0 0 (u r1 0)) r1 1)) (g r1 2)) ((upm (upm u r0 0 (u r1 0)) r0 1 ((upm u r0 0 (u r1 0)) r1 1)) (g r0 2)) (0 : Int).toNat (0 : Int).toNat (4 : Int).toNat)) (g r0 3)) (0 : Int).toNat (0 : Int).toNat (4 : Int).toNat)) (g r1 4)) ((upr (upr (upm (upm u r0 0 (u r1 0)) r0 1 ((upm u r0 0 (u r1 0)) r1 1)) (g r0 2) (a_cpy ((upm (upm u r0 0 (u r1 0)) r0 1 ((upm u r0 0 (u r1 0)) r1 1)) (g r1 2)) ((upm (upm u r0 0 (u r1 0)) r0 1 ((upm u r0 0 (u r1 0)) r1 1)) (g r0 2)) (0 : Int).toNat (0 : Int).toNat (4 : Int).toNat)) (g r0 3) (a_cpy ((upr (upm (upm u r0 0 (u r1 0)) r0 1 ((upm u r0 0 (u r1 0)) r1 1)) (g r0 2) (a_cpy ((upm (upm u r0 0 (u r1 0)) r0 1 ((upm u r0 0 (u r1 0)) r1 1)) (g r1 2)) ((upm (upm u r0 0 (u r1 0)) r0 1 ((upm u r0 0 (u r1 0)) r1 1)) (g r0 2)) (0 : Int).toNat (0 : Int).toNat (4 : Int).toNat)) (g r1 3)) ((upr (upm (upm u r0 0 (u r1 0)) r0 1 ((upm u r0 0 (u r1 0)) r1 1)) (g r0 2) (a_cpy ((upm (upm u r0 0 (u r1 0)) r0 1 ((upm u r0 0 (u r1 0)) r1 1)) (g r1 2)) ((upm (upm u r0 0 (u r1 0)) r0 1 ((upm u r0 0 (u r1 0)) r1 1)) (g r0 2)) (0 : Int).toNat (0 : Int).toNat (4 : Int).toNat)) (g r0 3)) (0 : Int).toNat (0 : Int).toNat (4 : Int).toNat)) (g r0 4)) (0 : Int).toNat (0 : Int).toNat (12 : Int).toNat)) r0 5 ((upr (upr (upr (upm (upm u r0 0 (u r1 0)) r0 1 ((upm u r0 0 (u r1 0)) r1 1)) (g r0 2) (a_cpy ((upm (upm u r0 0 (u r1 0)) r0 1 ((upm u r0 0 (u r1 0)) r1 1)) (g r1 2)) ((upm (upm u r0 0 (u r1 0)) r0 1 ((upm u r0 0 (u r1 0)) r1 1)) (g r0 2)) (0 : Int).toNat (0 : Int).toNat (4 : Int).toNat)) (g r0 3) (a_cpy ((upr (upm (upm u r0 0 (u r1 0)) r0 1 ((upm u r0 0 (u r1 0)) r1 1)) (g r0 2) (a_cpy ((upm (upm u r0 0 (u r1 0)) r0 1 ((upm u r0 0 (u r1 0)) r1 1)) (g r1 2)) ((upm (upm u r0 0 (u r1 0)) r0 1 ((upm u r0 0 (u r1 0)) r1 1)) (g r0 2)) (0 : Int).toNat (0 : Int).toNat (4 : Int).toNat)) (g r1 3)) ((upr (upm (upm u r0 0 (u r1 0)) r0 1 ((upm u r0 0 (u r1 0)) r1 1)) (g r0 2) (a_cpy ((upm (upm u r0 0 (u r1 0)) r0 1 ((upm u r0 0 (u r1 0)) r1 1)) (g r1 2)) ((upm (upm u r0 0 (u r1 0)) r0 1 ((upm u r0 0 (u r1 0)) r1 1)) (g r0 2)) (0 : Int).toNat (0 : Int).toNat (4 : Int).toNat)) (g r0 3)) (0 : Int).toNat (0 : Int).toNat (4 : Int).toNat)) (g r0 4) (a_cpy ((upr (upr (upm (upm u r0 0 (u r1 0)) r0 1 ((upm u r0 0 (u r1 0)) r1 1)) (g r0 2) (a_cpy ((upm (upm u r0 0 (u r1 0)) r0 1 ((upm u r0 0 (u r1 0)) r1 1)) (g r1 2)) ((upm (upm u r0 0 (u r1 0)) r0 1 ((upm u r0 0 (u r1 0)) r1 1)) (g r0 2)) (0 : Int).toNat (0 : Int).toNat (4 : Int).toNat)) (g r0 3) (a_cpy ((upr (upm (upm u r0 0 (u r1 0)) r0 1 ((upm u r0 0 (u r1 0)) r1 1)) (g r0 2) (a_cpy ((upm (upm u r0 0 (u r1 0)) r0 1 ((upm u r0 0 (u r1 0)) r1 1)) (g r1 2)) ((upm (upm u r0 0 (u r1 0)) r0 1 ((upm u r0 0 (u r1 0)) r1 1)) (g r0 2)) (0 : Int).toNat (0 : Int).toNat (4 : Int).toNat)) (g r1 3)) ((upr (upm (upm u r0 0 (u r1 0)) r0 1 ((upm u r0 0 (u r1 0)) r1 1)) (g r0 2) (a_cpy ((upm (upm u r0 0 (u r1 0)) r0 1 ((upm u r0 0 (u r1 0)) r1 1)) (g r1 2)) ((upm (upm u r0 0 (u r1 0)) r0 1 ((upm u r0 0 (u r1 0)) r1 1)) (g r0 2)) (0 : Int).toNat (0 : Int).toNat (4 : Int).toNat)) (g r0 3)) (0 : Int).toNat (0 : Int).toNat (4 : Int).toNat)) (g r1 4)) ((upr (upr (upm (upm u r0 0 (u r1 0)) r0 1 ((upm u r0 0 (u r1 0)) r1 1)) (g r0 2) (a_cpy ((upm (upm u r0 0 (u r1 0)) r0 1 ((upm u r0 0 (u r1 0)) r1 1)) (g r1 2)) ((upm (upm u r0 0 (u r1 0)) r0 1 ((upm u r0 0 (u r1 0)) r1 1)) (g r0 2)) (0 : Int).toNat (0 : Int).toNat (4 : Int).toNat)) (g r0 3) (a_cpy ((upr (upm (upm u r0 0 (u r1 0)) r0 1 ((upm u r0 0 (u r1 0)) r1 1)) (g r0 2) (a_cpy ((upm (upm u r0 0 (u r1 0)) r0 1 ((upm u r0 0 (u r1 0)) r1 1)) (g r1 2)) ((upm (upm u r0 0 (u r1 0)) r0 1 ((upm u r0 0 (u r1 0)) r1 1)) (g r0 2)) (0 : Int).toNat (0 : Int).toNat (4 : Int).toNat)) (g r1 3)) ((upr (upm (upm u r0 0 (u r1 0)) r0 1 ((upm u r0 0 (u r1 0)) r1 1)) (g r0 2) (a_cpy ((upm (upm u r0 0 (u r1 0)) r0 1 ((upm u r0 0 (u r1 0)) r1 1)) (g r1 2)) ((upm (upm u r0 0 (u r1 0)) r0 1 ((upm u r0 0 (u r1 0)) r1 1)) (g r0 2)) (0 : Int).toNat (0 : Int).toNat (4 : Int).toNat)) (g r0 3)) (0 : Int).toNat (0 : Int).toNat (4 : Int).toNat)) (g r0 4)) (0 : Int).toNat (0 : Int).toNat (12 : Int).toNat)) r1 5)) r1 6)) r1 7)) r0 8 ((upm (upm (upm (upr (upr (upr (upm (upm u r0 0 (u r1 0)) r0 1 ((upm u r0 0 (u r1 0)) r1 1)) (g r0 2) (a_cpy ((upm (upm u r0 0 (u r1 0)) r0 1 ((upm u r0 0 (u r1 0)) r1 1)) (g r1 2)) ((upm (upm u r0 0 (u r1 0)) r0 1 ((upm u r0 0 (u r1 0)) r1 1)) (g r0 2)) (0 : Int).toNat (0 : Int).toNat (4 : Int).toNat)) (g r0 3) (a_cpy ((upr (upm (upm u r0 0 (u r1 0)) r0 1 ((upm u r0 0 (u r1 0)) r1 1)) (g r0 2) (a_cpy ((upm (upm u r0 0 (u r1 0)) r0 1 ((upm u r0 0 (u r1 0)) r1 1)) (g r1 2)) ((upm (upm u r0 0 (u r1 0)) r0 1 ((upm u r0 0 (u r1 0)) r1 1)) (g r0 2)) (0 : Int).toNat (0 : Int).toNat (4 : Int).toNat)) (g r1 3)) ((upr (upm (upm u r0 0 (u r1 0)) r0 1 ((upm u r0 0 (u r1 0)) r1 1)) (g r0 2) (a_cpy ((upm (upm u r0 0 (u r1 0)) r0 1 ((upm u r0 0 (u r1 0)) r1 1)) (g r1 2)) ((upm (upm u r0 0 (u r1 0)) r0 1 ((upm u r0 0 (u r1 0)) r1 1)) (g r0 2)) (0 : Int).toNat (0 : Int).toNat (4 : Int).toNat)) (g r0 3)) (0 : Int).toNat (0 : Int).toNat (4 : Int).toNat)) (g r0 4) (a_cpy ((upr (upr (upm (upm u r0 0 (u r1 0)) r0 1 ((upm u r0 0 (u r1 0)) r1 1)) (g r0 2) (a_cpy ((upm (upm u r0 0 (u r1 0)) r0 1 ((upm u r0 0 (u r1 0)) r1 1)) (g r1 2)) ((upm (upm u r0 0 (u r1 0)) r0 1 ((upm u r0 0 (u r1 0)) r1 1)) (g r0 2)) (0 : Int).toNat (0 : Int).toNat (4 : Int).toNat)) (g r0 3) (a_cpy ((upr (upm (upm u r0 0 (u r1 0)) r0 1 ((upm u r0 0 (u r1 0)) r1 1)) (g r0 2) (a_cpy ((upm (upm u r0 0 (u r1 0)) r0 1 ((upm u r0 0 (u r1 0)) r1 1)) (g r1 2)) ((upm (upm u r0 0 (u r1 0)) r0 1 ((upm u r0 0 (u r1 0)) r1 1)) (g r0 2)) (0 : Int).toNat (0 : Int).toNat (4 : Int).toNat)) (g r1 3)) ((upr (upm (upm u r0 0 (u r1 0)) r0 1 ((upm u r0 0 (u r1 0)) r1 1)) (g r0 2) (a_cpy ((upm (upm u r0 0 (u r1 0)) r0 1 ((upm u r0 0 (u r1 0)) r1 1)) (g r1 2)) ((upm (upm u r0 0 (u r1 0)) r0 1 ((upm u r0 0 (u r1 0)) r1 1)) (g r0 2)) (0 : Int).toNat (0 : Int).toNat (4 : Int).toNat)) (g r0 3)) (0 : Int).toNat (0 : Int).toNat (4 : Int).toNat)) (g r1 4)) ((upr (upr (upm (upm u r0 0 (u r1 0)) r0 1 ((upm u r0 0 (u r1 0)) r1 1)) (g r0 2) (a_cpy ((upm (upm u r0 0 (u r1 0)) r0 1 ((upm u r0 0 (u r1 0)) r1 1)) (g r1 2)) ((upm (upm u r0 0 (u r1 0)) r0 1 ((upm u r0 0 (u r1 0)) r1 1)) (g r0 2)) (0 : Int).toNat (0 : Int).toNat (4 : Int).toNat)) (g r0 3) (a_cpy ((upr (upm (upm u r0 0 (u r1 0)) r0 1 ((upm u r0 0 (u r1 0)) r1 1)) (g r0 2) (a_cpy ((upm (upm u r0 0 (u r1 0)) r0 1 ((upm u r0 0 (u r1 0)) r1 1)) (g r1 2)) ((upm (upm u r0 0 (u r1 0)) r0 1 ((upm u r0 0 (u r1 0)) r1 1)) (g r0 2)) (0 : Int).toNat (0 : Int).toNat (4 : Int).toNat)) (g r1 3)) ((upr (upm (upm u r0 0 (u r1 0)) r0 1 ((upm u r0 0 (u r1 0)) r1 1)) (g r0 2) (a_cpy ((upm (upm u r0 0 (u r1 0)) r0 1 ((upm u r0 0 (u r1 0)) r1 1)) (g r1 2)) ((upm (upm u r0 0 (u r1 0)) r0 1 ((upm u r0 0 (u r1 0)) r1 1)) (g r0 2)) (0 : Int).toNat (0 : Int).toNat (4 : Int).toNat)) (g r0 3)) (0 : Int).toNat (0 : Int).toNat (4 : Int).toNat)) (g r0 4)) (0 : Int).toNat (0 : Int).toNat (12 : Int).toNat)) r0 5 ((upr (upr (upr (upm (upm u r0 0 (u r1 0)) r0 1 ((upm u r0 0 (u r1 0)) r1 1)) (g r0 2) (a_cpy ((upm (upm u r0 0 (u r1 0)) r0 1 ((upm u r0 0 (u r1 0)) r1 1)) (g r1 2)) ((upm (upm u r0 0 (u r1 0)) r0 1 ((upm u r0 0 (u r1 0)) r1 1)) (g r0 2)) (0 : Int).toNat (0 : Int).toNat (4 : Int).toNat)) (g r0 3) (a_cpy ((upr (upm (upm u r0 0 (u r1 0)) r0 1 ((upm u r0 0 (u r1 0)) r1 1)) (g r0 2) (a_cpy ((upm (upm u r0 0 (u r1 0)) r0 1 ((upm u r0 0 (u r1 0)) r1 1)) (g r1 2)) ((upm (upm u r0 0 (u r1 0)) r0 1 ((upm u r0 0 (u r1 0)) r1 1)) (g r0 2)) (0 : Int).toNat (0 : Int).toNat (4 : Int).toNat)) (g r1 3)) ((upr (upm (upm u r0 0 (u r1 0)) r0 1 ((upm u r0 0 (u r1 0)) r1 1)) (g r0 2) (a_cpy ((upm (upm u r0 0 (u r1 0)) r0 1 ((upm u r0 0 (u r1 0)) r1 1)) (g r1 2)) ((upm (upm u r0 0 (u r1 0)) r0 1 ((upm u r0 0 (u r1 0)) r1 1)) (g r0 2)) (0 : Int).toNat (0 : Int).toNat (4 : Int).toNat)) (g r0 3)) (0 : Int).toNat (0 : Int).toNat (4 : Int).toNat)) (g r0 4) (a_cpy ((upr (upr (upm (upm u r0 0 (u r1 0)) r0 1 ((upm u r0 0 (u r1 0)) r1 1)) (g r0 2) (a_cpy ((upm (upm u r0 0 (u r1 0)) r0 1 ((upm u r0 0 (u r1 0)) r1 1)) (g r1 2)) ((upm (upm u r0 0 (u r1 0)) r0 1 ((upm u r0 0 (u r1 0)) r1 1)) (g r0 2)) (0 : Int).toNat (0 : Int).toNat (4 : Int).toNat)) (g r0 3) (a_cpy ((upr (upm (upm u r0 0 (u r1 0)) r0 1 ((upm u r0 0 (u r1 0)) r1 1)) (g r0 2) (a_cpy ((upm (upm u r0 0 (u r1 0)) r0 1 ((upm u r0 0 (u r1 0)) r1 1)) (g r1 2)) ((upm (upm u r0 0 (u r1 0)) r0 1 ((upm u r0 0 (u r1 0)) r1 1)) (g r0 2)) (0 : Int).toNat (0 : Int).toNat (4 : Int).toNat)) (g r1 3)) ((upr (upm (upm u r0 0 (u r1 0)) r0 1 ((upm u r0 0 (u r1 0)) r1 1)) (g r0 2) (a_cpy ((upm (upm u r0 0 (u r1 0)) r0 1 ((upm u r0 0 (u r1 0)) r1 1)) (g r1 2)) ((upm (upm u r0 0 (u r1 0)) r0 1 ((upm u r0 0 (u r1 0)) r1 1)) (g r0 2)) (0 : Int).toNat (0 : Int).toNat (4 : Int).toNat)) (g r0 3)) (0 : Int).toNat (0 : Int).toNat (4 : Int).toNat)) (g r1 4)) ((upr (upr (upm (upm u r0 0 (u r1 0)) r0 1 ((upm u r0 0 (u r1 0)) r1 1)) (g r0 2) (a_cpy ((upm (upm u r0 0 (u r1 0)) r0 1 ((upm u r0 0 (u r1 0)) r1 1)) (g r1 2)) ((upm (upm u r0 0 (u r1 0)) r0 1 ((upm u r0 0 (u r1 0)) r1 1)) (g r0 2)) (0 : Int).toNat (0 : Int).toNat (4 : Int).toNat)) (g r0 3) (a_cpy ((upr (upm (upm u r0 0 (u r1 0)) r0 1 ((upm u r0 0 (u r1 0)) r1 1)) (g r0 2) (a_cpy ((upm (upm u r0 0 (u r1 0)) r0 1 ((upm u r0 0 (u r1 0)) r1 1)) (g r1 2)) ((upm (upm u r0 0 (u r1 0)) r0 1 ((upm u r0 0 (u r1 0)) r1 1)) (g r0 2)) (0 : Int).toNat (0 : Int).toNat (4 : Int).toNat)) (g r1 3)) ((upr (upm (upm u r0 0 (u r1 0)) r0 1 ((upm u r0 0 (u r1 0)) r1 1)) (g r0 2) (a_cpy ((upm (upm u r0 0 (u r1 0)) r0 1 ((upm u r0 0 (u r1 0)) r1 1)) (g r1 2)) ((upm (upm u r0 0 (u r1 0)) r0 1 ((upm u r0 0 (u r1 0)) r1 1)) (g r0 2)) (0 : Int).toNat (0 : Int).toNat (4 : Int).toNat)) (g r0 3)) (0 : Int).toNat (0 : Int).toNat (4 : Int).toNat)) (g r0 4)) (0 : Int).toNat (0 : Int).toNat (12 : Int).toNat)) r1 5)) r0 6 ((upm (upr (upr (upr (upm (upm u r0 0 (u r1 0)) r0 1 ((upm u r0 0 (u r1 0)) r1 1)) (g r0 2) (a_cpy ((upm (upm u r0 0 (u r1 0)) r0 1 ((upm u r0 0 (u r1 0)) r1 1)) (g r1 2)) ((upm (upm u r0 0 (u r1 0)) r0 1 ((upm u r0 0 (u r1 0)) r1 1)) (g r0 2)) (0 : Int).toNat (0 : Int).toNat (4 : Int).toNat)) (g r0 3) (a_cpy ((upr (upm (upm u r0 0 (u r1 0)) r0 1 ((upm u r0 0 (u r1 0)) r1 1)) (g r0 2) (a_cpy ((upm (upm u r0 0 (u r1 0)) r0 1 ((upm u r0 0 (u r1 0)) r1 1)) (g r1 2)) ((upm (upm u r0 0 (u r1 0)) r0 1 ((upm u r0 0 (u r1 0)) r1 1)) (g r0 2)) (0 : Int).toNat (0 : Int).toNat (4 : Int).toNat)) (g r1 3)) ((upr (upm (upm u r0 0 (u r1 0)) r0 1 ((upm u r0 0 (u r1 0)) r1 1)) (g r0 2) (a_cpy ((upm (upm u r0 0 (u r1 0)) r0 1 ((upm u r0 0 (u r1 0)) r1 1)) (g r1 2)) ((upm (upm u r0 0 (u r1 0)) r0 1 ((upm u r0 0 (u r1 0)) r1 1)) (g r0 2)) (0 : Int).toNat (0 : Int).toNat (4 : Int).toNat)) (g r0 3)) (0 : Int).toNat (0 : Int).toNat (4 : Int).toNat)) (g r0 4) (a_cpy ((upr (upr (upm (upm u r0 0 (u r1 0)) r0 1 ((upm u r0 0 (u r1 0)) r1 1)) (g r0 2) (a_cpy ((upm (upm u r0 0 (u r1 0)) r0 1 ((upm u r0 0 (u r1 0)) r1 1)) (g r1 2)) ((upm (upm u r0 0 (u r1 0)) r0 1 ((upm u r0 0 (u r1 0)) r1 1)) (g r0 2)) (0 : Int).toNat (0 : Int).toNat (4 : Int).toNat)) (g r0 3) (a_cpy ((upr (upm (upm u r0 0 (u r1 0)) r0 1 ((upm u r0 0 (u r1 0)) r1 1)) (g r0 2) (a_cpy ((upm (upm u r0 0 (u r1 0)) r0 1 ((upm u r0 0 (u r1 0)) r1 1)) (g r1 2)) ((upm (upm u r0 0 (u r1 0)) r0 1 ((upm u r0 0 (u r1 0)) r1 1)) (g r0 2)) (0 : Int).toNat (0 : Int).toNat (4 : Int).toNat)) (g r1 3)) ((upr (upm (upm u r0 0 (u r1 0)) r0 1 ((upm u r0 0 (u r1 0)) r1 1)) (g r0 2) (a_cpy ((upm (upm u r0 0 (u r1 0)) r0 1 ((upm u r0 0 (u r1 0)) r1 1)) (g r1 2)) ((upm (upm u r0 0 (u r1 0)) r0 1 ((upm u r0 0 (u r1 0)) r1 1)) (g r0 2)) (0 : Int).toNat (0 : Int).toNat (4 : Int).toNat)) (g r0 3)) (0 : Int).toNat (0 : Int).toNat (4 : Int).toNat)) (g r1 4)) ((upr (upr (upm (upm u r0 0 (u r1 0)) r0 1 ((upm u r0 0 (u r1 0)) r1 1)) (g r0 2) (a_cpy ((upm (upm u r0 0 (u r1 0)) r0 1 ((upm u r0 0 (u r1 0)) r1 1)) (g r1 2)) ((upm (upm u r0 0 (u r1 0)) r0 1 ((upm u r0 0 (u r1 0)) r1 1)) (g r0 2)) (0 : Int).toNat (0 : Int).toNat (4 : Int).toNat)) (g r0 3) (a_cpy ((upr (upm (upm u r0 0 (u r1 0)) r0 1 ((upm u r0 0 (u r1 0)) r1 1)) (g r0 2) (a_cpy ((upm (upm u r0 0 (u r1 0)) r0 1 ((upm u r0 0 (u r1 0)) r1 1)) (g r1 2)) ((upm (upm u r0 0 (u r1 0)) r0 1 ((upm u r0 0 (u r1 0)) r1 1)) (g r0 2)) (0 : Int).toNat (0 : Int).toNat (4 : Int).toNat)) (g r1 3)) ((upr (upm (upm u r0 0 (u r1 0)) r0 1 ((upm u r0 0 (u r1 0)) r1 1)) (g r0 2) (a_cpy ((upm (upm u r0 0 (u r1 0)) r0 1 ((upm u r0 0 (u r1 0)) r1 1)) (g r1 2)) ((upm (upm u r0 0 (u r1 0)) r0 1 ((upm u r0 0 (u r1 0)) r1 1)) (g r0 2)) (0 : Int).toNat (0 : Int).toNat (4 : Int).toNat)) (g r0 3)) (0 : Int).toNat (0 : Int).toNat (4 : Int).toNat)) (g r0 4)) (0 : Int).toNat (0 : Int).toNat (12 : Int).toNat)) r0 5 ((upr (upr (upr (upm (upm u r0 0 (u r1 0)) r0 1 ((upm u r0 0 (u r1 0)) r1 1)) (g r0 2) (a_cpy ((upm (upm u r0 0 (u r1 0)) r0 1 ((upm u r0 0 (u r1 0)) r1 1)) (g r1 2)) ((upm (upm u r0 0 (u r1 0)) r0 1 ((upm u r0 0 (u r1 0)) r1 1)) (g r0 2)) (0 : Int).toNat (0 : Int).toNat (4 : Int).toNat)) (g r0 3) (a_cpy ((upr (upm (upm u r0 0 (u r1 0)) r0 1 ((upm u r0 0 (u r1 0)) r1 1)) (g r0 2) (a_cpy ((upm (upm u r0 0 (u r1 0)) r0 1 ((upm u r0 0 (u r1 0)) r1 1)) (g r1 2)) ((upm (upm u r0 0 (u r1 0)) r0 1 ((upm u r0 0 (u r1 0)) r1 1)) (g r0 2)) (0 : Int).toNat (0 : Int).toNat (4 : Int).toNat)) (g r1 3)) ((upr (upm (upm u r0 0 (u r1 0)) r0 1 ((upm u r0 0 (u r1 0)) r1 1)) (g r0 2) (a_cpy ((upm (upm u r0 0 (u r1 0)) r0 1 ((upm u r0 0 (u r1 0)) r1 1)) (g r1 2)) ((upm (upm u r0 0 (u r1 0)) r0 1 ((upm u r0 0 (u r1 0)) r1 1)) (g r0 2)) (0 : Int).toNat (0 : Int).toNat (4 : Int).toNat)) (g r0 3)) (0 : Int).toNat (0 : Int).toNat (4 : Int).toNat)) (g r0 4) (a_cpy ((upr (upr (upm (upm u r0 0 (u r1 0)) r0 1 ((upm u r0 0 (u r1 0)) r1 1)) (g r0 2) (a_cpy ((upm (upm u r0 0 (u r1 0)) r0 1 ((upm u r0 0 (u r1 0)) r1 1)) (g r1 2)) ((upm (upm u r0 0 (u r1 0)) r0 1 ((upm u r0 0 (u r1 0)) r1 1)) (g r0 2)) (0 : Int).toNat (0 : Int).toNat (4 : Int).toNat)) (g r0 3) (a_cpy ((upr (upm (upm u r0 0 (u r1 0)) r0 1 ((upm u r0 0 (u r1 0)) r1 1)) (g r0 2) (a_cpy ((upm (upm u r0 0 (u r1 0)) r0 1 ((upm u r0 0 (u r1 0)) r1 1)) (g r1 2)) ((upm (upm u r0 0 (u r1 0)) r0 1 ((upm u r0 0 (u r1 0)) r1 1)) (g r0 2)) (0 : Int).toNat (0 : Int).toNat (4 : Int).toNat)) (g r1 3)) ((upr (upm (upm u r0 0 (u r1 0)) r0 1 ((upm u r0 0 (u r1 0)) r1 1)) (g r0 2) (a_cpy ((upm (upm u r0 0 (u r1 0)) r0 1 ((upm u r0 0 (u r1 0)) r1 1)) (g r1 2)) ((upm (upm u r0 0 (u r1 0)) r0 1 ((upm u r0 0 (u r1 0)) r1 1)) (g r0 2)) (0 : Int).toNat (0 : Int).toNat (4 : Int).toNat)) (g r0 3)) (0 : Int).toNat (0 : Int).toNat (4 : Int).toNat)) (g r1 4)) ((upr (upr (upm (upm u r0 0 (u r1 0)) r0 1 ((upm u r0 0 (u r1 0)) r1 1)) (g r0 2) (a_cpy ((upm (upm u r0 0 (u r1 0)) r0 1 ((upm u r0 0 (u r1 0)) r1 1)) (g r1 2)) ((upm (upm u r0 0 (u r1 0)) r0 1 ((upm u r0 0 (u r1 0)) r1 1)) (g r0 2)) (0 : Int).toNat (0 : Int).toNat (4 : Int).toNat)) (g r0 3) (a_cpy ((upr (upm (upm u r0 0 (u r1 0)) r0 1 ((upm u r0 0 (u r1 0)) r1 1)) (g r0 2) (a_cpy ((upm (upm u r0 0 (u r1 0)) r0 1 ((upm u r0 0 (u r1 0)) r1 1)) (g r1 2)) ((upm (upm u r0 0 (u r1 0)) r0 1 ((upm u r0 0 (u r1 0)) r1 1)) (g r0 2)) (0 : Int).toNat (0 : Int).toNat (4 : Int).toNat)) (g r1 3)) ((upr (upm (upm u r0 0 (u r1 0)) r0 1 ((upm u r0 0 (u r1 0)) r1 1)) (g r0 2) (a_cpy ((upm (upm u r0 0 (u r1 0)) r0 1 ((upm u r0 0 (u r1 0)) r1 1)) (g r1 2)) ((upm (upm u r0 0 (u r1 0)) r0 1 ((upm u r0 0 (u r1 0)) r1 1)) (g r0 2)) (0 : Int).toNat (0 : Int).toNat (4 : Int).toNat)) (g r0 3)) (0 : Int).toNat (0 : Int).toNat (4 : Int).toNat)) (g r0 4)) (0 : Int).toNat (0 : Int).toNat (12 : Int).toNat)) r1 5)) r1 6)) r0 7 ((upm (upm (upr (upr (upr (upm (upm u r0 0 (u r1 0)) r0 1 ((upm u r0 0 (u r1 0)) r1 1)) (g r0 2) (a_cpy ((upm (upm u r0 0 (u r1 0)) r0 1 ((upm u r0 0 (u r1 0)) r1 1)) (g r1 2)) ((upm (upm u r0 0 (u r1 0)) r0 1 ((upm u r0 0 (u r1 0)) r1 1)) (g r0 2)) (0 : Int).toNat (0 : Int).toNat (4 : Int).toNat)) (g r0 3) (a_cpy ((upr (upm (upm u r0 0 (u r1 0)) r0 1 ((upm u r0 0 (u r1 0)) r1 1)) (g r0 2) (a_cpy ((upm (upm u r0 0 (u r1 0)) r0 1 ((upm u r0 0 (u r1 0)) r1 1)) (g r1 2)) ((upm (upm u r0 0 (u r1 0)) r0 1 ((upm u r0 0 (u r1 0)) r1 1)) (g r0 2)) (0 : Int).toNat (0 : Int).toNat (4 : Int).toNat)) (g r1 3)) ((upr (upm (upm u r0 0 (u r1 0)) r0 1 ((upm u r0 0 (u r1 0)) r1 1)) (g r0 2) (a_cpy ((upm (upm u r0 0 (u r1 0)) r0 1 ((upm u r0 0 (u r1 0)) r1 1)) (g r1 2)) ((upm (upm u r0 0 (u r1 0)) r0 1 ((upm u r0 0 (u r1 0)) r1 1)) (g r0 2)) (0 : Int).toNat (0 : Int).toNat (4 : Int).toNat)) (g r0 3)) (0 : Int).toNat (0 : Int).toNat (4 : Int).toNat)) (g r0 4) (a_cpy ((upr (upr (upm (upm u r0 0 (u r1 0)) r0 1 ((upm u r0 0 (u r1 0)) r1 1)) (g r0 2) (a_cpy ((upm (upm u r0 0 (u r1 0)) r0 1 ((upm u r0 0 (u r1 0)) r1 1)) (g r1 2)) ((upm (upm u r0 0 (u r1 0)) r0 1 ((upm u r0 0 (u r1 0)) r1 1)) (g r0 2)) (0 : Int).toNat (0 : Int).toNat (4 : Int).toNat)) (g r0 3) (a_cpy ((upr (upm (upm u r0 0 (u r1 0)) r0 1 ((upm u r0 0 (u r1 0)) r1 1)) (g r0 2) (a_cpy ((upm (upm u r0 0 (u r1 0)) r0 1 ((upm u r0 0 (u r1 0)) r1 1)) (g r1 2)) ((upm (upm u r0 0 (u r1 0)) r0 1 ((upm u r0 0 (u r1 0)) r1 1)) (g r0 2)) (0 : Int).toNat (0 : Int).toNat (4 : Int).toNat)) (g r1 3)) ((upr (upm (upm u r0 0 (u r1 0)) r0 1 ((upm u r0 0 (u r1 0)) r1 1)) (g r0 2) (a_cpy ((upm (upm u r0 0 (u r1 0)) r0 1 ((upm u r0 0 (u r1 0)) r1 1)) (g r1 2)) ((upm (upm u r0 0 (u r1 0)) r0 1 ((upm u r0 0 (u r1 0)) r1 1)) (g r0 2)) (0 : Int).toNat (0 : Int).toNat (4 : Int).toNat)) (g r0 3)) (0 : Int).toNat (0 : Int).toNat (4 : Int).toNat)) (g r1 4)) ((upr (upr (upm (upm u r0 0 (u r1 0)) r0 1 ((upm u r0 0 (u r1 0)) r1 1)) (g r0 2) (a_cpy ((upm (upm u r0 0 (u r1 0)) r0 1 ((upm u r0 0 (u r1 0)) r1 1)) (g r1 2)) ((upm (upm u r0 0 (u r1 0)) r0 1 ((upm u r0 0 (u r1 0)) r1 1)) (g r0 2)) (0 : Int).toNat (0 : Int).toNat (4 : Int).toNat)) (g r0 3) (a_cpy ((upr (upm (upm u r0 0 (u r1 0)) r0 1 ((upm u r0 0 (u r1 0)) r1 1)) (g r0 2) (a_cpy ((upm (upm u r0 0 (u r1 0)) r0 1 ((upm u r0 0 (u r1 0)) r1 1)) (g r1 2)) ((upm (upm u r0 0 (u r1 0)) r0 1 ((upm u r0 0 (u r1 0)) r1 1)) (g r0 2)) (0 : Int).toNat (0 : Int).toNat (4 : Int).toNat)) (g r1 3)) ((upr (upm (upm u r0 0 (u r1 0)) r0 1 ((upm u r0 0 (u r1 0)) r1 1)) (g r0 2) (a_cpy ((upm (upm u r0 0 (u r1 0)) r0 1 ((upm u r0 0 (u r1 0)) r1 1)) (g r1 2)) ((upm (upm u r0 0 (u r1 0)) r0 1 ((upm u r0 0 (u r1 0)) r1 1)) (g r0 2)) (0 : Int).toNat (0 : Int).toNat (4 : Int).toNat)) (g r0 3)) (0 : Int).toNat (0 : Int).toNat (4 : Int).toNat)) (g r0 4)) (0 : Int).toNat (0 : Int).toNat (12 : Int).toNat)) r0 5 ((upr (upr (upr (upm (upm u r0 0 (u r1 0)) r0 1 ((upm u r0 0 (u r1 0)) r1 1)) (g r0 2) (a_cpy ((upm (upm u r0 0 (u r1 0)) r0 1 ((upm u r0 0 (u r1 0)) r1 1)) (g r1 2)) ((upm (upm u r0 0 (u r1 0)) r0 1 ((upm u r0 0 (u r1 0)) r1 1)) (g r0 2)) (0 : Int).toNat (0 : Int).toNat (4 : Int).toNat)) (g r0 3) (a_cpy ((upr (upm (upm u r0 0 (u r1 0)) r0 1 ((upm u r0 0 (u r1 0)) r1 1)) (g r0 2) (a_cpy ((upm (upm u r0 0 (u r1 0)) r0 1 ((upm u r0 0 (u r1 0)) r1 1)) (g r1 2)) ((upm (upm u r0 0 (u r1 0)) r0 1 ((upm u r0 0 (u r1 0)) r1 1)) (g r0 2)) (0 : Int).toNat (0 : Int).toNat (4 : Int).toNat)) (g r1 3)) ((upr (upm (upm u r0 0 (u r1 0)) r0 1 ((upm u r0 0 (u r1 0)) r1 1)) (g r0 2) (a_cpy ((upm (upm u r0 0 (u r1 0)) r0 1 ((upm u r0 0 (u r1 0)) r1 1)) (g r1 2)) ((upm (upm u r0 0 (u r1 0)) r0 1 ((upm u r0 0 (u r1 0)) r1 1)) (g r0 2)) (0 : Int).toNat (0 : Int).toNat (4 : Int).toNat)) (g r0 3)) (0 : Int).toNat (0 : Int).toNat (4 : Int).toNat)) (g r0 4) (a_cpy ((upr (upr (upm (upm u r0 0 (u r1 0)) r0 1 ((upm u r0 0 (u r1 0)) r1 1)) (g r0 2) (a_cpy ((upm (upm u r0 0 (u r1 0)) r0 1 ((upm u r0 0 (u r1 0)) r1 1)) (g r1 2)) ((upm (upm u r0 0 (u r1 0)) r0 1 ((upm u r0 0 (u r1 0)) r1 1)) (g r0 2)) (0 : Int).toNat (0 : Int).toNat (4 : Int).toNat)) (g r0 3) (a_cpy ((upr (upm (upm u r0 0 (u r1 0)) r0 1 ((upm u r0 0 (u r1 0)) r1 1)) (g r0 2) (a_cpy ((upm (upm u r0 0 (u r1 0)) r0 1 ((upm u r0 0 (u r1 0)) r1 1)) (g r1 2)) ((upm (upm u r0 0 (u r1 0)) r0 1 ((upm u r0 0 (u r1 0)) r1 1)) (g r0 2)) (0 : Int).toNat (0 : Int).toNat (4 : Int).toNat)) (g r1 3)) ((upr (upm (upm u r0 0 (u r1 0)) r0 1 ((upm u r0 0 (u r1 0)) r1 1)) (g r0 2) (a_cpy ((upm (upm u r0 0 (u r1 0)) r0 1 ((upm u r0 0 (u r1 0)) r1 1)) (g r1 2)) ((upm (upm u r0 0 (u r1 0)) r0 1 ((upm u r0 0 (u r1 0)) r1 1)) (g r0 2)) (0 : Int).toNat (0 : Int).toNat (4 : Int).toNat)) (g r0 3)) (0 : Int).toNat (0 : Int).toNat (4 : Int).toNat)) (g r1 4)) ((upr (upr (upm (upm u r0 0 (u r1 0)) r0 1 ((upm u r0 0 (u r1 0)) r1 1)) (g r0 2) (a_cpy ((upm (upm u r0 0 (u r1 0)) r0 1 ((upm u r0 0 (u r1 0)) r1 1)) (g r1 2)) ((upm (upm u r0 0 (u r1 0)) r0 1 ((upm u r0 0 (u r1 0)) r1 1)) (g r0 2)) (0 : Int).toNat (0 : Int).toNat (4 : Int).toNat)) (g r0 3) (a_cpy ((upr (upm (upm u r0 0 (u r1 0)) r0 1 ((upm u r0 0 (u r1 0)) r1 1)) (g r0 2) (a_cpy ((upm (upm u r0 0 (u r1 0)) r0 1 ((upm u r0 0 (u r1 0)) r1 1)) (g r1 2)) ((upm (upm u r0 0 (u r1 0)) r0 1 ((upm u r0 0 (u r1 0)) r1 1)) (g r0 2)) (0 : Int).toNat (0 : Int).toNat (4 : Int).toNat)) (g r1 3)) ((upr (upm (upm u r0 0 (u r1 0)) r0 1 ((upm u r0 0 (u r1 0)) r1 1)) (g r0 2) (a_cpy ((upm (upm u r0 0 (u r1 0)) r0 1 ((upm u r0 0 (u r1 0)) r1 1)) (g r1 2)) ((upm (upm u r0 0 (u r1 0)) r0 1 ((upm u r0 0 (u r1 0)) r1 1)) (g r0 2)) (0 : Int).toNat (0 : Int).toNat (4 : Int).toNat)) (g r0 3)) (0 : Int).toNat (0 : Int).toNat (4 : Int).toNat)) (g r0 4)) (0 : Int).toNat (0 : Int).toNat (12 : Int).toNat)) r1 5)) r0 6 ((upm (upr (upr (upr (upm (upm u r0 0 (u r1 0)) r0 1 ((upm u r0 0 (u r1 0)) r1 1)) (g r0 2) (a_cpy ((upm (upm u r0 0 (u r1 0)) r0 1 ((upm u r0 0 (u r1 0)) r1 1)) (g r1 2)) ((upm (upm u r0 0 (u r1 0)) r0 1 ((upm u r0 0 (u r1 0)) r1 1)) (g r0 2)) (0 : Int).toNat (0 : Int).toNat (4 : Int).toNat)) (g r0 3) (a_cpy ((upr (upm (upm u r0 0 (u r1 0)) r0 1 ((upm u r0 0 (u r1 0)) r1 1)) (g r0 2) (a_cpy ((upm (upm u r0 0 (u r1 0)) r0 1 ((upm u r0 0 (u r1 0)) r1 1)) (g r1 2)) ((upm (upm u r0 0 (u r1 0)) r0 1 ((upm u r0 0 (u r1 0)) r1 1)) (g r0 2)) (0 : Int).toNat (0 : Int).toNat (4 : Int).toNat)) (g r1 3)) ((upr (upm (upm u r0 0 (u r1 0)) r0 1 ((upm u r0 0 (u r1 0)) r1 1)) (g r0 2) (a_cpy ((upm (upm u r0 0 (u r1 0)) r0 1 ((upm u r0 0 (u r1 0)) r1 1)) (g r1 2)) ((upm (upm u r0 0 (u r1 0)) r0 1 ((upm u r0 0 (u r1 0)) r1 1)) (g r0 2)) (0 : Int).toNat (0 : Int).toNat (4 : Int).toNat)) (g r0 3)) (0 : Int).toNat (0 : Int).toNat (4 : Int).toNat)) (g r0 4) (a_cpy ((upr (upr (upm (upm u r0 0 (u r1 0)) r0 1 ((upm u r0 0 (u r1 0)) r1 1)) (g r0 2) (a_cpy ((upm (upm u r0 0 (u r1 0)) r0 1 ((upm u r0 0 (u r1 0)) r1 1)) (g r1 2)) ((upm (upm u r0 0 (u r1 0)) r0 1 ((upm u r0 0 (u r1 0)) r1 1)) (g r0 2)) (0 : Int).toNat (0 : Int).toNat (4 : Int).toNat)) (g r0 3) (a_cpy ((upr (upm (upm u r0 0 (u r1 0)) r0 1 ((upm u r0 0 (u r1 0)) r1 1)) (g r0 2) (a_cpy ((upm (upm u r0 0 (u r1 0)) r0 1 ((upm u r0 0 (u r1 0)) r1 1)) (g r1 2)) ((upm (upm u r0 0 (u r1 0)) r0 1 ((upm u r0 0 (u r1 0)) r1 1)) (g r0 2)) (0 : Int).toNat (0 : Int).toNat (4 : Int).toNat)) (g r1 3)) ((upr (upm (upm u r0 0 (u r1 0)) r0 1 ((upm u r0 0 (u r1 0)) r1 1)) (g r0 2) (a_cpy ((upm (upm u r0 0 (u r1 0)) r0 1 ((upm u r0 0 (u r1 0)) r1 1)) (g r1 2)) ((upm (upm u r0 0 (u r1 0)) r0 1 ((upm u r0 0 (u r1 0)) r1 1)) (g r0 2)) (0 : Int).toNat (0 : Int).toNat (4 : Int).toNat)) (g r0 3)) (0 : Int).toNat (0 : Int).toNat (4 : Int).toNat)) (g r1 4)) ((upr (upr (upm (upm u r0 0 (u r1 0)) r0 1 ((upm u r0 0 (u r1 0)) r1 1)) (g r0 2) (a_cpy ((upm (upm u r0 0 (u r1 0)) r0 1 ((upm u r0 0 (u r1 0)) r1 1)) (g r1 2)) ((upm (upm u r0 0 (u r1 0)) r0 1 ((upm u r0 0 (u r1 0)) r1 1)) (g r0 2)) (0 : Int).toNat (0 : Int).toNat (4 : Int).toNat)) (g r0 3) (a_cpy ((upr (upm (upm u r0 0 (u r1 0)) r0 1 ((upm u r0 0 (u r1 0)) r1 1)) (g r0 2) (a_cpy ((upm (upm u r0 0 (u r1 0)) r0 1 ((upm u r0 0 (u r1 0)) r1 1)) (g r1 2)) ((upm (upm u r0 0 (u r1 0)) r0 1 ((upm u r0 0 (u r1 0)) r1 1)) (g r0 2)) (0 : Int).toNat (0 : Int).toNat (4 : Int).toNat)) (g r1 3)) ((upr (upm (upm u r0 0 (u r1 0)) r0 1 ((upm u r0 0 (u r1 0)) r1 1)) (g r0 2) (a_cpy ((upm (upm u r0 0 (u r1 0)) r0 1 ((upm u r0 0 (u r1 0)) r1 1)) (g r1 2)) ((upm (upm u r0 0 (u r1 0)) r0 1 ((upm u r0 0 (u r1 0)) r1 1)) (g r0 2)) (0 : Int).toNat (0 : Int).toNat (4 : Int).toNat)) (g r0 3)) (0 : Int).toNat (0 : Int).toNat (4 : Int).toNat)) (g r0 4)) (0 : Int).toNat (0 : Int).toNat (12 : Int).toNat)) r0 5 ((upr (upr (upr (upm (upm u r0 0 (u r1 0)) r0 1 ((upm u r0 0 (u r1 0)) r1 1)) (g r0 2) (a_cpy ((upm (upm u r0 0 (u r1 0)) r0 1 ((upm u r0 0 (u r1 0)) r1 1)) (g r1 2)) ((upm (upm u r0 0 (u r1 0)) r0 1 ((upm u r0 0 (u r1 0)) r1 1)) (g r0 2)) (0 : Int).toNat (0 : Int).toNat (4 : Int).toNat)) (g r0 3) (a_cpy ((upr (upm (upm u r0 0 (u r1 0)) r0 1 ((upm u r0 0 (u r1 0)) r1 1)) (g r0 2) (a_cpy ((upm (upm u r0 0 (u r1 0)) r0 1 ((upm u r0 0 (u r1 0)) r1 1)) (g r1 2)) ((upm (upm u r0 0 (u r1 0)) r0 1 ((upm u r0 0 (u r1 0)) r1 1)) (g r0 2)) (0 : Int).toNat (0 : Int).toNat (4 : Int).toNat)) (g r1 3)) ((upr (upm (upm u r0 0 (u r1 0)) r0 1 ((upm u r0 0 (u r1 0)) r1 1)) (g r0 2) (a_cpy ((upm (upm u r0 0 (u r1 0)) r0 1 ((upm u r0 0 (u r1 0)) r1 1)) (g r1 2)) ((upm (upm u r0 0 (u r1 0)) r0 1 ((upm u r0 0 (u r1 0)) r1 1)) (g r0 2)) (0 : Int).toNat (0 : Int).toNat (4 : Int).toNat)) (g r0 3)) (0 : Int).toNat (0 : Int).toNat (4 : Int).toNat)) (g r0 4) (a_cpy ((upr (upr (upm (upm u r0 0 (u r1 0)) r0 1 ((upm u r0 0 (u r1 0)) r1 1)) (g r0 2) (a_cpy ((upm (upm u r0 0 (u r1 0)) r0 1 ((upm u r0 0 (u r1 0)) r1 1)) (g r1 2)) ((upm (upm u r0 0 (u r1 0)) r0 1 ((upm u r0 0 (u r1 0)) r1 1)) (g r0 2)) (0 : Int).toNat (0 : Int).toNat (4 : Int).toNat)) (g r0 3) (a_cpy ((upr (upm (upm u r0 0 (u r1 0)) r0 1 ((upm u r0 0 (u r1 0)) r1 1)) (g r0 2) (a_cpy ((upm (upm u r0 0 (u r1 0)) r0 1 ((upm u r0 0 (u r1 0)) r1 1)) (g r1 2)) ((upm (upm u r0 0 (u r1 0)) r0 1 ((upm u r0 0 (u r1 0)) r1 1)) (g r0 2)) (0 : Int).toNat (0 : Int).toNat (4 : Int).toNat)) (g r1 3)) ((upr (upm (upm u r0 0 (u r1 0)) r0 1 ((upm u r0 0 (u r1 0)) r1 1)) (g r0 2) (a_cpy ((upm (upm u r0 0 (u r1 0)) r0 1 ((upm u r0 0 (u r1 0)) r1 1)) (g r1 2)) ((upm (upm u r0 0 (u r1 0)) r0 1 ((upm u r0 0 (u r1 0)) r1 1)) (g r0 2)) (0 : Int).toNat (0 : Int).toNat (4 : Int).toNat)) (g r0 3)) (0 : Int).toNat (0 : Int).toNat (4 : Int).toNat)) (g r1 4)) ((upr (upr (upm (upm u r0 0 (u r1 0)) r0 1 ((upm u r0 0 (u r1 0)) r1 1)) (g r0 2) (a_cpy ((upm (upm u r0 0 (u r1 0)) r0 1 ((upm u r0 0 (u r1 0)) r1 1)) (g r1 2)) ((upm (upm u r0 0 (u r1 0)) r0 1 ((upm u r0 0 (u r1 0)) r1 1)) (g r0 2)) (0 : Int).toNat (0 : Int).toNat (4 : Int).toNat)) (g r0 3) (a_cpy ((upr (upm (upm u r0 0 (u r1 0)) r0 1 ((upm u r0 0 (u r1 0)) r1 1)) (g r0 2) (a_cpy ((upm (upm u r0 0 (u r1 0)) r0 1 ((upm u r0 0 (u r1 0)) r1 1)) (g r1 2)) ((upm (upm u r0 0 (u r1 0)) r0 1 ((upm u r0 0 (u r1 0)) r1 1)) (g r0 2)) (0 : Int).toNat (0 : Int).toNat (4 : Int).toNat)) (g r1 3)) ((upr (upm (upm u r0 0 (u r1 0)) r0 1 ((upm u r0 0 (u r1 0)) r1 1)) (g r0 2) (a_cpy ((upm (upm u r0 0 (u r1 0)) r0 1 ((upm u r0 0 (u r1 0)) r1 1)) (g r1 2)) ((upm (upm u r0 0 (u r1 0)) r0 1 ((upm u r0 0 (u r1 0)) r1 1)) (g r0 2)) (0 : Int).toNat (0 : Int).toNat (4 : Int).toNat)) (g r0 3)) (0 : Int).toNat (0 : Int).toNat (4 : Int).toNat)) (g r0 4)) (0 : Int).toNat (0 : Int).toNat (12 : Int).toNat)) r1 5)) r1 6)) r1 7)) r1 8)) r0 9 ((upm (upm (upm (upm (upr (upr (upr (upm (upm u r0 0 (u r1 0)) r0 1 ((upm u r0 0 (u r1 0)) r1 1)) (g r0 2) (a_cpy ((upm (upm u r0 0 (u r1 0)) r0 1 ((upm u r0 0 (u r1 0)) r1 1)) (g r1 2)) ((upm (upm u r0 0 (u r1 0)) r0 1 ((upm u r0 0 (u r1 0)) r1 1)) (g r0 2)) (0 : Int).toNat (0 : Int).toNat (4 : Int).toNat)) (g r0 3) (a_cpy ((upr (upm (upm u r0 0 (u r1 0)) r0 1 ((upm u r0 0 (u r1 0)) r1 1)) (g r0 2) (a_cpy ((upm (upm u r0 0 (u r1 0)) r0 1 ((upm u r0 0 (u r1 0)) r1 1)) (g r1 2)) ((upm (upm u r0 0 (u r1 0)) r0 1 ((upm u r0 0 (u r1 0)) r1 1)) (g r0 2)) (0 : Int).toNat (0 : Int).toNat (4 : Int).toNat)) (g r1 3)) ((upr (upm (upm u r0 0 (u r1 0)) r0 1 ((upm u r0 0 (u r1 0)) r1 1)) (g r0 2) (a_cpy ((upm (upm u r0 0 (u r1 0)) r0 1 ((upm u r0 0 (u r1 0)) r1 1)) (g r1 2)) ((upm (upm u r0 0 (u r1 0)) r0 1 ((upm u r0 0 (u r1 0)) r1 1)) (g r0 2)) (0 : Int).toNat (0 : Int).toNat (4 : Int).toNat)) (g r0 3)) (0 : Int).toNat (0 : Int).toNat (4 : Int).toNat)) (g r0 4) (a_cpy ((upr (upr (upm (upm u r0 0 (u r1 0)) r0 1 ((upm u r0 0 (u r1 0)) r1 1)) (g r0 2) (a_cpy ((upm (upm u r0 0 (u r1 0)) r0 1 ((upm u r0 0 (u r1 0)) r1 1)) (g r1 2)) ((upm (upm u r0 0 (u r1 0)) r0 1 ((upm u r0 0 (u r1 0)) r1 1)) (g r0 2)) (0 : Int).toNat (0 : Int).toNat (4 : Int).toNat)) (g r0 3) (a_cpy ((upr (upm (upm u r0 0 (u r1 0)) r0 1 ((upm u r0 0 (u r1 0)) r1 1)) (g r0 2) (a_cpy ((upm (upm u r0 0 (u r1 0)) r0 1 ((upm u r0 0 (u r1 0)) r1 1)) (g r1 2)) ((upm (upm u r0 0 (u r1 0)) r0 1 ((upm u r0 0 (u r1 0)) r1 1)) (g r0 2)) (0 : Int).toNat (0 : Int).toNat (4 : Int).toNat)) (g r1 3)) ((upr (upm (upm u r0 0 (u r1 0)) r0 1 ((upm u r0 0 (u r1 0)) r1 1)) (g r0 2) (a_cpy ((upm (upm u r0 0 (u r1 0)) r0 1 ((upm u r0 0 (u r1 0)) r1 1)) (g r1 2)) ((upm (upm u r0 0 (u r1 0)) r0 1 ((upm u r0 0 (u r1 0)) r1 1)) (g r0 2)) (0 : Int).toNat (0 : Int).toNat (4 : Int).toNat)) (g r0 3)) (0 : Int).toNat (0 : Int).toNat (4 : Int).toNat)) (g r1 4)) ((upr (upr (upm (upm u r0 0 (u r1 0)) r0 1 ((upm u r0 0 (u r1 0)) r1 1)) (g r0 2) (a_cpy ((upm (upm u r0 0 (u r1 0)) r0 1 ((upm u r0 0 (u r1 0)) r1 1)) (g r1 2)) ((upm (upm u r0 0 (u r1 0)) r0 1 ((upm u r0 0 (u r1 0)) r1 1)) (g r0 2)) (0 : Int).toNat (0 : Int).toNat (4 : Int).toNat)) (g r0 3) (a_cpy ((upr (upm (upm u r0 0 (u r1 0)) r0 1 ((upm u r0 0 (u r1 0)) r1 1)) (g r0 2) (a_cpy ((upm (upm u r0 0 (u r1 0)) r0 1 ((upm u r0 0 (u r1 0)) r1 1)) (g r1 2)) ((upm (upm u r0 0 (u r1 0)) r0 1 ((upm u r0 0 (u r1 0)) r1 1)) (g r0 2)) (0 : Int).toNat (0 : Int).toNat (4 : Int).toNat)) (g r1 3)) ((upr (upm (upm u r0 0 (u r1 0)) r0 1 ((upm u r0 0 (u r1 0)) r1 1)) (g r0 2) (a_cpy ((upm (upm u r0 0 (u r1 0)) r0 1 ((upm u r0 0 (u r1 0)) r1 1)) (g r1 2)) ((upm (upm u r0 0 (u r1 0)) r0 1 ((upm u r0 0 (u r1 0)) r1 1)) (g r0 2)) (0 : Int).toNat (0 : Int).toNat (4 : Int).toNat)) (g r0 3)) (0 : Int).toNat (0 : Int).toNat (4 : Int).toNat)) (g r0 4)) (0 : Int).toNat (0 : Int).toNat (12 : Int).toNat)) r0 5 ((upr (upr (upr (upm (upm u r0 0 (u r1 0)) r0 1 ((upm u r0 0 (u r1 0)) r1 1)) (g r0 2) (a_cpy ((upm (upm u r0 0 (u r1 0)) r0 1 ((upm u r0 0 (u r1 0)) r1 1)) (g r1 2)) ((upm (upm u r0 0 (u r1 0)) r0 1 ((upm u r0 0 (u r1 0)) r1 1)) (g r0 2)) (0 : Int).toNat (0 : Int).toNat (4 : Int).toNat)) (g r0 3) (a_cpy ((upr (upm (upm u r0 0 (u r1 0)) r0 1 ((upm u r0 0 (u r1 0)) r1 1)) (g r0 2) (a_cpy ((upm (upm u r0 0 (u r1 0)) r0 1 ((upm u r0 0 (u r1 0)) r1 1)) (g r1 2)) ((upm (upm u r0 0 (u r1 0)) r0 1 ((upm u r0 0 (u r1 0)) r1 1)) (g r0 2)) (0 : Int).toNat (0 : Int).toNat (4 : Int).toNat)) (g r1 3)) ((upr (upm (upm u r0 0 (u r1 0)) r0 1 ((upm u r0 0 (u r1 0)) r1 1)) (g r0 2) (a_cpy ((upm (upm u r0 0 (u r1 0)) r0 1 ((upm u r0 0 (u r1 0)) r1 1)) (g r1 2)) ((upm (upm u r0 0 (u r1 0)) r0 1 ((upm u r0 0 (u r1 0)) r1 1)) (g r0 2)) (0 : Int).toNat (0 : Int).toNat (4 : Int).toNat)) (g r0 3)) (0 : Int).toNat (0 : Int).toNat (4 : Int).toNat)) (g r0 4) (a_cpy ((upr (upr (upm (upm u r0 0 (u r1 0)) r0 1 ((upm u r0 0 (u r1 0)) r1 1)) (g r0 2) (a_cpy ((upm (upm u r0 0 (u r1 0)) r0 1 ((upm u r0 0 (u r1 0)) r1 1)) (g r1 2)) ((upm (upm u r0 0 (u r1 0)) r0 1 ((upm u r0 0 (u r1 0)) r1 1)) (g r0 2)) (0 : Int).toNat (0 : Int).toNat (4 : Int).toNat)) (g r0 3) (a_cpy ((upr (upm (upm u r0 0 (u r1 0)) r0 1 ((upm u r0 0 (u r1 0)) r1 1)) (g r0 2) (a_cpy ((upm (upm u r0 0 (u r1 0)) r0 1 ((upm u r0 0 (u r1 0)) r1 1)) (g r1 2)) ((upm (upm u r0 0 (u r1 0)) r0 1 ((upm u r0 0 (u r1 0)) r1 1)) (g r0 2)) (0 : Int).toNat (0 : Int).toNat (4 : Int).toNat)) (g r1 3)) ((upr (upm (upm u r0 0 (u r1 0)) r0 1 ((upm u r0 0 (u r1 0)) r1 1)) (g r0 2) (a_cpy ((upm (upm u r0 0 (u r1 0)) r0 1 ((upm u r0 0 (u r1 0)) r1 1)) (g r1 2)) ((upm (upm u r0 0 (u r1 0)) r0 1 ((upm u r0 0 (u r1 0)) r1 1)) (g r0 2)) (0 : Int).toNat (0 : Int).toNat (4 : Int).toNat)) (g r0 3)) (0 : Int).toNat (0 : Int).toNat (4 : Int).toNat)) (g r1 4)) ((upr (upr (upm (upm u r0 0 (u r1 0)) r0 1 ((upm u r0 0 (u r1 0)) r1 1)) (g r0 2) (a_cpy ((upm (upm u r0 0 (u r1 0)) r0 1 ((upm u r0 0 (u r1 0)) r1 1)) (g r1 2)) ((upm (upm u r0 0 (u r1 0)) r0 1 ((upm u r0 0 (u r1 0)) r1 1)) (g r0 2)) (0 : Int).toNat (0 : Int).toNat (4 : Int).toNat)) (g r0 3) (a_cpy ((upr (upm (upm u r0 0 (u r1 0)) r0 1 ((upm u r0 0 (u r1 0)) r1 1)) (g r0 2) (a_cpy ((upm (upm u r0 0 (u r1 0)) r0 1 ((upm u r0 0 (u r1 0)) r1 1)) (g r1 2)) ((upm (upm u r0 0 (u r1 0)) r0 1 ((upm u r0 0 (u r1 0)) r1 1)) (g r0 2)) (0 : Int).toNat (0 : Int).toNat (4 : Int).toNat)) (g r1 3)) ((upr (upm (upm u r0 0 (u r1 0)) r0 1 ((upm u r0 0 (u r1 0)) r1 1)) (g r0 2) (a_cpy ((upm (upm u r0 0 (u r1 0)) r0 1 ((upm u r0 0 (u r1 0)) r1 1)) (g r1 2)) ((upm (upm u r0 0 (u r1 0)) r0 1 ((upm u r0 0 (u r1 0)) r1 1)) (g r0 2)) (0 : Int).toNat (0 : Int).toNat (4 : Int).toNat)) (g r0 3)) (0 : Int).toNat (0 : Int).toNat (4 : Int).toNat)) (g r0 4)) (0 : Int).toNat (0 : Int).toNat (12 : Int).toNat)) r1 5)) r0 6 ((upm (upr (upr (upr (upm (upm u r0 0 (u r1 0)) r0 1 ((upm u r0 0 (u r1 0)) r1 1)) (g r0 2) (a_cpy ((upm (upm u r0 0 (u r1 0)) r0 1 ((upm u r0 0 (u r1 0)) r1 1)) (g r1 2)) ((upm (upm u r0 0 (u r1 0)) r0 1 ((upm u r0 0 (u r1 0)) r1 1)) (g r0 2)) (0 : Int).toNat (0 : Int).toNat (4 : Int).toNat)) (g r0 3) (a_cpy ((upr (upm (upm u r0 0 (u r1 0)) r0 1 ((upm u r0 0 (u r1 0)) r1 1)) (g r0 2) (a_cpy ((upm (upm u r0 0 (u r1 0)) r0 1 ((upm u r0 0 (u r1 0)) r1 1)) (g r1 2)) ((upm (upm u r0 0 (u r1 0)) r0 1 ((upm u r0 0 (u r1 0)) r1 1)) (g r0 2)) (0 : Int).toNat (0 : Int).toNat (4 : Int).toNat)) (g r1 3)) ((upr (upm (upm u r0 0 (u r1 0)) r0 1 ((upm u r0 0 (u r1 0)) r1 1)) (g r0 2) (a_cpy ((upm (upm u r0 0 (u r1 0)) r0 1 ((upm u r0 0 (u r1 0)) r1 1)) (g r1 2)) ((upm (upm u r0 0 (u r1 0)) r0 1 ((upm u r0 0 (u r1 0)) r1 1)) (g r0 2)) (0 : Int).toNat (0 : Int).toNat (4 : Int).toNat)) (g r0 3)) (0 : Int).toNat (0 : Int).toNat (4 : Int).toNat)) (g r0 4) (a_cpy ((upr (upr (upm (upm u r0 0 (u r1 0)) r0 1 ((upm u r0 0 (u r1 0)) r1 1)) (g r0 2) (a_cpy ((upm (upm u r0 0 (u r1 0)) r0 1 ((upm u r0 0 (u r1 0)) r1 1)) (g r1 2)) ((upm (upm u r0 0 (u r1 0)) r0 1 ((upm u r0 0 (u r1 0)) r1 1)) (g r0 2)) (0 : Int).toNat (0 : Int).toNat (4 : Int).toNat)) (g r0 3) (a_cpy ((upr (upm (upm u r0 0 (u r1 0)) r0 1 ((upm u r0 0 (u r1 0)) r1 1)) (g r0 2) (a_cpy ((upm (upm u r0 0 (u r1 0)) r0 1 ((upm u r0 0 (u r1 0)) r1 1)) (g r1 2)) ((upm (upm u r0 0 (u r1 0)) r0 1 ((upm u r0 0 (u r1 0)) r1 1)) (g r0 2)) (0 : Int).toNat (0 : Int).toNat (4 : Int).toNat)) (g r1 3)) ((upr (upm (upm u r0 0 (u r1 0)) r0 1 ((upm u r0 0 (u r1 0)) r1 1)) (g r0 2) (a_cpy ((upm (upm u r0 0 (u r1 0)) r0 1 ((upm u r0 0 (u r1 0)) r1 1)) (g r1 2)) ((upm (upm u r0 0 (u r1 0)) r0 1 ((upm u r0 0 (u r1 0)) r1 1)) (g r0 2)) (0 : Int).toNat (0 : Int).toNat (4 : Int).toNat)) (g r0 3)) (0 : Int).toNat (0 : Int).toNat (4 : Int).toNat)) (g r1 4)) ((upr (upr (upm (upm u r0 0 (u r1 0)) r0 1 ((upm u r0 0 (u r1 0)) r1 1)) (g r0 2) (a_cpy ((upm (upm u r0 0 (u r1 0)) r0 1 ((upm u r0 0 (u r1 0)) r1 1)) (g r1 2)) ((upm (upm u r0 0 (u r1 0)) r0 1 ((upm u r0 0 (u r1 0)) r1 1)) (g r0 2)) (0 : Int).toNat (0 : Int).toNat (4 : Int).toNat)) (g r0 3) (a_cpy ((upr (upm (upm u r0 0 (u r1 0)) r0 1 ((upm u r0 0 (u r1 0)) r1 1)) (g r0 2) (a_cpy ((upm (upm u r0 0 (u r1 0)) r0 1 ((upm u r0 0 (u r1 0)) r1 1)) (g r1 2)) ((upm (upm u r0 0 (u r1 0)) r0 1 ((upm u r0 0 (u r1 0)) r1 1)) (g r0 2)) (0 : Int).toNat (0 : Int).toNat (4 : Int).toNat)) (g r1 3)) ((upr (upm (upm u r0 0 (u r1 0)) r0 1 ((upm u r0 0 (u r1 0)) r1 1)) (g r0 2) (a_cpy ((upm (upm u r0 0 (u r1 0)) r0 1 ((upm u r0 0 (u r1 0)) r1 1)) (g r1 2)) ((upm (upm u r0 0 (u r1 0)) r0 1 ((upm u r0 0 (u r1 0)) r1 1)) (g r0 2)) (0 : Int).toNat (0 : Int).toNat (4 : Int).toNat)) (g r0 3)) (0 : Int).toNat (0 : Int).toNat (4 : Int).toNat)) (g r0 4)) (0 : Int).toNat (0 : Int).toNat (12 : Int).toNat)) r0 5 ((upr (upr (upr (upm (upm u r0 0 (u r1 0)) r0 1 ((upm u r0 0 (u r1 0)) r1 1)) (g r0 2) (a_cpy ((upm (upm u r0 0 (u r1 0)) r0 1 ((upm u r0 0 (u r1 0)) r1 1)) (g r1 2)) ((upm (upm u r0 0 (u r1 0)) r0 1 ((upm u r0 0 (u r1 0)) r1 1)) (g r0 2)) (0 : Int).toNat (0 : Int).toNat (4 : Int).toNat)) (g r0 3) (a_cpy ((upr (upm (upm u r0 0 (u r1 0)) r0 1 ((upm u r0 0 (u r1 0)) r1 1)) (g r0 2) (a_cpy ((upm (upm u r0 0 (u r1 0)) r0 1 ((upm u r0 0 (u r1 0)) r1 1)) (g r1 2)) ((upm (upm u r0 0 (u r1 0)) r0 1 ((upm u r0 0 (u r1 0)) r1 1)) (g r0 2)) (0 : Int).toNat (0 : Int).toNat (4 : Int).toNat)) (g r1 3)) ((upr (upm (upm u r0 0 (u r1 0)) r0 1 ((upm u r0 0 (u r1 0)) r1 1)) (g r0 2) (a_cpy ((upm (upm u r0 0 (u r1 0)) r0 1 ((upm u r0 0 (u r1 0)) r1 1)) (g r1 2)) ((upm (upm u r0 0 (u r1 0)) r0 1 ((upm u r0 0 (u r1 0)) r1 1)) (g r0 2)) (0 : Int).toNat (0 : Int).toNat (4 : Int).toNat)) (g r0 3)) (0 : Int).toNat (0 : Int).toNat (4 : Int).toNat)) (g r0 4) (a_cpy ((upr (upr (upm (upm u r0 0 (u r1 0)) r0 1 ((upm u r0 0 (u r1 0)) r1 1)) (g r0 2) (a_cpy ((upm (upm u r0 0 (u r1 0)) r0 1 ((upm u r0 0 (u r1 0)) r1 1)) (g r1 2)) ((upm (upm u r0 0 (u r1 0)) r0 1 ((upm u r0 0 (u r1 0)) r1 1)) (g r0 2)) (0 : Int).toNat (0 : Int).toNat (4 : Int).toNat)) (g r0 3) (a_cpy ((upr (upm (upm u r0 0 (u r1 0)) r0 1 ((upm u r0 0 (u r1 0)) r1 1)) (g r0 2) (a_cpy ((upm (upm u r0 0 (u r1 0)) r0 1 ((upm u r0 0 (u r1 0)) r1 1)) (g r1 2)) ((upm (upm u r0 0 (u r1 0)) r0 1 ((upm u r0 0 (u r1 0)) r1 1)) (g r0 2)) (0 : Int).toNat (0 : Int).toNat (4 : Int).toNat)) (g r1 3)) ((upr (upm (upm u r0 0 (u r1 0)) r0 1 ((upm u r0 0 (u r1 0)) r1 1)) (g r0 2) (a_cpy ((upm (upm u r0 0 (u r1 0)) r0 1 ((upm u r0 0 (u r1 0)) r1 1)) (g r1 2)) ((upm (upm u r0 0 (u r1 0)) r0 1 ((upm u r0 0 (u r1 0)) r1 1)) (g r0 2)) (0 : Int).toNat (0 : Int).toNat (4 : Int).toNat)) (g r0 3)) (0 : Int).toNat (0 : Int).toNat (4 : Int).toNat)) (g r1 4)) ((upr (upr (upm (upm u r0 0 (u r1 0)) r0 1 ((upm u r0 0 (u r1 0)) r1 1)) (g r0 2) (a_cpy ((upm (upm u r0 0 (u r1 0)) r0 1 ((upm u r0 0 (u r1 0)) r1 1)) (g r1 2)) ((upm (upm u r0 0 (u r1 0)) r0 1 ((upm u r0 0 (u r1 0)) r1 1)) (g r0 2)) (0 : Int).toNat (0 : Int).toNat (4 : Int).toNat)) (g r0 3) (a_cpy ((upr (upm (upm u r0 0 (u r1 0)) r0 1 ((upm u r0 0 (u r1 0)) r1 1)) (g r0 2) (a_cpy ((upm (upm u r0 0 (u r1 0)) r0 1 ((upm u r0 0 (u r1 0)) r1 1)) (g r1 2)) ((upm (upm u r0 0 (u r1 0)) r0 1 ((upm u r0 0 (u r1 0)) r1 1)) (g r0 2)) (0 : Int).toNat (0 : Int).toNat (4 : Int).toNat)) (g r1 3)) ((upr (upm (upm u r0 0 (u r1 0)) r0 1 ((upm u r0 0 (u r1 0)) r1 1)) (g r0 2) (a_cpy ((upm (upm u r0 0 (u r1 0)) r0 1 ((upm u r0 0 (u r1 0)) r1 1)) (g r1 2)) ((upm (upm u r0 0 (u r1 0)) r0 1 ((upm u r0 0 (u r1 0)) r1 1)) (g r0 2)) (0 : Int).toNat (0 : Int).toNat (4 : Int).toNat)) (g r0 3)) (0 : Int).toNat (0 : Int).toNat (4 : Int).toNat)) (g r0 4)) (0 : Int).toNat (0 : Int).toNat (12 : Int).toNat)) r1 5)) r1 6)) r0 7 ((upm (upm (upr (upr (upr (upm (upm u r0 0 (u r1 0)) r0 1 ((upm u r0 0 (u r1 0)) r1 1)) (g r0 2) (a_cpy ((upm (upm u r0 0 (u r1 0)) r0 1 ((upm u r0 0 (u r1 0)) r1 1)) (g r1 2)) ((upm (upm u r0 0 (u r1 0)) r0 1 ((upm u r0 0 (u r1 0)) r1 1)) (g r0 2)) (0 : Int).toNat (0 : Int).toNat (4 : Int).toNat)) (g r0 3) (a_cpy ((upr (upm (upm u r0 0 (u r1 0)) r0 1 ((upm u r0 0 (u r1 0)) r1 1)) (g r0 2) (a_cpy ((upm (upm u r0 0 (u r1 0)) r0 1 ((upm u r0 0 (u r1 0)) r1 1)) (g r1 2)) ((upm (upm u r0 0 (u r1 0)) r0 1 ((upm u r0 0 (u r1 0)) r1 1)) (g r0 2)) (0 : Int).toNat (0 : Int).toNat (4 : Int).toNat)) (g r1 3)) ((upr (upm (upm u r0 0 (u r1 0)) r0 1 ((upm u r0 0 (u r1 0)) r1 1)) (g r0 2) (a_cpy ((upm (upm u r0 0 (u r1 0)) r0 1 ((upm u r0 0 (u r1 0)) r1 1)) (g r1 2)) ((upm (upm u r0 0 (u r1 0)) r0 1 ((upm u r0 0 (u r1 0)) r1 1)) (g r0 2)) (0 : Int).toNat (0 : Int).toNat (4 : Int).toNat)) (g r0 3)) (0 : Int).toNat (0 : Int).toNat (4 : Int).toNat)) (g r0 4) (a_cpy ((upr (upr (upm (upm u r0 0 (u r1 0)) r0 1 ((upm u r0 0 (u r1 0)) r1 1)) (g r0 2) (a_cpy ((upm (upm u r0 0 (u r1 0)) r0 1 ((upm u r0 0 (u r1 0)) r1 1)) (g r1 2)) ((upm (upm u r0 0 (u r1 0)) r0 1 ((upm u r0 0 (u r1 0)) r1 1)) (g r0 2)) (0 : Int).toNat (0 : Int).toNat (4 : Int).toNat)) (g r0 3) (a_cpy ((upr (upm (upm u r0 0 (u r1 0)) r0 1 ((upm u r0 0 (u r1 0)) r1 1)) (g r0 2) (a_cpy ((upm (upm u r0 0 (u r1 0)) r0 1 ((upm u r0 0 (u r1 0)) r1 1)) (g r1 2)) ((upm (upm u r0 0 (u r1 0)) r0 1 ((upm u r0 0 (u r1 0)) r1 1)) (g r0 2)) (0 : Int).toNat (0 : Int).toNat (4 : Int).toNat)) (g r1 3)) ((upr (upm (upm u r0 0 (u r1 0)) r0 1 ((upm u r0 0 (u r1 0)) r1 1)) (g r0 2) (a_cpy ((upm (upm u r0 0 (u r1 0)) r0 1 ((upm u r0 0 (u r1 0)) r1 1)) (g r1 2)) ((upm (upm u r0 0 (u r1 0)) r0 1 ((upm u r0 0 (u r1 0)) r1 1)) (g r0 2)) (0 : Int).toNat (0 : Int).toNat (4 : Int).toNat)) (g r0 3)) (0 : Int).toNat (0 : Int).toNat (4 : Int).toNat)) (g r1 4)) ((upr (upr (upm (upm u r0 0 (u r1 0)) r0 1 ((upm u r0 0 (u r1 0)) r1 1)) (g r0 2) (a_cpy ((upm (upm u r0 0 (u r1 0)) r0 1 ((upm u r0 0 (u r1 0)) r1 1)) (g r1 2)) ((upm (upm u r0 0 (u r1 0)) r0 1 ((upm u r0 0 (u r1 0)) r1 1)) (g r0 2)) (0 : Int).toNat (0 : Int).toNat (4 : Int).toNat)) (g r0 3) (a_cpy ((upr (upm (upm u r0 0 (u r1 0)) r0 1 ((upm u r0 0 (u r1 0)) r1 1)) (g r0 2) (a_cpy ((upm (upm u r0 0 (u r1 0)) r0 1 ((upm u r0 0 (u r1 0)) r1 1)) (g r1 2)) ((upm (upm u r0 0 (u r1 0)) r0 1 ((upm u r0 0 (u r1 0)) r1 1)) (g r0 2)) (0 : Int).toNat (0 : Int).toNat (4 : Int).toNat)) (g r1 3)) ((upr (upm (upm u r0 0 (u r1 0)) r0 1 ((upm u r0 0 (u r1 0)) r1 1)) (g r0 2) (a_cpy ((upm (upm u r0 0 (u r1 0)) r0 1 ((upm u r0 0 (u r1 0)) r1 1)) (g r1 2)) ((upm (upm u r0 0 (u r1 0)) r0 1 ((upm u r0 0 (u r1 0)) r1 1)) (g r0 2)) (0 : Int).toNat (0 : Int).toNat (4 : Int).toNat)) (g r0 3)) (0 : Int).toNat (0 : Int).toNat (4 : Int).toNat)) (g r0 4)) (0 : Int).toNat (0 : Int).toNat (12 : Int).toNat)) r0 5 ((upr (upr (upr (upm (upm u r0 0 (u r1 0)) r0 1 ((upm u r0 0 (u r1 0)) r1 1)) (g r0 2) (a_cpy ((upm (upm u r0 0 (u r1 0)) r0 1 ((upm u r0 0 (u r1 0)) r1 1)) (g r1 2)) ((upm (upm u r0 0 (u r1 0)) r0 1 ((upm u r0 0 (u r1 0)) r1 1)) (g r0 2)) (0 : Int).toNat (0 : Int).toNat (4 : Int).toNat)) (g r0 3) (a_cpy ((upr (upm (upm u r0 0 (u r1 0)) r0 1 ((upm u r0 0 (u r1 0)) r1 1)) (g r0 2) (a_cpy ((upm (upm u r0 0 (u r1 0)) r0 1 ((upm u r0 0 (u r1 0)) r1 1)) (g r1 2)) ((upm (upm u r0 0 (u r1 0)) r0 1 ((upm u r0 0 (u r1 0)) r1 1)) (g r0 2)) (0 : Int).toNat (0 : Int).toNat (4 : Int).toNat)) (g r1 3)) ((upr (upm (upm u r0 0 (u r1 0)) r0 1 ((upm u r0 0 (u r1 0)) r1 1)) (g r0 2) (a_cpy ((upm (upm u r0 0 (u r1 0)) r0 1 ((upm u r0 0 (u r1 0)) r1 1)) (g r1 2)) ((upm (upm u r0 0 (u r1 0)) r0 1 ((upm u r0 0 (u r1 0)) r1 1)) (g r0 2)) (0 : Int).toNat (0 : Int).toNat (4 : Int).toNat)) (g r0 3)) (0 : Int).toNat (0 : Int).toNat (4 : Int).toNat)) (g r0 4) (a_cpy ((upr (upr (upm (upm u r0 0 (u r1 0)) r0 1 ((upm u r0 0 (u r1 0)) r1 1)) (g r0 2) (a_cpy ((upm (upm u r0 0 (u r1 0)) r0 1 ((upm u r0 0 (u r1 0)) r1 1)) (g r1 2)) ((upm (upm u r0 0 (u r1 0)) r0 1 ((upm u r0 0 (u r1 0)) r1 1)) (g r0 2)) (0 : Int).toNat (0 : Int).toNat (4 : Int).toNat)) (g r0 3) (a_cpy ((upr (upm (upm u r0 0 (u r1 0)) r0 1 ((upm u r0 0 (u r1 0)) r1 1)) (g r0 2) (a_cpy ((upm (upm u r0 0 (u r1 0)) r0 1 ((upm u r0 0 (u r1 0)) r1 1)) (g r1 2)) ((upm (upm u r0 0 (u r1 0)) r0 1 ((upm u r0 0 (u r1 0)) r1 1)) (g r0 2)) (0 : Int).toNat (0 : Int).toNat (4 : Int).toNat)) (g r1 3)) ((upr (upm (upm u r0 0 (u r1 0)) r0 1 ((upm u r0 0 (u r1 0)) r1 1)) (g r0 2) (a_cpy ((upm (upm u r0 0 (u r1 0)) r0 1 ((upm u r0 0 (u r1 0)) r1 1)) (g r1 2)) ((upm (upm u r0 0 (u r1 0)) r0 1 ((upm u r0 0 (u r1 0)) r1 1)) (g r0 2)) (0 : Int).toNat (0 : Int).toNat (4 : Int).toNat)) (g r0 3)) (0 : Int).toNat (0 : Int).toNat (4 : Int).toNat)) (g r1 4)) ((upr (upr (upm (upm u r0 0 (u r1 0)) r0 1 ((upm u r0 0 (u r1 0)) r1 1)) (g r0 2) (a_cpy ((upm (upm u r0 0 (u r1 0)) r0 1 ((upm u r0 0 (u r1 0)) r1 1)) (g r1 2)) ((upm (upm u r0 0 (u r1 0)) r0 1 ((upm u r0 0 (u r1 0)) r1 1)) (g r0 2)) (0 : Int).toNat (0 : Int).toNat (4 : Int).toNat)) (g r0 3) (a_cpy ((upr (upm (upm u r0 0 (u r1 0)) r0 1 ((upm u r0 0 (u r1 0)) r1 1)) (g r0 2) (a_cpy ((upm (upm u r0 0 (u r1 0)) r0 1 ((upm u r0 0 (u r1 0)) r1 1)) (g r1 2)) ((upm (upm u r0 0 (u r1 0)) r0 1 ((upm u r0 0 (u r1 0)) r1 1)) (g r0 2)) (0 : Int).toNat (0 : Int).toNat (4 : Int).toNat)) (g r1 3)) ((upr (upm (upm u r0 0 (u r1 0)) r0 1 ((upm u r0 0 (u r1 0)) r1 1)) (g r0 2) (a_cpy ((upm (upm u r0 0 (u r1 0)) r0 1 ((upm u r0 0 (u r1 0)) r1 1)) (g r1 2)) ((upm (upm u r0 0 (u r1 0)) r0 1 ((upm u r0 0 (u r1 0)) r1 1)) (g r0 2)) (0 : Int).toNat (0 : Int).toNat (4 : Int).toNat)) (g r0 3)) (0 : Int).toNat (0 : Int).toNat (4 : Int).toNat)) (g r0 4)) (0 : Int).toNat (0 : Int).toNat (12 : Int).toNat)) r1 5)) r0 6 ((upm (upr (upr (upr (upm (upm u r0 0 (u r1 0)) r0 1 ((upm u r0 0 (u r1 0)) r1 1)) (g r0 2) (a_cpy ((upm (upm u r0 0 (u r1 0)) r0 1 ((upm u r0 0 (u r1 0)) r1 1)) (g r1 2)) ((upm (upm u r0 0 (u r1 0)) r0 1 ((upm u r0 0 (u r1 0)) r1 1)) (g r0 2)) (0 : Int).toNat (0 : Int).toNat (4 : Int).toNat)) (g r0 3) (a_cpy ((upr (upm (upm u r0 0 (u r1 0)) r0 1 ((upm u r0 0 (u r1 0)) r1 1)) (g r0 2) (a_cpy ((upm (upm u r0 0 (u r1 0)) r0 1 ((upm u r0 0 (u r1 0)) r1 1)) (g r1 2)) ((upm (upm u r0 0 (u r1 0)) r0 1 ((upm u r0 0 (u r1 0)) r1 1)) (g r0 2)) (0 : Int).toNat (0 : Int).toNat (4 : Int).toNat)) (g r1 3)) ((upr (upm (upm u r0 0 (u r1 0)) r0 1 ((upm u r0 0 (u r1 0)) r1 1)) (g r0 2) (a_cpy ((upm (upm u r0 0 (u r1 0)) r0 1 ((upm u r0 0 (u r1 0)) r1 1)) (g r1 2)) ((upm (upm u r0 0 (u r1 0)) r0 1 ((upm u r0 0 (u r1 0)) r1 1)) (g r0 2)) (0 : Int).toNat (0 : Int).toNat (4 : Int).toNat)) (g r0 3)) (0 : Int).toNat (0 : Int).toNat (4 : Int).toNat)) (g r0 4) (a_cpy ((upr (upr (upm (upm u r0 0 (u r1 0)) r0 1 ((upm u r0 0 (u r1 0)) r1 1)) (g r0 2) (a_cpy ((upm (upm u r0 0 (u r1 0)) r0 1 ((upm u r0 0 (u r1 0)) r1 1)) (g r1 2)) ((upm (upm u r0 0 (u r1 0)) r0 1 ((upm u r0 0 (u r1 0)) r1 1)) (g r0 2)) (0 : Int).toNat (0 : Int).toNat (4 : Int).toNat)) (g r0 3) (a_cpy ((upr (upm (upm u r0 0 (u r1 0)) r0 1 ((upm u r0 0 (u r1 0)) r1 1)) (g r0 2) (a_cpy ((upm (upm u r0 0 (u r1 0)) r0 1 ((upm u r0 0 (u r1 0)) r1 1)) (g r1 2)) ((upm (upm u r0 0 (u r1 0)) r0 1 ((upm u r0 0 (u r1 0)) r1 1)) (g r0 2)) (0 : Int).toNat (0 : Int).toNat (4 : Int).toNat)) (g r1 3)) ((upr (upm (upm u r0 0 (u r1 0)) r0 1 ((upm u r0 0 (u r1 0)) r1 1)) (g r0 2) (a_cpy ((upm (upm u r0 0 (u r1 0)) r0 1 ((upm u r0 0 (u r1 0)) r1 1)) (g r1 2)) ((upm (upm u r0 0 (u r1 0)) r0 1 ((upm u r0 0 (u r1 0)) r1 1)) (g r0 2)) (0 : Int).toNat (0 : Int).toNat (4 : Int).toNat)) (g r0 3)) (0 : Int).toNat (0 : Int).toNat (4 : Int).toNat)) (g r1 4)) ((upr (upr (upm (upm u r0 0 (u r1 0)) r0 1 ((upm u r0 0 (u r1 0)) r1 1)) (g r0 2) (a_cpy ((upm (upm u r0 0 (u r1 0)) r0 1 ((upm u r0 0 (u r1 0)) r1 1)) (g r1 2)) ((upm (upm u r0 0 (u r1 0)) r0 1 ((upm u r0 0 (u r1 0)) r1 1)) (g r0 2)) (0 : Int).toNat (0 : Int).toNat (4 : Int).toNat)) (g r0 3) (a_cpy ((upr (upm (upm u r0 0 (u r1 0)) r0 1 ((upm u r0 0 (u r1 0)) r1 1)) (g r0 2) (a_cpy ((upm (upm u r0 0 (u r1 0)) r0 1 ((upm u r0 0 (u r1 0)) r1 1)) (g r1 2)) ((upm (upm u r0 0 (u r1 0)) r0 1 ((upm u r0 0 (u r1 0)) r1 1)) (g r0 2)) (0 : Int).toNat (0 : Int).toNat (4 : Int).toNat)) (g r1 3)) ((upr (upm (upm u r0 0 (u r1 0)) r0 1 ((upm u r0 0 (u r1 0)) r1 1)) (g r0 2) (a_cpy ((upm (upm u r0 0 (u r1 0)) r0 1 ((upm u r0 0 (u r1 0)) r1 1)) (g r1 2)) ((upm (upm u r0 0 (u r1 0)) r0 1 ((upm u r0 0 (u r1 0)) r1 1)) (g r0 2)) (0 : Int).toNat (0 : Int).toNat (4 : Int).toNat)) (g r0 3)) (0 : Int).toNat (0 : Int).toNat (4 : Int).toNat)) (g r0 4)) (0 : Int).toNat (0 : Int).toNat (12 : Int).toNat)) r0 5 ((upr (upr (upr (upm (upm u r0 0 (u r1 0)) r0 1 ((upm u r0 0 (u r1 0)) r1 1)) (g r0 2) (a_cpy ((upm (upm u r0 0 (u r1 0)) r0 1 ((upm u r0 0 (u r1 0)) r1 1)) (g r1 2)) ((upm (upm u r0 0 (u r1 0)) r0 1 ((upm u r0 0 (u r1 0)) r1 1)) (g r0 2)) (0 : Int).toNat (0 : Int).toNat (4 : Int).toNat)) (g r0 3) (a_cpy ((upr (upm (upm u r0 0 (u r1 0)) r0 1 ((upm u r0 0 (u r1 0)) r1 1)) (g r0 2) (a_cpy ((upm (upm u r0 0 (u r1 0)) r0 1 ((upm u r0 0 (u r1 0)) r1 1)) (g r1 2)) ((upm (upm u r0 0 (u r1 0)) r0 1 ((upm u r0 0 (u r1 0)) r1 1)) (g r0 2)) (0 : Int).toNat (0 : Int).toNat (4 : Int).toNat)) (g r1 3)) ((upr (upm (upm u r0 0 (u r1 0)) r0 1 ((upm u r0 0 (u r1 0)) r1 1)) (g r0 2) (a_cpy ((upm (upm u r0 0 (u r1 0)) r0 1 ((upm u r0 0 (u r1 0)) r1 1)) (g r1 2)) ((upm (upm u r0 0 (u r1 0)) r0 1 ((upm u r0 0 (u r1 0)) r1 1)) (g r0 2)) (0 : Int).toNat (0 : Int).toNat (4 : Int).toNat)) (g r0 3)) (0 : Int).toNat (0 : Int).toNat (4 : Int).toNat)) (g r0 4) (a_cpy ((upr (upr (upm (upm u r0 0 (u r1 0)) r0 1 ((upm u r0 0 (u r1 0)) r1 1)) (g r0 2) (a_cpy ((upm (upm u r0 0 (u r1 0)) r0 1 ((upm u r0 0 (u r1 0)) r1 1)) (g r1 2)) ((upm (upm u r0 0 (u r1 0)) r0 1 ((upm u r0 0 (u r1 0)) r1 1)) (g r0 2)) (0 : Int).toNat (0 : Int).toNat (4 : Int).toNat)) (g r0 3) (a_cpy ((upr (upm (upm u r0 0 (u r1 0)) r0 1 ((upm u r0 0 (u r1 0)) r1 1)) (g r0 2) (a_cpy ((upm (upm u r0 0 (u r1 0)) r0 1 ((upm u r0 0 (u r1 0)) r1 1)) (g r1 2)) ((upm (upm u r0 0 (u r1 0)) r0 1 ((upm u r0 0 (u r1 0)) r1 1)) (g r0 2)) (0 : Int).toNat (0 : Int).toNat (4 : Int).toNat)) (g r1 3)) ((upr (upm (upm u r0 0 (u r1 0)) r0 1 ((upm u r0 0 (u r1 0)) r1 1)) (g r0 2) (a_cpy ((upm (upm u r0 0 (u r1 0)) r0 1 ((upm u r0 0 (u r1 0)) r1 1)) (g r1 2)) ((upm (upm u r0 0 (u r1 0)) r0 1 ((upm u r0 0 (u r1 0)) r1 1)) (g r0 2)) (0 : Int).toNat (0 : Int).toNat (4 : Int).toNat)) (g r0 3)) (0 : Int).toNat (0 : Int).toNat (4 : Int).toNat)) (g r1 4)) ((upr (upr (upm (upm u r0 0 (u r1 0)) r0 1 ((upm u r0 0 (u r1 0)) r1 1)) (g r0 2) (a_cpy ((upm (upm u r0 0 (u r1 0)) r0 1 ((upm u r0 0 (u r1 0)) r1 1)) (g r1 2)) ((upm (upm u r0 0 (u r1 0)) r0 1 ((upm u r0 0 (u r1 0)) r1 1)) (g r0 2)) (0 : Int).toNat (0 : Int).toNat (4 : Int).toNat)) (g r0 3) (a_cpy ((upr (upm (upm u r0 0 (u r1 0)) r0 1 ((upm u r0 0 (u r1 0)) r1 1)) (g r0 2) (a_cpy ((upm (upm u r0 0 (u r1 0)) r0 1 ((upm u r0 0 (u r1 0)) r1 1)) (g r1 2)) ((upm (upm u r0 0 (u r1 0)) r0 1 ((upm u r0 0 (u r1 0)) r1 1)) (g r0 2)) (0 : Int).toNat (0 : Int).toNat (4 : Int).toNat)) (g r1 3)) ((upr (upm (upm u r0 0 (u r1 0)) r0 1 ((upm u r0 0 (u r1 0)) r1 1)) (g r0 2) (a_cpy ((upm (upm u r0 0 (u r1 0)) r0 1 ((upm u r0 0 (u r1 0)) r1 1)) (g r1 2)) ((upm (upm u r0 0 (u r1 0)) r0 1 ((upm u r0 0 (u r1 0)) r1 1)) (g r0 2)) (0 : Int).toNat (0 : Int).toNat (4 : Int).toNat)) (g r0 3)) (0 : Int).toNat (0 : Int).toNat (4 : Int).toNat)) (g r0 4)) (0 : Int).toNat (0 : Int).toNat (12 : Int).toNat)) r1 5)) r1 6)) r1 7)) r0 8 ((upm (upm (upm (upr (upr (upr (upm (upm u r0 0 (u r1 0)) r0 1 ((upm u r0 0 (u r1 0)) r1 1)) (g r0 2) (a_cpy ((upm (upm u r0 0 (u r1 0)) r0 1 ((upm u r0 0 (u r1 0)) r1 1)) (g r1 2)) ((upm (upm u r0 0 (u r1 0)) r0 1 ((upm u r0 0 (u r1 0)) r1 1)) (g r0 2)) (0 : Int).toNat (0 : Int).toNat (4 : Int).toNat)) (g r0 3) (a_cpy ((upr (upm (upm u r0 0 (u r1 0)) r0 1 ((upm u r0 0 (u r1 0)) r1 1)) (g r0 2) (a_cpy ((upm (upm u r0 0 (u r1 0)) r0 1 ((upm u r0 0 (u r1 0)) r1 1)) (g r1 2)) ((upm (upm u r0 0 (u r1 0)) r0 1 ((upm u r0 0 (u r1 0)) r1 1)) (g r0 2)) (0 : Int).toNat (0 : Int).toNat (4 : Int).toNat)) (g r1 3)) ((upr (upm (upm u r0 0 (u r1 0)) r0 1 ((upm u r0 0 (u r1 0)) r1 1)) (g r0 2) (a_cpy ((upm (upm u r0 0 (u r1 0)) r0 1 ((upm u r0 0 (u r1 0)) r1 1)) (g r1 2)) ((upm (upm u r0 0 (u r1 0)) r0 1 ((upm u r0 0 (u r1 0)) r1 1)) (g r0 2)) (0 : Int).toNat (0 : Int).toNat (4 : Int).toNat)) (g r0 3)) (0 : Int).toNat (0 : Int).toNat (4 : Int).toNat)) (g r0 4) (a_cpy ((upr (upr (upm (upm u r0 0 (u r1 0)) r0 1 ((upm u r0 0 (u r1 0)) r1 1)) (g r0 2) (a_cpy ((upm (upm u r0 0 (u r1 0)) r0 1 ((upm u r0 0 (u r1 0)) r1 1)) (g r1 2)) ((upm (upm u r0 0 (u r1 0)) r0 1 ((upm u r0 0 (u r1 0)) r1 1)) (g r0 2)) (0 : Int).toNat (0 : Int).toNat (4 : Int).toNat)) (g r0 3) (a_cpy ((upr (upm (upm u r0 0 (u r1 0)) r0 1 ((upm u r0 0 (u r1 0)) r1 1)) (g r0 2) (a_cpy ((upm (upm u r0 0 (u r1 0)) r0 1 ((upm u r0 0 (u r1 0)) r1 1)) (g r1 2)) ((upm (upm u r0 0 (u r1 0)) r0 1 ((upm u r0 0 (u r1 0)) r1 1)) (g r0 2)) (0 : Int).toNat (0 : Int).toNat (4 : Int).toNat)) (g r1 3)) ((upr (upm (upm u r0 0 (u r1 0)) r0 1 ((upm u r0 0 (u r1 0)) r1 1)) (g r0 2) (a_cpy ((upm (upm u r0 0 (u r1 0)) r0 1 ((upm u r0 0 (u r1 0)) r1 1)) (g r1 2)) ((upm (upm u r0 0 (u r1 0)) r0 1 ((upm u r0 0 (u r1 0)) r1 1)) (g r0 2)) (0 : Int).toNat (0 : Int).toNat (4 : Int).toNat)) (g r0 3)) (0 : Int).toNat (0 : Int).toNat (4 : Int).toNat)) (g r1 4)) ((upr (upr (upm (upm u r0 0 (u r1 0)) r0 1 ((upm u r0 0 (u r1 0)) r1 1)) (g r0 2) (a_cpy ((upm (upm u r0 0 (u r1 0)) r0 1 ((upm u r0 0 (u r1 0)) r1 1)) (g r1 2)) ((upm (upm u r0 0 (u r1 0)) r0 1 ((upm u r0 0 (u r1 0)) r1 1)) (g r0 2)) (0 : Int).toNat (0 : Int).toNat (4 : Int).toNat)) (g r0 3) (a_cpy ((upr (upm (upm u r0 0 (u r1 0)) r0 1 ((upm u r0 0 (u r1 0)) r1 1)) (g r0 2) (a_cpy ((upm (upm u r0 0 (u r1 0)) r0 1 ((upm u r0 0 (u r1 0)) r1 1)) (g r1 2)) ((upm (upm u r0 0 (u r1 0)) r0 1 ((upm u r0 0 (u r1 0)) r1 1)) (g r0 2)) (0 : Int).toNat (0 : Int).toNat (4 : Int).toNat)) (g r1 3)) ((upr (upm (upm u r0 0 (u r1 0)) r0 1 ((upm u r0 0 (u r1 0)) r1 1)) (g r0 2) (a_cpy ((upm (upm u r0 0 (u r1 0)) r0 1 ((upm u r0 0 (u r1 0)) r1 1)) (g r1 2)) ((upm (upm u r0 0 (u r1 0)) r0 1 ((upm u r0 0 (u r1 0)) r1 1)) (g r0 2)) (0 : Int).toNat (0 : Int).toNat (4 : Int).toNat)) (g r0 3)) (0 : Int).toNat (0 : Int).toNat (4 : Int).toNat)) (g r0 4)) (0 : Int).toNat (0 : Int).toNat (12 : Int).toNat)) r0 5 ((upr (upr (upr (upm (upm u r0 0 (u r1 0)) r0 1 ((upm u r0 0 (u r1 0)) r1 1)) (g r0 2) (a_cpy ((upm (upm u r0 0 (u r1 0)) r0 1 ((upm u r0 0 (u r1 0)) r1 1)) (g r1 2)) ((upm (upm u r0 0 (u r1 0)) r0 1 ((upm u r0 0 (u r1 0)) r1 1)) (g r0 2)) (0 : Int).toNat (0 : Int).toNat (4 : Int).toNat)) (g r0 3) (a_cpy ((upr (upm (upm u r0 0 (u r1 0)) r0 1 ((upm u r0 0 (u r1 0)) r1 1)) (g r0 2) (a_cpy ((upm (upm u r0 0 (u r1 0)) r0 1 ((upm u r0 0 (u r1 0)) r1 1)) (g r1 2)) ((upm (upm u r0 0 (u r1 0)) r0 1 ((upm u r0 0 (u r1 0)) r1 1)) (g r0 2)) (0 : Int).toNat (0 : Int).toNat (4 : Int).toNat)) (g r1 3)) ((upr (upm (upm u r0 0 (u r1 0)) r0 1 ((upm u r0 0 (u r1 0)) r1 1)) (g r0 2) (a_cpy ((upm (upm u r0 0 (u r1 0)) r0 1 ((upm u r0 0 (u r1 0)) r1 1)) (g r1 2)) ((upm (upm u r0 0 (u r1 0)) r0 1 ((upm u r0 0 (u r1 0)) r1 1)) (g r0 2)) (0 : Int).toNat (0 : Int).toNat (4 : Int).toNat)) (g r0 3)) (0 : Int).toNat (0 : Int).toNat (4 : Int).toNat)) (g r0 4) (a_cpy ((upr (upr (upm (upm u r0 0 (u r1 0)) r0 1 ((upm u r0 0 (u r1 0)) r1 1)) (g r0 2) (a_cpy ((upm (upm u r0 0 (u r1 0)) r0 1 ((upm u r0 0 (u r1 0)) r1 1)) (g r1 2)) ((upm (upm u r0 0 (u r1 0)) r0 1 ((upm u r0 0 (u r1 0)) r1 1)) (g r0 2)) (0 : Int).toNat (0 : Int).toNat (4 : Int).toNat)) (g r0 3) (a_cpy ((upr (upm (upm u r0 0 (u r1 0)) r0 1 ((upm u r0 0 (u r1 0)) r1 1)) (g r0 2) (a_cpy ((upm (upm u r0 0 (u r1 0)) r0 1 ((upm u r0 0 (u r1 0)) r1 1)) (g r1 2)) ((upm (upm u r0 0 (u r1 0)) r0 1 ((upm u r0 0 (u r1 0)) r1 1)) (g r0 2)) (0 : Int).toNat (0 : Int).toNat (4 : Int).toNat)) (g r1 3)) ((upr (upm (upm u r0 0 (u r1 0)) r0 1 ((upm u r0 0 (u r1 0)) r1 1)) (g r0 2) (a_cpy ((upm (upm u r0 0 (u r1 0)) r0 1 ((upm u r0 0 (u r1 0)) r1 1)) (g r1 2)) ((upm (upm u r0 0 (u r1 0)) r0 1 ((upm u r0 0 (u r1 0)) r1 1)) (g r0 2)) (0 : Int).toNat (0 : Int).toNat (4 : Int).toNat)) (g r0 3)) (0 : Int).toNat (0 : Int).toNat (4 : Int).toNat)) (g r1 4)) ((upr (upr (upm (upm u r0 0 (u r1 0)) r0 1 ((upm u r0 0 (u r1 0)) r1 1)) (g r0 2) (a_cpy ((upm (upm u r0 0 (u r1 0)) r0 1 ((upm u r0 0 (u r1 0)) r1 1)) (g r1 2)) ((upm (upm u r0 0 (u r1 0)) r0 1 ((upm u r0 0 (u r1 0)) r1 1)) (g r0 2)) (0 : Int).toNat (0 : Int).toNat (4 : Int).toNat)) (g r0 3) (a_cpy ((upr (upm (upm u r0 0 (u r1 0)) r0 1 ((upm u r0 0 (u r1 0)) r1 1)) (g r0 2) (a_cpy ((upm (upm u r0 0 (u r1 0)) r0 1 ((upm u r0 0 (u r1 0)) r1 1)) (g r1 2)) ((upm (upm u r0 0 (u r1 0)) r0 1 ((upm u r0 0 (u r1 0)) r1 1)) (g r0 2)) (0 : Int).toNat (0 : Int).toNat (4 : Int).toNat)) (g r1 3)) ((upr (upm (upm u r0 0 (u r1 0)) r0 1 ((upm u r0 0 (u r1 0)) r1 1)) (g r0 2) (a_cpy ((upm (upm u r0 0 (u r1 0)) r0 1 ((upm u r0 0 (u r1 0)) r1 1)) (g r1 2)) ((upm (upm u r0 0 (u r1 0)) r0 1 ((upm u r0 0 (u r1 0)) r1 1)) (g r0 2)) (0 : Int).toNat (0 : Int).toNat (4 : Int).toNat)) (g r0 3)) (0 : Int).toNat (0 : Int).toNat (4 : Int).toNat)) (g r0 4)) (0 : Int).toNat (0 : Int).toNat (12 : Int).toNat)) r1 5)) r0 6 ((upm (upr (upr (upr (upm (upm u r0 0 (u r1 0)) r0 1 ((upm u r0 0 (u r1 0)) r1 1)) (g r0 2) (a_cpy ((upm (upm u r0 0 (u r1 0)) r0 1 ((upm u r0 0 (u r1 0)) r1 1)) (g r1 2)) ((upm (upm u r0 0 (u r1 0)) r0 1 ((upm u r0 0 (u r1 0)) r1 1)) (g r0 2)) (0 : Int).toNat (0 : Int).toNat (4 : Int).toNat)) (g r0 3) (a_cpy ((upr (upm (upm u r0 0 (u r1 0)) r0 1 ((upm u r0 0 (u r1 0)) r1 1)) (g r0 2) (a_cpy ((upm (upm u r0 0 (u r1 0)) r0 1 ((upm u r0 0 (u r1 0)) r1 1)) (g r1 2)) ((upm (upm u r0 0 (u r1 0)) r0 1 ((upm u r0 0 (u r1 0)) r1 1)) (g r0 2)) (0 : Int).toNat (0 : Int).toNat (4 : Int).toNat)) (g r1 3)) ((upr (upm (upm u r0 0 (u r1 0)) r0 1 ((upm u r0 0 (u r1 0)) r1 1)) (g r0 2) (a_cpy ((upm (upm u r0 0 (u r1 0)) r0 1 ((upm u r0 0 (u r1 0)) r1 1)) (g r1 2)) ((upm (upm u r0 0 (u r1 0)) r0 1 ((upm u r0 0 (u r1 0)) r1 1)) (g r0 2)) (0 : Int).toNat (0 : Int).toNat (4 : Int).toNat)) (g r0 3)) (0 : Int).toNat (0 : Int).toNat (4 : Int).toNat)) (g r0 4) (a_cpy ((upr (upr (upm (upm u r0 0 (u r1 0)) r0 1 ((upm u r0 0 (u r1 0)) r1 1)) (g r0 2) (a_cpy ((upm (upm u r0 0 (u r1 0)) r0 1 ((upm u r0 0 (u r1 0)) r1 1)) (g r1 2)) ((upm (upm u r0 0 (u r1 0)) r0 1 ((upm u r0 0 (u r1 0)) r1 1)) (g r0 2)) (0 : Int).toNat (0 : Int).toNat (4 : Int).toNat)) (g r0 3) (a_cpy ((upr (upm (upm u r0 0 (u r1 0)) r0 1 ((upm u r0 0 (u r1 0)) r1 1)) (g r0 2) (a_cpy ((upm (upm u r0 0 (u r1 0)) r0 1 ((upm u r0 0 (u r1 0)) r1 1)) (g r1 2)) ((upm (upm u r0 0 (u r1 0)) r0 1 ((upm u r0 0 (u r1 0)) r1 1)) (g r0 2)) (0 : Int).toNat (0 : Int).toNat (4 : Int).toNat)) (g r1 3)) ((upr (upm (upm u r0 0 (u r1 0)) r0 1 ((upm u r0 0 (u r1 0)) r1 1)) (g r0 2) (a_cpy ((upm (upm u r0 0 (u r1 0)) r0 1 ((upm u r0 0 (u r1 0)) r1 1)) (g r1 2)) ((upm (upm u r0 0 (u r1 0)) r0 1 ((upm u r0 0 (u r1 0)) r1 1)) (g r0 2)) (0 : Int).toNat (0 : Int).toNat (4 : Int).toNat)) (g r0 3)) (0 : Int).toNat (0 : Int).toNat (4 : Int).toNat)) (g r1 4)) ((upr (upr (upm (upm u r0 0 (u r1 0)) r0 1 ((upm u r0 0 (u r1 0)) r1 1)) (g r0 2) (a_cpy ((upm (upm u r0 0 (u r1 0)) r0 1 ((upm u r0 0 (u r1 0)) r1 1)) (g r1 2)) ((upm (upm u r0 0 (u r1 0)) r0 1 ((upm u r0 0 (u r1 0)) r1 1)) (g r0 2)) (0 : Int).toNat (0 : Int).toNat (4 : Int).toNat)) (g r0 3) (a_cpy ((upr (upm (upm u r0 0 (u r1 0)) r0 1 ((upm u r0 0 (u r1 0)) r1 1)) (g r0 2) (a_cpy ((upm (upm u r0 0 (u r1 0)) r0 1 ((upm u r0 0 (u r1 0)) r1 1)) (g r1 2)) ((upm (upm u r0 0 (u r1 0)) r0 1 ((upm u r0 0 (u r1 0)) r1 1)) (g r0 2)) (0 : Int).toNat (0 : Int).toNat (4 : Int).toNat)) (g r1 3)) ((upr (upm (upm u r0 0 (u r1 0)) r0 1 ((upm u r0 0 (u r1 0)) r1 1)) (g r0 2) (a_cpy ((upm (upm u r0 0 (u r1 0)) r0 1 ((upm u r0 0 (u r1 0)) r1 1)) (g r1 2)) ((upm (upm u r0 0 (u r1 0)) r0 1 ((upm u r0 0 (u r1 0)) r1 1)) (g r0 2)) (0 : Int).toNat (0 : Int).toNat (4 : Int).toNat)) (g r0 3)) (0 : Int).toNat (0 : Int).toNat (4 : Int).toNat)) (g r0 4)) (0 : Int).toNat (0 : Int).toNat (12 : Int).toNat)) r0 5 ((upr (upr (upr (upm (upm u r0 0 (u r1 0)) r0 1 ((upm u r0 0 (u r1 0)) r1 1)) (g r0 2) (a_cpy ((upm (upm u r0 0 (u r1 0)) r0 1 ((upm u r0 0 (u r1 0)) r1 1)) (g r1 2)) ((upm (upm u r0 0 (u r1 0)) r0 1 ((upm u r0 0 (u r1 0)) r1 1)) (g r0 2)) (0 : Int).toNat (0 : Int).toNat (4 : Int).toNat)) (g r0 3) (a_cpy ((upr (upm (upm u r0 0 (u r1 0)) r0 1 ((upm u r0 0 (u r1 0)) r1 1)) (g r0 2) (a_cpy ((upm (upm u r0 0 (u r1 0)) r0 1 ((upm u r0 0 (u r1 0)) r1 1)) (g r1 2)) ((upm (upm u r0 0 (u r1 0)) r0 1 ((upm u r0 0 (u r1 0)) r1 1)) (g r0 2)) (0 : Int).toNat (0 : Int).toNat (4 : Int).toNat)) (g r1 3)) ((upr (upm (upm u r0 0 (u r1 0)) r0 1 ((upm u r0 0 (u r1 0)) r1 1)) (g r0 2) (a_cpy ((upm (upm u r0 0 (u r1 0)) r0 1 ((upm u r0 0 (u r1 0)) r1 1)) (g r1 2)) ((upm (upm u r0 0 (u r1 0)) r0 1 ((upm u r0 0 (u r1 0)) r1 1)) (g r0 2)) (0 : Int).toNat (0 : Int).toNat (4 : Int).toNat)) (g r0 3)) (0 : Int).toNat (0 : Int).toNat (4 : Int).toNat)) (g r0 4) (a_cpy ((upr (upr (upm (upm u r0 0 (u r1 0)) r0 1 ((upm u r0 0 (u r1 0)) r1 1)) (g r0 2) (a_cpy ((upm (upm u r0 0 (u r1 0)) r0 1 ((upm u r0 0 (u r1 0)) r1 1)) (g r1 2)) ((upm (upm u r0 0 (u r1 0)) r0 1 ((upm u r0 0 (u r1 0)) r1 1)) (g r0 2)) (0 : Int).toNat (0 : Int).toNat (4 : Int).toNat)) (g r0 3) (a_cpy ((upr (upm (upm u r0 0 (u r1 0)) r0 1 ((upm u r0 0 (u r1 0)) r1 1)) (g r0 2) (a_cpy ((upm (upm u r0 0 (u r1 0)) r0 1 ((upm u r0 0 (u r1 0)) r1 1)) (g r1 2)) ((upm (upm u r0 0 (u r1 0)) r0 1 ((upm u r0 0 (u r1 0)) r1 1)) (g r0 2)) (0 : Int).toNat (0 : Int).toNat (4 : Int).toNat)) (g r1 3)) ((upr (upm (upm u r0 0 (u r1 0)) r0 1 ((upm u r0 0 (u r1 0)) r1 1)) (g r0 2) (a_cpy ((upm (upm u r0 0 (u r1 0)) r0 1 ((upm u r0 0 (u r1 0)) r1 1)) (g r1 2)) ((upm (upm u r0 0 (u r1 0)) r0 1 ((upm u r0 0 (u r1 0)) r1 1)) (g r0 2)) (0 : Int).toNat (0 : Int).toNat (4 : Int).toNat)) (g r0 3)) (0 : Int).toNat (0 : Int).toNat (4 : Int).toNat)) (g r1 4)) ((upr (upr (upm (upm u r0 0 (u r1 0)) r0 1 ((upm u r0 0 (u r1 0)) r1 1)) (g r0 2) (a_cpy ((upm (upm u r0 0 (u r1 0)) r0 1 ((upm u r0 0 (u r1 0)) r1 1)) (g r1 2)) ((upm (upm u r0 0 (u r1 0)) r0 1 ((upm u r0 0 (u r1 0)) r1 1)) (g r0 2)) (0 : Int).toNat (0 : Int).toNat (4 : Int).toNat)) (g r0 3) (a_cpy ((upr (upm (upm u r0 0 (u r1 0)) r0 1 ((upm u r0 0 (u r1 0)) r1 1)) (g r0 2) (a_cpy ((upm (upm u r0 0 (u r1 0)) r0 1 ((upm u r0 0 (u r1 0)) r1 1)) (g r1 2)) ((upm (upm u r0 0 (u r1 0)) r0 1 ((upm u r0 0 (u r1 0)) r1 1)) (g r0 2)) (0 : Int).toNat (0 : Int).toNat (4 : Int).toNat)) (g r1 3)) ((upr (upm (upm u r0 0 (u r1 0)) r0 1 ((upm u r0 0 (u r1 0)) r1 1)) (g r0 2) (a_cpy ((upm (upm u r0 0 (u r1 0)) r0 1 ((upm u r0 0 (u r1 0)) r1 1)) (g r1 2)) ((upm (upm u r0 0 (u r1 0)) r0 1 ((upm u r0 0 (u r1 0)) r1 1)) (g r0 2)) (0 : Int).toNat (0 : Int).toNat (4 : Int).toNat)) (g r0 3)) (0 : Int).toNat (0 : Int).toNat (4 : Int).toNat)) (g r0 4)) (0 : Int).toNat (0 : Int).toNat (12 : Int).toNat)) r1 5)) r1 6)) r0 7 ((upm (upm (upr (upr (upr (upm (upm u r0 0 (u r1 0)) r0 1 ((upm u r0 0 (u r1 0)) r1 1)) (g r0 2) (a_cpy ((upm (upm u r0 0 (u r1 0)) r0 1 ((upm u r0 0 (u r1 0)) r1 1)) (g r1 2)) ((upm (upm u r0 0 (u r1 0)) r0 1 ((upm u r0 0 (u r1 0)) r1 1)) (g r0 2)) (0 : Int).toNat (0 : Int).toNat (4 : Int).toNat)) (g r0 3) (a_cpy ((upr (upm (upm u r0 0 (u r1 0)) r0 1 ((upm u r0 0 (u r1 0)) r1 1)) (g r0 2) (a_cpy ((upm (upm u r0 0 (u r1 0)) r0 1 ((upm u r0 0 (u r1 0)) r1 1)) (g r1 2)) ((upm (upm u r0 0 (u r1 0)) r0 1 ((upm u r0 0 (u r1 0)) r1 1)) (g r0 2)) (0 : Int).toNat (0 : Int).toNat (4 : Int).toNat)) (g r1 3)) ((upr (upm (upm u r0 0 (u r1 0)) r0 1 ((upm u r0 0 (u r1 0)) r1 1)) (g r0 2) (a_cpy ((upm (upm u r0 0 (u r1 0)) r0 1 ((upm u r0 0 (u r1 0)) r1 1)) (g r1 2)) ((upm (upm u r0 0 (u r1 0)) r0 1 ((upm u r0 0 (u r1 0)) r1 1)) (g r0 2)) (0 : Int).toNat (0 : Int).toNat (4 : Int).toNat)) (g r0 3)) (0 : Int).toNat (0 : Int).toNat (4 : Int).toNat)) (g r0 4) (a_cpy ((upr (upr (upm (upm u r0 0 (u r1 0)) r0 1 ((upm u r0 0 (u r1 0)) r1 1)) (g r0 2) (a_cpy ((upm (upm u r0 0 (u r1 0)) r0 1 ((upm u r0 0 (u r1 0)) r1 1)) (g r1 2)) ((upm (upm u r0 0 (u r1 0)) r0 1 ((upm u r0 0 (u r1 0)) r1 1)) (g r0 2)) (0 : Int).toNat (0 : Int).toNat (4 : Int).toNat)) (g r0 3) (a_cpy ((upr (upm (upm u r0 0 (u r1 0)) r0 1 ((upm u r0 0 (u r1 0)) r1 1)) (g r0 2) (a_cpy ((upm (upm u r0 0 (u r1 0)) r0 1 ((upm u r0 0 (u r1 0)) r1 1)) (g r1 2)) ((upm (upm u r0 0 (u r1 0)) r0 1 ((upm u r0 0 (u r1 0)) r1 1)) (g r0 2)) (0 : Int).toNat (0 : Int).toNat (4 : Int).toNat)) (g r1 3)) ((upr (upm (upm u r0 0 (u r1 0)) r0 1 ((upm u r0 0 (u r1 0)) r1 1)) (g r0 2) (a_cpy ((upm (upm u r0 0 (u r1 0)) r0 1 ((upm u r0 0 (u r1 0)) r1 1)) (g r1 2)) ((upm (upm u r0 0 (u r1 0)) r0 1 ((upm u r0 0 (u r1 0)) r1 1)) (g r0 2)) (0 : Int).toNat (0 : Int).toNat (4 : Int).toNat)) (g r0 3)) (0 : Int).toNat (0 : Int).toNat (4 : Int).toNat)) (g r1 4)) ((upr (upr (upm (upm u r0 0 (u r1 0)) r0 1 ((upm u r0 0 (u r1 0)) r1 1)) (g r0 2) (a_cpy ((upm (upm u r0 0 (u r1 0)) r0 1 ((upm u r0 0 (u r1 0)) r1 1)) (g r1 2)) ((upm (upm u r0 0 (u r1 0)) r0 1 ((upm u r0 0 (u r1 0)) r1 1)) (g r0 2)) (0 : Int).toNat (0 : Int).toNat (4 : Int).toNat)) (g r0 3) (a_cpy ((upr (upm (upm u r0 0 (u r1 0)) r0 1 ((upm u r0 0 (u r1 0)) r1 1)) (g r0 2) (a_cpy ((upm (upm u r0 0 (u r1 0)) r0 1 ((upm u r0 0 (u r1 0)) r1 1)) (g r1 2)) ((upm (upm u r0 0 (u r1 0)) r0 1 ((upm u r0 0 (u r1 0)) r1 1)) (g r0 2)) (0 : Int).toNat (0 : Int).toNat (4 : Int).toNat)) (g r1 3)) ((upr (upm (upm u r0 0 (u r1 0)) r0 1 ((upm u r0 0 (u r1 0)) r1 1)) (g r0 2) (a_cpy ((upm (upm u r0 0 (u r1 0)) r0 1 ((upm u r0 0 (u r1 0)) r1 1)) (g r1 2)) ((upm (upm u r0 0 (u r1 0)) r0 1 ((upm u r0 0 (u r1 0)) r1 1)) (g r0 2)) (0 : Int).toNat (0 : Int).toNat (4 : Int).toNat)) (g r0 3)) (0 : Int).toNat (0 : Int).toNat (4 : Int).toNat)) (g r0 4)) (0 : Int).toNat (0 : Int).toNat (12 : Int).toNat)) r0 5 ((upr (upr (upr (upm (upm u r0 0 (u r1 0)) r0 1 ((upm u r0 0 (u r1 0)) r1 1)) (g r0 2) (a_cpy ((upm (upm u r0 0 (u r1 0)) r0 1 ((upm u r0 0 (u r1 0)) r1 1)) (g r1 2)) ((upm (upm u r0 0 (u r1 0)) r0 1 ((upm u r0 0 (u r1 0)) r1 1)) (g r0 2)) (0 : Int).toNat (0 : Int).toNat (4 : Int).toNat)) (g r0 3) (a_cpy ((upr (upm (upm u r0 0 (u r1 0)) r0 1 ((upm u r0 0 (u r1 0)) r1 1)) (g r0 2) (a_cpy ((upm (upm u r0 0 (u r1 0)) r0 1 ((upm u r0 0 (u r1 0)) r1 1)) (g r1 2)) ((upm (upm u r0 0 (u r1 0)) r0 1 ((upm u r0 0 (u r1 0)) r1 1)) (g r0 2)) (0 : Int).toNat (0 : Int).toNat (4 : Int).toNat)) (g r1 3)) ((upr (upm (upm u r0 0 (u r1 0)) r0 1 ((upm u r0 0 (u r1 0)) r1 1)) (g r0 2) (a_cpy ((upm (upm u r0 0 (u r1 0)) r0 1 ((upm u r0 0 (u r1 0)) r1 1)) (g r1 2)) ((upm (upm u r0 0 (u r1 0)) r0 1 ((upm u r0 0 (u r1 0)) r1 1)) (g r0 2)) (0 : Int).toNat (0 : Int).toNat (4 : Int).toNat)) (g r0 3)) (0 : Int).toNat (0 : Int).toNat (4 : Int).toNat)) (g r0 4) (a_cpy ((upr (upr (upm (upm u r0 0 (u r1 0)) r0 1 ((upm u r0 0 (u r1 0)) r1 1)) (g r0 2) (a_cpy ((upm (upm u r0 0 (u r1 0)) r0 1 ((upm u r0 0 (u r1 0)) r1 1)) (g r1 2)) ((upm (upm u r0 0 (u r1 0)) r0 1 ((upm u r0 0 (u r1 0)) r1 1)) (g r0 2)) (0 : Int).toNat (0 : Int).toNat (4 : Int).toNat)) (g r0 3) (a_cpy ((upr (upm (upm u r0 0 (u r1 0)) r0 1 ((upm u r0 0 (u r1 0)) r1 1)) (g r0 2) (a_cpy ((upm (upm u r0 0 (u r1 0)) r0 1 ((upm u r0 0 (u r1 0)) r1 1)) (g r1 2)) ((upm (upm u r0 0 (u r1 0)) r0 1 ((upm u r0 0 (u r1 0)) r1 1)) (g r0 2)) (0 : Int).toNat (0 : Int).toNat (4 : Int).toNat)) (g r1 3)) ((upr (upm (upm u r0 0 (u r1 0)) r0 1 ((upm u r0 0 (u r1 0)) r1 1)) (g r0 2) (a_cpy ((upm (upm u r0 0 (u r1 0)) r0 1 ((upm u r0 0 (u r1 0)) r1 1)) (g r1 2)) ((upm (upm u r0 0 (u r1 0)) r0 1 ((upm u r0 0 (u r1 0)) r1 1)) (g r0 2)) (0 : Int).toNat (0 : Int).toNat (4 : Int).toNat)) (g r0 3)) (0 : Int).toNat (0 : Int).toNat (4 : Int).toNat)) (g r1 4)) ((upr (upr (upm (upm u r0 0 (u r1 0)) r0 1 ((upm u r0 0 (u r1 0)) r1 1)) (g r0 2) (a_cpy ((upm (upm u r0 0 (u r1 0)) r0 1 ((upm u r0 0 (u r1 0)) r1 1)) (g r1 2)) ((upm (upm u r0 0 (u r1 0)) r0 1 ((upm u r0 0 (u r1 0)) r1 1)) (g r0 2)) (0 : Int).toNat (0 : Int).toNat (4 : Int).toNat)) (g r0 3) (a_cpy ((upr (upm (upm u r0 0 (u r1 0)) r0 1 ((upm u r0 0 (u r1 0)) r1 1)) (g r0 2) (a_cpy ((upm (upm u r0 0 (u r1 0)) r0 1 ((upm u r0 0 (u r1 0)) r1 1)) (g r1 2)) ((upm (upm u r0 0 (u r1 0)) r0 1 ((upm u r0 0 (u r1 0)) r1 1)) (g r0 2)) (0 : Int).toNat (0 : Int).toNat (4 : Int).toNat)) (g r1 3)) ((upr (upm (upm u r0 0 (u r1 0)) r0 1 ((upm u r0 0 (u r1 0)) r1 1)) (g r0 2) (a_cpy ((upm (upm u r0 0 (u r1 0)) r0 1 ((upm u r0 0 (u r1 0)) r1 1)) (g r1 2)) ((upm (upm u r0 0 (u r1 0)) r0 1 ((upm u r0 0 (u r1 0)) r1 1)) (g r0 2)) (0 : Int).toNat (0 : Int).toNat (4 : Int).toNat)) (g r0 3)) (0 : Int).toNat (0 : Int).toNat (4 : Int).toNat)) (g r0 4)) (0 : Int).toNat (0 : Int).toNat (12 : Int).toNat)) r1 5)) r0 6 ((upm (upr (upr (upr (upm (upm u r0 0 (u r1 0)) r0 1 ((upm u r0 0 (u r1 0)) r1 1)) (g r0 2) (a_cpy ((upm (upm u r0 0 (u r1 0)) r0 1 ((upm u r0 0 (u r1 0)) r1 1)) (g r1 2)) ((upm (upm u r0 0 (u r1 0)) r0 1 ((upm u r0 0 (u r1 0)) r1 1)) (g r0 2)) (0 : Int).toNat (0 : Int).toNat (4 : Int).toNat)) (g r0 3) (a_cpy ((upr (upm (upm u r0 0 (u r1 0)) r0 1 ((upm u r0 0 (u r1 0)) r1 1)) (g r0 2) (a_cpy ((upm (upm u r0 0 (u r1 0)) r0 1 ((upm u r0 0 (u r1 0)) r1 1)) (g r1 2)) ((upm (upm u r0 0 (u r1 0)) r0 1 ((upm u r0 0 (u r1 0)) r1 1)) (g r0 2)) (0 : Int).toNat (0 : Int).toNat (4 : Int).toNat)) (g r1 3)) ((upr (upm (upm u r0 0 (u r1 0)) r0 1 ((upm u r0 0 (u r1 0)) r1 1)) (g r0 2) (a_cpy ((upm (upm u r0 0 (u r1 0)) r0 1 ((upm u r0 0 (u r1 0)) r1 1)) (g r1 2)) ((upm (upm u r0 0 (u r1 0)) r0 1 ((upm u r0 0 (u r1 0)) r1 1)) (g r0 2)) (0 : Int).toNat (0 : Int).toNat (4 : Int).toNat)) (g r0 3)) (0 : Int).toNat (0 : Int).toNat (4 : Int).toNat)) (g r0 4) (a_cpy ((upr (upr (upm (upm u r0 0 (u r1 0)) r0 1 ((upm u r0 0 (u r1 0)) r1 1)) (g r0 2) (a_cpy ((upm (upm u r0 0 (u r1 0)) r0 1 ((upm u r0 0 (u r1 0)) r1 1)) (g r1 2)) ((upm (upm u r0 0 (u r1 0)) r0 1 ((upm u r0 0 (u r1 0)) r1 1)) (g r0 2)) (0 : Int).toNat (0 : Int).toNat (4 : Int).toNat)) (g r0 3) (a_cpy ((upr (upm (upm u r0 0 (u r1 0)) r0 1 ((upm u r0 0 (u r1 0)) r1 1)) (g r0 2) (a_cpy ((upm (upm u r0 0 (u r1 0)) r0 1 ((upm u r0 0 (u r1 0)) r1 1)) (g r1 2)) ((upm (upm u r0 0 (u r1 0)) r0 1 ((upm u r0 0 (u r1 0)) r1 1)) (g r0 2)) (0 : Int).toNat (0 : Int).toNat (4 : Int).toNat)) (g r1 3)) ((upr (upm (upm u r0 0 (u r1 0)) r0 1 ((upm u r0 0 (u r1 0)) r1 1)) (g r0 2) (a_cpy ((upm (upm u r0 0 (u r1 0)) r0 1 ((upm u r0 0 (u r1 0)) r1 1)) (g r1 2)) ((upm (upm u r0 0 (u r1 0)) r0 1 ((upm u r0 0 (u r1 0)) r1 1)) (g r0 2)) (0 : Int).toNat (0 : Int).toNat (4 : Int).toNat)) (g r0 3)) (0 : Int).toNat (0 : Int).toNat (4 : Int).toNat)) (g r1 4)) ((upr (upr (upm (upm u r0 0 (u r1 0)) r0 1 ((upm u r0 0 (u r1 0)) r1 1)) (g r0 2) (a_cpy ((upm (upm u r0 0 (u r1 0)) r0 1 ((upm u r0 0 (u r1 0)) r1 1)) (g r1 2)) ((upm (upm u r0 0 (u r1 0)) r0 1 ((upm u r0 0 (u r1 0)) r1 1)) (g r0 2)) (0 : Int).toNat (0 : Int).toNat (4 : Int).toNat)) (g r0 3) (a_cpy ((upr (upm (upm u r0 0 (u r1 0)) r0 1 ((upm u r0 0 (u r1 0)) r1 1)) (g r0 2) (a_cpy ((upm (upm u r0 0 (u r1 0)) r0 1 ((upm u r0 0 (u r1 0)) r1 1)) (g r1 2)) ((upm (upm u r0 0 (u r1 0)) r0 1 ((upm u r0 0 (u r1 0)) r1 1)) (g r0 2)) (0 : Int).toNat (0 : Int).toNat (4 : Int).toNat)) (g r1 3)) ((upr (upm (upm u r0 0 (u r1 0)) r0 1 ((upm u r0 0 (u r1 0)) r1 1)) (g r0 2) (a_cpy ((upm (upm u r0 0 (u r1 0)) r0 1 ((upm u r0 0 (u r1 0)) r1 1)) (g r1 2)) ((upm (upm u r0 0 (u r1 0)) r0 1 ((upm u r0 0 (u r1 0)) r1 1)) (g r0 2)) (0 : Int).toNat (0 : Int).toNat (4 : Int).toNat)) (g r0 3)) (0 : Int).toNat (0 : Int).toNat (4 : Int).toNat)) (g r0 4)) (0 : Int).toNat (0 : Int).toNat (12 : Int).toNat)) r0 5 ((upr (upr (upr (upm (upm u r0 0 (u r1 0)) r0 1 ((upm u r0 0 (u r1 0)) r1 1)) (g r0 2) (a_cpy ((upm (upm u r0 0 (u r1 0)) r0 1 ((upm u r0 0 (u r1 0)) r1 1)) (g r1 2)) ((upm (upm u r0 0 (u r1 0)) r0 1 ((upm u r0 0 (u r1 0)) r1 1)) (g r0 2)) (0 : Int).toNat (0 : Int).toNat (4 : Int).toNat)) (g r0 3) (a_cpy ((upr (upm (upm u r0 0 (u r1 0)) r0 1 ((upm u r0 0 (u r1 0)) r1 1)) (g r0 2) (a_cpy ((upm (upm u r0 0 (u r1 0)) r0 1 ((upm u r0 0 (u r1 0)) r1 1)) (g r1 2)) ((upm (upm u r0 0 (u r1 0)) r0 1 ((upm u r0 0 (u r1 0)) r1 1)) (g r0 2)) (0 : Int).toNat (0 : Int).toNat (4 : Int).toNat)) (g r1 3)) ((upr (upm (upm u r0 0 (u r1 0)) r0 1 ((upm u r0 0 (u r1 0)) r1 1)) (g r0 2) (a_cpy ((upm (upm u r0 0 (u r1 0)) r0 1 ((upm u r0 0 (u r1 0)) r1 1)) (g r1 2)) ((upm (upm u r0 0 (u r1 0)) r0 1 ((upm u r0 0 (u r1 0)) r1 1)) (g r0 2)) (0 : Int).toNat (0 : Int).toNat (4 : Int).toNat)) (g r0 3)) (0 : Int).toNat (0 : Int).toNat (4 : Int).toNat)) (g r0 4) (a_cpy ((upr (upr (upm (upm u r0 0 (u r1 0)) r0 1 ((upm u r0 0 (u r1 0)) r1 1)) (g r0 2) (a_cpy ((upm (upm u r0 0 (u r1 0)) r0 1 ((upm u r0 0 (u r1 0)) r1 1)) (g r1 2)) ((upm (upm u r0 0 (u r1 0)) r0 1 ((upm u r0 0 (u r1 0)) r1 1)) (g r0 2)) (0 : Int).toNat (0 : Int).toNat (4 : Int).toNat)) (g r0 3) (a_cpy ((upr (upm (upm u r0 0 (u r1 0)) r0 1 ((upm u r0 0 (u r1 0)) r1 1)) (g r0 2) (a_cpy ((upm (upm u r0 0 (u r1 0)) r0 1 ((upm u r0 0 (u r1 0)) r1 1)) (g r1 2)) ((upm (upm u r0 0 (u r1 0)) r0 1 ((upm u r0 0 (u r1 0)) r1 1)) (g r0 2)) (0 : Int).toNat (0 : Int).toNat (4 : Int).toNat)) (g r1 3)) ((upr (upm (upm u r0 0 (u r1 0)) r0 1 ((upm u r0 0 (u r1 0)) r1 1)) (g r0 2) (a_cpy ((upm (upm u r0 0 (u r1 0)) r0 1 ((upm u r0 0 (u r1 0)) r1 1)) (g r1 2)) ((upm (upm u r0 0 (u r1 0)) r0 1 ((upm u r0 0 (u r1 0)) r1 1)) (g r0 2)) (0 : Int).toNat (0 : Int).toNat (4 : Int).toNat)) (g r0 3)) (0 : Int).toNat (0 : Int).toNat (4 : Int).toNat)) (g r1 4)) ((upr (upr (upm (upm u r0 0 (u r1 0)) r0 1 ((upm u r0 0 (u r1 0)) r1 1)) (g r0 2) (a_cpy ((upm (upm u r0 0 (u r1 0)) r0 1 ((upm u r0 0 (u r1 0)) r1 1)) (g r1 2)) ((upm (upm u r0 0 (u r1 0)) r0 1 ((upm u r0 0 (u r1 0)) r1 1)) (g r0 2)) (0 : Int).toNat (0 : Int).toNat (4 : Int).toNat)) (g r0 3) (a_cpy ((upr (upm (upm u r0 0 (u r1 0)) r0 1 ((upm u r0 0 (u r1 0)) r1 1)) (g r0 2) (a_cpy ((upm (upm u r0 0 (u r1 0)) r0 1 ((upm u r0 0 (u r1 0)) r1 1)) (g r1 2)) ((upm (upm u r0 0 (u r1 0)) r0 1 ((upm u r0 0 (u r1 0)) r1 1)) (g r0 2)) (0 : Int).toNat (0 : Int).toNat (4 : Int).toNat)) (g r1 3)) ((upr (upm (upm u r0 0 (u r1 0)) r0 1 ((upm u r0 0 (u r1 0)) r1 1)) (g r0 2) (a_cpy ((upm (upm u r0 0 (u r1 0)) r0 1 ((upm u r0 0 (u r1 0)) r1 1)) (g r1 2)) ((upm (upm u r0 0 (u r1 0)) r0 1 ((upm u r0 0 (u r1 0)) r1 1)) (g r0 2)) (0 : Int).toNat (0 : Int).toNat (4 : Int).toNat)) (g r0 3)) (0 : Int).toNat (0 : Int).toNat (4 : Int).toNat)) (g r0 4)) (0 : Int).toNat (0 : Int).toNat (12 : Int).toNat)) r1 5)) r1 6)) r1 7)) r1 8)) r1 9)), g, t)) else none else none else none else none else none else none else none else none else none else none else none else none else none else none else none else none else none else none else none else none else none else none else none := by
  refine (X_aload_n (m := 15) (pc := 0) (n := 0) (by decide +kernel) rfl).trans ?_
  refine (X_aload_n (m := 15) (pc := 1) (n := 1) (by decide +kernel) rfl).trans ?_
  refine (X_getI (m := 15) (pc := 2) (n := 21) (c := 3) (q := 0) (ty := 1) (fi := false) (by decide +kernel) (by decide +kernel) (by decide +kernel)).trans ?_
  refine ite_congr rfl (fun _ => ?_) (fun _ => rfl)
  refine (X_putI (m := 15) (pc := 5) (n := 21) (c := 3) (q := 0) (fi := false) (by decide +kernel) (by decide +kernel) (fun h => by cases h) (by decide +kernel)).trans ?_
  refine ite_congr rfl (fun _ => ?_) (fun _ => rfl)
  refine (X_aload_n (m := 15) (pc := 8) (n := 0) (by decide +kernel) rfl).trans ?_
  refine (X_aload_n (m := 15) (pc := 9) (n := 1) (by decide +kernel) rfl).trans ?_
  refine (X_getI (m := 15) (pc := 10) (n := 25) (c := 3) (q := 1) (ty := 1) (fi := false) (by decide +kernel) (by decide +kernel) (by decide +kernel)).trans ?_
  refine ite_congr rfl (fun _ => ?_) (fun _ => rfl)
  refine (X_putI (m := 15) (pc := 13) (n := 25) (c := 3) (q := 1) (fi := false) (by decide +kernel) (by decide +kernel) (fun h => by cases h) (by decide +kernel)).trans ?_
  refine ite_congr rfl (fun _ => ?_) (fun _ => rfl)
  refine (X_aload_n (m := 15) (pc := 16) (n := 1) (by decide +kernel) rfl).trans ?_
  refine (X_getR (m := 15) (pc := 17) (n := 9) (c := 3) (q := 2) (fi := true) (by decide +kernel) (by decide +kernel)).trans ?_
  refine ite_congr rfl (fun _ => ?_) (fun _ => rfl)
  refine (X_iconst (m := 15) (pc := 20) (n := 0) (by decide +kernel) ).trans ?_
  refine (X_aload_n (m := 15) (pc := 21) (n := 0) (by decide +kernel) rfl).trans ?_
  refine (X_getR (m := 15) (pc := 22) (n := 9) (c := 3) (q := 2) (fi := true) (by decide +kernel) (by decide +kernel)).trans ?_
  refine ite_congr rfl (fun _ => ?_) (fun _ => rfl)
  refine (X_iconst (m := 15) (pc := 25) (n := 0) (by decide +kernel) ).trans ?_
  refine (X_iconst (m := 15) (pc := 26) (n := 4) (by decide +kernel) ).trans ?_
  refine (X_copy (m := 15) (pc := 27) (q := 28) (by decide +kernel) (by decide +kernel) (Nat.le_of_ble_eq_true rfl)).trans ?_
  refine ite_congr rfl (fun _ => ?_) (fun _ => rfl)
  refine (X_aload_n (m := 15) (pc := 30) (n := 1) (by decide +kernel) rfl).trans ?_
  refine (X_getR (m := 15) (pc := 31) (n := 15) (c := 3) (q := 3) (fi := true) (by decide +kernel) (by decide +kernel)).trans ?_
  refine ite_congr rfl (fun _ => ?_) (fun _ => rfl)
  refine (X_iconst (m := 15) (pc := 34) (n := 0) (by decide +kernel) ).trans ?_
  refine (X_aload_n (m := 15) (pc := 35) (n := 0) (by decide +kernel) rfl).trans ?_
  refine (X_getR (m := 15) (pc := 36) (n := 15) (c := 3) (q := 3) (fi := true) (by decide +kernel) (by decide +kernel)).trans ?_
  refine ite_congr rfl (fun _ => ?_) (fun _ => rfl)
  refine (X_iconst (m := 15) (pc := 39) (n := 0) (by decide +kernel) ).trans ?_
  refine (X_iconst (m := 15) (pc := 40) (n := 4) (by decide +kernel) ).trans ?_
  refine (X_copy (m := 15) (pc := 41) (q := 28) (by decide +kernel) (by decide +kernel) (Nat.le_of_ble_eq_true rfl)).trans ?_
  refine ite_congr rfl (fun _ => ?_) (fun _ => rfl)
  refine (X_aload_n (m := 15) (pc := 44) (n := 1) (by decide +kernel) rfl).trans ?_
  refine (X_getR (m := 15) (pc := 45) (n := 18) (c := 3) (q := 4) (fi := true) (by decide +kernel) (by decide +kernel)).trans ?_
  refine ite_congr rfl (fun _ => ?_) (fun _ => rfl)
  refine (X_iconst (m := 15) (pc := 48) (n := 0) (by decide +kernel) ).trans ?_
  refine (X_aload_n (m := 15) (pc := 49) (n := 0) (by decide +kernel) rfl).trans ?_
  refine (X_getR (m := 15) (pc := 50) (n := 18) (c := 3) (q := 4) (fi := true) (by decide +kernel) (by decide +kernel)).trans ?_
  refine ite_congr rfl (fun _ => ?_) (fun _ => rfl)
  refine (X_iconst (m := 15) (pc := 53) (n := 0) (by decide +kernel) ).trans ?_
  refine (X_bipush (m := 15) (pc := 54) (n := 12) (by decide +kernel) ).trans ?_
  refine (X_copy (m := 15) (pc := 56) (q := 28) (by decide +kernel) (by decide +kernel) (Nat.le_of_ble_eq_true rfl)).trans ?_
  refine ite_congr rfl (fun _ => ?_) (fun _ => rfl)
  refine (X_aload_n (m := 15) (pc := 59) (n := 0) (by decide +kernel) rfl).trans ?_
  refine (X_aload_n (m := 15) (pc := 60) (n := 1) (by decide +kernel) rfl).trans ?_
  refine (X_getI (m := 15) (pc := 61) (n := 34) (c := 3) (q := 5) (ty := 1) (fi := false) (by decide +kernel) (by decide +kernel) (by decide +kernel)).trans ?_
  refine ite_congr rfl (fun _ => ?_) (fun _ => rfl)
  refine (X_putI (m := 15) (pc := 64) (n := 34) (c := 3) (q := 5) (fi := false) (by decide +kernel) (by decide +kernel) (fun h => by cases h) (by decide +kernel)).trans ?_
  refine ite_congr rfl (fun _ => ?_) (fun _ => rfl)
  refine (X_aload_n (m := 15) (pc := 67) (n := 0) (by decide +kernel) rfl).trans ?_
  refine (X_aload_n (m := 15) (pc := 68) (n := 1) (by decide +kernel) rfl).trans ?_
  refine (X_getI (m := 15) (pc := 69) (n := 37) (c := 3) (q := 6) (ty := 1) (fi := false) (by decide +kernel) (by decide +kernel) (by decide +kernel)).trans ?_
  refine ite_congr rfl (fun _ => ?_) (fun _ => rfl)
  refine (X_putI (m := 15) (pc := 72) (n := 37) (c := 3) (q := 6) (fi := false) (by decide +kernel) (by decide +kernel) (fun h => by cases h) (by decide +kernel)).trans ?_
  refine ite_congr rfl (fun _ => ?_) (fun _ => rfl)
  refine (X_aload_n (m := 15) (pc := 75) (n := 0) (by decide +kernel) rfl).trans ?_
  refine (X_aload_n (m := 15) (pc := 76) (n := 1) (by decide +kernel) rfl).trans ?_
  refine (X_getI (m := 15) (pc := 77) (n := 40) (c := 3) (q := 7) (ty := 1) (fi := false) (by decide +kernel) (by decide +kernel) (by decide +kernel)).trans ?_
  refine ite_congr rfl (fun _ => ?_) (fun _ => rfl)
  refine (X_putI (m := 15) (pc := 80) (n := 40) (c := 3) (q := 7) (fi := false) (by decide +kernel) (by decide +kernel) (fun h => by cases h) (by decide +kernel)).trans ?_
  refine ite_congr rfl (fun _ => ?_) (fun _ => rfl)
  refine (X_aload_n (m := 15) (pc := 83) (n := 0) (by decide +kernel) rfl).trans ?_
  refine (X_aload_n (m := 15) (pc := 84) (n := 1) (by decide +kernel) rfl).trans ?_
  refine (X_getI (m := 15) (pc := 85) (n := 43) (c := 3) (q := 8) (ty := 1) (fi := false) (by decide +kernel) (by decide +kernel) (by decide +kernel)).trans ?_
  refine ite_congr rfl (fun _ => ?_) (fun _ => rfl)
  refine (X_putI (m := 15) (pc := 88) (n := 43) (c := 3) (q := 8) (fi := false) (by decide +kernel) (by decide +kernel) (fun h => by cases h) (by decide +kernel)).trans ?_
  refine ite_congr rfl (fun _ => ?_) (fun _ => rfl)
  refine (X_aload_n (m := 15) (pc := 91) (n := 0) (by decide +kernel) rfl).trans ?_
  refine (X_aload_n (m := 15) (pc := 92) (n := 1) (by decide +kernel) rfl).trans ?_
  refine (X_getI (m := 15) (pc := 93) (n := 46) (c := 3) (q := 9) (ty := 1) (fi := false) (by decide +kernel) (by decide +kernel) (by decide +kernel)).trans ?_
  refine ite_congr rfl (fun _ => ?_) (fun _ => rfl)
  refine (X_putI (m := 15) (pc := 96) (n := 46) (c := 3) (q := 9) (fi := false) (by decide +kernel) (by decide +kernel) (fun h => by cases h) (by decide +kernel)).trans ?_
  refine ite_congr rfl (fun _ => ?_) (fun _ => rfl)
  exact X_return (m := 15) (pc := 99) (by decide +kernel) (by decide +kernel)
theorem E_X2_reset {σ : AS} {r0 : Nat} : a_m 16 [a_r (r0)] σ = a_X 16 0 [a_r (r0), a_x false] [] σ := a_m_eq (by rw [a_entry, show m_maxL 16 = 2 from by decide +kernel]; rfl)
theorem B_X2_reset_0 {k : Nat → Nat × Nat} {u : Nat → Nat → Int} {g : Nat → Nat → Nat} {t : Nat × Nat × Nat} {r0 : Nat} {v1 : AV} : a_X 16 0 [a_r (r0), v1] [] (k, u, g, t) = if (k r0).1 = 3 then if (k r0).1 = 3 then a_X 16 12 [a_r (r0), a_i (0)] [] (k, (upm (upm u r0 0 0) r0 1 0), g, t) else none else none := by
  refine (X_aload_n (m := 16) (pc := 0) (n := 0) (by decide +kernel) rfl).trans ?_
  refine (X_iconst (m := 16) (pc := 1) (n := 0) (by decide +kernel) ).trans ?_
  refine (X_putI (m := 16) (pc := 2) (n := 21) (c := 3) (q := 0) (fi := false) (by decide +kernel) (by decide +kernel) (fun h => by cases h) (by decide +kernel)).trans ?_
  refine ite_congr rfl (fun _ => ?_) (fun _ => rfl)
  refine (X_aload_n (m := 16) (pc := 5) (n := 0) (by decide +kernel) rfl).trans ?_
  refine (X_iconst (m := 16) (pc := 6) (n := 0) (by decide +kernel) ).trans ?_
  refine (X_putI (m := 16) (pc := 7) (n := 25) (c := 3) (q := 1) (fi := false) (by decide +kernel) (by decide +kernel) (fun h => by cases h) (by decide +kernel)).trans ?_
  refine ite_congr rfl (fun _ => ?_) (fun _ => rfl)
  refine (X_iconst (m := 16) (pc := 10) (n := 0) (by decide +kernel) ).trans ?_
  refine (X_istore_n (m := 16) (pc := 11) (n := 1) (by decide +kernel) rfl (Nat.le_of_ble_eq_true rfl) rfl).trans ?_
  rfl
theorem B_X2_reset_12 {k : Nat → Nat × Nat} {u : Nat → Nat → Int} {g : Nat → Nat → Nat} {t : Nat × Nat × Nat} {r0 : Nat} {x1 : Int} : a_X 16 12 [a_r (r0), a_i (x1)] [] (k, u, g, t) = if (x1 : Int) ≥ (12 : Int) then if (k r0).1 = 3 then if (k r0).1 = 3 then if (k r0).1 = 3 then if (k r0).1 = 3 then if (k r0).1 = 3 then some (.inl none, (k, (upm (upm (upm (upm (upm u r0 5 0) r0 6 0) r0 7 0) r0 8 0) r0 9 0), g, t)) else none else none else none else none else none else if (k r0).1 = 3 then if (k (g r0 4)).1 = 20 ∧ 0 ≤ (x1 : Int) ∧ (x1 : Int) < ((k (g r0 4)).2 : Int) then a_X 16 12 [a_r (r0), a_i (wr (x1 + 1))] [] (k, (upm u (g r0 4) (x1 : Int).toNat 0), g, t) else none else none := by
  refine (X_iload_n (m := 16) (pc := 12) (n := 1) (by decide +kernel) rfl).trans ?_
  refine (X_bipush (m := 16) (pc := 13) (n := 12) (by decide +kernel) ).trans ?_
  refine (X_ic_ge (m := 16) (pc := 15) (off := 16) (tg := 31) (by decide +kernel) (by decide +kernel)).trans ?_
  refine ite_congr rfl (fun _ => ?_) (fun _ => ?_)
  · refine (X_aload_n (m := 16) (pc := 31) (n := 0) (by decide +kernel) rfl).trans ?_
    refine (X_iconst (m := 16) (pc := 32) (n := 0) (by decide +kernel) ).trans ?_
    refine (X_putI (m := 16) (pc := 33) (n := 34) (c := 3) (q := 5) (fi := false) (by decide +kernel) (by decide +kernel) (fun h => by cases h) (by decide +kernel)).trans ?_
    refine ite_congr rfl (fun _ => ?_) (fun _ => rfl)
    refine (X_aload_n (m := 16) (pc := 36) (n := 0) (by decide +kernel) rfl).trans ?_
    refine (X_iconst (m := 16) (pc := 37) (n := 0) (by decide +kernel) ).trans ?_
    refine (X_putI (m := 16) (pc := 38) (n := 37) (c := 3) (q := 6) (fi := false) (by decide +kernel) (by decide +kernel) (fun h => by cases h) (by decide +kernel)).trans ?_
    refine ite_congr rfl (fun _ => ?_) (fun _ => rfl)
    refine (X_aload_n (m := 16) (pc := 41) (n := 0) (by decide +kernel) rfl).trans ?_
    refine (X_iconst (m := 16) (pc := 42) (n := 0) (by decide +kernel) ).trans ?_
    refine (X_putI (m := 16) (pc := 43) (n := 40) (c := 3) (q := 7) (fi := false) (by decide +kernel) (by decide +kernel) (fun h => by cases h) (by decide +kernel)).trans ?_
    refine ite_congr rfl (fun _ => ?_) (fun _ => rfl)
    refine (X_aload_n (m := 16) (pc := 46) (n := 0) (by decide +kernel) rfl).trans ?_
    refine (X_iconst (m := 16) (pc := 47) (n := 0) (by decide +kernel) ).trans ?_
    refine (X_putI (m := 16) (pc := 48) (n := 43) (c := 3) (q := 8) (fi := false) (by decide +kernel) (by decide +kernel) (fun h => by cases h) (by decide +kernel)).trans ?_
    refine ite_congr rfl (fun _ => ?_) (fun _ => rfl)
    refine (X_aload_n (m := 16) (pc := 51) (n := 0) (by decide +kernel) rfl).trans ?_
    refine (X_iconst (m := 16) (pc := 52) (n := 0) (by decide +kernel) ).trans ?_
    refine (X_putI (m := 16) (pc := 53) (n := 46) (c := 3) (q := 9) (fi := false) (by decide +kernel) (by decide +kernel) (fun h => by cases h) (by decide +kernel)).trans ?_
    refine ite_congr rfl (fun _ => ?_) (fun _ => rfl)
    exact X_return (m := 16) (pc := 56) (by decide +kernel) (by decide +kernel)
  · refine (X_aload_n (m := 16) (pc := 18) (n := 0) (by decide +kernel) rfl).trans ?_
    refine (X_getR (m := 16) (pc := 19) (n := 18) (c := 3) (q := 4) (fi := true) (by decide +kernel) (by decide +kernel)).trans ?_
    refine ite_congr rfl (fun _ => ?_) (fun _ => rfl)
    refine (X_iload_n (m := 16) (pc := 22) (n := 1) (by decide +kernel) rfl).trans ?_
    refine (X_iconst (m := 16) (pc := 23) (n := 0) (by decide +kernel) ).trans ?_
    refine (X_iastore (m := 16) (pc := 24)  (by decide +kernel) ).trans ?_
    refine ite_congr rfl (fun _ => ?_) (fun _ => rfl)
    refine (X_iinc (m := 16) (pc := 25) (n := 1) (c := 1) (by decide +kernel) rfl rfl (Nat.le_of_ble_eq_true rfl) rfl).trans ?_
    refine (X_goto (m := 16) (pc := 28) (off := -16) (tg := 12) (by decide +kernel) (by decide +kernel)).trans ?_
    rfl
theorem E_X2_isInGap {σ : AS} {r0 : Nat} {x1 : Int} : a_m 17 [a_r (r0), a_i (x1)] σ = a_X 17 0 [a_r (r0), a_i (x1), a_x false] [] σ := a_m_eq (by rw [a_entry, show m_maxL 17 = 3 from by decide +kernel]; rfl)
theorem B_X2_isInGap_0 {k : Nat → Nat × Nat} {u : Nat → Nat → Int} {g : Nat → Nat → Nat} {t : Nat × Nat × Nat} {r0 : Nat} {x1 : Int} {v2 : AV} : a_X 17 0 [a_r (r0), a_i (x1), v2] [] (k, u, g, t) = a_X 17 2 [a_r (r0), a_i (x1), a_i (0)] [] (k, u, g, t) := by
  refine (X_iconst (m := 17) (pc := 0) (n := 0) (by decide +kernel) ).trans ?_
  refine (X_istore_n (m := 17) (pc := 1) (n := 2) (by decide +kernel) rfl (Nat.le_of_ble_eq_true rfl) rfl).trans ?_
  rfl
theorem B_X2_isInGap_2 {k : Nat → Nat × Nat} {u : Nat → Nat → Int} {g : Nat → Nat → Nat} {t : Nat × Nat × Nat} {r0 : Nat} {x1 : Int} {x2 : Int} : a_X 17 2 [a_r (r0), a_i (x1), a_i (x2)] [] (k, u, g, t) = if (k r0).1 = 3 then if (x2 : Int) ≥ (u r0 1 : Int) then some (.inl (some (a_i (0))), (k, u, g, t)) else if (k r0).1 = 3 then if ((k (g r0 2)).1 = 20 ∨ (k (g r0 2)).1 = 24) ∧ 0 ≤ (x2 : Int) ∧ (x2 : Int) < ((k (g r0 2)).2 : Int) then if (u (g r0 2) (x2 : Int).toNat : Int) > (x1 : Int) then a_X 17 2 [a_r (r0), a_i (x1), a_i (wr (x2 + 1))] [] (k, u, g, t) else if (k r0).1 = 3 then if ((k (g r0 3)).1 = 20 ∨ (k (g r0 3)).1 = 24) ∧ 0 ≤ (x2 : Int) ∧ (x2 : Int) < ((k (g r0 3)).2 : Int) then if (x1 : Int) > (u (g r0 3) (x2 : Int).toNat : Int) then a_X 17 2 [a_r (r0), a_i (x1), a_i (wr (x2 + 1))] [] (k, u, g, t) else some (.inl (some (a_i (1))), (k, u, g, t)) else none else none else none else none else none := by
  refine (X_iload_n (m := 17) (pc := 2) (n := 2) (by decide +kernel) rfl).trans ?_
  refine (X_aload_n (m := 17) (pc := 3) (n := 0) (by decide +kernel) rfl).trans ?_
  refine (X_getI (m := 17) (pc := 4) (n := 25) (c := 3) (q := 1) (ty := 1) (fi := false) (by decide +kernel) (by decide +kernel) (by decide +kernel)).trans ?_
  refine ite_congr rfl (fun _ => ?_) (fun _ => rfl)
  refine (X_ic_ge (m := 17) (pc := 7) (off := 31) (tg := 38) (by decide +kernel) (by decide +kernel)).trans ?_
  refine ite_congr rfl (fun _ => ?_) (fun _ => ?_)
  · refine (X_iconst (m := 17) (pc := 38) (n := 0) (by decide +kernel) ).trans ?_
    exact X_ireturn (m := 17) (pc := 39) (f := 2) (by decide +kernel) (by decide +kernel) rfl
  · refine (X_aload_n (m := 17) (pc := 10) (n := 0) (by decide +kernel) rfl).trans ?_
    refine (X_getR (m := 17) (pc := 11) (n := 9) (c := 3) (q := 2) (fi := true) (by decide +kernel) (by decide +kernel)).trans ?_
    refine ite_congr rfl (fun _ => ?_) (fun _ => rfl)
    refine (X_iload_n (m := 17) (pc := 14) (n := 2) (by decide +kernel) rfl).trans ?_
    refine (X_iaload (m := 17) (pc := 15)  (by decide +kernel) ).trans ?_
    refine ite_congr rfl (fun _ => ?_) (fun _ => rfl)
    refine (X_iload_n (m := 17) (pc := 16) (n := 1) (by decide +kernel) rfl).trans ?_
    refine (X_ic_gt (m := 17) (pc := 17) (off := 15) (tg := 32) (by decide +kernel) (by decide +kernel)).trans ?_
    refine ite_congr rfl (fun _ => ?_) (fun _ => ?_)
    · refine (X_iinc (m := 17) (pc := 32) (n := 2) (c := 1) (by decide +kernel) rfl rfl (Nat.le_of_ble_eq_true rfl) rfl).trans ?_
      refine (X_goto (m := 17) (pc := 35) (off := -33) (tg := 2) (by decide +kernel) (by decide +kernel)).trans ?_
      rfl
    · refine (X_iload_n (m := 17) (pc := 20) (n := 1) (by decide +kernel) rfl).trans ?_
      refine (X_aload_n (m := 17) (pc := 21) (n := 0) (by decide +kernel) rfl).trans ?_
      refine (X_getR (m := 17) (pc := 22) (n := 15) (c := 3) (q := 3) (fi := true) (by decide +kernel) (by decide +kernel)).trans ?_
      refine ite_congr rfl (fun _ => ?_) (fun _ => rfl)
      refine (X_iload_n (m := 17) (pc := 25) (n := 2) (by decide +kernel) rfl).trans ?_
      refine (X_iaload (m := 17) (pc := 26)  (by decide +kernel) ).trans ?_
      refine ite_congr rfl (fun _ => ?_) (fun _ => rfl)
      refine (X_ic_gt (m := 17) (pc := 27) (off := 5) (tg := 32) (by decide +kernel) (by decide +kernel)).trans ?_
      refine ite_congr rfl (fun _ => ?_) (fun _ => ?_)
      · refine (X_iinc (m := 17) (pc := 32) (n := 2) (c := 1) (by decide +kernel) rfl rfl (Nat.le_of_ble_eq_true rfl) rfl).trans ?_
        refine (X_goto (m := 17) (pc := 35) (off := -33) (tg := 2) (by decide +kernel) (by decide +kernel)).trans ?_
        rfl
      · refine (X_iconst (m := 17) (pc := 30) (n := 1) (by decide +kernel) ).trans ?_
        exact X_ireturn (m := 17) (pc := 31) (f := 2) (by decide +kernel) (by decide +kernel) rfl
theorem E_X2_putGap {σ : AS} {r0 : Nat} {x1 : Int} {x2 : Int} : a_m 18 [a_r (r0), a_i (x1), a_i (x2)] σ = a_X 18 0 [a_r (r0), a_i (x1), a_i (x2)] [] σ := a_m_eq (by rw [a_entry, show m_maxL 18 = 3 from by decide +kernel]; rfl)
theorem B_X2_putGap_0 {k : Nat → Nat × Nat} {u : Nat → Nat → Int} {g : Nat → Nat → Nat} {t : Nat × Nat × Nat} {r0 : Nat} {x1 : Int} {x2 : Int} : a_X 18 0 [a_r (r0), a_i (x1), a_i (x2)] [] (k, u, g, t) = if (k r0).1 = 3 then if (k r0).1 = 3 then if (k (g r0 2)).1 = 20 ∧ 0 ≤ (u r0 1 : Int) ∧ (u r0 1 : Int) < ((k (g r0 2)).2 : Int) then if (k r0).1 = 3 then if (k r0).1 = 3 then if (k (g r0 3)).1 = 20 ∧ 0 ≤ ((upm u (g r0 2) (u r0 1 : Int).toNat x1) r0 1 : Int) ∧ ((upm u (g r0 2) (u r0 1 : Int).toNat x1) r0 1 : Int) < ((k (g r0 3)).2 : Int) then if (k r0).1 = 3 then if (k r0).1 = 3 then some (.inl none, (k, (upm (upm (upm u (g r0 2) (u r0 1 : Int).toNat x1) (g r0 3) ((upm u (g r0 2) (u r0 1 : Int).toNat x1) r0 1 : Int).toNat x2) r0 1 (wr (((upm (upm u (g r0 2) (u r0 1 : Int).toNat x1) (g r0 3) ((upm u (g r0 2) (u r0 1 : Int).toNat x1) r0 1 : Int).toNat x2) r0 1) + 1))), g, t)) else none else none else none else none else none else none else none else none := by
  refine (X_aload_n (m := 18) (pc := 0) (n := 0) (by decide +kernel) rfl).trans ?_
  refine (X_getR (m := 18) (pc := 1) (n := 9) (c := 3) (q := 2) (fi := true) (by decide +kernel) (by decide +kernel)).trans ?_
  refine ite_congr rfl (fun _ => ?_) (fun _ => rfl)
  refine (X_aload_n (m := 18) (pc := 4) (n := 0) (by decide +kernel) rfl).trans ?_
  refine (X_getI (m := 18) (pc := 5) (n := 25) (c := 3) (q := 1) (ty := 1) (fi := false) (by decide +kernel) (by decide +kernel) (by decide +kernel)).trans ?_
  refine ite_congr rfl (fun _ => ?_) (fun _ => rfl)
  refine (X_iload_n (m := 18) (pc := 8) (n := 1) (by decide +kernel) rfl).trans ?_
  refine (X_iastore (m := 18) (pc := 9)  (by decide +kernel) ).trans ?_
  refine ite_congr rfl (fun _ => ?_) (fun _ => rfl)
  refine (X_aload_n (m := 18) (pc := 10) (n := 0) (by decide +kernel) rfl).trans ?_
  refine (X_getR (m := 18) (pc := 11) (n := 15) (c := 3) (q := 3) (fi := true) (by decide +kernel) (by decide +kernel)).trans ?_
  refine ite_congr rfl (fun _ => ?_) (fun _ => rfl)
  refine (X_aload_n (m := 18) (pc := 14) (n := 0) (by decide +kernel) rfl).trans ?_
  refine (X_getI (m := 18) (pc := 15) (n := 25) (c := 3) (q := 1) (ty := 1) (fi := false) (by decide +kernel) (by decide +kernel) (by decide +kernel)).trans ?_
  refine ite_congr rfl (fun _ => ?_) (fun _ => rfl)
  refine (X_iload_n (m := 18) (pc := 18) (n := 2) (by decide +kernel) rfl).trans ?_
  refine (X_iastore (m := 18) (pc := 19)  (by decide +kernel) ).trans ?_
  refine ite_congr rfl (fun _ => ?_) (fun _ => rfl)
  refine (X_aload_n (m := 18) (pc := 20) (n := 0) (by decide +kernel) rfl).trans ?_
  refine (X_dup (m := 18) (pc := 21)  (by decide +kernel) rfl rfl).trans ?_
  refine (X_getI (m := 18) (pc := 22) (n := 25) (c := 3) (q := 1) (ty := 1) (fi := false) (by decide +kernel) (by decide +kernel) (by decide +kernel)).trans ?_
  refine ite_congr rfl (fun _ => ?_) (fun _ => rfl)
  refine (X_iconst (m := 18) (pc := 25) (n := 1) (by decide +kernel) ).trans ?_
  refine (X_iadd (m := 18) (pc := 26)  (by decide +kernel) ).trans ?_
  refine (X_putI (m := 18) (pc := 27) (n := 25) (c := 3) (q := 1) (fi := false) (by decide +kernel) (by decide +kernel) (fun h => by cases h) (by decide +kernel)).trans ?_
  refine ite_congr rfl (fun _ => ?_) (fun _ => rfl)
  exact X_return (m := 18) (pc := 30) (by decide +kernel) (by decide +kernel)
theorem E_X2_removeGap {σ : AS} {r0 : Nat} {x1 : Int} : a_m 19 [a_r (r0), a_i (x1)] σ = a_X 19 0 [a_r (r0), a_i (x1), a_x false] [] σ := a_m_eq (by rw [a_entry, show m_maxL 19 = 3 from by decide +kernel]; rfl)
theorem B_X2_removeGap_0 {k : Nat → Nat × Nat} {u : Nat → Nat → Int} {g : Nat → Nat → Nat} {t : Nat × Nat × Nat} {r0 : Nat} {x1 : Int} {v2 : AV} : a_X 19 0 [a_r (r0), a_i (x1), v2] [] (k, u, g, t) = if (k r0).1 = 3 then if (k r0).1 = 3 then a_X 19 12 [a_r (r0), a_i (x1), a_i (x1)] [] (k, (upm u r0 1 (wr ((u r0 1) - 1))), g, t) else none else none := by
  refine (X_aload_n (m := 19) (pc := 0) (n := 0) (by decide +kernel) rfl).trans ?_
  refine (X_dup (m := 19) (pc := 1)  (by decide +kernel) rfl rfl).trans ?_
  refine (X_getI (m := 19) (pc := 2) (n := 25) (c := 3) (q := 1) (ty := 1) (fi := false) (by decide +kernel) (by decide +kernel) (by decide +kernel)).trans ?_
  refine ite_congr rfl (fun _ => ?_) (fun _ => rfl)
  refine (X_iconst (m := 19) (pc := 5) (n := 1) (by decide +kernel) ).trans ?_
  refine (X_isub (m := 19) (pc := 6)  (by decide +kernel) ).trans ?_
  refine (X_putI (m := 19) (pc := 7) (n := 25) (c := 3) (q := 1) (fi := false) (by decide +kernel) (by decide +kernel) (fun h => by cases h) (by decide +kernel)).trans ?_
  refine ite_congr rfl (fun _ => ?_) (fun _ => rfl)
  refine (X_iload_n (m := 19) (pc := 10) (n := 1) (by decide +kernel) rfl).trans ?_
  refine (X_istore_n (m := 19) (pc := 11) (n := 2) (by decide +kernel) rfl (Nat.le_of_ble_eq_true rfl) rfl).trans ?_
  rfl
theorem B_X2_removeGap_12 {k : Nat → Nat × Nat} {u : Nat → Nat → Int} {g : Nat → Nat → Nat} {t : Nat × Nat × Nat} {r0 : Nat} {x1 : Int} {x2 : Int} : a_X 19 12 [a_r (r0), a_i (x1), a_i (x2)] [] (k, u, g, t) = if (k r0).1 = 3 then if (x2 : Int) ≥ (u r0 1 : Int) then some (.inl none, (k, u, g, t)) else if (k r0).1 = 3 then if (k r0).1 = 3 then if ((k (g r0 2)).1 = 20 ∨ (k (g r0 2)).1 = 24) ∧ 0 ≤ (wr (x2 + 1) : Int) ∧ (wr (x2 + 1) : Int) < ((k (g r0 2)).2 : Int) then if (k (g r0 2)).1 = 20 ∧ 0 ≤ (x2 : Int) ∧ (x2 : Int) < ((k (g r0 2)).2 : Int) then if (k r0).1 = 3 then if (k r0).1 = 3 then if ((k (g r0 3)).1 = 20 ∨ (k (g r0 3)).1 = 24) ∧ 0 ≤ (wr (x2 + 1) : Int) ∧ (wr (x2 + 1) : Int) < ((k (g r0 3)).2 : Int) then if (k (g r0 3)).1 = 20 ∧ 0 ≤ (x2 : Int) ∧ (x2 : Int) < ((k (g r0 3)).2 : Int) then a_X 19 12 [a_r (r0), a_i (x1), a_i (wr (x2 + 1))] [] (k, (upm (upm u (g r0 2) (x2 : Int).toNat (u (g r0 2) (wr (x2 + 1) : Int).toNat)) (g r0 3) (x2 : Int).toNat ((upm u (g r0 2) (x2 : Int).toNat (u (g r0 2) (wr (x2 + 1) : Int).toNat)) (g r0 3) (wr (x2 + 1) : Int).toNat)), g, t) else none else none else none else none else none else none else none else none else none := by
  refine (X_iload_n (m := 19) (pc := 12) (n := 2) (by decide +kernel) rfl).trans ?_
  refine (X_aload_n (m := 19) (pc := 13) (n := 0) (by decide +kernel) rfl).trans ?_
  refine (X_getI (m := 19) (pc := 14) (n := 25) (c := 3) (q := 1) (ty := 1) (fi := false) (by decide +kernel) (by decide +kernel) (by decide +kernel)).trans ?_
  refine ite_congr rfl (fun _ => ?_) (fun _ => rfl)
  refine (X_ic_ge (m := 19) (pc := 17) (off := 37) (tg := 54) (by decide +kernel) (by decide +kernel)).trans ?_
  refine ite_congr rfl (fun _ => ?_) (fun _ => ?_)
  · exact X_return (m := 19) (pc := 54) (by decide +kernel) (by decide +kernel)
  · refine (X_aload_n (m := 19) (pc := 20) (n := 0) (by decide +kernel) rfl).trans ?_
    refine (X_getR (m := 19) (pc := 21) (n := 9) (c := 3) (q := 2) (fi := true) (by decide +kernel) (by decide +kernel)).trans ?_
    refine ite_congr rfl (fun _ => ?_) (fun _ => rfl)
    refine (X_iload_n (m := 19) (pc := 24) (n := 2) (by decide +kernel) rfl).trans ?_
    refine (X_aload_n (m := 19) (pc := 25) (n := 0) (by decide +kernel) rfl).trans ?_
    refine (X_getR (m := 19) (pc := 26) (n := 9) (c := 3) (q := 2) (fi := true) (by decide +kernel) (by decide +kernel)).trans ?_
    refine ite_congr rfl (fun _ => ?_) (fun _ => rfl)
    refine (X_iload_n (m := 19) (pc := 29) (n := 2) (by decide +kernel) rfl).trans ?_
    refine (X_iconst (m := 19) (pc := 30) (n := 1) (by decide +kernel) ).trans ?_
    refine (X_iadd (m := 19) (pc := 31)  (by decide +kernel) ).trans ?_
    refine (X_iaload (m := 19) (pc := 32)  (by decide +kernel) ).trans ?_
    refine ite_congr rfl (fun _ => ?_) (fun _ => rfl)
    refine (X_iastore (m := 19) (pc := 33)  (by decide +kernel) ).trans ?_
    refine ite_congr rfl (fun _ => ?_) (fun _ => rfl)
    refine (X_aload_n (m := 19) (pc := 34) (n := 0) (by decide +kernel) rfl).trans ?_
    refine (X_getR (m := 19) (pc := 35) (n := 15) (c := 3) (q := 3) (fi := true) (by decide +kernel) (by decide +kernel)).trans ?_
    refine ite_congr rfl (fun _ => ?_) (fun _ => rfl)
    refine (X_iload_n (m := 19) (pc := 38) (n := 2) (by decide +kernel) rfl).trans ?_
    refine (X_aload_n (m := 19) (pc := 39) (n := 0) (by decide +kernel) rfl).trans ?_
    refine (X_getR (m := 19) (pc := 40) (n := 15) (c := 3) (q := 3) (fi := true) (by decide +kernel) (by decide +kernel)).trans ?_
    refine ite_congr rfl (fun _ => ?_) (fun _ => rfl)
    refine (X_iload_n (m := 19) (pc := 43) (n := 2) (by decide +kernel) rfl).trans ?_
    refine (X_iconst (m := 19) (pc := 44) (n := 1) (by decide +kernel) ).trans ?_
    refine (X_iadd (m := 19) (pc := 45)  (by decide +kernel) ).trans ?_
    refine (X_iaload (m := 19) (pc := 46)  (by decide +kernel) ).trans ?_
    refine ite_congr rfl (fun _ => ?_) (fun _ => rfl)
    refine (X_iastore (m := 19) (pc := 47)  (by decide +kernel) ).trans ?_
    refine ite_congr rfl (fun _ => ?_) (fun _ => rfl)
    refine (X_iinc (m := 19) (pc := 48) (n := 2) (c := 1) (by decide +kernel) rfl rfl (Nat.le_of_ble_eq_true rfl) rfl).trans ?_
    refine (X_goto (m := 19) (pc := 51) (off := -39) (tg := 12) (by decide +kernel) (by decide +kernel)).trans ?_
    rfl
theorem E_X2_hear {σ : AS} {r0 : Nat} {r1 : Nat} : a_m 20 [a_r (r0), a_r (r1)] σ = a_X 20 0 [a_r (r0), a_r (r1), a_x false] [] σ := a_m_eq (by rw [a_entry, show m_maxL 20 = 3 from by decide +kernel]; rfl)
theorem B_X2_hear_0 {k : Nat → Nat × Nat} {u : Nat → Nat → Int} {g : Nat → Nat → Nat} {t : Nat × Nat × Nat} {r0 : Nat} {r1 : Nat} {v2 : AV} : a_X 20 0 [a_r (r0), a_r (r1), v2] [] (k, u, g, t) = if (k r0).1 = 3 then if (k r1).1 = 7 then if (k r0).1 = 3 then if (k r1).1 = 7 then (a_m 69 [a_r (r1)] (k, (upm u r0 6 (max (u r0 6) (u r1 0))), g, t)).bind (a_back 20 16 3 [a_r (r0), a_r (r1), v2] []) else none else none else none else none := by
  refine (X_aload_n (m := 20) (pc := 0) (n := 0) (by decide +kernel) rfl).trans ?_
  refine (X_aload_n (m := 20) (pc := 1) (n := 0) (by decide +kernel) rfl).trans ?_
  refine (X_getI (m := 20) (pc := 2) (n := 37) (c := 3) (q := 6) (ty := 1) (fi := false) (by decide +kernel) (by decide +kernel) (by decide +kernel)).trans ?_
  refine ite_congr rfl (fun _ => ?_) (fun _ => rfl)
  refine (X_aload_n (m := 20) (pc := 5) (n := 1) (by decide +kernel) rfl).trans ?_
  refine (X_getI (m := 20) (pc := 6) (n := 49) (c := 7) (q := 0) (ty := 1) (fi := false) (by decide +kernel) (by decide +kernel) (by decide +kernel)).trans ?_
  refine ite_congr rfl (fun _ => ?_) (fun _ => rfl)
  refine (X_max (m := 20) (pc := 9) (q := 54) (by decide +kernel) (by decide +kernel) (Nat.le_of_ble_eq_true rfl)).trans ?_
  refine (X_putI (m := 20) (pc := 12) (n := 37) (c := 3) (q := 6) (fi := false) (by decide +kernel) (by decide +kernel) (fun h => by cases h) (by decide +kernel)).trans ?_
  refine ite_congr rfl (fun _ => ?_) (fun _ => rfl)
  refine (X_aload_n (m := 20) (pc := 15) (n := 1) (by decide +kernel) rfl).trans ?_
  refine (X_call_vi (m := 20) (pc := 16) (q := 60) (y := 69) (n := 1) (as := [a_r (r1)]) (rest := []) (by decide +kernel) (by decide +kernel) (by decide +kernel) (by decide +kernel) rfl rfl (Nat.le_of_ble_eq_true rfl) (Nat.le_of_ble_eq_true rfl) rfl (by rw [show m_maxL 69 = 1 from by decide +kernel]; exact Nat.le_of_ble_eq_true rfl)).trans ?_
  exact ite_congr (by simp [a_rcv, show m_recv 69 = 7 from by decide +kernel]) (fun _ => rfl) (fun _ => rfl)
theorem B_X2_hear_19 {k : Nat → Nat × Nat} {u : Nat → Nat → Int} {g : Nat → Nat → Nat} {t : Nat × Nat × Nat} {r0 : Nat} {r1 : Nat} {v2 : AV} {y0 : Int} : a_X 20 19 [a_r (r0), a_r (r1), v2] [a_i (y0)] (k, u, g, t) = if (y0 : Int) = 0 then if (k r1).1 = 7 then if (k r0).1 = 3 then if (k r1).1 = 7 then if ((k (g r0 4)).1 = 20 ∨ (k (g r0 4)).1 = 24) ∧ 0 ≤ (u r1 1 : Int) ∧ (u r1 1 : Int) < ((k (g r0 4)).2 : Int) then if (u r1 0 : Int) ≤ (u (g r0 4) (u r1 1 : Int).toNat : Int) then if (k r0).1 = 3 then if (k r0).1 = 3 then some (.inl none, (k, (upm u r0 7 (wr ((u r0 7) + 1))), g, t)) else none else none else if (k r0).1 = 3 then if (k r1).1 = 7 then if (k r1).1 = 7 then if (k (g r0 4)).1 = 20 ∧ 0 ≤ (u r1 1 : Int) ∧ (u r1 1 : Int) < ((k (g r0 4)).2 : Int) then some (.inl none, (k, (upm u (g r0 4) (u r1 1 : Int).toNat (u r1 0)), g, t)) else none else none else none else none else none else none else none else none else if (k r0).1 = 3 then if (k r1).1 = 7 then if (k r0).1 = 3 then if (k r0).1 = 3 then if (k r0).1 = 3 then a_X 20 49 [a_r (r0), a_r (r1), a_i (0)] [] (k, (upm (upm u r0 5 (max (u r0 5) (u r1 0))) r0 8 (wr (((upm u r0 5 (max (u r0 5) (u r1 0))) r0 8) + 1))), g, t) else none else none else none else none else none := by
  refine (X_if_eq (m := 20) (pc := 19) (off := 66) (tg := 85) (by decide +kernel) (by decide +kernel)).trans ?_
  refine ite_congr rfl (fun _ => ?_) (fun _ => ?_)
  · refine (X_aload_n (m := 20) (pc := 85) (n := 1) (by decide +kernel) rfl).trans ?_
    refine (X_getI (m := 20) (pc := 86) (n := 49) (c := 7) (q := 0) (ty := 1) (fi := false) (by decide +kernel) (by decide +kernel) (by decide +kernel)).trans ?_
    refine ite_congr rfl (fun _ => ?_) (fun _ => rfl)
    refine (X_aload_n (m := 20) (pc := 89) (n := 0) (by decide +kernel) rfl).trans ?_
    refine (X_getR (m := 20) (pc := 90) (n := 18) (c := 3) (q := 4) (fi := true) (by decide +kernel) (by decide +kernel)).trans ?_
    refine ite_congr rfl (fun _ => ?_) (fun _ => rfl)
    refine (X_aload_n (m := 20) (pc := 93) (n := 1) (by decide +kernel) rfl).trans ?_
    refine (X_getI (m := 20) (pc := 94) (n := 67) (c := 7) (q := 1) (ty := 1) (fi := false) (by decide +kernel) (by decide +kernel) (by decide +kernel)).trans ?_
    refine ite_congr rfl (fun _ => ?_) (fun _ => rfl)
    refine (X_iaload (m := 20) (pc := 97)  (by decide +kernel) ).trans ?_
    refine ite_congr rfl (fun _ => ?_) (fun _ => rfl)
    refine (X_ic_le (m := 20) (pc := 98) (off := 19) (tg := 117) (by decide +kernel) (by decide +kernel)).trans ?_
    refine ite_congr rfl (fun _ => ?_) (fun _ => ?_)
    · refine (X_aload_n (m := 20) (pc := 117) (n := 0) (by decide +kernel) rfl).trans ?_
      refine (X_dup (m := 20) (pc := 118)  (by decide +kernel) rfl rfl).trans ?_
      refine (X_getI (m := 20) (pc := 119) (n := 40) (c := 3) (q := 7) (ty := 1) (fi := false) (by decide +kernel) (by decide +kernel) (by decide +kernel)).trans ?_
      refine ite_congr rfl (fun _ => ?_) (fun _ => rfl)
      refine (X_iconst (m := 20) (pc := 122) (n := 1) (by decide +kernel) ).trans ?_
      refine (X_iadd (m := 20) (pc := 123)  (by decide +kernel) ).trans ?_
      refine (X_putI (m := 20) (pc := 124) (n := 40) (c := 3) (q := 7) (fi := false) (by decide +kernel) (by decide +kernel) (fun h => by cases h) (by decide +kernel)).trans ?_
      refine ite_congr rfl (fun _ => ?_) (fun _ => rfl)
      exact X_return (m := 20) (pc := 127) (by decide +kernel) (by decide +kernel)
    · refine (X_aload_n (m := 20) (pc := 101) (n := 0) (by decide +kernel) rfl).trans ?_
      refine (X_getR (m := 20) (pc := 102) (n := 18) (c := 3) (q := 4) (fi := true) (by decide +kernel) (by decide +kernel)).trans ?_
      refine ite_congr rfl (fun _ => ?_) (fun _ => rfl)
      refine (X_aload_n (m := 20) (pc := 105) (n := 1) (by decide +kernel) rfl).trans ?_
      refine (X_getI (m := 20) (pc := 106) (n := 67) (c := 7) (q := 1) (ty := 1) (fi := false) (by decide +kernel) (by decide +kernel) (by decide +kernel)).trans ?_
      refine ite_congr rfl (fun _ => ?_) (fun _ => rfl)
      refine (X_aload_n (m := 20) (pc := 109) (n := 1) (by decide +kernel) rfl).trans ?_
      refine (X_getI (m := 20) (pc := 110) (n := 49) (c := 7) (q := 0) (ty := 1) (fi := false) (by decide +kernel) (by decide +kernel) (by decide +kernel)).trans ?_
      refine ite_congr rfl (fun _ => ?_) (fun _ => rfl)
      refine (X_iastore (m := 20) (pc := 113)  (by decide +kernel) ).trans ?_
      refine ite_congr rfl (fun _ => ?_) (fun _ => rfl)
      refine (X_goto (m := 20) (pc := 114) (off := 13) (tg := 127) (by decide +kernel) (by decide +kernel)).trans ?_
      exact X_return (m := 20) (pc := 127) (by decide +kernel) (by decide +kernel)
  · refine (X_aload_n (m := 20) (pc := 22) (n := 0) (by decide +kernel) rfl).trans ?_
    refine (X_aload_n (m := 20) (pc := 23) (n := 0) (by decide +kernel) rfl).trans ?_
    refine (X_getI (m := 20) (pc := 24) (n := 34) (c := 3) (q := 5) (ty := 1) (fi := false) (by decide +kernel) (by decide +kernel) (by decide +kernel)).trans ?_
    refine ite_congr rfl (fun _ => ?_) (fun _ => rfl)
    refine (X_aload_n (m := 20) (pc := 27) (n := 1) (by decide +kernel) rfl).trans ?_
    refine (X_getI (m := 20) (pc := 28) (n := 49) (c := 7) (q := 0) (ty := 1) (fi := false) (by decide +kernel) (by decide +kernel) (by decide +kernel)).trans ?_
    refine ite_congr rfl (fun _ => ?_) (fun _ => rfl)
    refine (X_max (m := 20) (pc := 31) (q := 54) (by decide +kernel) (by decide +kernel) (Nat.le_of_ble_eq_true rfl)).trans ?_
    refine (X_putI (m := 20) (pc := 34) (n := 34) (c := 3) (q := 5) (fi := false) (by decide +kernel) (by decide +kernel) (fun h => by cases h) (by decide +kernel)).trans ?_
    refine ite_congr rfl (fun _ => ?_) (fun _ => rfl)
    refine (X_aload_n (m := 20) (pc := 37) (n := 0) (by decide +kernel) rfl).trans ?_
    refine (X_dup (m := 20) (pc := 38)  (by decide +kernel) rfl rfl).trans ?_
    refine (X_getI (m := 20) (pc := 39) (n := 43) (c := 3) (q := 8) (ty := 1) (fi := false) (by decide +kernel) (by decide +kernel) (by decide +kernel)).trans ?_
    refine ite_congr rfl (fun _ => ?_) (fun _ => rfl)
    refine (X_iconst (m := 20) (pc := 42) (n := 1) (by decide +kernel) ).trans ?_
    refine (X_iadd (m := 20) (pc := 43)  (by decide +kernel) ).trans ?_
    refine (X_putI (m := 20) (pc := 44) (n := 43) (c := 3) (q := 8) (fi := false) (by decide +kernel) (by decide +kernel) (fun h => by cases h) (by decide +kernel)).trans ?_
    refine ite_congr rfl (fun _ => ?_) (fun _ => rfl)
    refine (X_iconst (m := 20) (pc := 47) (n := 0) (by decide +kernel) ).trans ?_
    refine (X_istore_n (m := 20) (pc := 48) (n := 2) (by decide +kernel) rfl (Nat.le_of_ble_eq_true rfl) rfl).trans ?_
    rfl
theorem B_X2_hear_49 {k : Nat → Nat × Nat} {u : Nat → Nat → Int} {g : Nat → Nat → Nat} {t : Nat × Nat × Nat} {r0 : Nat} {r1 : Nat} {x2 : Int} : a_X 20 49 [a_r (r0), a_r (r1), a_i (x2)] [] (k, u, g, t) = if (x2 : Int) ≥ (12 : Int) then some (.inl none, (k, u, g, t)) else if (k r0).1 = 3 then if (k r0).1 = 3 then if ((k (g r0 4)).1 = 20 ∨ (k (g r0 4)).1 = 24) ∧ 0 ≤ (x2 : Int) ∧ (x2 : Int) < ((k (g r0 4)).2 : Int) then if (k r1).1 = 7 then if ((k (g r1 7)).1 = 20 ∨ (k (g r1 7)).1 = 24) ∧ 0 ≤ (x2 : Int) ∧ (x2 : Int) < ((k (g r1 7)).2 : Int) then if (k (g r0 4)).1 = 20 ∧ 0 ≤ (x2 : Int) ∧ (x2 : Int) < ((k (g r0 4)).2 : Int) then a_X 20 49 [a_r (r0), a_r (r1), a_i (wr (x2 + 1))] [] (k, (upm u (g r0 4) (x2 : Int).toNat (max (u (g r0 4) (x2 : Int).toNat) (u (g r1 7) (x2 : Int).toNat))), g, t) else none else none else none else none else none else none := by
  refine (X_iload_n (m := 20) (pc := 49) (n := 2) (by decide +kernel) rfl).trans ?_
  refine (X_bipush (m := 20) (pc := 50) (n := 12) (by decide +kernel) ).trans ?_
  refine (X_ic_ge (m := 20) (pc := 52) (off := 30) (tg := 82) (by decide +kernel) (by decide +kernel)).trans ?_
  refine ite_congr rfl (fun _ => ?_) (fun _ => ?_)
  · refine (X_goto (m := 20) (pc := 82) (off := 45) (tg := 127) (by decide +kernel) (by decide +kernel)).trans ?_
    exact X_return (m := 20) (pc := 127) (by decide +kernel) (by decide +kernel)
  · refine (X_aload_n (m := 20) (pc := 55) (n := 0) (by decide +kernel) rfl).trans ?_
    refine (X_getR (m := 20) (pc := 56) (n := 18) (c := 3) (q := 4) (fi := true) (by decide +kernel) (by decide +kernel)).trans ?_
    refine ite_congr rfl (fun _ => ?_) (fun _ => rfl)
    refine (X_iload_n (m := 20) (pc := 59) (n := 2) (by decide +kernel) rfl).trans ?_
    refine (X_aload_n (m := 20) (pc := 60) (n := 0) (by decide +kernel) rfl).trans ?_
    refine (X_getR (m := 20) (pc := 61) (n := 18) (c := 3) (q := 4) (fi := true) (by decide +kernel) (by decide +kernel)).trans ?_
    refine ite_congr rfl (fun _ => ?_) (fun _ => rfl)
    refine (X_iload_n (m := 20) (pc := 64) (n := 2) (by decide +kernel) rfl).trans ?_
    refine (X_iaload (m := 20) (pc := 65)  (by decide +kernel) ).trans ?_
    refine ite_congr rfl (fun _ => ?_) (fun _ => rfl)
    refine (X_aload_n (m := 20) (pc := 66) (n := 1) (by decide +kernel) rfl).trans ?_
    refine (X_getR (m := 20) (pc := 67) (n := 64) (c := 7) (q := 7) (fi := true) (by decide +kernel) (by decide +kernel)).trans ?_
    refine ite_congr rfl (fun _ => ?_) (fun _ => rfl)
    refine (X_iload_n (m := 20) (pc := 70) (n := 2) (by decide +kernel) rfl).trans ?_
    refine (X_iaload (m := 20) (pc := 71)  (by decide +kernel) ).trans ?_
    refine ite_congr rfl (fun _ => ?_) (fun _ => rfl)
    refine (X_max (m := 20) (pc := 72) (q := 54) (by decide +kernel) (by decide +kernel) (Nat.le_of_ble_eq_true rfl)).trans ?_
    refine (X_iastore (m := 20) (pc := 75)  (by decide +kernel) ).trans ?_
    refine ite_congr rfl (fun _ => ?_) (fun _ => rfl)
    refine (X_iinc (m := 20) (pc := 76) (n := 2) (c := 1) (by decide +kernel) rfl rfl (Nat.le_of_ble_eq_true rfl) rfl).trans ?_
    refine (X_goto (m := 20) (pc := 79) (off := -30) (tg := 49) (by decide +kernel) (by decide +kernel)).trans ?_
    rfl
theorem E_X2_takeList {σ : AS} {r0 : Nat} {r1 : Nat} {x2 : Int} : a_m 21 [a_r (r0), a_r (r1), a_i (x2)] σ = a_X 21 0 [a_r (r0), a_r (r1), a_i (x2)] [] σ := a_m_eq (by rw [a_entry, show m_maxL 21 = 3 from by decide +kernel]; rfl)
theorem B_X2_takeList_0 {k : Nat → Nat × Nat} {u : Nat → Nat → Int} {g : Nat → Nat → Nat} {t : Nat × Nat × Nat} {r0 : Nat} {r1 : Nat} {x2 : Int} : a_X 21 0 [a_r (r0), a_r (r1), a_i (x2)] [] (k, u, g, t) = if (k r0).1 = 3 then if r1 ≠ (g r0 4) ∧ (k r1).1 = 20 ∧ (k (g r0 4)).1 = 20 ∧ 0 ≤ (0 : Int) ∧ 0 ≤ (0 : Int) ∧ 0 ≤ (12 : Int) ∧ (0 : Int) + (12 : Int) ≤ ((k r1).2 : Int) ∧ (0 : Int) + (12 : Int) ≤ ((k (g r0 4)).2 : Int) then if (k r0).1 = 3 then if (k r0).1 = 3 then some (.inl none, (k, (upm (upr u (g r0 4) (a_cpy (u r1) (u (g r0 4)) (0 : Int).toNat (0 : Int).toNat (12 : Int).toNat)) r0 5 (max ((upr u (g r0 4) (a_cpy (u r1) (u (g r0 4)) (0 : Int).toNat (0 : Int).toNat (12 : Int).toNat)) r0 5) (x2))), g, t)) else none else none else none else none := by
  refine (X_aload_n (m := 21) (pc := 0) (n := 1) (by decide +kernel) rfl).trans ?_
  refine (X_iconst (m := 21) (pc := 1) (n := 0) (by decide +kernel) ).trans ?_
  refine (X_aload_n (m := 21) (pc := 2) (n := 0) (by decide +kernel) rfl).trans ?_
  refine (X_getR (m := 21) (pc := 3) (n := 18) (c := 3) (q := 4) (fi := true) (by decide +kernel) (by decide +kernel)).trans ?_
  refine ite_congr rfl (fun _ => ?_) (fun _ => rfl)
  refine (X_iconst (m := 21) (pc := 6) (n := 0) (by decide +kernel) ).trans ?_
  refine (X_bipush (m := 21) (pc := 7) (n := 12) (by decide +kernel) ).trans ?_
  refine (X_copy (m := 21) (pc := 9) (q := 28) (by decide +kernel) (by decide +kernel) (Nat.le_of_ble_eq_true rfl)).trans ?_
  refine ite_congr rfl (fun _ => ?_) (fun _ => rfl)
  refine (X_aload_n (m := 21) (pc := 12) (n := 0) (by decide +kernel) rfl).trans ?_
  refine (X_aload_n (m := 21) (pc := 13) (n := 0) (by decide +kernel) rfl).trans ?_
  refine (X_getI (m := 21) (pc := 14) (n := 34) (c := 3) (q := 5) (ty := 1) (fi := false) (by decide +kernel) (by decide +kernel) (by decide +kernel)).trans ?_
  refine ite_congr rfl (fun _ => ?_) (fun _ => rfl)
  refine (X_iload_n (m := 21) (pc := 17) (n := 2) (by decide +kernel) rfl).trans ?_
  refine (X_max (m := 21) (pc := 18) (q := 54) (by decide +kernel) (by decide +kernel) (Nat.le_of_ble_eq_true rfl)).trans ?_
  refine (X_putI (m := 21) (pc := 21) (n := 34) (c := 3) (q := 5) (fi := false) (by decide +kernel) (by decide +kernel) (fun h => by cases h) (by decide +kernel)).trans ?_
  refine ite_congr rfl (fun _ => ?_) (fun _ => rfl)
  exact X_return (m := 21) (pc := 24) (by decide +kernel) (by decide +kernel)
theorem E_X3_init {σ : AS} {r0 : Nat} : a_m 22 [a_r (r0)] σ = a_X 22 0 [a_r (r0)] [] σ := a_m_eq (by rw [a_entry, show m_maxL 22 = 1 from by decide +kernel]; rfl)
theorem B_X3_init_0 {k : Nat → Nat × Nat} {u : Nat → Nat → Int} {g : Nat → Nat → Nat} {t : Nat × Nat × Nat} {r0 : Nat} : a_X 22 0 [a_r (r0)] [] (k, u, g, t) = if (k r0).1 ≠ 0 then if 0 ≤ (12 : Int) ∧ (12 : Int) ≤ 65536 then a_X 22 9 [a_r (r0)] [a_r (t.1), a_r (r0)] (a_new (k, u, g, t) 20 (12 : Int).toNat (12 : Int).toNat) else none else none := by
  refine (X_aload_n (m := 22) (pc := 0) (n := 0) (by decide +kernel) rfl).trans ?_
  refine (X_objinit (m := 22) (pc := 1) (q := 3) (by decide +kernel) (by decide +kernel) (Nat.le_of_ble_eq_true rfl)).trans ?_
  refine ite_congr rfl (fun _ => ?_) (fun _ => rfl)
  refine (X_aload_n (m := 22) (pc := 4) (n := 0) (by decide +kernel) rfl).trans ?_
  refine (X_bipush (m := 22) (pc := 5) (n := 12) (by decide +kernel) ).trans ?_
  refine (X_newa_int (m := 22) (pc := 7)  (by decide +kernel) ).trans ?_
  refine ite_congr rfl (fun _ => ?_) (fun _ => rfl)
  rfl
theorem B_X3_init_9 {k : Nat → Nat × Nat} {u : Nat → Nat → Int} {g : Nat → Nat → Nat} {t : Nat × Nat × Nat} {r0 : Nat} {q0 : Nat} {q1 : Nat} : a_X 22 9 [a_r (r0)] [a_r (q1), a_r (q0)] (k, u, g, t) = if (k q0).1 = 4 then if 0 ≤ (12 : Int) ∧ (12 : Int) ≤ 65536 then a_X 22 17 [a_r (r0)] [a_r (t.1), a_r (r0)] (a_new (k, u, (upm g q0 0 q1), t) 20 (12 : Int).toNat (12 : Int).toNat) else none else none := by
  refine (X_putR (m := 22) (pc := 9) (n := 9) (c := 4) (q := 0) (fi := true) (by decide +kernel) (by decide +kernel) (fun _ => (by decide +kernel)) (by decide +kernel)).trans ?_
  refine ite_congr rfl (fun _ => ?_) (fun _ => rfl)
  refine (X_aload_n (m := 22) (pc := 12) (n := 0) (by decide +kernel) rfl).trans ?_
  refine (X_bipush (m := 22) (pc := 13) (n := 12) (by decide +kernel) ).trans ?_
  refine (X_newa_int (m := 22) (pc := 15)  (by decide +kernel) ).trans ?_
  refine ite_congr rfl (fun _ => ?_) (fun _ => rfl)
  rfl
theorem B_X3_init_17 {k : Nat → Nat × Nat} {u : Nat → Nat → Int} {g : Nat → Nat → Nat} {t : Nat × Nat × Nat} {r0 : Nat} {q0 : Nat} {q1 : Nat} : a_X 22 17 [a_r (r0)] [a_r (q1), a_r (q0)] (k, u, g, t) = if (k q0).1 = 4 then if 0 ≤ (12 : Int) ∧ (12 : Int) ≤ 65536 then a_X 22 25 [a_r (r0)] [a_r (t.1), a_r (r0)] (a_new (k, u, (upm g q0 1 q1), t) 20 (12 : Int).toNat (12 : Int).toNat) else none else none := by
  refine (X_putR (m := 22) (pc := 17) (n := 15) (c := 4) (q := 1) (fi := true) (by decide +kernel) (by decide +kernel) (fun _ => (by decide +kernel)) (by decide +kernel)).trans ?_
  refine ite_congr rfl (fun _ => ?_) (fun _ => rfl)
  refine (X_aload_n (m := 22) (pc := 20) (n := 0) (by decide +kernel) rfl).trans ?_
  refine (X_bipush (m := 22) (pc := 21) (n := 12) (by decide +kernel) ).trans ?_
  refine (X_newa_int (m := 22) (pc := 23)  (by decide +kernel) ).trans ?_
  refine ite_congr rfl (fun _ => ?_) (fun _ => rfl)
  rfl
theorem B_X3_init_25 {k : Nat → Nat × Nat} {u : Nat → Nat → Int} {g : Nat → Nat → Nat} {t : Nat × Nat × Nat} {r0 : Nat} {q0 : Nat} {q1 : Nat} : a_X 22 25 [a_r (r0)] [a_r (q1), a_r (q0)] (k, u, g, t) = if (k q0).1 = 4 then if 0 ≤ (12 : Int) ∧ (12 : Int) ≤ 65536 then a_X 22 33 [a_r (r0)] [a_r (t.1), a_r (r0)] (a_new (k, u, (upm g q0 2 q1), t) 20 (12 : Int).toNat (12 : Int).toNat) else none else none := by
  refine (X_putR (m := 22) (pc := 25) (n := 18) (c := 4) (q := 2) (fi := true) (by decide +kernel) (by decide +kernel) (fun _ => (by decide +kernel)) (by decide +kernel)).trans ?_
  refine ite_congr rfl (fun _ => ?_) (fun _ => rfl)
  refine (X_aload_n (m := 22) (pc := 28) (n := 0) (by decide +kernel) rfl).trans ?_
  refine (X_bipush (m := 22) (pc := 29) (n := 12) (by decide +kernel) ).trans ?_
  refine (X_newa_int (m := 22) (pc := 31)  (by decide +kernel) ).trans ?_
  refine ite_congr rfl (fun _ => ?_) (fun _ => rfl)
  rfl
theorem B_X3_init_33 {k : Nat → Nat × Nat} {u : Nat → Nat → Int} {g : Nat → Nat → Nat} {t : Nat × Nat × Nat} {r0 : Nat} {q0 : Nat} {q1 : Nat} : a_X 22 33 [a_r (r0)] [a_r (q1), a_r (q0)] (k, u, g, t) = if (k q0).1 = 4 then if 0 ≤ (12 : Int) ∧ (12 : Int) ≤ 65536 then a_X 22 41 [a_r (r0)] [a_r (t.1), a_r (r0)] (a_new (k, u, (upm g q0 3 q1), t) 20 (12 : Int).toNat (12 : Int).toNat) else none else none := by
  refine (X_putR (m := 22) (pc := 33) (n := 21) (c := 4) (q := 3) (fi := true) (by decide +kernel) (by decide +kernel) (fun _ => (by decide +kernel)) (by decide +kernel)).trans ?_
  refine ite_congr rfl (fun _ => ?_) (fun _ => rfl)
  refine (X_aload_n (m := 22) (pc := 36) (n := 0) (by decide +kernel) rfl).trans ?_
  refine (X_bipush (m := 22) (pc := 37) (n := 12) (by decide +kernel) ).trans ?_
  refine (X_newa_int (m := 22) (pc := 39)  (by decide +kernel) ).trans ?_
  refine ite_congr rfl (fun _ => ?_) (fun _ => rfl)
  rfl
theorem B_X3_init_41 {k : Nat → Nat × Nat} {u : Nat → Nat → Int} {g : Nat → Nat → Nat} {t : Nat × Nat × Nat} {r0 : Nat} {q0 : Nat} {q1 : Nat} : a_X 22 41 [a_r (r0)] [a_r (q1), a_r (q0)] (k, u, g, t) = if (k q0).1 = 4 then some (.inl none, (k, u, (upm g q0 5 q1), t)) else none := by
  refine (X_putR (m := 22) (pc := 41) (n := 24) (c := 4) (q := 5) (fi := true) (by decide +kernel) (by decide +kernel) (fun _ => (by decide +kernel)) (by decide +kernel)).trans ?_
  refine ite_congr rfl (fun _ => ?_) (fun _ => rfl)
  exact X_return (m := 22) (pc := 44) (by decide +kernel) (by decide +kernel)
theorem E_X3_collect {σ : AS} {r0 : Nat} {r1 : Nat} {r2 : Nat} {x3 : Int} : a_m 23 [a_r (r0), a_r (r1), a_r (r2), a_i (x3)] σ = a_X 23 0 [a_r (r0), a_r (r1), a_r (r2), a_i (x3), a_x false, a_x false] [] σ := a_m_eq (by rw [a_entry, show m_maxL 23 = 6 from by decide +kernel]; rfl)
theorem B_X3_collect_0 {k : Nat → Nat × Nat} {u : Nat → Nat → Int} {g : Nat → Nat → Nat} {t : Nat × Nat × Nat} {r0 : Nat} {r1 : Nat} {r2 : Nat} {x3 : Int} {v4 : AV} {v5 : AV} : a_X 23 0 [a_r (r0), a_r (r1), a_r (r2), a_i (x3), v4, v5] [] (k, u, g, t) = if (k r0).1 = 4 then a_X 23 8 [a_r (r0), a_r (r1), a_r (r2), a_i (x3), a_i (0), v5] [] (k, (upm u r0 6 0), g, t) else none := by
  refine (X_aload_n (m := 23) (pc := 0) (n := 0) (by decide +kernel) rfl).trans ?_
  refine (X_iconst (m := 23) (pc := 1) (n := 0) (by decide +kernel) ).trans ?_
  refine (X_putI (m := 23) (pc := 2) (n := 27) (c := 4) (q := 6) (fi := false) (by decide +kernel) (by decide +kernel) (fun h => by cases h) (by decide +kernel)).trans ?_
  refine ite_congr rfl (fun _ => ?_) (fun _ => rfl)
  refine (X_iconst (m := 23) (pc := 5) (n := 0) (by decide +kernel) ).trans ?_
  refine (X_istore (m := 23) (pc := 6) (n := 4) (by decide +kernel) rfl (Nat.le_of_ble_eq_true rfl) rfl).trans ?_
  rfl
theorem B_X3_collect_8 {k : Nat → Nat × Nat} {u : Nat → Nat → Int} {g : Nat → Nat → Nat} {t : Nat × Nat × Nat} {r0 : Nat} {r1 : Nat} {r2 : Nat} {x3 : Int} {x4 : Int} {v5 : AV} : a_X 23 8 [a_r (r0), a_r (r1), a_r (r2), a_i (x3), a_i (x4), v5] [] (k, u, g, t) = if (x4 : Int) ≥ (12 : Int) then if (k r0).1 = 4 then a_X 23 59 [a_r (r0), a_r (r1), a_r (r2), a_i (x3), a_i (0), v5] [] (k, (upm u r0 4 0), g, t) else none else if ((k r2).1 = 20 ∨ (k r2).1 = 24) ∧ 0 ≤ (x4 : Int) ∧ (x4 : Int) < ((k r2).2 : Int) then if (k r1).1 = 9 then (a_m 84 [a_r (r1), a_i (x4), a_i (u r2 (x4 : Int).toNat)] (k, u, g, t)).bind (a_back 23 22 3 [a_r (r0), a_r (r1), a_r (r2), a_i (x3), a_i (x4), v5] []) else none else none := by
  refine (X_iload (m := 23) (pc := 8) (n := 4) (by decide +kernel) rfl).trans ?_
  refine (X_bipush (m := 23) (pc := 10) (n := 12) (by decide +kernel) ).trans ?_
  refine (X_ic_ge (m := 23) (pc := 12) (off := 39) (tg := 51) (by decide +kernel) (by decide +kernel)).trans ?_
  refine ite_congr rfl (fun _ => ?_) (fun _ => ?_)
  · refine (X_aload_n (m := 23) (pc := 51) (n := 0) (by decide +kernel) rfl).trans ?_
    refine (X_iconst (m := 23) (pc := 52) (n := 0) (by decide +kernel) ).trans ?_
    refine (X_putI (m := 23) (pc := 53) (n := 44) (c := 4) (q := 4) (fi := false) (by decide +kernel) (by decide +kernel) (fun h => by cases h) (by decide +kernel)).trans ?_
    refine ite_congr rfl (fun _ => ?_) (fun _ => rfl)
    refine (X_iconst (m := 23) (pc := 56) (n := 0) (by decide +kernel) ).trans ?_
    refine (X_istore (m := 23) (pc := 57) (n := 4) (by decide +kernel) rfl (Nat.le_of_ble_eq_true rfl) rfl).trans ?_
    rfl
  · refine (X_aload_n (m := 23) (pc := 15) (n := 1) (by decide +kernel) rfl).trans ?_
    refine (X_iload (m := 23) (pc := 16) (n := 4) (by decide +kernel) rfl).trans ?_
    refine (X_aload_n (m := 23) (pc := 18) (n := 2) (by decide +kernel) rfl).trans ?_
    refine (X_iload (m := 23) (pc := 19) (n := 4) (by decide +kernel) rfl).trans ?_
    refine (X_iaload (m := 23) (pc := 21)  (by decide +kernel) ).trans ?_
    refine ite_congr rfl (fun _ => ?_) (fun _ => rfl)
    refine (X_call_vi (m := 23) (pc := 22) (q := 31) (y := 84) (n := 3) (as := [a_r (r1), a_i (x4), a_i (u r2 (x4 : Int).toNat)]) (rest := []) (by decide +kernel) (by decide +kernel) (by decide +kernel) (by decide +kernel) rfl rfl (Nat.le_of_ble_eq_true rfl) (Nat.le_of_ble_eq_true rfl) rfl (by rw [show m_maxL 84 = 3 from by decide +kernel]; exact Nat.le_of_ble_eq_true rfl)).trans ?_
    exact ite_congr (by simp [a_rcv, show m_recv 84 = 9 from by decide +kernel]) (fun _ => rfl) (fun _ => rfl)
theorem B_X3_collect_59 {k : Nat → Nat × Nat} {u : Nat → Nat → Int} {g : Nat → Nat → Nat} {t : Nat × Nat × Nat} {r0 : Nat} {r1 : Nat} {r2 : Nat} {x3 : Int} {x4 : Int} {v5 : AV} : a_X 23 59 [a_r (r0), a_r (r1), a_r (r2), a_i (x3), a_i (x4), v5] [] (k, u, g, t) = if (k r0).1 = 4 then if (x4 : Int) ≥ (u r0 6 : Int) then some (.inl none, (k, u, g, t)) else if (k r0).1 = 4 then if ((k (g r0 5)).1 = 20 ∨ (k (g r0 5)).1 = 24) ∧ 0 ≤ (x4 : Int) ∧ (x4 : Int) < ((k (g r0 5)).2 : Int) then if (k r0).1 = 4 then (a_m 26 [a_r (r0), a_r (r1), a_i (u (g r0 5) (x4 : Int).toNat)] (k, u, g, t)).bind (a_back 23 77 3 [a_r (r0), a_r (r1), a_r (r2), a_i (x3), a_i (x4), v5] []) else none else none else none else none := by
  refine (X_iload (m := 23) (pc := 59) (n := 4) (by decide +kernel) rfl).trans ?_
  refine (X_aload_n (m := 23) (pc := 61) (n := 0) (by decide +kernel) rfl).trans ?_
  refine (X_getI (m := 23) (pc := 62) (n := 27) (c := 4) (q := 6) (ty := 1) (fi := false) (by decide +kernel) (by decide +kernel) (by decide +kernel)).trans ?_
  refine ite_congr rfl (fun _ => ?_) (fun _ => rfl)
  refine (X_ic_ge (m := 23) (pc := 65) (off := 21) (tg := 86) (by decide +kernel) (by decide +kernel)).trans ?_
  refine ite_congr rfl (fun _ => ?_) (fun _ => ?_)
  · exact X_return (m := 23) (pc := 86) (by decide +kernel) (by decide +kernel)
  · refine (X_aload_n (m := 23) (pc := 68) (n := 0) (by decide +kernel) rfl).trans ?_
    refine (X_aload_n (m := 23) (pc := 69) (n := 1) (by decide +kernel) rfl).trans ?_
    refine (X_aload_n (m := 23) (pc := 70) (n := 0) (by decide +kernel) rfl).trans ?_
    refine (X_getR (m := 23) (pc := 71) (n := 24) (c := 4) (q := 5) (fi := true) (by decide +kernel) (by decide +kernel)).trans ?_
    refine ite_congr rfl (fun _ => ?_) (fun _ => rfl)
    refine (X_iload (m := 23) (pc := 74) (n := 4) (by decide +kernel) rfl).trans ?_
    refine (X_iaload (m := 23) (pc := 76)  (by decide +kernel) ).trans ?_
    refine ite_congr rfl (fun _ => ?_) (fun _ => rfl)
    refine (X_call_vi (m := 23) (pc := 77) (q := 47) (y := 26) (n := 3) (as := [a_r (r0), a_r (r1), a_i (u (g r0 5) (x4 : Int).toNat)]) (rest := []) (by decide +kernel) (by decide +kernel) (by decide +kernel) (by decide +kernel) rfl rfl (Nat.le_of_ble_eq_true rfl) (Nat.le_of_ble_eq_true rfl) rfl (by rw [show m_maxL 26 = 4 from by decide +kernel]; exact Nat.le_of_ble_eq_true rfl)).trans ?_
    exact ite_congr (by simp [a_rcv, show m_recv 26 = 4 from by decide +kernel]) (fun _ => rfl) (fun _ => rfl)
theorem B_X3_collect_25 {k : Nat → Nat × Nat} {u : Nat → Nat → Int} {g : Nat → Nat → Nat} {t : Nat × Nat × Nat} {r0 : Nat} {r1 : Nat} {r2 : Nat} {x3 : Int} {x4 : Int} {v5 : AV} {y0 : Int} : a_X 23 25 [a_r (r0), a_r (r1), a_r (r2), a_i (x3), a_i (x4), v5] [a_i (y0)] (k, u, g, t) = if (k r1).1 = 9 then if ((k (g r1 1)).1 = 20 ∨ (k (g r1 1)).1 = 24) ∧ 0 ≤ (y0 : Int) ∧ (y0 : Int) < ((k (g r1 1)).2 : Int) then if (u (g r1 1) (y0 : Int).toNat : Int) ≠ (x3 : Int) then a_X 23 8 [a_r (r0), a_r (r1), a_r (r2), a_i (x3), a_i (wr (x4 + 1)), a_i (y0)] [] (k, u, g, t) else if (k r0).1 = 4 then (a_m 24 [a_r (r0), a_r (r1), a_i (y0)] (k, u, g, t)).bind (a_back 23 42 3 [a_r (r0), a_r (r1), a_r (r2), a_i (x3), a_i (x4), a_i (y0)] []) else none else none else none := by
  refine (X_istore (m := 23) (pc := 25) (n := 5) (by decide +kernel) rfl (Nat.le_of_ble_eq_true rfl) rfl).trans ?_
  refine (X_aload_n (m := 23) (pc := 27) (n := 1) (by decide +kernel) rfl).trans ?_
  refine (X_getR (m := 23) (pc := 28) (n := 37) (c := 9) (q := 1) (fi := true) (by decide +kernel) (by decide +kernel)).trans ?_
  refine ite_congr rfl (fun _ => ?_) (fun _ => rfl)
  refine (X_iload (m := 23) (pc := 31) (n := 5) (by decide +kernel) rfl).trans ?_
  refine (X_iaload (m := 23) (pc := 33)  (by decide +kernel) ).trans ?_
  refine ite_congr rfl (fun _ => ?_) (fun _ => rfl)
  refine (X_iload_n (m := 23) (pc := 34) (n := 3) (by decide +kernel) rfl).trans ?_
  refine (X_ic_ne (m := 23) (pc := 35) (off := 10) (tg := 45) (by decide +kernel) (by decide +kernel)).trans ?_
  refine ite_congr rfl (fun _ => ?_) (fun _ => ?_)
  · refine (X_iinc (m := 23) (pc := 45) (n := 4) (c := 1) (by decide +kernel) rfl rfl (Nat.le_of_ble_eq_true rfl) rfl).trans ?_
    refine (X_goto (m := 23) (pc := 48) (off := -40) (tg := 8) (by decide +kernel) (by decide +kernel)).trans ?_
    rfl
  · refine (X_aload_n (m := 23) (pc := 38) (n := 0) (by decide +kernel) rfl).trans ?_
    refine (X_aload_n (m := 23) (pc := 39) (n := 1) (by decide +kernel) rfl).trans ?_
    refine (X_iload (m := 23) (pc := 40) (n := 5) (by decide +kernel) rfl).trans ?_
    refine (X_call_vi (m := 23) (pc := 42) (q := 40) (y := 24) (n := 3) (as := [a_r (r0), a_r (r1), a_i (y0)]) (rest := []) (by decide +kernel) (by decide +kernel) (by decide +kernel) (by decide +kernel) rfl rfl (Nat.le_of_ble_eq_true rfl) (Nat.le_of_ble_eq_true rfl) rfl (by rw [show m_maxL 24 = 4 from by decide +kernel]; exact Nat.le_of_ble_eq_true rfl)).trans ?_
    exact ite_congr (by simp [a_rcv, show m_recv 24 = 4 from by decide +kernel]) (fun _ => rfl) (fun _ => rfl)
theorem B_X3_collect_80 {k : Nat → Nat × Nat} {u : Nat → Nat → Int} {g : Nat → Nat → Nat} {t : Nat × Nat × Nat} {r0 : Nat} {r1 : Nat} {r2 : Nat} {x3 : Int} {x4 : Int} {v5 : AV} : a_X 23 80 [a_r (r0), a_r (r1), a_r (r2), a_i (x3), a_i (x4), v5] [] (k, u, g, t) = a_X 23 59 [a_r (r0), a_r (r1), a_r (r2), a_i (x3), a_i (wr (x4 + 1)), v5] [] (k, u, g, t) := by
  refine (X_iinc (m := 23) (pc := 80) (n := 4) (c := 1) (by decide +kernel) rfl rfl (Nat.le_of_ble_eq_true rfl) rfl).trans ?_
  refine (X_goto (m := 23) (pc := 83) (off := -24) (tg := 59) (by decide +kernel) (by decide +kernel)).trans ?_
  rfl
theorem B_X3_collect_45 {k : Nat → Nat × Nat} {u : Nat → Nat → Int} {g : Nat → Nat → Nat} {t : Nat × Nat × Nat} {r0 : Nat} {r1 : Nat} {r2 : Nat} {x3 : Int} {x4 : Int} {x5 : Int} : a_X 23 45 [a_r (r0), a_r (r1), a_r (r2), a_i (x3), a_i (x4), a_i (x5)] [] (k, u, g, t) = a_X 23 8 [a_r (r0), a_r (r1), a_r (r2), a_i (x3), a_i (wr (x4 + 1)), a_i (x5)] [] (k, u, g, t) := by
  refine (X_iinc (m := 23) (pc := 45) (n := 4) (c := 1) (by decide +kernel) rfl rfl (Nat.le_of_ble_eq_true rfl) rfl).trans ?_
  refine (X_goto (m := 23) (pc := 48) (off := -40) (tg := 8) (by decide +kernel) (by decide +kernel)).trans ?_
  rfl
theorem E_X3_insertRow {σ : AS} {r0 : Nat} {r1 : Nat} {x2 : Int} : a_m 24 [a_r (r0), a_r (r1), a_i (x2)] σ = a_X 24 0 [a_r (r0), a_r (r1), a_i (x2), a_x false] [] σ := a_m_eq (by rw [a_entry, show m_maxL 24 = 4 from by decide +kernel]; rfl)
theorem B_X3_insertRow_0 {k : Nat → Nat × Nat} {u : Nat → Nat → Int} {g : Nat → Nat → Nat} {t : Nat × Nat × Nat} {r0 : Nat} {r1 : Nat} {x2 : Int} {v3 : AV} : a_X 24 0 [a_r (r0), a_r (r1), a_i (x2), v3] [] (k, u, g, t) = if (k r0).1 = 4 then a_X 24 5 [a_r (r0), a_r (r1), a_i (x2), a_i (u r0 6)] [] (k, u, g, t) else none := by
  refine (X_aload_n (m := 24) (pc := 0) (n := 0) (by decide +kernel) rfl).trans ?_
  refine (X_getI (m := 24) (pc := 1) (n := 27) (c := 4) (q := 6) (ty := 1) (fi := false) (by decide +kernel) (by decide +kernel) (by decide +kernel)).trans ?_
  refine ite_congr rfl (fun _ => ?_) (fun _ => rfl)
  refine (X_istore_n (m := 24) (pc := 4) (n := 3) (by decide +kernel) rfl (Nat.le_of_ble_eq_true rfl) rfl).trans ?_
  rfl
theorem B_X3_insertRow_5 {k : Nat → Nat × Nat} {u : Nat → Nat → Int} {g : Nat → Nat → Nat} {t : Nat × Nat × Nat} {r0 : Nat} {r1 : Nat} {x2 : Int} {x3 : Int} : a_X 24 5 [a_r (r0), a_r (r1), a_i (x2), a_i (x3)] [] (k, u, g, t) = if (x3 : Int) ≤ 0 then if (k r0).1 = 4 then if (k (g r0 5)).1 = 20 ∧ 0 ≤ (x3 : Int) ∧ (x3 : Int) < ((k (g r0 5)).2 : Int) then if (k r0).1 = 4 then if (k r0).1 = 4 then some (.inl none, (k, (upm (upm u (g r0 5) (x3 : Int).toNat x2) r0 6 (wr (((upm u (g r0 5) (x3 : Int).toNat x2) r0 6) + 1))), g, t)) else none else none else none else none else if (k r0).1 = 4 then if ((k (g r0 5)).1 = 20 ∨ (k (g r0 5)).1 = 24) ∧ 0 ≤ (wr (x3 - 1) : Int) ∧ (wr (x3 - 1) : Int) < ((k (g r0 5)).2 : Int) then if (k r0).1 = 4 then (a_m 25 [a_r (r0), a_r (r1), a_i (x2), a_i (u (g r0 5) (wr (x3 - 1) : Int).toNat)] (k, u, g, t)).bind (a_back 24 20 3 [a_r (r0), a_r (r1), a_i (x2), a_i (x3)] []) else none else none else none := by
  refine (X_iload_n (m := 24) (pc := 5) (n := 3) (by decide +kernel) rfl).trans ?_
  refine (X_if_le (m := 24) (pc := 6) (off := 40) (tg := 46) (by decide +kernel) (by decide +kernel)).trans ?_
  refine ite_congr rfl (fun _ => ?_) (fun _ => ?_)
  · refine (X_aload_n (m := 24) (pc := 46) (n := 0) (by decide +kernel) rfl).trans ?_
    refine (X_getR (m := 24) (pc := 47) (n := 24) (c := 4) (q := 5) (fi := true) (by decide +kernel) (by decide +kernel)).trans ?_
    refine ite_congr rfl (fun _ => ?_) (fun _ => rfl)
    refine (X_iload_n (m := 24) (pc := 50) (n := 3) (by decide +kernel) rfl).trans ?_
    refine (X_iload_n (m := 24) (pc := 51) (n := 2) (by decide +kernel) rfl).trans ?_
    refine (X_iastore (m := 24) (pc := 52)  (by decide +kernel) ).trans ?_
    refine ite_congr rfl (fun _ => ?_) (fun _ => rfl)
    refine (X_aload_n (m := 24) (pc := 53) (n := 0) (by decide +kernel) rfl).trans ?_
    refine (X_dup (m := 24) (pc := 54)  (by decide +kernel) rfl rfl).trans ?_
    refine (X_getI (m := 24) (pc := 55) (n := 27) (c := 4) (q := 6) (ty := 1) (fi := false) (by decide +kernel) (by decide +kernel) (by decide +kernel)).trans ?_
    refine ite_congr rfl (fun _ => ?_) (fun _ => rfl)
    refine (X_iconst (m := 24) (pc := 58) (n := 1) (by decide +kernel) ).trans ?_
    refine (X_iadd (m := 24) (pc := 59)  (by decide +kernel) ).trans ?_
    refine (X_putI (m := 24) (pc := 60) (n := 27) (c := 4) (q := 6) (fi := false) (by decide +kernel) (by decide +kernel) (fun h => by cases h) (by decide +kernel)).trans ?_
    refine ite_congr rfl (fun _ => ?_) (fun _ => rfl)
    exact X_return (m := 24) (pc := 63) (by decide +kernel) (by decide +kernel)
  · refine (X_aload_n (m := 24) (pc := 9) (n := 0) (by decide +kernel) rfl).trans ?_
    refine (X_aload_n (m := 24) (pc := 10) (n := 1) (by decide +kernel) rfl).trans ?_
    refine (X_iload_n (m := 24) (pc := 11) (n := 2) (by decide +kernel) rfl).trans ?_
    refine (X_aload_n (m := 24) (pc := 12) (n := 0) (by decide +kernel) rfl).trans ?_
    refine (X_getR (m := 24) (pc := 13) (n := 24) (c := 4) (q := 5) (fi := true) (by decide +kernel) (by decide +kernel)).trans ?_
    refine ite_congr rfl (fun _ => ?_) (fun _ => rfl)
    refine (X_iload_n (m := 24) (pc := 16) (n := 3) (by decide +kernel) rfl).trans ?_
    refine (X_iconst (m := 24) (pc := 17) (n := 1) (by decide +kernel) ).trans ?_
    refine (X_isub (m := 24) (pc := 18)  (by decide +kernel) ).trans ?_
    refine (X_iaload (m := 24) (pc := 19)  (by decide +kernel) ).trans ?_
    refine ite_congr rfl (fun _ => ?_) (fun _ => rfl)
    refine (X_call_vi (m := 24) (pc := 20) (q := 50) (y := 25) (n := 4) (as := [a_r (r0), a_r (r1), a_i (x2), a_i (u (g r0 5) (wr (x3 - 1) : Int).toNat)]) (rest := []) (by decide +kernel) (by decide +kernel) (by decide +kernel) (by decide +kernel) rfl rfl (Nat.le_of_ble_eq_true rfl) (Nat.le_of_ble_eq_true rfl) rfl (by rw [show m_maxL 25 = 4 from by decide +kernel]; exact Nat.le_of_ble_eq_true rfl)).trans ?_
    exact ite_congr (by simp [a_rcv, show m_recv 25 = 4 from by decide +kernel]) (fun _ => rfl) (fun _ => rfl)
theorem B_X3_insertRow_23 {k : Nat → Nat × Nat} {u : Nat → Nat → Int} {g : Nat → Nat → Nat} {t : Nat × Nat × Nat} {r0 : Nat} {r1 : Nat} {x2 : Int} {x3 : Int} {y0 : Int} : a_X 24 23 [a_r (r0), a_r (r1), a_i (x2), a_i (x3)] [a_i (y0)] (k, u, g, t) = if (y0 : Int) = 0 then if (k r0).1 = 4 then if (k (g r0 5)).1 = 20 ∧ 0 ≤ (x3 : Int) ∧ (x3 : Int) < ((k (g r0 5)).2 : Int) then if (k r0).1 = 4 then if (k r0).1 = 4 then some (.inl none, (k, (upm (upm u (g r0 5) (x3 : Int).toNat x2) r0 6 (wr (((upm u (g r0 5) (x3 : Int).toNat x2) r0 6) + 1))), g, t)) else none else none else none else none else if (k r0).1 = 4 then if (k r0).1 = 4 then if ((k (g r0 5)).1 = 20 ∨ (k (g r0 5)).1 = 24) ∧ 0 ≤ (wr (x3 - 1) : Int) ∧ (wr (x3 - 1) : Int) < ((k (g r0 5)).2 : Int) then if (k (g r0 5)).1 = 20 ∧ 0 ≤ (x3 : Int) ∧ (x3 : Int) < ((k (g r0 5)).2 : Int) then a_X 24 5 [a_r (r0), a_r (r1), a_i (x2), a_i (wr (x3 + (-1)))] [] (k, (upm u (g r0 5) (x3 : Int).toNat (u (g r0 5) (wr (x3 - 1) : Int).toNat)), g, t) else none else none else none else none := by
  refine (X_if_eq (m := 24) (pc := 23) (off := 23) (tg := 46) (by decide +kernel) (by decide +kernel)).trans ?_
  refine ite_congr rfl (fun _ => ?_) (fun _ => ?_)
  · refine (X_aload_n (m := 24) (pc := 46) (n := 0) (by decide +kernel) rfl).trans ?_
    refine (X_getR (m := 24) (pc := 47) (n := 24) (c := 4) (q := 5) (fi := true) (by decide +kernel) (by decide +kernel)).trans ?_
    refine ite_congr rfl (fun _ => ?_) (fun _ => rfl)
    refine (X_iload_n (m := 24) (pc := 50) (n := 3) (by decide +kernel) rfl).trans ?_
    refine (X_iload_n (m := 24) (pc := 51) (n := 2) (by decide +kernel) rfl).trans ?_
    refine (X_iastore (m := 24) (pc := 52)  (by decide +kernel) ).trans ?_
    refine ite_congr rfl (fun _ => ?_) (fun _ => rfl)
    refine (X_aload_n (m := 24) (pc := 53) (n := 0) (by decide +kernel) rfl).trans ?_
    refine (X_dup (m := 24) (pc := 54)  (by decide +kernel) rfl rfl).trans ?_
    refine (X_getI (m := 24) (pc := 55) (n := 27) (c := 4) (q := 6) (ty := 1) (fi := false) (by decide +kernel) (by decide +kernel) (by decide +kernel)).trans ?_
    refine ite_congr rfl (fun _ => ?_) (fun _ => rfl)
    refine (X_iconst (m := 24) (pc := 58) (n := 1) (by decide +kernel) ).trans ?_
    refine (X_iadd (m := 24) (pc := 59)  (by decide +kernel) ).trans ?_
    refine (X_putI (m := 24) (pc := 60) (n := 27) (c := 4) (q := 6) (fi := false) (by decide +kernel) (by decide +kernel) (fun h => by cases h) (by decide +kernel)).trans ?_
    refine ite_congr rfl (fun _ => ?_) (fun _ => rfl)
    exact X_return (m := 24) (pc := 63) (by decide +kernel) (by decide +kernel)
  · refine (X_aload_n (m := 24) (pc := 26) (n := 0) (by decide +kernel) rfl).trans ?_
    refine (X_getR (m := 24) (pc := 27) (n := 24) (c := 4) (q := 5) (fi := true) (by decide +kernel) (by decide +kernel)).trans ?_
    refine ite_congr rfl (fun _ => ?_) (fun _ => rfl)
    refine (X_iload_n (m := 24) (pc := 30) (n := 3) (by decide +kernel) rfl).trans ?_
    refine (X_aload_n (m := 24) (pc := 31) (n := 0) (by decide +kernel) rfl).trans ?_
    refine (X_getR (m := 24) (pc := 32) (n := 24) (c := 4) (q := 5) (fi := true) (by decide +kernel) (by decide +kernel)).trans ?_
    refine ite_congr rfl (fun _ => ?_) (fun _ => rfl)
    refine (X_iload_n (m := 24) (pc := 35) (n := 3) (by decide +kernel) rfl).trans ?_
    refine (X_iconst (m := 24) (pc := 36) (n := 1) (by decide +kernel) ).trans ?_
    refine (X_isub (m := 24) (pc := 37)  (by decide +kernel) ).trans ?_
    refine (X_iaload (m := 24) (pc := 38)  (by decide +kernel) ).trans ?_
    refine ite_congr rfl (fun _ => ?_) (fun _ => rfl)
    refine (X_iastore (m := 24) (pc := 39)  (by decide +kernel) ).trans ?_
    refine ite_congr rfl (fun _ => ?_) (fun _ => rfl)
    refine (X_iinc (m := 24) (pc := 40) (n := 3) (c := -1) (by decide +kernel) rfl rfl (Nat.le_of_ble_eq_true rfl) rfl).trans ?_
    refine (X_goto (m := 24) (pc := 43) (off := -38) (tg := 5) (by decide +kernel) (by decide +kernel)).trans ?_
    rfl
theorem E_X3_isAhead {σ : AS} {r0 : Nat} {r1 : Nat} {x2 : Int} {x3 : Int} : a_m 25 [a_r (r0), a_r (r1), a_i (x2), a_i (x3)] σ = a_X 25 0 [a_r (r0), a_r (r1), a_i (x2), a_i (x3)] [] σ := a_m_eq (by rw [a_entry, show m_maxL 25 = 4 from by decide +kernel]; rfl)
theorem B_X3_isAhead_0 {k : Nat → Nat × Nat} {u : Nat → Nat → Int} {g : Nat → Nat → Nat} {t : Nat × Nat × Nat} {r0 : Nat} {r1 : Nat} {x2 : Int} {x3 : Int} : a_X 25 0 [a_r (r0), a_r (r1), a_i (x2), a_i (x3)] [] (k, u, g, t) = if (k r1).1 = 9 then if ((k (g r1 2)).1 = 20 ∨ (k (g r1 2)).1 = 24) ∧ 0 ≤ (x2 : Int) ∧ (x2 : Int) < ((k (g r1 2)).2 : Int) then if (k r1).1 = 9 then if ((k (g r1 2)).1 = 20 ∨ (k (g r1 2)).1 = 24) ∧ 0 ≤ (x3 : Int) ∧ (x3 : Int) < ((k (g r1 2)).2 : Int) then if (u (g r1 2) (x2 : Int).toNat : Int) = (u (g r1 2) (x3 : Int).toNat : Int) then if (k r1).1 = 9 then if ((k (g r1 0)).1 = 20 ∨ (k (g r1 0)).1 = 24) ∧ 0 ≤ (x2 : Int) ∧ (x2 : Int) < ((k (g r1 0)).2 : Int) then if (k r1).1 = 9 then if ((k (g r1 0)).1 = 20 ∨ (k (g r1 0)).1 = 24) ∧ 0 ≤ (x3 : Int) ∧ (x3 : Int) < ((k (g r1 0)).2 : Int) then if (u (g r1 0) (x2 : Int).toNat : Int) ≥ (u (g r1 0) (x3 : Int).toNat : Int) then some (.inl (some (a_i (0))), (k, u, g, t)) else some (.inl (some (a_i (1))), (k, u, g, t)) else none else none else none else none else if (k r1).1 = 9 then if ((k (g r1 2)).1 = 20 ∨ (k (g r1 2)).1 = 24) ∧ 0 ≤ (x2 : Int) ∧ (x2 : Int) < ((k (g r1 2)).2 : Int) then if (k r1).1 = 9 then if ((k (g r1 2)).1 = 20 ∨ (k (g r1 2)).1 = 24) ∧ 0 ≤ (x3 : Int) ∧ (x3 : Int) < ((k (g r1 2)).2 : Int) then if (u (g r1 2) (x2 : Int).toNat : Int) ≥ (u (g r1 2) (x3 : Int).toNat : Int) then some (.inl (some (a_i (0))), (k, u, g, t)) else some (.inl (some (a_i (1))), (k, u, g, t)) else none else none else none else none else none else none else none else none := by
  refine (X_aload_n (m := 25) (pc := 0) (n := 1) (by decide +kernel) rfl).trans ?_
  refine (X_getR (m := 25) (pc := 1) (n := 54) (c := 9) (q := 2) (fi := true) (by decide +kernel) (by decide +kernel)).trans ?_
  refine ite_congr rfl (fun _ => ?_) (fun _ => rfl)
  refine (X_iload_n (m := 25) (pc := 4) (n := 2) (by decide +kernel) rfl).trans ?_
  refine (X_iaload (m := 25) (pc := 5)  (by decide +kernel) ).trans ?_
  refine ite_congr rfl (fun _ => ?_) (fun _ => rfl)
  refine (X_aload_n (m := 25) (pc := 6) (n := 1) (by decide +kernel) rfl).trans ?_
  refine (X_getR (m := 25) (pc := 7) (n := 54) (c := 9) (q := 2) (fi := true) (by decide +kernel) (by decide +kernel)).trans ?_
  refine ite_congr rfl (fun _ => ?_) (fun _ => rfl)
  refine (X_iload_n (m := 25) (pc := 10) (n := 3) (by decide +kernel) rfl).trans ?_
  refine (X_iaload (m := 25) (pc := 11)  (by decide +kernel) ).trans ?_
  refine ite_congr rfl (fun _ => ?_) (fun _ => rfl)
  refine (X_ic_eq (m := 25) (pc := 12) (off := 24) (tg := 36) (by decide +kernel) (by decide +kernel)).trans ?_
  refine ite_congr rfl (fun _ => ?_) (fun _ => ?_)
  · refine (X_aload_n (m := 25) (pc := 36) (n := 1) (by decide +kernel) rfl).trans ?_
    refine (X_getR (m := 25) (pc := 37) (n := 55) (c := 9) (q := 0) (fi := true) (by decide +kernel) (by decide +kernel)).trans ?_
    refine ite_congr rfl (fun _ => ?_) (fun _ => rfl)
    refine (X_iload_n (m := 25) (pc := 40) (n := 2) (by decide +kernel) rfl).trans ?_
    refine (X_iaload (m := 25) (pc := 41)  (by decide +kernel) ).trans ?_
    refine ite_congr rfl (fun _ => ?_) (fun _ => rfl)
    refine (X_aload_n (m := 25) (pc := 42) (n := 1) (by decide +kernel) rfl).trans ?_
    refine (X_getR (m := 25) (pc := 43) (n := 55) (c := 9) (q := 0) (fi := true) (by decide +kernel) (by decide +kernel)).trans ?_
    refine ite_congr rfl (fun _ => ?_) (fun _ => rfl)
    refine (X_iload_n (m := 25) (pc := 46) (n := 3) (by decide +kernel) rfl).trans ?_
    refine (X_iaload (m := 25) (pc := 47)  (by decide +kernel) ).trans ?_
    refine ite_congr rfl (fun _ => ?_) (fun _ => rfl)
    refine (X_ic_ge (m := 25) (pc := 48) (off := 7) (tg := 55) (by decide +kernel) (by decide +kernel)).trans ?_
    refine ite_congr rfl (fun _ => ?_) (fun _ => ?_)
    · refine (X_iconst (m := 25) (pc := 55) (n := 0) (by decide +kernel) ).trans ?_
      exact X_ireturn (m := 25) (pc := 56) (f := 2) (by decide +kernel) (by decide +kernel) rfl
    · refine (X_iconst (m := 25) (pc := 51) (n := 1) (by decide +kernel) ).trans ?_
      refine (X_goto (m := 25) (pc := 52) (off := 4) (tg := 56) (by decide +kernel) (by decide +kernel)).trans ?_
      exact X_ireturn (m := 25) (pc := 56) (f := 2) (by decide +kernel) (by decide +kernel) rfl
  · refine (X_aload_n (m := 25) (pc := 15) (n := 1) (by decide +kernel) rfl).trans ?_
    refine (X_getR (m := 25) (pc := 16) (n := 54) (c := 9) (q := 2) (fi := true) (by decide +kernel) (by decide +kernel)).trans ?_
    refine ite_congr rfl (fun _ => ?_) (fun _ => rfl)
    refine (X_iload_n (m := 25) (pc := 19) (n := 2) (by decide +kernel) rfl).trans ?_
    refine (X_iaload (m := 25) (pc := 20)  (by decide +kernel) ).trans ?_
    refine ite_congr rfl (fun _ => ?_) (fun _ => rfl)
    refine (X_aload_n (m := 25) (pc := 21) (n := 1) (by decide +kernel) rfl).trans ?_
    refine (X_getR (m := 25) (pc := 22) (n := 54) (c := 9) (q := 2) (fi := true) (by decide +kernel) (by decide +kernel)).trans ?_
    refine ite_congr rfl (fun _ => ?_) (fun _ => rfl)
    refine (X_iload_n (m := 25) (pc := 25) (n := 3) (by decide +kernel) rfl).trans ?_
    refine (X_iaload (m := 25) (pc := 26)  (by decide +kernel) ).trans ?_
    refine ite_congr rfl (fun _ => ?_) (fun _ => rfl)
    refine (X_ic_ge (m := 25) (pc := 27) (off := 7) (tg := 34) (by decide +kernel) (by decide +kernel)).trans ?_
    refine ite_congr rfl (fun _ => ?_) (fun _ => ?_)
    · refine (X_iconst (m := 25) (pc := 34) (n := 0) (by decide +kernel) ).trans ?_
      exact X_ireturn (m := 25) (pc := 35) (f := 2) (by decide +kernel) (by decide +kernel) rfl
    · refine (X_iconst (m := 25) (pc := 30) (n := 1) (by decide +kernel) ).trans ?_
      refine (X_goto (m := 25) (pc := 31) (off := 4) (tg := 35) (by decide +kernel) (by decide +kernel)).trans ?_
      exact X_ireturn (m := 25) (pc := 35) (f := 2) (by decide +kernel) (by decide +kernel) rfl
theorem E_X3_join {σ : AS} {r0 : Nat} {r1 : Nat} {x2 : Int} : a_m 26 [a_r (r0), a_r (r1), a_i (x2)] σ = a_X 26 0 [a_r (r0), a_r (r1), a_i (x2), a_x false] [] σ := a_m_eq (by rw [a_entry, show m_maxL 26 = 4 from by decide +kernel]; rfl)
theorem B_X3_join_0 {k : Nat → Nat × Nat} {u : Nat → Nat → Int} {g : Nat → Nat → Nat} {t : Nat × Nat × Nat} {r0 : Nat} {r1 : Nat} {x2 : Int} {v3 : AV} : a_X 26 0 [a_r (r0), a_r (r1), a_i (x2), v3] [] (k, u, g, t) = a_X 26 2 [a_r (r0), a_r (r1), a_i (x2), a_i (0)] [] (k, u, g, t) := by
  refine (X_iconst (m := 26) (pc := 0) (n := 0) (by decide +kernel) ).trans ?_
  refine (X_istore_n (m := 26) (pc := 1) (n := 3) (by decide +kernel) rfl (Nat.le_of_ble_eq_true rfl) rfl).trans ?_
  rfl
theorem B_X3_join_2 {k : Nat → Nat × Nat} {u : Nat → Nat → Int} {g : Nat → Nat → Nat} {t : Nat × Nat × Nat} {r0 : Nat} {r1 : Nat} {x2 : Int} {x3 : Int} : a_X 26 2 [a_r (r0), a_r (r1), a_i (x2), a_i (x3)] [] (k, u, g, t) = if (k r0).1 = 4 then if (x3 : Int) ≥ (u r0 4 : Int) then if (k r0).1 = 4 then if (k r0).1 = 4 then if (k r1).1 = 9 then if ((k (g r1 0)).1 = 20 ∨ (k (g r1 0)).1 = 24) ∧ 0 ≤ (x2 : Int) ∧ (x2 : Int) < ((k (g r1 0)).2 : Int) then if (k (g r0 0)).1 = 20 ∧ 0 ≤ (u r0 4 : Int) ∧ (u r0 4 : Int) < ((k (g r0 0)).2 : Int) then if (k r0).1 = 4 then if (k r0).1 = 4 then if (k r1).1 = 9 then if ((k (g r1 2)).1 = 20 ∨ (k (g r1 2)).1 = 24) ∧ 0 ≤ (x2 : Int) ∧ (x2 : Int) < ((k (g r1 2)).2 : Int) then if (k (g r0 1)).1 = 20 ∧ 0 ≤ ((upm u (g r0 0) (u r0 4 : Int).toNat (u (g r1 0) (x2 : Int).toNat)) r0 4 : Int) ∧ ((upm u (g r0 0) (u r0 4 : Int).toNat (u (g r1 0) (x2 : Int).toNat)) r0 4 : Int) < ((k (g r0 1)).2 : Int) then if (k r0).1 = 4 then if (k r0).1 = 4 then if (k r1).1 = 9 then if ((k (g r1 3)).1 = 20 ∨ (k (g r1 3)).1 = 24) ∧ 0 ≤ (x2 : Int) ∧ (x2 : Int) < ((k (g r1 3)).2 : Int) then if (k (g r0 2)).1 = 20 ∧ 0 ≤ ((upm (upm u (g r0 0) (u r0 4 : Int).toNat (u (g r1 0) (x2 : Int).toNat)) (g r0 1) ((upm u (g r0 0) (u r0 4 : Int).toNat (u (g r1 0) (x2 : Int).toNat)) r0 4 : Int).toNat ((upm u (g r0 0) (u r0 4 : Int).toNat (u (g r1 0) (x2 : Int).toNat)) (g r1 2) (x2 : Int).toNat)) r0 4 : Int) ∧ ((upm (upm u (g r0 0) (u r0 4 : Int).toNat (u (g r1 0) (x2 : Int).toNat)) (g r0 1) ((upm u (g r0 0) (u r0 4 : Int).toNat (u (g r1 0) (x2 : Int).toNat)) r0 4 : Int).toNat ((upm u (g r0 0) (u r0 4 : Int).toNat (u (g r1 0) (x2 : Int).toNat)) (g r1 2) (x2 : Int).toNat)) r0 4 : Int) < ((k (g r0 2)).2 : Int) then if (k r0).1 = 4 then if (k r0).1 = 4 then if (k (g r0 3)).1 = 20 ∧ 0 ≤ ((upm (upm (upm u (g r0 0) (u r0 4 : Int).toNat (u (g r1 0) (x2 : Int).toNat)) (g r0 1) ((upm u (g r0 0) (u r0 4 : Int).toNat (u (g r1 0) (x2 : Int).toNat)) r0 4 : Int).toNat ((upm u (g r0 0) (u r0 4 : Int).toNat (u (g r1 0) (x2 : Int).toNat)) (g r1 2) (x2 : Int).toNat)) (g r0 2) ((upm (upm u (g r0 0) (u r0 4 : Int).toNat (u (g r1 0) (x2 : Int).toNat)) (g r0 1) ((upm u (g r0 0) (u r0 4 : Int).toNat (u (g r1 0) (x2 : Int).toNat)) r0 4 : Int).toNat ((upm u (g r0 0) (u r0 4 : Int).toNat (u (g r1 0) (x2 : Int).toNat)) (g r1 2) (x2 : Int).toNat)) r0 4 : Int).toNat ((upm (upm u (g r0 0) (u r0 4 : Int).toNat (u (g r1 0) (x2 : Int).toNat)) (g r0 1) ((upm u (g r0 0) (u r0 4 : Int).toNat (u (g r1 0) (x2 : Int).toNat)) r0 4 : Int).toNat ((upm u (g r0 0) (u r0 4 : Int).toNat (u (g r1 0) (x2 : Int).toNat)) (g r1 2) (x2 : Int).toNat)) (g r1 3) (x2 : Int).toNat)) r0 4 : Int) ∧ ((upm (upm (upm u (g r0 0) (u r0 4 : Int).toNat (u (g r1 0) (x2 : Int).toNat)) (g r0 1) ((upm u (g r0 0) (u r0 4 : Int).toNat (u (g r1 0) (x2 : Int).toNat)) r0 4 : Int).toNat ((upm u (g r0 0) (u r0 4 : Int).toNat (u (g r1 0) (x2 : Int).toNat)) (g r1 2) (x2 : Int).toNat)) (g r0 2) ((upm (upm u (g r0 0) (u r0 4 : Int).toNat (u (g r1 0) (x2 : Int).toNat)) (g r0 1) ((upm u (g r0 0) (u r0 4 : Int).toNat (u (g r1 0) (x2 : Int).toNat)) r0 4 : Int).toNat ((upm u (g r0 0) (u r0 4 : Int).toNat (u (g r1 0) (x2 : Int).toNat)) (g r1 2) (x2 : Int).toNat)) r0 4 : Int).toNat ((upm (upm u (g r0 0) (u r0 4 : Int).toNat (u (g r1 0) (x2 : Int).toNat)) (g r0 1) ((upm u (g r0 0) (u r0 4 : Int).toNat (u (g r1 0) (x2 : Int).toNat)) r0 4 : Int).toNat ((upm u (g r0 0) (u r0 4 : Int).toNat (u (g r1 0) (x2 : Int).toNat)) (g r1 2) (x2 : Int).toNat)) (g r1 3) (x2 : Int).toNat)) r0 4 : Int) < ((k (g r0 3)).2 : Int) then if (k r0).1 = 4 then if (k r0).1 = 4 then some (.inl none, (k, (upm (upm (upm (upm (upm u (g r0 0) (u r0 4 : Int).toNat (u (g r1 0) (x2 : Int).toNat)) (g r0 1) ((upm u (g r0 0) (u r0 4 : Int).toNat (u (g r1 0) (x2 : Int).toNat)) r0 4 : Int).toNat ((upm u (g r0 0) (u r0 4 : Int).toNat (u (g r1 0) (x2 : Int).toNat)) (g r1 2) (x2 : Int).toNat)) (g r0 2) ((upm (upm u (g r0 0) (u r0 4 : Int).toNat (u (g r1 0) (x2 : Int).toNat)) (g r0 1) ((upm u (g r0 0) (u r0 4 : Int).toNat (u (g r1 0) (x2 : Int).toNat)) r0 4 : Int).toNat ((upm u (g r0 0) (u r0 4 : Int).toNat (u (g r1 0) (x2 : Int).toNat)) (g r1 2) (x2 : Int).toNat)) r0 4 : Int).toNat ((upm (upm u (g r0 0) (u r0 4 : Int).toNat (u (g r1 0) (x2 : Int).toNat)) (g r0 1) ((upm u (g r0 0) (u r0 4 : Int).toNat (u (g r1 0) (x2 : Int).toNat)) r0 4 : Int).toNat ((upm u (g r0 0) (u r0 4 : Int).toNat (u (g r1 0) (x2 : Int).toNat)) (g r1 2) (x2 : Int).toNat)) (g r1 3) (x2 : Int).toNat)) (g r0 3) ((upm (upm (upm u (g r0 0) (u r0 4 : Int).toNat (u (g r1 0) (x2 : Int).toNat)) (g r0 1) ((upm u (g r0 0) (u r0 4 : Int).toNat (u (g r1 0) (x2 : Int).toNat)) r0 4 : Int).toNat ((upm u (g r0 0) (u r0 4 : Int).toNat (u (g r1 0) (x2 : Int).toNat)) (g r1 2) (x2 : Int).toNat)) (g r0 2) ((upm (upm u (g r0 0) (u r0 4 : Int).toNat (u (g r1 0) (x2 : Int).toNat)) (g r0 1) ((upm u (g r0 0) (u r0 4 : Int).toNat (u (g r1 0) (x2 : Int).toNat)) r0 4 : Int).toNat ((upm u (g r0 0) (u r0 4 : Int).toNat (u (g r1 0) (x2 : Int).toNat)) (g r1 2) (x2 : Int).toNat)) r0 4 : Int).toNat ((upm (upm u (g r0 0) (u r0 4 : Int).toNat (u (g r1 0) (x2 : Int).toNat)) (g r0 1) ((upm u (g r0 0) (u r0 4 : Int).toNat (u (g r1 0) (x2 : Int).toNat)) r0 4 : Int).toNat ((upm u (g r0 0) (u r0 4 : Int).toNat (u (g r1 0) (x2 : Int).toNat)) (g r1 2) (x2 : Int).toNat)) (g r1 3) (x2 : Int).toNat)) r0 4 : Int).toNat 1) r0 4 (wr (((upm (upm (upm (upm u (g r0 0) (u r0 4 : Int).toNat (u (g r1 0) (x2 : Int).toNat)) (g r0 1) ((upm u (g r0 0) (u r0 4 : Int).toNat (u (g r1 0) (x2 : Int).toNat)) r0 4 : Int).toNat ((upm u (g r0 0) (u r0 4 : Int).toNat (u (g r1 0) (x2 : Int).toNat)) (g r1 2) (x2 : Int).toNat)) (g r0 2) ((upm (upm u (g r0 0) (u r0 4 : Int).toNat (u (g r1 0) (x2 : Int).toNat)) (g r0 1) ((upm u (g r0 0) (u r0 4 : Int).toNat (u (g r1 0) (x2 : Int).toNat)) r0 4 : Int).toNat ((upm u (g r0 0) (u r0 4 : Int).toNat (u (g r1 0) (x2 : Int).toNat)) (g r1 2) (x2 : Int).toNat)) r0 4 : Int).toNat ((upm (upm u (g r0 0) (u r0 4 : Int).toNat (u (g r1 0) (x2 : Int).toNat)) (g r0 1) ((upm u (g r0 0) (u r0 4 : Int).toNat (u (g r1 0) (x2 : Int).toNat)) r0 4 : Int).toNat ((upm u (g r0 0) (u r0 4 : Int).toNat (u (g r1 0) (x2 : Int).toNat)) (g r1 2) (x2 : Int).toNat)) (g r1 3) (x2 : Int).toNat)) (g r0 3) ((upm (upm (upm u (g r0 0) (u r0 4 : Int).toNat (u (g r1 0) (x2 : Int).toNat)) (g r0 1) ((upm u (g r0 0) (u r0 4 : Int).toNat (u (g r1 0) (x2 : Int).toNat)) r0 4 : Int).toNat ((upm u (g r0 0) (u r0 4 : Int).toNat (u (g r1 0) (x2 : Int).toNat)) (g r1 2) (x2 : Int).toNat)) (g r0 2) ((upm (upm u (g r0 0) (u r0 4 : Int).toNat (u (g r1 0) (x2 : Int).toNat)) (g r0 1) ((upm u (g r0 0) (u r0 4 : Int).toNat (u (g r1 0) (x2 : Int).toNat)) r0 4 : Int).toNat ((upm u (g r0 0) (u r0 4 : Int).toNat (u (g r1 0) (x2 : Int).toNat)) (g r1 2) (x2 : Int).toNat)) r0 4 : Int).toNat ((upm (upm u (g r0 0) (u r0 4 : Int).toNat (u (g r1 0) (x2 : Int).toNat)) (g r0 1) ((upm u (g r0 0) (u r0 4 : Int).toNat (u (g r1 0) (x2 : Int).toNat)) r0 4 : Int).toNat ((upm u (g r0 0) (u r0 4 : Int).toNat (u (g r1 0) (x2 : Int).toNat)) (g r1 2) (x2 : Int).toNat)) (g r1 3) (x2 : Int).toNat)) r0 4 : Int).toNat 1) r0 4) + 1))), g, t)) else none else none else none else none else none else none else none else none else none else none else none else none else none else none else none else none else none else none else none else none else if (k r0).1 = 4 then if ((k (g r0 0)).1 = 20 ∨ (k (g r0 0)).1 = 24) ∧ 0 ≤ (x3 : Int) ∧ (x3 : Int) < ((k (g r0 0)).2 : Int) then if (k r1).1 = 9 then if ((k (g r1 0)).1 = 20 ∨ (k (g r1 0)).1 = 24) ∧ 0 ≤ (x2 : Int) ∧ (x2 : Int) < ((k (g r1 0)).2 : Int) then if (u (g r0 0) (x3 : Int).toNat : Int) ≠ (u (g r1 0) (x2 : Int).toNat : Int) then a_X 26 2 [a_r (r0), a_r (r1), a_i (x2), a_i (wr (x3 + 1))] [] (k, u, g, t) else if (k r0).1 = 4 then if ((k (g r0 2)).1 = 20 ∨ (k (g r0 2)).1 = 24) ∧ 0 ≤ (x3 : Int) ∧ (x3 : Int) < ((k (g r0 2)).2 : Int) then if (k r1).1 = 9 then a_X 26 35 [a_r (r0), a_r (r1), a_i (x2), a_i (x3)] [a_r (g r1 2), a_i (u (g r0 2) (x3 : Int).toNat)] (k, u, g, t) else none else none else none else none else none else none else none else none := by
  refine (X_iload_n (m := 26) (pc := 2) (n := 3) (by decide +kernel) rfl).trans ?_
  refine (X_aload_n (m := 26) (pc := 3) (n := 0) (by decide +kernel) rfl).trans ?_
  refine (X_getI (m := 26) (pc := 4) (n := 44) (c := 4) (q := 4) (ty := 1) (fi := false) (by decide +kernel) (by decide +kernel) (by decide +kernel)).trans ?_
  refine ite_congr rfl (fun _ => ?_) (fun _ => rfl)
  refine (X_ic_ge (m := 26) (pc := 7) (off := 71) (tg := 78) (by decide +kernel) (by decide +kernel)).trans ?_
  refine ite_congr rfl (fun _ => ?_) (fun _ => ?_)
  · refine (X_aload_n (m := 26) (pc := 78) (n := 0) (by decide +kernel) rfl).trans ?_
    refine (X_getR (m := 26) (pc := 79) (n := 9) (c := 4) (q := 0) (fi := true) (by decide +kernel) (by decide +kernel)).trans ?_
    refine ite_congr rfl (fun _ => ?_) (fun _ => rfl)
    refine (X_aload_n (m := 26) (pc := 82) (n := 0) (by decide +kernel) rfl).trans ?_
    refine (X_getI (m := 26) (pc := 83) (n := 44) (c := 4) (q := 4) (ty := 1) (fi := false) (by decide +kernel) (by decide +kernel) (by decide +kernel)).trans ?_
    refine ite_congr rfl (fun _ => ?_) (fun _ => rfl)
    refine (X_aload_n (m := 26) (pc := 86) (n := 1) (by decide +kernel) rfl).trans ?_
    refine (X_getR (m := 26) (pc := 87) (n := 55) (c := 9) (q := 0) (fi := true) (by decide +kernel) (by decide +kernel)).trans ?_
    refine ite_congr rfl (fun _ => ?_) (fun _ => rfl)
    refine (X_iload_n (m := 26) (pc := 90) (n := 2) (by decide +kernel) rfl).trans ?_
    refine (X_iaload (m := 26) (pc := 91)  (by decide +kernel) ).trans ?_
    refine ite_congr rfl (fun _ => ?_) (fun _ => rfl)
    refine (X_iastore (m := 26) (pc := 92)  (by decide +kernel) ).trans ?_
    refine ite_congr rfl (fun _ => ?_) (fun _ => rfl)
    refine (X_aload_n (m := 26) (pc := 93) (n := 0) (by decide +kernel) rfl).trans ?_
    refine (X_getR (m := 26) (pc := 94) (n := 15) (c := 4) (q := 1) (fi := true) (by decide +kernel) (by decide +kernel)).trans ?_
    refine ite_congr rfl (fun _ => ?_) (fun _ => rfl)
    refine (X_aload_n (m := 26) (pc := 97) (n := 0) (by decide +kernel) rfl).trans ?_
    refine (X_getI (m := 26) (pc := 98) (n := 44) (c := 4) (q := 4) (ty := 1) (fi := false) (by decide +kernel) (by decide +kernel) (by decide +kernel)).trans ?_
    refine ite_congr rfl (fun _ => ?_) (fun _ => rfl)
    refine (X_aload_n (m := 26) (pc := 101) (n := 1) (by decide +kernel) rfl).trans ?_
    refine (X_getR (m := 26) (pc := 102) (n := 54) (c := 9) (q := 2) (fi := true) (by decide +kernel) (by decide +kernel)).trans ?_
    refine ite_congr rfl (fun _ => ?_) (fun _ => rfl)
    refine (X_iload_n (m := 26) (pc := 105) (n := 2) (by decide +kernel) rfl).trans ?_
    refine (X_iaload (m := 26) (pc := 106)  (by decide +kernel) ).trans ?_
    refine ite_congr rfl (fun _ => ?_) (fun _ => rfl)
    refine (X_iastore (m := 26) (pc := 107)  (by decide +kernel) ).trans ?_
    refine ite_congr rfl (fun _ => ?_) (fun _ => rfl)
    refine (X_aload_n (m := 26) (pc := 108) (n := 0) (by decide +kernel) rfl).trans ?_
    refine (X_getR (m := 26) (pc := 109) (n := 18) (c := 4) (q := 2) (fi := true) (by decide +kernel) (by decide +kernel)).trans ?_
    refine ite_congr rfl (fun _ => ?_) (fun _ => rfl)
    refine (X_aload_n (m := 26) (pc := 112) (n := 0) (by decide +kernel) rfl).trans ?_
    refine (X_getI (m := 26) (pc := 113) (n := 44) (c := 4) (q := 4) (ty := 1) (fi := false) (by decide +kernel) (by decide +kernel) (by decide +kernel)).trans ?_
    refine ite_congr rfl (fun _ => ?_) (fun _ => rfl)
    refine (X_aload_n (m := 26) (pc := 116) (n := 1) (by decide +kernel) rfl).trans ?_
    refine (X_getR (m := 26) (pc := 117) (n := 56) (c := 9) (q := 3) (fi := true) (by decide +kernel) (by decide +kernel)).trans ?_
    refine ite_congr rfl (fun _ => ?_) (fun _ => rfl)
    refine (X_iload_n (m := 26) (pc := 120) (n := 2) (by decide +kernel) rfl).trans ?_
    refine (X_iaload (m := 26) (pc := 121)  (by decide +kernel) ).trans ?_
    refine ite_congr rfl (fun _ => ?_) (fun _ => rfl)
    refine (X_iastore (m := 26) (pc := 122)  (by decide +kernel) ).trans ?_
    refine ite_congr rfl (fun _ => ?_) (fun _ => rfl)
    refine (X_aload_n (m := 26) (pc := 123) (n := 0) (by decide +kernel) rfl).trans ?_
    refine (X_getR (m := 26) (pc := 124) (n := 21) (c := 4) (q := 3) (fi := true) (by decide +kernel) (by decide +kernel)).trans ?_
    refine ite_congr rfl (fun _ => ?_) (fun _ => rfl)
    refine (X_aload_n (m := 26) (pc := 127) (n := 0) (by decide +kernel) rfl).trans ?_
    refine (X_getI (m := 26) (pc := 128) (n := 44) (c := 4) (q := 4) (ty := 1) (fi := false) (by decide +kernel) (by decide +kernel) (by decide +kernel)).trans ?_
    refine ite_congr rfl (fun _ => ?_) (fun _ => rfl)
    refine (X_iconst (m := 26) (pc := 131) (n := 1) (by decide +kernel) ).trans ?_
    refine (X_iastore (m := 26) (pc := 132)  (by decide +kernel) ).trans ?_
    refine ite_congr rfl (fun _ => ?_) (fun _ => rfl)
    refine (X_aload_n (m := 26) (pc := 133) (n := 0) (by decide +kernel) rfl).trans ?_
    refine (X_dup (m := 26) (pc := 134)  (by decide +kernel) rfl rfl).trans ?_
    refine (X_getI (m := 26) (pc := 135) (n := 44) (c := 4) (q := 4) (ty := 1) (fi := false) (by decide +kernel) (by decide +kernel) (by decide +kernel)).trans ?_
    refine ite_congr rfl (fun _ => ?_) (fun _ => rfl)
    refine (X_iconst (m := 26) (pc := 138) (n := 1) (by decide +kernel) ).trans ?_
    refine (X_iadd (m := 26) (pc := 139)  (by decide +kernel) ).trans ?_
    refine (X_putI (m := 26) (pc := 140) (n := 44) (c := 4) (q := 4) (fi := false) (by decide +kernel) (by decide +kernel) (fun h => by cases h) (by decide +kernel)).trans ?_
    refine ite_congr rfl (fun _ => ?_) (fun _ => rfl)
    exact X_return (m := 26) (pc := 143) (by decide +kernel) (by decide +kernel)
  · refine (X_aload_n (m := 26) (pc := 10) (n := 0) (by decide +kernel) rfl).trans ?_
    refine (X_getR (m := 26) (pc := 11) (n := 9) (c := 4) (q := 0) (fi := true) (by decide +kernel) (by decide +kernel)).trans ?_
    refine ite_congr rfl (fun _ => ?_) (fun _ => rfl)
    refine (X_iload_n (m := 26) (pc := 14) (n := 3) (by decide +kernel) rfl).trans ?_
    refine (X_iaload (m := 26) (pc := 15)  (by decide +kernel) ).trans ?_
    refine ite_congr rfl (fun _ => ?_) (fun _ => rfl)
    refine (X_aload_n (m := 26) (pc := 16) (n := 1) (by decide +kernel) rfl).trans ?_
    refine (X_getR (m := 26) (pc := 17) (n := 55) (c := 9) (q := 0) (fi := true) (by decide +kernel) (by decide +kernel)).trans ?_
    refine ite_congr rfl (fun _ => ?_) (fun _ => rfl)
    refine (X_iload_n (m := 26) (pc := 20) (n := 2) (by decide +kernel) rfl).trans ?_
    refine (X_iaload (m := 26) (pc := 21)  (by decide +kernel) ).trans ?_
    refine ite_congr rfl (fun _ => ?_) (fun _ => rfl)
    refine (X_ic_ne (m := 26) (pc := 22) (off := 50) (tg := 72) (by decide +kernel) (by decide +kernel)).trans ?_
    refine ite_congr rfl (fun _ => ?_) (fun _ => ?_)
    · refine (X_iinc (m := 26) (pc := 72) (n := 3) (c := 1) (by decide +kernel) rfl rfl (Nat.le_of_ble_eq_true rfl) rfl).trans ?_
      refine (X_goto (m := 26) (pc := 75) (off := -73) (tg := 2) (by decide +kernel) (by decide +kernel)).trans ?_
      rfl
    · refine (X_aload_n (m := 26) (pc := 25) (n := 0) (by decide +kernel) rfl).trans ?_
      refine (X_getR (m := 26) (pc := 26) (n := 18) (c := 4) (q := 2) (fi := true) (by decide +kernel) (by decide +kernel)).trans ?_
      refine ite_congr rfl (fun _ => ?_) (fun _ => rfl)
      refine (X_iload_n (m := 26) (pc := 29) (n := 3) (by decide +kernel) rfl).trans ?_
      refine (X_iaload (m := 26) (pc := 30)  (by decide +kernel) ).trans ?_
      refine ite_congr rfl (fun _ => ?_) (fun _ => rfl)
      refine (X_aload_n (m := 26) (pc := 31) (n := 1) (by decide +kernel) rfl).trans ?_
      refine (X_getR (m := 26) (pc := 32) (n := 54) (c := 9) (q := 2) (fi := true) (by decide +kernel) (by decide +kernel)).trans ?_
      refine ite_congr rfl (fun _ => ?_) (fun _ => rfl)
      rfl
theorem B_X3_join_35 {k : Nat → Nat × Nat} {u : Nat → Nat → Int} {g : Nat → Nat → Nat} {t : Nat × Nat × Nat} {r0 : Nat} {r1 : Nat} {x2 : Int} {x3 : Int} {y0 : Int} {q1 : Nat} : a_X 26 35 [a_r (r0), a_r (r1), a_i (x2), a_i (x3)] [a_r (q1), a_i (y0)] (k, u, g, t) = if ((k q1).1 = 20 ∨ (k q1).1 = 24) ∧ 0 ≤ (x2 : Int) ∧ (x2 : Int) < ((k q1).2 : Int) then if (y0 : Int) < (u q1 (x2 : Int).toNat : Int) then a_X 26 2 [a_r (r0), a_r (r1), a_i (x2), a_i (wr (x3 + 1))] [] (k, u, g, t) else if (k r0).1 = 4 then if (k r0).1 = 4 then if ((k (g r0 2)).1 = 20 ∨ (k (g r0 2)).1 = 24) ∧ 0 ≤ (x3 : Int) ∧ (x3 : Int) < ((k (g r0 2)).2 : Int) then if (k r1).1 = 9 then if ((k (g r1 3)).1 = 20 ∨ (k (g r1 3)).1 = 24) ∧ 0 ≤ (x2 : Int) ∧ (x2 : Int) < ((k (g r1 3)).2 : Int) then if (k (g r0 2)).1 = 20 ∧ 0 ≤ (x3 : Int) ∧ (x3 : Int) < ((k (g r0 2)).2 : Int) then if (k r0).1 = 4 then if ((k (g r0 3)).1 = 20 ∨ (k (g r0 3)).1 = 24) ∧ 0 ≤ (x3 : Int) ∧ (x3 : Int) < ((k (g r0 3)).2 : Int) then if (k (g r0 3)).1 = 20 ∧ 0 ≤ (x3 : Int) ∧ (x3 : Int) < ((k (g r0 3)).2 : Int) then some (.inl none, (k, (upm (upm u (g r0 2) (x3 : Int).toNat (max (u (g r0 2) (x3 : Int).toNat) (u (g r1 3) (x2 : Int).toNat))) (g r0 3) (x3 : Int).toNat (wr (((upm u (g r0 2) (x3 : Int).toNat (max (u (g r0 2) (x3 : Int).toNat) (u (g r1 3) (x2 : Int).toNat))) (g r0 3) (x3 : Int).toNat) + 1))), g, t)) else none else none else none else none else none else none else none else none else none else none := by
  refine (X_iload_n (m := 26) (pc := 35) (n := 2) (by decide +kernel) rfl).trans ?_
  refine (X_iaload (m := 26) (pc := 36)  (by decide +kernel) ).trans ?_
  refine ite_congr rfl (fun _ => ?_) (fun _ => rfl)
  refine (X_ic_lt (m := 26) (pc := 37) (off := 35) (tg := 72) (by decide +kernel) (by decide +kernel)).trans ?_
  refine ite_congr rfl (fun _ => ?_) (fun _ => ?_)
  · refine (X_iinc (m := 26) (pc := 72) (n := 3) (c := 1) (by decide +kernel) rfl rfl (Nat.le_of_ble_eq_true rfl) rfl).trans ?_
    refine (X_goto (m := 26) (pc := 75) (off := -73) (tg := 2) (by decide +kernel) (by decide +kernel)).trans ?_
    rfl
  · refine (X_aload_n (m := 26) (pc := 40) (n := 0) (by decide +kernel) rfl).trans ?_
    refine (X_getR (m := 26) (pc := 41) (n := 18) (c := 4) (q := 2) (fi := true) (by decide +kernel) (by decide +kernel)).trans ?_
    refine ite_congr rfl (fun _ => ?_) (fun _ => rfl)
    refine (X_iload_n (m := 26) (pc := 44) (n := 3) (by decide +kernel) rfl).trans ?_
    refine (X_aload_n (m := 26) (pc := 45) (n := 0) (by decide +kernel) rfl).trans ?_
    refine (X_getR (m := 26) (pc := 46) (n := 18) (c := 4) (q := 2) (fi := true) (by decide +kernel) (by decide +kernel)).trans ?_
    refine ite_congr rfl (fun _ => ?_) (fun _ => rfl)
    refine (X_iload_n (m := 26) (pc := 49) (n := 3) (by decide +kernel) rfl).trans ?_
    refine (X_iaload (m := 26) (pc := 50)  (by decide +kernel) ).trans ?_
    refine ite_congr rfl (fun _ => ?_) (fun _ => rfl)
    refine (X_aload_n (m := 26) (pc := 51) (n := 1) (by decide +kernel) rfl).trans ?_
    refine (X_getR (m := 26) (pc := 52) (n := 56) (c := 9) (q := 3) (fi := true) (by decide +kernel) (by decide +kernel)).trans ?_
    refine ite_congr rfl (fun _ => ?_) (fun _ => rfl)
    refine (X_iload_n (m := 26) (pc := 55) (n := 2) (by decide +kernel) rfl).trans ?_
    refine (X_iaload (m := 26) (pc := 56)  (by decide +kernel) ).trans ?_
    refine ite_congr rfl (fun _ => ?_) (fun _ => rfl)
    refine (X_max (m := 26) (pc := 57) (q := 57) (by decide +kernel) (by decide +kernel) (Nat.le_of_ble_eq_true rfl)).trans ?_
    refine (X_iastore (m := 26) (pc := 60)  (by decide +kernel) ).trans ?_
    refine ite_congr rfl (fun _ => ?_) (fun _ => rfl)
    refine (X_aload_n (m := 26) (pc := 61) (n := 0) (by decide +kernel) rfl).trans ?_
    refine (X_getR (m := 26) (pc := 62) (n := 21) (c := 4) (q := 3) (fi := true) (by decide +kernel) (by decide +kernel)).trans ?_
    refine ite_congr rfl (fun _ => ?_) (fun _ => rfl)
    refine (X_iload_n (m := 26) (pc := 65) (n := 3) (by decide +kernel) rfl).trans ?_
    refine (X_dup2 (m := 26) (pc := 66)  (by decide +kernel) rfl rfl rfl rfl).trans ?_
    refine (X_iaload (m := 26) (pc := 67)  (by decide +kernel) ).trans ?_
    refine ite_congr rfl (fun _ => ?_) (fun _ => rfl)
    refine (X_iconst (m := 26) (pc := 68) (n := 1) (by decide +kernel) ).trans ?_
    refine (X_iadd (m := 26) (pc := 69)  (by decide +kernel) ).trans ?_
    refine (X_iastore (m := 26) (pc := 70)  (by decide +kernel) ).trans ?_
    refine ite_congr rfl (fun _ => ?_) (fun _ => rfl)
    exact X_return (m := 26) (pc := 71) (by decide +kernel) (by decide +kernel)
theorem E_X3_property {σ : AS} {r0 : Nat} {x1 : Int} {x2 : Int} : a_m 27 [a_r (r0), a_i (x1), a_i (x2)] σ = a_X 27 0 [a_r (r0), a_i (x1), a_i (x2)] [] σ := a_m_eq (by rw [a_entry, show m_maxL 27 = 3 from by decide +kernel]; rfl)
theorem B_X3_property_0 {k : Nat → Nat × Nat} {u : Nat → Nat → Int} {g : Nat → Nat → Nat} {t : Nat × Nat × Nat} {r0 : Nat} {x1 : Int} {x2 : Int} : a_X 27 0 [a_r (r0), a_i (x1), a_i (x2)] [] (k, u, g, t) = if (x2) = 0 then a_X 27 28 [a_r (r0), a_i (x1), a_i (x2)] [] (k, u, g, t) else if (x2) = 1 then a_X 27 35 [a_r (r0), a_i (x1), a_i (x2)] [] (k, u, g, t) else if (x2) = 2 then a_X 27 42 [a_r (r0), a_i (x1), a_i (x2)] [] (k, u, g, t) else a_X 27 49 [a_r (r0), a_i (x1), a_i (x2)] [] (k, u, g, t) := by
  refine (X_iload_n (m := 27) (pc := 0) (n := 2) (by decide +kernel) rfl).trans ?_
  rw [X_table (m := 27) (pc := 1) (d := 48) (lo := 0) (hi := 2) (offs := #[27, 34, 41]) (len := 27) (by decide +kernel)]
  by_cases hh : (x2) < 0 ∨ 2 < (x2)
  · rw [if_pos hh]
    rw [if_neg (by omega)]
    rw [if_neg (by omega)]
    rw [if_neg (by omega)]
    rfl
  · rw [if_neg hh]
    generalize hx : (x2) = xx at hh ⊢
    have h9 : xx = 0 ∨ xx = 1 ∨ xx = 2 := by omega
    rcases h9 with rfl | rfl | rfl <;> rfl
theorem B_X3_property_28 {k : Nat → Nat × Nat} {u : Nat → Nat → Int} {g : Nat → Nat → Nat} {t : Nat × Nat × Nat} {r0 : Nat} {x1 : Int} {x2 : Int} : a_X 27 28 [a_r (r0), a_i (x1), a_i (x2)] [] (k, u, g, t) = if (k r0).1 = 4 then if ((k (g r0 0)).1 = 20 ∨ (k (g r0 0)).1 = 24) ∧ 0 ≤ (x1 : Int) ∧ (x1 : Int) < ((k (g r0 0)).2 : Int) then some (.inl (some (a_i (u (g r0 0) (x1 : Int).toNat))), (k, u, g, t)) else none else none := by
  refine (X_aload_n (m := 27) (pc := 28) (n := 0) (by decide +kernel) rfl).trans ?_
  refine (X_getR (m := 27) (pc := 29) (n := 9) (c := 4) (q := 0) (fi := true) (by decide +kernel) (by decide +kernel)).trans ?_
  refine ite_congr rfl (fun _ => ?_) (fun _ => rfl)
  refine (X_iload_n (m := 27) (pc := 32) (n := 1) (by decide +kernel) rfl).trans ?_
  refine (X_iaload (m := 27) (pc := 33)  (by decide +kernel) ).trans ?_
  refine ite_congr rfl (fun _ => ?_) (fun _ => rfl)
  exact X_ireturn (m := 27) (pc := 34) (f := 1) (by decide +kernel) (by decide +kernel) rfl
theorem B_X3_property_35 {k : Nat → Nat × Nat} {u : Nat → Nat → Int} {g : Nat → Nat → Nat} {t : Nat × Nat × Nat} {r0 : Nat} {x1 : Int} {x2 : Int} : a_X 27 35 [a_r (r0), a_i (x1), a_i (x2)] [] (k, u, g, t) = if (k r0).1 = 4 then if ((k (g r0 1)).1 = 20 ∨ (k (g r0 1)).1 = 24) ∧ 0 ≤ (x1 : Int) ∧ (x1 : Int) < ((k (g r0 1)).2 : Int) then some (.inl (some (a_i (u (g r0 1) (x1 : Int).toNat))), (k, u, g, t)) else none else none := by
  refine (X_aload_n (m := 27) (pc := 35) (n := 0) (by decide +kernel) rfl).trans ?_
  refine (X_getR (m := 27) (pc := 36) (n := 15) (c := 4) (q := 1) (fi := true) (by decide +kernel) (by decide +kernel)).trans ?_
  refine ite_congr rfl (fun _ => ?_) (fun _ => rfl)
  refine (X_iload_n (m := 27) (pc := 39) (n := 1) (by decide +kernel) rfl).trans ?_
  refine (X_iaload (m := 27) (pc := 40)  (by decide +kernel) ).trans ?_
  refine ite_congr rfl (fun _ => ?_) (fun _ => rfl)
  exact X_ireturn (m := 27) (pc := 41) (f := 1) (by decide +kernel) (by decide +kernel) rfl
theorem B_X3_property_42 {k : Nat → Nat × Nat} {u : Nat → Nat → Int} {g : Nat → Nat → Nat} {t : Nat × Nat × Nat} {r0 : Nat} {x1 : Int} {x2 : Int} : a_X 27 42 [a_r (r0), a_i (x1), a_i (x2)] [] (k, u, g, t) = if (k r0).1 = 4 then if ((k (g r0 2)).1 = 20 ∨ (k (g r0 2)).1 = 24) ∧ 0 ≤ (x1 : Int) ∧ (x1 : Int) < ((k (g r0 2)).2 : Int) then some (.inl (some (a_i (u (g r0 2) (x1 : Int).toNat))), (k, u, g, t)) else none else none := by
  refine (X_aload_n (m := 27) (pc := 42) (n := 0) (by decide +kernel) rfl).trans ?_
  refine (X_getR (m := 27) (pc := 43) (n := 18) (c := 4) (q := 2) (fi := true) (by decide +kernel) (by decide +kernel)).trans ?_
  refine ite_congr rfl (fun _ => ?_) (fun _ => rfl)
  refine (X_iload_n (m := 27) (pc := 46) (n := 1) (by decide +kernel) rfl).trans ?_
  refine (X_iaload (m := 27) (pc := 47)  (by decide +kernel) ).trans ?_
  refine ite_congr rfl (fun _ => ?_) (fun _ => rfl)
  exact X_ireturn (m := 27) (pc := 48) (f := 1) (by decide +kernel) (by decide +kernel) rfl
theorem B_X3_property_49 {k : Nat → Nat × Nat} {u : Nat → Nat → Int} {g : Nat → Nat → Nat} {t : Nat × Nat × Nat} {r0 : Nat} {x1 : Int} {x2 : Int} : a_X 27 49 [a_r (r0), a_i (x1), a_i (x2)] [] (k, u, g, t) = if (k r0).1 = 4 then if ((k (g r0 3)).1 = 20 ∨ (k (g r0 3)).1 = 24) ∧ 0 ≤ (x1 : Int) ∧ (x1 : Int) < ((k (g r0 3)).2 : Int) then some (.inl (some (a_i (u (g r0 3) (x1 : Int).toNat))), (k, u, g, t)) else none else none := by
  refine (X_aload_n (m := 27) (pc := 49) (n := 0) (by decide +kernel) rfl).trans ?_
  refine (X_getR (m := 27) (pc := 50) (n := 21) (c := 4) (q := 3) (fi := true) (by decide +kernel) (by decide +kernel)).trans ?_
  refine ite_congr rfl (fun _ => ?_) (fun _ => rfl)
  refine (X_iload_n (m := 27) (pc := 53) (n := 1) (by decide +kernel) rfl).trans ?_
  refine (X_iaload (m := 27) (pc := 54)  (by decide +kernel) ).trans ?_
  refine ite_congr rfl (fun _ => ?_) (fun _ => rfl)
  exact X_ireturn (m := 27) (pc := 55) (f := 1) (by decide +kernel) (by decide +kernel) rfl
theorem E_X4_init {σ : AS} {r0 : Nat} : a_m 28 [a_r (r0)] σ = a_X 28 0 [a_r (r0), a_x false] [] σ := a_m_eq (by rw [a_entry, show m_maxL 28 = 2 from by decide +kernel]; rfl)
theorem B_X4_init_0 {k : Nat → Nat × Nat} {u : Nat → Nat → Int} {g : Nat → Nat → Nat} {t : Nat × Nat × Nat} {r0 : Nat} {v1 : AV} : a_X 28 0 [a_r (r0), v1] [] (k, u, g, t) = if (k r0).1 ≠ 0 then a_X 28 8 [a_r (r0), v1] [a_r (t.1), a_r (r0)] (a_new (k, u, g, t) 9 0 8) else none := by
  refine (X_aload_n (m := 28) (pc := 0) (n := 0) (by decide +kernel) rfl).trans ?_
  refine (X_objinit (m := 28) (pc := 1) (q := 3) (by decide +kernel) (by decide +kernel) (Nat.le_of_ble_eq_true rfl)).trans ?_
  refine ite_congr rfl (fun _ => ?_) (fun _ => rfl)
  refine (X_aload_n (m := 28) (pc := 4) (n := 0) (by decide +kernel) rfl).trans ?_
  refine (X_new (m := 28) (pc := 5) (n := 9) (c := 8) (by decide +kernel) (by decide +kernel)).trans ?_
  rfl
theorem B_X4_init_8 {k : Nat → Nat × Nat} {u : Nat → Nat → Int} {g : Nat → Nat → Nat} {t : Nat × Nat × Nat} {r0 : Nat} {v1 : AV} {q0 : Nat} {q1 : Nat} : a_X 28 8 [a_r (r0), v1] [a_r (q1), a_r (q0)] (k, u, g, t) = if (k q1).1 = 9 then (a_m 78 [a_r (q1)] (k, u, g, t)).bind (a_back 28 9 3 [a_r (r0), v1] [a_r (q1), a_r (q0)]) else none := by
  refine (X_dup (m := 28) (pc := 8)  (by decide +kernel) rfl rfl).trans ?_
  refine (X_call_sp (m := 28) (pc := 9) (q := 11) (y := 78) (n := 1) (as := [a_r (q1)]) (rest := [a_r (q1), a_r (q0)]) (by decide +kernel) (by decide +kernel) (by decide +kernel) (by decide +kernel) rfl rfl (Nat.le_of_ble_eq_true rfl) (Nat.le_of_ble_eq_true rfl) rfl (by rw [show m_maxL 78 = 1 from by decide +kernel]; exact Nat.le_of_ble_eq_true rfl)).trans ?_
  exact ite_congr (by simp [a_rcv, show m_recv 78 = 9 from by decide +kernel]) (fun _ => rfl) (fun _ => rfl)
theorem B_X4_init_12 {k : Nat → Nat × Nat} {u : Nat → Nat → Int} {g : Nat → Nat → Nat} {t : Nat × Nat × Nat} {r0 : Nat} {v1 : AV} {q0 : Nat} {q1 : Nat} : a_X 28 12 [a_r (r0), v1] [a_r (q1), a_r (q0)] (k, u, g, t) = if (k q0).1 = 5 then if 0 ≤ (12 : Int) ∧ (12 : Int) ≤ 65536 then a_X 28 20 [a_r (r0), v1] [a_r (t.1), a_r (r0)] (a_new (k, u, (upm g q0 0 q1), t) 20 (12 : Int).toNat (12 : Int).toNat) else none else none := by
  refine (X_putR (m := 28) (pc := 12) (n := 12) (c := 5) (q := 0) (fi := true) (by decide +kernel) (by decide +kernel) (fun _ => (by decide +kernel)) (by decide +kernel)).trans ?_
  refine ite_congr rfl (fun _ => ?_) (fun _ => rfl)
  refine (X_aload_n (m := 28) (pc := 15) (n := 0) (by decide +kernel) rfl).trans ?_
  refine (X_bipush (m := 28) (pc := 16) (n := 12) (by decide +kernel) ).trans ?_
  refine (X_newa_int (m := 28) (pc := 18)  (by decide +kernel) ).trans ?_
  refine ite_congr rfl (fun _ => ?_) (fun _ => rfl)
  rfl
theorem B_X4_init_20 {k : Nat → Nat × Nat} {u : Nat → Nat → Int} {g : Nat → Nat → Nat} {t : Nat × Nat × Nat} {r0 : Nat} {v1 : AV} {q0 : Nat} {q1 : Nat} : a_X 28 20 [a_r (r0), v1] [a_r (q1), a_r (q0)] (k, u, g, t) = if (k q0).1 = 5 then a_X 28 27 [a_r (r0), v1] [a_r (t.1), a_r (r0)] (a_new (k, u, (upm g q0 1 q1), t) 1 0 2) else none := by
  refine (X_putR (m := 28) (pc := 20) (n := 18) (c := 5) (q := 1) (fi := true) (by decide +kernel) (by decide +kernel) (fun _ => (by decide +kernel)) (by decide +kernel)).trans ?_
  refine ite_congr rfl (fun _ => ?_) (fun _ => rfl)
  refine (X_aload_n (m := 28) (pc := 23) (n := 0) (by decide +kernel) rfl).trans ?_
  refine (X_new (m := 28) (pc := 24) (n := 22) (c := 0) (by decide +kernel) (by decide +kernel)).trans ?_
  rfl
theorem B_X4_init_27 {k : Nat → Nat × Nat} {u : Nat → Nat → Int} {g : Nat → Nat → Nat} {t : Nat × Nat × Nat} {r0 : Nat} {v1 : AV} {q0 : Nat} {q1 : Nat} : a_X 28 27 [a_r (r0), v1] [a_r (q1), a_r (q0)] (k, u, g, t) = if (k q1).1 = 1 then (a_m 0 [a_r (q1)] (k, u, g, t)).bind (a_back 28 28 3 [a_r (r0), v1] [a_r (q1), a_r (q0)]) else none := by
  refine (X_dup (m := 28) (pc := 27)  (by decide +kernel) rfl rfl).trans ?_
  refine (X_call_sp (m := 28) (pc := 28) (q := 24) (y := 0) (n := 1) (as := [a_r (q1)]) (rest := [a_r (q1), a_r (q0)]) (by decide +kernel) (by decide +kernel) (by decide +kernel) (by decide +kernel) rfl rfl (Nat.le_of_ble_eq_true rfl) (Nat.le_of_ble_eq_true rfl) rfl (by rw [show m_maxL 0 = 2 from by decide +kernel]; exact Nat.le_of_ble_eq_true rfl)).trans ?_
  exact ite_congr (by simp [a_rcv, show m_recv 0 = 1 from by decide +kernel]) (fun _ => rfl) (fun _ => rfl)
theorem B_X4_init_31 {k : Nat → Nat × Nat} {u : Nat → Nat → Int} {g : Nat → Nat → Nat} {t : Nat × Nat × Nat} {r0 : Nat} {v1 : AV} {q0 : Nat} {q1 : Nat} : a_X 28 31 [a_r (r0), v1] [a_r (q1), a_r (q0)] (k, u, g, t) = if (k q0).1 = 5 then if 0 ≤ (6 : Int) ∧ (6 : Int) ≤ 65536 then a_X 28 40 [a_r (r0), v1] [a_r (t.1), a_r (r0)] (a_new (k, u, (upm g q0 2 q1), t) 32 (6 : Int).toNat (6 : Int).toNat) else none else none := by
  refine (X_putR (m := 28) (pc := 31) (n := 25) (c := 5) (q := 2) (fi := true) (by decide +kernel) (by decide +kernel) (fun _ => (by decide +kernel)) (by decide +kernel)).trans ?_
  refine ite_congr rfl (fun _ => ?_) (fun _ => rfl)
  refine (X_aload_n (m := 28) (pc := 34) (n := 0) (by decide +kernel) rfl).trans ?_
  refine (X_bipush (m := 28) (pc := 35) (n := 6) (by decide +kernel) ).trans ?_
  refine (X_anewa (m := 28) (pc := 37) (q := 29) (c := 2) (by decide +kernel) (by decide +kernel)).trans ?_
  refine ite_congr rfl (fun _ => ?_) (fun _ => rfl)
  rfl
theorem B_X4_init_40 {k : Nat → Nat × Nat} {u : Nat → Nat → Int} {g : Nat → Nat → Nat} {t : Nat × Nat × Nat} {r0 : Nat} {v1 : AV} {q0 : Nat} {q1 : Nat} : a_X 28 40 [a_r (r0), v1] [a_r (q1), a_r (q0)] (k, u, g, t) = if (k q0).1 = 5 then a_X 28 45 [a_r (r0), a_i (0)] [] (k, u, (upm g q0 3 q1), t) else none := by
  refine (X_putR (m := 28) (pc := 40) (n := 31) (c := 5) (q := 3) (fi := true) (by decide +kernel) (by decide +kernel) (fun _ => (by decide +kernel)) (by decide +kernel)).trans ?_
  refine ite_congr rfl (fun _ => ?_) (fun _ => rfl)
  refine (X_iconst (m := 28) (pc := 43) (n := 0) (by decide +kernel) ).trans ?_
  refine (X_istore_n (m := 28) (pc := 44) (n := 1) (by decide +kernel) rfl (Nat.le_of_ble_eq_true rfl) rfl).trans ?_
  rfl
theorem B_X4_init_45 {k : Nat → Nat × Nat} {u : Nat → Nat → Int} {g : Nat → Nat → Nat} {t : Nat × Nat × Nat} {r0 : Nat} {x1 : Int} : a_X 28 45 [a_r (r0), a_i (x1)] [] (k, u, g, t) = if (x1 : Int) ≥ (6 : Int) then some (.inl none, (k, u, g, t)) else if (k r0).1 = 5 then a_X 28 59 [a_r (r0), a_i (x1)] [a_r (t.1), a_i (x1), a_r (g r0 3)] (a_new (k, u, g, t) 3 0 10) else none := by
  refine (X_iload_n (m := 28) (pc := 45) (n := 1) (by decide +kernel) rfl).trans ?_
  refine (X_bipush (m := 28) (pc := 46) (n := 6) (by decide +kernel) ).trans ?_
  refine (X_ic_ge (m := 28) (pc := 48) (off := 22) (tg := 70) (by decide +kernel) (by decide +kernel)).trans ?_
  refine ite_congr rfl (fun _ => ?_) (fun _ => ?_)
  · exact X_return (m := 28) (pc := 70) (by decide +kernel) (by decide +kernel)
  · refine (X_aload_n (m := 28) (pc := 51) (n := 0) (by decide +kernel) rfl).trans ?_
    refine (X_getR (m := 28) (pc := 52) (n := 31) (c := 5) (q := 3) (fi := true) (by decide +kernel) (by decide +kernel)).trans ?_
    refine ite_congr rfl (fun _ => ?_) (fun _ => rfl)
    refine (X_iload_n (m := 28) (pc := 55) (n := 1) (by decide +kernel) rfl).trans ?_
    refine (X_new (m := 28) (pc := 56) (n := 29) (c := 2) (by decide +kernel) (by decide +kernel)).trans ?_
    rfl
theorem B_X4_init_59 {k : Nat → Nat × Nat} {u : Nat → Nat → Int} {g : Nat → Nat → Nat} {t : Nat × Nat × Nat} {r0 : Nat} {x1 : Int} {q0 : Nat} {y1 : Int} {q2 : Nat} : a_X 28 59 [a_r (r0), a_i (x1)] [a_r (q2), a_i (y1), a_r (q0)] (k, u, g, t) = if (k q2).1 = 3 then (a_m 14 [a_r (q2)] (k, u, g, t)).bind (a_back 28 60 3 [a_r (r0), a_i (x1)] [a_r (q2), a_i (y1), a_r (q0)]) else none := by
  refine (X_dup (m := 28) (pc := 59)  (by decide +kernel) rfl rfl).trans ?_
  refine (X_call_sp (m := 28) (pc := 60) (q := 35) (y := 14) (n := 1) (as := [a_r (q2)]) (rest := [a_r (q2), a_i (y1), a_r (q0)]) (by decide +kernel) (by decide +kernel) (by decide +kernel) (by decide +kernel) rfl rfl (Nat.le_of_ble_eq_true rfl) (Nat.le_of_ble_eq_true rfl) rfl (by rw [show m_maxL 14 = 1 from by decide +kernel]; exact Nat.le_of_ble_eq_true rfl)).trans ?_
  exact ite_congr (by simp [a_rcv, show m_recv 14 = 3 from by decide +kernel]) (fun _ => rfl) (fun _ => rfl)
theorem B_X4_init_63 {k : Nat → Nat × Nat} {u : Nat → Nat → Int} {g : Nat → Nat → Nat} {t : Nat × Nat × Nat} {r0 : Nat} {x1 : Int} {q0 : Nat} {y1 : Int} {q2 : Nat} : a_X 28 63 [a_r (r0), a_i (x1)] [a_r (q2), a_i (y1), a_r (q0)] (k, u, g, t) = if 30 ≤ (k q0).1 ∧ (k q2).1 + 29 = (k q0).1 ∧ (k q2).1 ≠ 0 ∧ 0 ≤ (y1 : Int) ∧ (y1 : Int) < ((k q0).2 : Int) then a_X 28 45 [a_r (r0), a_i (wr (x1 + 1))] [] (k, u, (upm g q0 (y1 : Int).toNat q2), t) else none := by
  refine (X_aastore (m := 28) (pc := 63)  (by decide +kernel) ).trans ?_
  refine ite_congr rfl (fun _ => ?_) (fun _ => rfl)
  refine (X_iinc (m := 28) (pc := 64) (n := 1) (c := 1) (by decide +kernel) rfl rfl (Nat.le_of_ble_eq_true rfl) rfl).trans ?_
  refine (X_goto (m := 28) (pc := 67) (off := -22) (tg := 45) (by decide +kernel) (by decide +kernel)).trans ?_
  rfl
theorem E_X4_copyFrom {σ : AS} {r0 : Nat} {r1 : Nat} : a_m 29 [a_r (r0), a_r (r1)] σ = a_X 29 0 [a_r (r0), a_r (r1), a_x false] [] σ := a_m_eq (by rw [a_entry, show m_maxL 29 = 3 from by decide +kernel]; rfl)
theorem B_X4_copyFrom_0 {k : Nat → Nat × Nat} {u : Nat → Nat → Int} {g : Nat → Nat → Nat} {t : Nat × Nat × Nat} {r0 : Nat} {r1 : Nat} {v2 : AV} : a_X 29 0 [a_r (r0), a_r (r1), v2] [] (k, u, g, t) = if (k r0).1 = 5 then if (k r1).1 = 5 then if (k (g r0 0)).1 = 9 then (a_m 79 [a_r (g r0 0), a_r (g r1 0)] (k, u, g, t)).bind (a_back 29 8 3 [a_r (r0), a_r (r1), v2] []) else none else none else none := by
  refine (X_aload_n (m := 29) (pc := 0) (n := 0) (by decide +kernel) rfl).trans ?_
  refine (X_getR (m := 29) (pc := 1) (n := 12) (c := 5) (q := 0) (fi := true) (by decide +kernel) (by decide +kernel)).trans ?_
  refine ite_congr rfl (fun _ => ?_) (fun _ => rfl)
  refine (X_aload_n (m := 29) (pc := 4) (n := 1) (by decide +kernel) rfl).trans ?_
  refine (X_getR (m := 29) (pc := 5) (n := 12) (c := 5) (q := 0) (fi := true) (by decide +kernel) (by decide +kernel)).trans ?_
  refine ite_congr rfl (fun _ => ?_) (fun _ => rfl)
  refine (X_call_vi (m := 29) (pc := 8) (q := 36) (y := 79) (n := 2) (as := [a_r (g r0 0), a_r (g r1 0)]) (rest := []) (by decide +kernel) (by decide +kernel) (by decide +kernel) (by decide +kernel) rfl rfl (Nat.le_of_ble_eq_true rfl) (Nat.le_of_ble_eq_true rfl) rfl (by rw [show m_maxL 79 = 2 from by decide +kernel]; exact Nat.le_of_ble_eq_true rfl)).trans ?_
  exact ite_congr (by simp [a_rcv, show m_recv 79 = 9 from by decide +kernel]) (fun _ => rfl) (fun _ => rfl)
theorem B_X4_copyFrom_11 {k : Nat → Nat × Nat} {u : Nat → Nat → Int} {g : Nat → Nat → Nat} {t : Nat × Nat × Nat} {r0 : Nat} {r1 : Nat} {v2 : AV} : a_X 29 11 [a_r (r0), a_r (r1), v2] [] (k, u, g, t) = if (k r1).1 = 5 then if (k r0).1 = 5 then if (g r1 1) ≠ (g r0 1) ∧ (k (g r1 1)).1 = 20 ∧ (k (g r0 1)).1 = 20 ∧ 0 ≤ (0 : Int) ∧ 0 ≤ (0 : Int) ∧ 0 ≤ (12 : Int) ∧ (0 : Int) + (12 : Int) ≤ ((k (g r1 1)).2 : Int) ∧ (0 : Int) + (12 : Int) ≤ ((k (g r0 1)).2 : Int) then if (k r0).1 = 5 then if (k r1).1 = 5 then if (k (g r0 2)).1 = 1 then (a_m 1 [a_r (g r0 2), a_r (g r1 2)] (k, (upr u (g r0 1) (a_cpy (u (g r1 1)) (u (g r0 1)) (0 : Int).toNat (0 : Int).toNat (12 : Int).toNat)), g, t)).bind (a_back 29 34 3 [a_r (r0), a_r (r1), v2] []) else none else none else none else none else none else none := by
  refine (X_aload_n (m := 29) (pc := 11) (n := 1) (by decide +kernel) rfl).trans ?_
  refine (X_getR (m := 29) (pc := 12) (n := 18) (c := 5) (q := 1) (fi := true) (by decide +kernel) (by decide +kernel)).trans ?_
  refine ite_congr rfl (fun _ => ?_) (fun _ => rfl)
  refine (X_iconst (m := 29) (pc := 15) (n := 0) (by decide +kernel) ).trans ?_
  refine (X_aload_n (m := 29) (pc := 16) (n := 0) (by decide +kernel) rfl).trans ?_
  refine (X_getR (m := 29) (pc := 17) (n := 18) (c := 5) (q := 1) (fi := true) (by decide +kernel) (by decide +kernel)).trans ?_
  refine ite_congr rfl (fun _ => ?_) (fun _ => rfl)
  refine (X_iconst (m := 29) (pc := 20) (n := 0) (by decide +kernel) ).trans ?_
  refine (X_bipush (m := 29) (pc := 21) (n := 12) (by decide +kernel) ).trans ?_
  refine (X_copy (m := 29) (pc := 23) (q := 40) (by decide +kernel) (by decide +kernel) (Nat.le_of_ble_eq_true rfl)).trans ?_
  refine ite_congr rfl (fun _ => ?_) (fun _ => rfl)
  refine (X_aload_n (m := 29) (pc := 26) (n := 0) (by decide +kernel) rfl).trans ?_
  refine (X_getR (m := 29) (pc := 27) (n := 25) (c := 5) (q := 2) (fi := true) (by decide +kernel) (by decide +kernel)).trans ?_
  refine ite_congr rfl (fun _ => ?_) (fun _ => rfl)
  refine (X_aload_n (m := 29) (pc := 30) (n := 1) (by decide +kernel) rfl).trans ?_
  refine (X_getR (m := 29) (pc := 31) (n := 25) (c := 5) (q := 2) (fi := true) (by decide +kernel) (by decide +kernel)).trans ?_
  refine ite_congr rfl (fun _ => ?_) (fun _ => rfl)
  refine (X_call_vi (m := 29) (pc := 34) (q := 46) (y := 1) (n := 2) (as := [a_r (g r0 2), a_r (g r1 2)]) (rest := []) (by decide +kernel) (by decide +kernel) (by decide +kernel) (by decide +kernel) rfl rfl (Nat.le_of_ble_eq_true rfl) (Nat.le_of_ble_eq_true rfl) rfl (by rw [show m_maxL 1 = 3 from by decide +kernel]; exact Nat.le_of_ble_eq_true rfl)).trans ?_
  exact ite_congr (by simp [a_rcv, show m_recv 1 = 1 from by decide +kernel]) (fun _ => rfl) (fun _ => rfl)
theorem B_X4_copyFrom_37 {k : Nat → Nat × Nat} {u : Nat → Nat → Int} {g : Nat → Nat → Nat} {t : Nat × Nat × Nat} {r0 : Nat} {r1 : Nat} {v2 : AV} : a_X 29 37 [a_r (r0), a_r (r1), v2] [] (k, u, g, t) = if (k r1).1 = 5 then if (k r0).1 = 5 then a_X 29 47 [a_r (r0), a_r (r1), a_i (0)] [] (k, (upm u r0 4 (u r1 4)), g, t) else none else none := by
  refine (X_aload_n (m := 29) (pc := 37) (n := 0) (by decide +kernel) rfl).trans ?_
  refine (X_aload_n (m := 29) (pc := 38) (n := 1) (by decide +kernel) rfl).trans ?_
  refine (X_getI (m := 29) (pc := 39) (n := 49) (c := 5) (q := 4) (ty := 1) (fi := false) (by decide +kernel) (by decide +kernel) (by decide +kernel)).trans ?_
  refine ite_congr rfl (fun _ => ?_) (fun _ => rfl)
  refine (X_putI (m := 29) (pc := 42) (n := 49) (c := 5) (q := 4) (fi := false) (by decide +kernel) (by decide +kernel) (fun h => by cases h) (by decide +kernel)).trans ?_
  refine ite_congr rfl (fun _ => ?_) (fun _ => rfl)
  refine (X_iconst (m := 29) (pc := 45) (n := 0) (by decide +kernel) ).trans ?_
  refine (X_istore_n (m := 29) (pc := 46) (n := 2) (by decide +kernel) rfl (Nat.le_of_ble_eq_true rfl) rfl).trans ?_
  rfl
theorem B_X4_copyFrom_47 {k : Nat → Nat × Nat} {u : Nat → Nat → Int} {g : Nat → Nat → Nat} {t : Nat × Nat × Nat} {r0 : Nat} {r1 : Nat} {x2 : Int} : a_X 29 47 [a_r (r0), a_r (r1), a_i (x2)] [] (k, u, g, t) = if (k r0).1 = 5 then if (x2 : Int) ≥ (u r0 4 : Int) then if (k r1).1 = 5 then if (k r0).1 = 5 then if (k r1).1 = 5 then if (k r0).1 = 5 then if (k r1).1 = 5 then if (k r0).1 = 5 then if (k r1).1 = 5 then if (k r0).1 = 5 then some (.inl none, (k, (upm (upm (upm (upm u r0 5 (u r1 5)) r0 6 ((upm u r0 5 (u r1 5)) r1 6)) r0 7 ((upm (upm u r0 5 (u r1 5)) r0 6 ((upm u r0 5 (u r1 5)) r1 6)) r1 7)) r0 8 ((upm (upm (upm u r0 5 (u r1 5)) r0 6 ((upm u r0 5 (u r1 5)) r1 6)) r0 7 ((upm (upm u r0 5 (u r1 5)) r0 6 ((upm u r0 5 (u r1 5)) r1 6)) r1 7)) r1 8)), g, t)) else none else none else none else none else none else none else none else none else if (k r0).1 = 5 then if 30 ≤ (k (g r0 3)).1 ∧ 0 ≤ (x2 : Int) ∧ (x2 : Int) < ((k (g r0 3)).2 : Int) then if (k r1).1 = 5 then if 30 ≤ (k (g r1 3)).1 ∧ 0 ≤ (x2 : Int) ∧ (x2 : Int) < ((k (g r1 3)).2 : Int) then if (k (g (g r0 3) (x2 : Int).toNat)).1 = 3 then (a_m 15 [a_r (g (g r0 3) (x2 : Int).toNat), a_r (g (g r1 3) (x2 : Int).toNat)] (k, u, g, t)).bind (a_back 29 67 3 [a_r (r0), a_r (r1), a_i (x2)] []) else none else none else none else none else none else none := by
  refine (X_iload_n (m := 29) (pc := 47) (n := 2) (by decide +kernel) rfl).trans ?_
  refine (X_aload_n (m := 29) (pc := 48) (n := 0) (by decide +kernel) rfl).trans ?_
  refine (X_getI (m := 29) (pc := 49) (n := 49) (c := 5) (q := 4) (ty := 1) (fi := false) (by decide +kernel) (by decide +kernel) (by decide +kernel)).trans ?_
  refine ite_congr rfl (fun _ => ?_) (fun _ => rfl)
  refine (X_ic_ge (m := 29) (pc := 52) (off := 24) (tg := 76) (by decide +kernel) (by decide +kernel)).trans ?_
  refine ite_congr rfl (fun _ => ?_) (fun _ => ?_)
  · refine (X_aload_n (m := 29) (pc := 76) (n := 0) (by decide +kernel) rfl).trans ?_
    refine (X_aload_n (m := 29) (pc := 77) (n := 1) (by decide +kernel) rfl).trans ?_
    refine (X_getI (m := 29) (pc := 78) (n := 56) (c := 5) (q := 5) (ty := 1) (fi := false) (by decide +kernel) (by decide +kernel) (by decide +kernel)).trans ?_
    refine ite_congr rfl (fun _ => ?_) (fun _ => rfl)
    refine (X_putI (m := 29) (pc := 81) (n := 56) (c := 5) (q := 5) (fi := false) (by decide +kernel) (by decide +kernel) (fun h => by cases h) (by decide +kernel)).trans ?_
    refine ite_congr rfl (fun _ => ?_) (fun _ => rfl)
    refine (X_aload_n (m := 29) (pc := 84) (n := 0) (by decide +kernel) rfl).trans ?_
    refine (X_aload_n (m := 29) (pc := 85) (n := 1) (by decide +kernel) rfl).trans ?_
    refine (X_getI (m := 29) (pc := 86) (n := 59) (c := 5) (q := 6) (ty := 1) (fi := false) (by decide +kernel) (by decide +kernel) (by decide +kernel)).trans ?_
    refine ite_congr rfl (fun _ => ?_) (fun _ => rfl)
    refine (X_putI (m := 29) (pc := 89) (n := 59) (c := 5) (q := 6) (fi := false) (by decide +kernel) (by decide +kernel) (fun h => by cases h) (by decide +kernel)).trans ?_
    refine ite_congr rfl (fun _ => ?_) (fun _ => rfl)
    refine (X_aload_n (m := 29) (pc := 92) (n := 0) (by decide +kernel) rfl).trans ?_
    refine (X_aload_n (m := 29) (pc := 93) (n := 1) (by decide +kernel) rfl).trans ?_
    refine (X_getI (m := 29) (pc := 94) (n := 62) (c := 5) (q := 7) (ty := 1) (fi := false) (by decide +kernel) (by decide +kernel) (by decide +kernel)).trans ?_
    refine ite_congr rfl (fun _ => ?_) (fun _ => rfl)
    refine (X_putI (m := 29) (pc := 97) (n := 62) (c := 5) (q := 7) (fi := false) (by decide +kernel) (by decide +kernel) (fun h => by cases h) (by decide +kernel)).trans ?_
    refine ite_congr rfl (fun _ => ?_) (fun _ => rfl)
    refine (X_aload_n (m := 29) (pc := 100) (n := 0) (by decide +kernel) rfl).trans ?_
    refine (X_aload_n (m := 29) (pc := 101) (n := 1) (by decide +kernel) rfl).trans ?_
    refine (X_getI (m := 29) (pc := 102) (n := 65) (c := 5) (q := 8) (ty := 1) (fi := false) (by decide +kernel) (by decide +kernel) (by decide +kernel)).trans ?_
    refine ite_congr rfl (fun _ => ?_) (fun _ => rfl)
    refine (X_putI (m := 29) (pc := 105) (n := 65) (c := 5) (q := 8) (fi := false) (by decide +kernel) (by decide +kernel) (fun h => by cases h) (by decide +kernel)).trans ?_
    refine ite_congr rfl (fun _ => ?_) (fun _ => rfl)
    exact X_return (m := 29) (pc := 108) (by decide +kernel) (by decide +kernel)
  · refine (X_aload_n (m := 29) (pc := 55) (n := 0) (by decide +kernel) rfl).trans ?_
    refine (X_getR (m := 29) (pc := 56) (n := 31) (c := 5) (q := 3) (fi := true) (by decide +kernel) (by decide +kernel)).trans ?_
    refine ite_congr rfl (fun _ => ?_) (fun _ => rfl)
    refine (X_iload_n (m := 29) (pc := 59) (n := 2) (by decide +kernel) rfl).trans ?_
    refine (X_aaload (m := 29) (pc := 60)  (by decide +kernel) ).trans ?_
    refine ite_congr rfl (fun _ => ?_) (fun _ => rfl)
    refine (X_aload_n (m := 29) (pc := 61) (n := 1) (by decide +kernel) rfl).trans ?_
    refine (X_getR (m := 29) (pc := 62) (n := 31) (c := 5) (q := 3) (fi := true) (by decide +kernel) (by decide +kernel)).trans ?_
    refine ite_congr rfl (fun _ => ?_) (fun _ => rfl)
    refine (X_iload_n (m := 29) (pc := 65) (n := 2) (by decide +kernel) rfl).trans ?_
    refine (X_aaload (m := 29) (pc := 66)  (by decide +kernel) ).trans ?_
    refine ite_congr rfl (fun _ => ?_) (fun _ => rfl)
    refine (X_call_vi (m := 29) (pc := 67) (q := 53) (y := 15) (n := 2) (as := [a_r (g (g r0 3) (x2 : Int).toNat), a_r (g (g r1 3) (x2 : Int).toNat)]) (rest := []) (by decide +kernel) (by decide +kernel) (by decide +kernel) (by decide +kernel) rfl rfl (Nat.le_of_ble_eq_true rfl) (Nat.le_of_ble_eq_true rfl) rfl (by rw [show m_maxL 15 = 2 from by decide +kernel]; exact Nat.le_of_ble_eq_true rfl)).trans ?_
    exact ite_congr (by simp [a_rcv, show m_recv 15 = 3 from by decide +kernel]) (fun _ => rfl) (fun _ => rfl)
theorem B_X4_copyFrom_70 {k : Nat → Nat × Nat} {u : Nat → Nat → Int} {g : Nat → Nat → Nat} {t : Nat × Nat × Nat} {r0 : Nat} {r1 : Nat} {x2 : Int} : a_X 29 70 [a_r (r0), a_r (r1), a_i (x2)] [] (k, u, g, t) = a_X 29 47 [a_r (r0), a_r (r1), a_i (wr (x2 + 1))] [] (k, u, g, t) := by
  refine (X_iinc (m := 29) (pc := 70) (n := 2) (c := 1) (by decide +kernel) rfl rfl (Nat.le_of_ble_eq_true rfl) rfl).trans ?_
  refine (X_goto (m := 29) (pc := 73) (off := -26) (tg := 47) (by decide +kernel) (by decide +kernel)).trans ?_
  rfl
