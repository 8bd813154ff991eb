/-! block equations, by wip/whole/gen_blocks.py -/
theorem E_X10_merged {σ : AS} {r0 : Nat} {x1 : Int} {x2 : Int} : a_m 104 [a_r (r0), a_i (x1), a_i (x2)] σ = a_X 104 0 [a_r (r0), a_i (x1), a_i (x2)] [] σ := a_m_eq (by rw [a_entry, show m_maxL 104 = 3 from by decide +kernel]; rfl)
theorem B_X10_merged_0 {k : Nat → Nat × Nat} {u : Nat → Nat → Int} {g : Nat → Nat → Nat} {t : Nat × Nat × Nat} {r0 : Nat} {x1 : Int} {x2 : Int} : a_X 104 0 [a_r (r0), a_i (x1), a_i (x2)] [] (k, u, g, t) = if (k r0).1 = 10 then (a_m 144 [a_r (r0)] (k, u, g, t)).bind (a_back 104 1 3 [a_r (r0), a_i (x1), a_i (x2)] []) else none := by
  refine (X_aload_n (m := 104) (pc := 0) (n := 0) (by decide +kernel) rfl).trans ?_
  refine (X_call_vi (m := 104) (pc := 1) (q := 103) (y := 144) (n := 1) (as := [a_r (r0)]) (rest := []) (by decide +kernel) (by decide +kernel) (by decide +kernel) (by decide +kernel) rfl rfl (Nat.le_of_ble_eq_true rfl) (Nat.le_of_ble_eq_true rfl) rfl (by rw [show m_maxL 144 = 1 from by decide +kernel]; exact Nat.le_of_ble_eq_true rfl)).trans ?_
  exact ite_congr (by simp [a_rcv, show m_recv 144 = 10 from by decide +kernel]) (fun _ => rfl) (fun _ => rfl)
theorem B_X10_merged_4 {k : Nat → Nat × Nat} {u : Nat → Nat → Int} {g : Nat → Nat → Nat} {t : Nat × Nat × Nat} {r0 : Nat} {x1 : Int} {x2 : Int} : a_X 104 4 [a_r (r0), a_i (x1), a_i (x2)] [] (k, u, g, t) = if (k r0).1 = 10 then (a_m 146 [a_r (r0), a_i (x1)] (k, u, g, t)).bind (a_back 104 6 3 [a_r (r0), a_i (x1), a_i (x2)] []) else none := by
  refine (X_aload_n (m := 104) (pc := 4) (n := 0) (by decide +kernel) rfl).trans ?_
  refine (X_iload_n (m := 104) (pc := 5) (n := 1) (by decide +kernel) rfl).trans ?_
  refine (X_call_vi (m := 104) (pc := 6) (q := 157) (y := 146) (n := 2) (as := [a_r (r0), a_i (x1)]) (rest := []) (by decide +kernel) (by decide +kernel) (by decide +kernel) (by decide +kernel) rfl rfl (Nat.le_of_ble_eq_true rfl) (Nat.le_of_ble_eq_true rfl) rfl (by rw [show m_maxL 146 = 2 from by decide +kernel]; exact Nat.le_of_ble_eq_true rfl)).trans ?_
  exact ite_congr (by simp [a_rcv, show m_recv 146 = 10 from by decide +kernel]) (fun _ => rfl) (fun _ => rfl)
theorem B_X10_merged_9 {k : Nat → Nat × Nat} {u : Nat → Nat → Int} {g : Nat → Nat → Nat} {t : Nat × Nat × Nat} {r0 : Nat} {x1 : Int} {x2 : Int} : a_X 104 9 [a_r (r0), a_i (x1), a_i (x2)] [] (k, u, g, t) = if (k r0).1 = 10 then (a_m 149 [a_r (r0), a_i (x2), a_i (0), a_i (6)] (k, u, g, t)).bind (a_back 104 14 3 [a_r (r0), a_i (x1), a_i (x2)] []) else none := by
  refine (X_aload_n (m := 104) (pc := 9) (n := 0) (by decide +kernel) rfl).trans ?_
  refine (X_iload_n (m := 104) (pc := 10) (n := 2) (by decide +kernel) rfl).trans ?_
  refine (X_iconst (m := 104) (pc := 11) (n := 0) (by decide +kernel) ).trans ?_
  refine (X_bipush (m := 104) (pc := 12) (n := 6) (by decide +kernel) ).trans ?_
  refine (X_call_vi (m := 104) (pc := 14) (q := 163) (y := 149) (n := 4) (as := [a_r (r0), a_i (x2), a_i (0), a_i (6)]) (rest := []) (by decide +kernel) (by decide +kernel) (by decide +kernel) (by decide +kernel) rfl rfl (Nat.le_of_ble_eq_true rfl) (Nat.le_of_ble_eq_true rfl) rfl (by rw [show m_maxL 149 = 4 from by decide +kernel]; exact Nat.le_of_ble_eq_true rfl)).trans ?_
  exact ite_congr (by simp [a_rcv, show m_recv 149 = 10 from by decide +kernel]) (fun _ => rfl) (fun _ => rfl)
theorem B_X10_merged_17 {k : Nat → Nat × Nat} {u : Nat → Nat → Int} {g : Nat → Nat → Nat} {t : Nat × Nat × Nat} {r0 : Nat} {x1 : Int} {x2 : Int} : a_X 104 17 [a_r (r0), a_i (x1), a_i (x2)] [] (k, u, g, t) = if (k r0).1 = 10 then if (k r0).1 = 10 then if (k (g r0 1)).1 = 5 then if (k r0).1 = 10 then if (k (g r0 1)).1 = 5 then (a_m 31 [a_r (g r0 1), a_i (x1)] (k, u, g, t)).bind (a_back 104 33 3 [a_r (r0), a_i (x1), a_i (x2)] [a_r (g (g r0 1) 0), a_r (g r0 6)]) else none else none else none else none else none := by
  refine (X_aload_n (m := 104) (pc := 17) (n := 0) (by decide +kernel) rfl).trans ?_
  refine (X_getR (m := 104) (pc := 18) (n := 44) (c := 10) (q := 6) (fi := true) (by decide +kernel) (by decide +kernel)).trans ?_
  refine ite_congr rfl (fun _ => ?_) (fun _ => rfl)
  refine (X_aload_n (m := 104) (pc := 21) (n := 0) (by decide +kernel) rfl).trans ?_
  refine (X_getR (m := 104) (pc := 22) (n := 19) (c := 10) (q := 1) (fi := true) (by decide +kernel) (by decide +kernel)).trans ?_
  refine ite_congr rfl (fun _ => ?_) (fun _ => rfl)
  refine (X_getR (m := 104) (pc := 25) (n := 106) (c := 5) (q := 0) (fi := true) (by decide +kernel) (by decide +kernel)).trans ?_
  refine ite_congr rfl (fun _ => ?_) (fun _ => rfl)
  refine (X_aload_n (m := 104) (pc := 28) (n := 0) (by decide +kernel) rfl).trans ?_
  refine (X_getR (m := 104) (pc := 29) (n := 19) (c := 10) (q := 1) (fi := true) (by decide +kernel) (by decide +kernel)).trans ?_
  refine ite_congr rfl (fun _ => ?_) (fun _ => rfl)
  refine (X_iload_n (m := 104) (pc := 32) (n := 1) (by decide +kernel) rfl).trans ?_
  refine (X_call_vi (m := 104) (pc := 33) (q := 167) (y := 31) (n := 2) (as := [a_r (g r0 1), a_i (x1)]) (rest := [a_r (g (g r0 1) 0), a_r (g r0 6)]) (by decide +kernel) (by decide +kernel) (by decide +kernel) (by decide +kernel) rfl rfl (Nat.le_of_ble_eq_true rfl) (Nat.le_of_ble_eq_true rfl) rfl (by rw [show m_maxL 31 = 2 from by decide +kernel]; exact Nat.le_of_ble_eq_true rfl)).trans ?_
  exact ite_congr (by simp [a_rcv, show m_recv 31 = 5 from by decide +kernel]) (fun _ => rfl) (fun _ => rfl)
theorem B_X10_merged_36 {k : Nat → Nat × Nat} {u : Nat → Nat → Int} {g : Nat → Nat → Nat} {t : Nat × Nat × Nat} {r0 : Nat} {x1 : Int} {x2 : Int} {q0 : Nat} {q1 : Nat} {q2 : Nat} : a_X 104 36 [a_r (r0), a_i (x1), a_i (x2)] [a_r (q2), a_r (q1), a_r (q0)] (k, u, g, t) = if (k q0).1 = 4 then (a_m 23 [a_r (q0), a_r (q1), a_r (q2), a_i (x2)] (k, u, g, t)).bind (a_back 104 37 3 [a_r (r0), a_i (x1), a_i (x2)] []) else none := by
  refine (X_iload_n (m := 104) (pc := 36) (n := 2) (by decide +kernel) rfl).trans ?_
  refine (X_call_vi (m := 104) (pc := 37) (q := 241) (y := 23) (n := 4) (as := [a_r (q0), a_r (q1), a_r (q2), a_i (x2)]) (rest := []) (by decide +kernel) (by decide +kernel) (by decide +kernel) (by decide +kernel) rfl rfl (Nat.le_of_ble_eq_true rfl) (Nat.le_of_ble_eq_true rfl) rfl (by rw [show m_maxL 23 = 6 from by decide +kernel]; exact Nat.le_of_ble_eq_true rfl)).trans ?_
  exact ite_congr (by simp [a_rcv, show m_recv 23 = 4 from by decide +kernel]) (fun _ => rfl) (fun _ => rfl)
theorem B_X10_merged_40 {k : Nat → Nat × Nat} {u : Nat → Nat → Int} {g : Nat → Nat → Nat} {t : Nat × Nat × Nat} {r0 : Nat} {x1 : Int} {x2 : Int} : a_X 104 40 [a_r (r0), a_i (x1), a_i (x2)] [] (k, u, g, t) = if (k r0).1 = 10 then if (k (g r0 6)).1 = 4 then some (.inl (some (a_i (u (g r0 6) 4))), (k, u, g, t)) else none else none := by
  refine (X_aload_n (m := 104) (pc := 40) (n := 0) (by decide +kernel) rfl).trans ?_
  refine (X_getR (m := 104) (pc := 41) (n := 44) (c := 10) (q := 6) (fi := true) (by decide +kernel) (by decide +kernel)).trans ?_
  refine ite_congr rfl (fun _ => ?_) (fun _ => rfl)
  refine (X_getI (m := 104) (pc := 44) (n := 245) (c := 4) (q := 4) (ty := 1) (fi := false) (by decide +kernel) (by decide +kernel) (by decide +kernel)).trans ?_
  refine ite_congr rfl (fun _ => ?_) (fun _ => rfl)
  exact X_ireturn (m := 104) (pc := 47) (f := 1) (by decide +kernel) (by decide +kernel) rfl
theorem E_X10_mergedStop {σ : AS} {r0 : Nat} {x1 : Int} {x2 : Int} {x3 : Int} {x4 : Int} : a_m 105 [a_r (r0), a_i (x1), a_i (x2), a_i (x3), a_i (x4)] σ = a_X 105 0 [a_r (r0), a_i (x1), a_i (x2), a_i (x3), a_i (x4)] [] σ := a_m_eq (by rw [a_entry, show m_maxL 105 = 5 from by decide +kernel]; rfl)
theorem B_X10_mergedStop_0 {k : Nat → Nat × Nat} {u : Nat → Nat → Int} {g : Nat → Nat → Nat} {t : Nat × Nat × Nat} {r0 : Nat} {x1 : Int} {x2 : Int} {x3 : Int} {x4 : Int} : a_X 105 0 [a_r (r0), a_i (x1), a_i (x2), a_i (x3), a_i (x4)] [] (k, u, g, t) = if (k r0).1 = 10 then (a_m 144 [a_r (r0)] (k, u, g, t)).bind (a_back 105 1 3 [a_r (r0), a_i (x1), a_i (x2), a_i (x3), a_i (x4)] []) else none := by
  refine (X_aload_n (m := 105) (pc := 0) (n := 0) (by decide +kernel) rfl).trans ?_
  refine (X_call_vi (m := 105) (pc := 1) (q := 103) (y := 144) (n := 1) (as := [a_r (r0)]) (rest := []) (by decide +kernel) (by decide +kernel) (by decide +kernel) (by decide +kernel) rfl rfl (Nat.le_of_ble_eq_true rfl) (Nat.le_of_ble_eq_true rfl) rfl (by rw [show m_maxL 144 = 1 from by decide +kernel]; exact Nat.le_of_ble_eq_true rfl)).trans ?_
  exact ite_congr (by simp [a_rcv, show m_recv 144 = 10 from by decide +kernel]) (fun _ => rfl) (fun _ => rfl)
theorem B_X10_mergedStop_4 {k : Nat → Nat × Nat} {u : Nat → Nat → Int} {g : Nat → Nat → Nat} {t : Nat × Nat × Nat} {r0 : Nat} {x1 : Int} {x2 : Int} {x3 : Int} {x4 : Int} : a_X 105 4 [a_r (r0), a_i (x1), a_i (x2), a_i (x3), a_i (x4)] [] (k, u, g, t) = if (k r0).1 = 10 then (a_m 146 [a_r (r0), a_i (x1)] (k, u, g, t)).bind (a_back 105 6 3 [a_r (r0), a_i (x1), a_i (x2), a_i (x3), a_i (x4)] []) else none := by
  refine (X_aload_n (m := 105) (pc := 4) (n := 0) (by decide +kernel) rfl).trans ?_
  refine (X_iload_n (m := 105) (pc := 5) (n := 1) (by decide +kernel) rfl).trans ?_
  refine (X_call_vi (m := 105) (pc := 6) (q := 157) (y := 146) (n := 2) (as := [a_r (r0), a_i (x1)]) (rest := []) (by decide +kernel) (by decide +kernel) (by decide +kernel) (by decide +kernel) rfl rfl (Nat.le_of_ble_eq_true rfl) (Nat.le_of_ble_eq_true rfl) rfl (by rw [show m_maxL 146 = 2 from by decide +kernel]; exact Nat.le_of_ble_eq_true rfl)).trans ?_
  exact ite_congr (by simp [a_rcv, show m_recv 146 = 10 from by decide +kernel]) (fun _ => rfl) (fun _ => rfl)
theorem B_X10_mergedStop_9 {k : Nat → Nat × Nat} {u : Nat → Nat → Int} {g : Nat → Nat → Nat} {t : Nat × Nat × Nat} {r0 : Nat} {x1 : Int} {x2 : Int} {x3 : Int} {x4 : Int} : a_X 105 9 [a_r (r0), a_i (x1), a_i (x2), a_i (x3), a_i (x4)] [] (k, u, g, t) = if (k r0).1 = 10 then (a_m 149 [a_r (r0), a_i (x2), a_i (0), a_i (6)] (k, u, g, t)).bind (a_back 105 14 3 [a_r (r0), a_i (x1), a_i (x2), a_i (x3), a_i (x4)] []) else none := by
  refine (X_aload_n (m := 105) (pc := 9) (n := 0) (by decide +kernel) rfl).trans ?_
  refine (X_iload_n (m := 105) (pc := 10) (n := 2) (by decide +kernel) rfl).trans ?_
  refine (X_iconst (m := 105) (pc := 11) (n := 0) (by decide +kernel) ).trans ?_
  refine (X_bipush (m := 105) (pc := 12) (n := 6) (by decide +kernel) ).trans ?_
  refine (X_call_vi (m := 105) (pc := 14) (q := 163) (y := 149) (n := 4) (as := [a_r (r0), a_i (x2), a_i (0), a_i (6)]) (rest := []) (by decide +kernel) (by decide +kernel) (by decide +kernel) (by decide +kernel) rfl rfl (Nat.le_of_ble_eq_true rfl) (Nat.le_of_ble_eq_true rfl) rfl (by rw [show m_maxL 149 = 4 from by decide +kernel]; exact Nat.le_of_ble_eq_true rfl)).trans ?_
  exact ite_congr (by simp [a_rcv, show m_recv 149 = 10 from by decide +kernel]) (fun _ => rfl) (fun _ => rfl)
theorem B_X10_mergedStop_17 {k : Nat → Nat × Nat} {u : Nat → Nat → Int} {g : Nat → Nat → Nat} {t : Nat × Nat × Nat} {r0 : Nat} {x1 : Int} {x2 : Int} {x3 : Int} {x4 : Int} : a_X 105 17 [a_r (r0), a_i (x1), a_i (x2), a_i (x3), a_i (x4)] [] (k, u, g, t) = if (k r0).1 = 10 then (a_m 149 [a_r (r0), a_i (x4), a_i (0), a_i (3)] (k, u, g, t)).bind (a_back 105 22 3 [a_r (r0), a_i (x1), a_i (x2), a_i (x3), a_i (x4)] []) else none := by
  refine (X_aload_n (m := 105) (pc := 17) (n := 0) (by decide +kernel) rfl).trans ?_
  refine (X_iload (m := 105) (pc := 18) (n := 4) (by decide +kernel) rfl).trans ?_
  refine (X_iconst (m := 105) (pc := 20) (n := 0) (by decide +kernel) ).trans ?_
  refine (X_iconst (m := 105) (pc := 21) (n := 3) (by decide +kernel) ).trans ?_
  refine (X_call_vi (m := 105) (pc := 22) (q := 163) (y := 149) (n := 4) (as := [a_r (r0), a_i (x4), a_i (0), a_i (3)]) (rest := []) (by decide +kernel) (by decide +kernel) (by decide +kernel) (by decide +kernel) rfl rfl (Nat.le_of_ble_eq_true rfl) (Nat.le_of_ble_eq_true rfl) rfl (by rw [show m_maxL 149 = 4 from by decide +kernel]; exact Nat.le_of_ble_eq_true rfl)).trans ?_
  exact ite_congr (by simp [a_rcv, show m_recv 149 = 10 from by decide +kernel]) (fun _ => rfl) (fun _ => rfl)
theorem B_X10_mergedStop_25 {k : Nat → Nat × Nat} {u : Nat → Nat → Int} {g : Nat → Nat → Nat} {t : Nat × Nat × Nat} {r0 : Nat} {x1 : Int} {x2 : Int} {x3 : Int} {x4 : Int} : a_X 105 25 [a_r (r0), a_i (x1), a_i (x2), a_i (x3), a_i (x4)] [] (k, u, g, t) = if (k r0).1 = 10 then if (k r0).1 = 10 then if (k (g r0 1)).1 = 5 then if (k r0).1 = 10 then if (k (g r0 1)).1 = 5 then (a_m 31 [a_r (g r0 1), a_i (x1)] (k, u, g, t)).bind (a_back 105 41 3 [a_r (r0), a_i (x1), a_i (x2), a_i (x3), a_i (x4)] [a_r (g (g r0 1) 0), a_r (g r0 6)]) else none else none else none else none else none := by
  refine (X_aload_n (m := 105) (pc := 25) (n := 0) (by decide +kernel) rfl).trans ?_
  refine (X_getR (m := 105) (pc := 26) (n := 44) (c := 10) (q := 6) (fi := true) (by decide +kernel) (by decide +kernel)).trans ?_
  refine ite_congr rfl (fun _ => ?_) (fun _ => rfl)
  refine (X_aload_n (m := 105) (pc := 29) (n := 0) (by decide +kernel) rfl).trans ?_
  refine (X_getR (m := 105) (pc := 30) (n := 19) (c := 10) (q := 1) (fi := true) (by decide +kernel) (by decide +kernel)).trans ?_
  refine ite_congr rfl (fun _ => ?_) (fun _ => rfl)
  refine (X_getR (m := 105) (pc := 33) (n := 106) (c := 5) (q := 0) (fi := true) (by decide +kernel) (by decide +kernel)).trans ?_
  refine ite_congr rfl (fun _ => ?_) (fun _ => rfl)
  refine (X_aload_n (m := 105) (pc := 36) (n := 0) (by decide +kernel) rfl).trans ?_
  refine (X_getR (m := 105) (pc := 37) (n := 19) (c := 10) (q := 1) (fi := true) (by decide +kernel) (by decide +kernel)).trans ?_
  refine ite_congr rfl (fun _ => ?_) (fun _ => rfl)
  refine (X_iload_n (m := 105) (pc := 40) (n := 1) (by decide +kernel) rfl).trans ?_
  refine (X_call_vi (m := 105) (pc := 41) (q := 167) (y := 31) (n := 2) (as := [a_r (g r0 1), a_i (x1)]) (rest := [a_r (g (g r0 1) 0), a_r (g r0 6)]) (by decide +kernel) (by decide +kernel) (by decide +kernel) (by decide +kernel) rfl rfl (Nat.le_of_ble_eq_true rfl) (Nat.le_of_ble_eq_true rfl) rfl (by rw [show m_maxL 31 = 2 from by decide +kernel]; exact Nat.le_of_ble_eq_true rfl)).trans ?_
  exact ite_congr (by simp [a_rcv, show m_recv 31 = 5 from by decide +kernel]) (fun _ => rfl) (fun _ => rfl)
theorem B_X10_mergedStop_44 {k : Nat → Nat × Nat} {u : Nat → Nat → Int} {g : Nat → Nat → Nat} {t : Nat × Nat × Nat} {r0 : Nat} {x1 : Int} {x2 : Int} {x3 : Int} {x4 : Int} {q0 : Nat} {q1 : Nat} {q2 : Nat} : a_X 105 44 [a_r (r0), a_i (x1), a_i (x2), a_i (x3), a_i (x4)] [a_r (q2), a_r (q1), a_r (q0)] (k, u, g, t) = if (k q0).1 = 4 then (a_m 23 [a_r (q0), a_r (q1), a_r (q2), a_i (x2)] (k, u, g, t)).bind (a_back 105 45 3 [a_r (r0), a_i (x1), a_i (x2), a_i (x3), a_i (x4)] []) else none := by
  refine (X_iload_n (m := 105) (pc := 44) (n := 2) (by decide +kernel) rfl).trans ?_
  refine (X_call_vi (m := 105) (pc := 45) (q := 241) (y := 23) (n := 4) (as := [a_r (q0), a_r (q1), a_r (q2), a_i (x2)]) (rest := []) (by decide +kernel) (by decide +kernel) (by decide +kernel) (by decide +kernel) rfl rfl (Nat.le_of_ble_eq_true rfl) (Nat.le_of_ble_eq_true rfl) rfl (by rw [show m_maxL 23 = 6 from by decide +kernel]; exact Nat.le_of_ble_eq_true rfl)).trans ?_
  exact ite_congr (by simp [a_rcv, show m_recv 23 = 4 from by decide +kernel]) (fun _ => rfl) (fun _ => rfl)
theorem B_X10_mergedStop_48 {k : Nat → Nat × Nat} {u : Nat → Nat → Int} {g : Nat → Nat → Nat} {t : Nat × Nat × Nat} {r0 : Nat} {x1 : Int} {x2 : Int} {x3 : Int} {x4 : Int} : a_X 105 48 [a_r (r0), a_i (x1), a_i (x2), a_i (x3), a_i (x4)] [] (k, u, g, t) = if (x3 : Int) < 0 then some (.inl (some (a_i (-1))), (k, u, g, t)) else if (k r0).1 = 10 then if (k (g r0 6)).1 = 4 then if (x3 : Int) < (u (g r0 6) 4 : Int) then if (k r0).1 = 10 then if (k (g r0 6)).1 = 4 then (a_m 27 [a_r (g r0 6), a_i (x3), a_i (x4)] (k, u, g, t)).bind (a_back 105 72 3 [a_r (r0), a_i (x1), a_i (x2), a_i (x3), a_i (x4)] []) else none else none else some (.inl (some (a_i (-1))), (k, u, g, t)) else none else none := by
  refine (X_iload_n (m := 105) (pc := 48) (n := 3) (by decide +kernel) rfl).trans ?_
  refine (X_if_lt (m := 105) (pc := 49) (off := 14) (tg := 63) (by decide +kernel) (by decide +kernel)).trans ?_
  refine ite_congr rfl (fun _ => ?_) (fun _ => ?_)
  · refine (X_iconst (m := 105) (pc := 63) (n := -1) (by decide +kernel) ).trans ?_
    exact X_ireturn (m := 105) (pc := 64) (f := 1) (by decide +kernel) (by decide +kernel) rfl
  · refine (X_iload_n (m := 105) (pc := 52) (n := 3) (by decide +kernel) rfl).trans ?_
    refine (X_aload_n (m := 105) (pc := 53) (n := 0) (by decide +kernel) rfl).trans ?_
    refine (X_getR (m := 105) (pc := 54) (n := 44) (c := 10) (q := 6) (fi := true) (by decide +kernel) (by decide +kernel)).trans ?_
    refine ite_congr rfl (fun _ => ?_) (fun _ => rfl)
    refine (X_getI (m := 105) (pc := 57) (n := 245) (c := 4) (q := 4) (ty := 1) (fi := false) (by decide +kernel) (by decide +kernel) (by decide +kernel)).trans ?_
    refine ite_congr rfl (fun _ => ?_) (fun _ => rfl)
    refine (X_ic_lt (m := 105) (pc := 60) (off := 5) (tg := 65) (by decide +kernel) (by decide +kernel)).trans ?_
    refine ite_congr rfl (fun _ => ?_) (fun _ => ?_)
    · refine (X_aload_n (m := 105) (pc := 65) (n := 0) (by decide +kernel) rfl).trans ?_
      refine (X_getR (m := 105) (pc := 66) (n := 44) (c := 10) (q := 6) (fi := true) (by decide +kernel) (by decide +kernel)).trans ?_
      refine ite_congr rfl (fun _ => ?_) (fun _ => rfl)
      refine (X_iload_n (m := 105) (pc := 69) (n := 3) (by decide +kernel) rfl).trans ?_
      refine (X_iload (m := 105) (pc := 70) (n := 4) (by decide +kernel) rfl).trans ?_
      refine (X_call_vi (m := 105) (pc := 72) (q := 246) (y := 27) (n := 3) (as := [a_r (g r0 6), a_i (x3), a_i (x4)]) (rest := []) (by decide +kernel) (by decide +kernel) (by decide +kernel) (by decide +kernel) rfl rfl (Nat.le_of_ble_eq_true rfl) (Nat.le_of_ble_eq_true rfl) rfl (by rw [show m_maxL 27 = 3 from by decide +kernel]; exact Nat.le_of_ble_eq_true rfl)).trans ?_
      exact ite_congr (by simp [a_rcv, show m_recv 27 = 4 from by decide +kernel]) (fun _ => rfl) (fun _ => rfl)
    · refine (X_iconst (m := 105) (pc := 63) (n := -1) (by decide +kernel) ).trans ?_
      exact X_ireturn (m := 105) (pc := 64) (f := 1) (by decide +kernel) (by decide +kernel) rfl
theorem B_X10_mergedStop_75 {k : Nat → Nat × Nat} {u : Nat → Nat → Int} {g : Nat → Nat → Nat} {t : Nat × Nat × Nat} {r0 : Nat} {x1 : Int} {x2 : Int} {x3 : Int} {x4 : Int} {y0 : Int} : a_X 105 75 [a_r (r0), a_i (x1), a_i (x2), a_i (x3), a_i (x4)] [a_i (y0)] (k, u, g, t) = some (.inl (some (a_i (y0))), (k, u, g, t)) := by
  exact X_ireturn (m := 105) (pc := 75) (f := 1) (by decide +kernel) (by decide +kernel) rfl
theorem E_X10_listener {σ : AS} {r0 : Nat} {x1 : Int} {x2 : Int} : a_m 106 [a_r (r0), a_i (x1), a_i (x2)] σ = a_X 106 0 [a_r (r0), a_i (x1), a_i (x2), a_x false] [] σ := a_m_eq (by rw [a_entry, show m_maxL 106 = 4 from by decide +kernel]; rfl)
theorem B_X10_listener_0 {k : Nat → Nat × Nat} {u : Nat → Nat → Int} {g : Nat → Nat → Nat} {t : Nat × Nat × Nat} {r0 : Nat} {x1 : Int} {x2 : Int} {v3 : AV} : a_X 106 0 [a_r (r0), a_i (x1), a_i (x2), v3] [] (k, u, g, t) = if (k r0).1 = 10 then (a_m 144 [a_r (r0)] (k, u, g, t)).bind (a_back 106 1 3 [a_r (r0), a_i (x1), a_i (x2), v3] []) else none := by
  refine (X_aload_n (m := 106) (pc := 0) (n := 0) (by decide +kernel) rfl).trans ?_
  refine (X_call_vi (m := 106) (pc := 1) (q := 103) (y := 144) (n := 1) (as := [a_r (r0)]) (rest := []) (by decide +kernel) (by decide +kernel) (by decide +kernel) (by decide +kernel) rfl rfl (Nat.le_of_ble_eq_true rfl) (Nat.le_of_ble_eq_true rfl) rfl (by rw [show m_maxL 144 = 1 from by decide +kernel]; exact Nat.le_of_ble_eq_true rfl)).trans ?_
  exact ite_congr (by simp [a_rcv, show m_recv 144 = 10 from by decide +kernel]) (fun _ => rfl) (fun _ => rfl)
theorem B_X10_listener_4 {k : Nat → Nat × Nat} {u : Nat → Nat → Int} {g : Nat → Nat → Nat} {t : Nat × Nat × Nat} {r0 : Nat} {x1 : Int} {x2 : Int} {v3 : AV} : a_X 106 4 [a_r (r0), a_i (x1), a_i (x2), v3] [] (k, u, g, t) = if (k r0).1 = 10 then (a_m 145 [a_r (r0), a_i (x1)] (k, u, g, t)).bind (a_back 106 6 3 [a_r (r0), a_i (x1), a_i (x2), v3] []) else none := by
  refine (X_aload_n (m := 106) (pc := 4) (n := 0) (by decide +kernel) rfl).trans ?_
  refine (X_iload_n (m := 106) (pc := 5) (n := 1) (by decide +kernel) rfl).trans ?_
  refine (X_call_vi (m := 106) (pc := 6) (q := 247) (y := 145) (n := 2) (as := [a_r (r0), a_i (x1)]) (rest := []) (by decide +kernel) (by decide +kernel) (by decide +kernel) (by decide +kernel) rfl rfl (Nat.le_of_ble_eq_true rfl) (Nat.le_of_ble_eq_true rfl) rfl (by rw [show m_maxL 145 = 2 from by decide +kernel]; exact Nat.le_of_ble_eq_true rfl)).trans ?_
  exact ite_congr (by simp [a_rcv, show m_recv 145 = 10 from by decide +kernel]) (fun _ => rfl) (fun _ => rfl)
theorem B_X10_listener_9 {k : Nat → Nat × Nat} {u : Nat → Nat → Int} {g : Nat → Nat → Nat} {t : Nat × Nat × Nat} {r0 : Nat} {x1 : Int} {x2 : Int} {v3 : AV} : a_X 106 9 [a_r (r0), a_i (x1), a_i (x2), v3] [] (k, u, g, t) = if (k r0).1 = 10 then if (k (g r0 1)).1 = 5 then if 30 ≤ (k (g (g r0 1) 3)).1 ∧ 0 ≤ (x1 : Int) ∧ (x1 : Int) < ((k (g (g r0 1) 3)).2 : Int) then if (x2) = 0 then a_X 106 84 [a_r (r0), a_i (x1), a_i (x2), a_r (g (g (g r0 1) 3) (x1 : Int).toNat)] [] (k, u, g, t) else if (x2) = 1 then a_X 106 89 [a_r (r0), a_i (x1), a_i (x2), a_r (g (g (g r0 1) 3) (x1 : Int).toNat)] [] (k, u, g, t) else if (x2) = 2 then a_X 106 94 [a_r (r0), a_i (x1), a_i (x2), a_r (g (g (g r0 1) 3) (x1 : Int).toNat)] [] (k, u, g, t) else if (x2) = 3 then a_X 106 114 [a_r (r0), a_i (x1), a_i (x2), a_r (g (g (g r0 1) 3) (x1 : Int).toNat)] [] (k, u, g, t) else if (x2) = 4 then a_X 106 119 [a_r (r0), a_i (x1), a_i (x2), a_r (g (g (g r0 1) 3) (x1 : Int).toNat)] [] (k, u, g, t) else if (x2) = 5 then a_X 106 124 [a_r (r0), a_i (x1), a_i (x2), a_r (g (g (g r0 1) 3) (x1 : Int).toNat)] [] (k, u, g, t) else if (x2) = 6 then a_X 106 133 [a_r (r0), a_i (x1), a_i (x2), a_r (g (g (g r0 1) 3) (x1 : Int).toNat)] [] (k, u, g, t) else if (x2) = 7 then a_X 106 142 [a_r (r0), a_i (x1), a_i (x2), a_r (g (g (g r0 1) 3) (x1 : Int).toNat)] [] (k, u, g, t) else if (x2) = 8 then a_X 106 147 [a_r (r0), a_i (x1), a_i (x2), a_r (g (g (g r0 1) 3) (x1 : Int).toNat)] [] (k, u, g, t) else if (x2) = 9 then a_X 106 152 [a_r (r0), a_i (x1), a_i (x2), a_r (g (g (g r0 1) 3) (x1 : Int).toNat)] [] (k, u, g, t) else if (x2) = 10 then a_X 106 161 [a_r (r0), a_i (x1), a_i (x2), a_r (g (g (g r0 1) 3) (x1 : Int).toNat)] [] (k, u, g, t) else if (x2) = 11 then a_X 106 178 [a_r (r0), a_i (x1), a_i (x2), a_r (g (g (g r0 1) 3) (x1 : Int).toNat)] [] (k, u, g, t) else a_X 106 183 [a_r (r0), a_i (x1), a_i (x2), a_r (g (g (g r0 1) 3) (x1 : Int).toNat)] [] (k, u, g, t) else none else none else none := by
  refine (X_aload_n (m := 106) (pc := 9) (n := 0) (by decide +kernel) rfl).trans ?_
  refine (X_getR (m := 106) (pc := 10) (n := 19) (c := 10) (q := 1) (fi := true) (by decide +kernel) (by decide +kernel)).trans ?_
  refine ite_congr rfl (fun _ => ?_) (fun _ => rfl)
  refine (X_getR (m := 106) (pc := 13) (n := 250) (c := 5) (q := 3) (fi := true) (by decide +kernel) (by decide +kernel)).trans ?_
  refine ite_congr rfl (fun _ => ?_) (fun _ => rfl)
  refine (X_iload_n (m := 106) (pc := 16) (n := 1) (by decide +kernel) rfl).trans ?_
  refine (X_aaload (m := 106) (pc := 17)  (by decide +kernel) ).trans ?_
  refine ite_congr rfl (fun _ => ?_) (fun _ => rfl)
  refine (X_astore_n (m := 106) (pc := 18) (n := 3) (by decide +kernel) rfl (Nat.le_of_ble_eq_true rfl) rfl).trans ?_
  refine (X_iload_n (m := 106) (pc := 19) (n := 2) (by decide +kernel) rfl).trans ?_
  rw [X_table (m := 106) (pc := 20) (d := 163) (lo := 0) (hi := 11) (offs := #[64, 69, 74, 94, 99, 104, 113, 122, 127, 132, 141, 158]) (len := 64) (by decide +kernel)]
  by_cases hh : (x2) < 0 ∨ 11 < (x2)
  · rw [if_pos hh]
    rw [if_neg (by omega)]
    rw [if_neg (by omega)]
    rw [if_neg (by omega)]
    rw [if_neg (by omega)]
    rw [if_neg (by omega)]
    rw [if_neg (by omega)]
    rw [if_neg (by omega)]
    rw [if_neg (by omega)]
    rw [if_neg (by omega)]
    rw [if_neg (by omega)]
    rw [if_neg (by omega)]
    rw [if_neg (by omega)]
    rfl
  · rw [if_neg hh]
    generalize hx : (x2) = xx at hh ⊢
    have h9 : xx = 0 ∨ xx = 1 ∨ xx = 2 ∨ xx = 3 ∨ xx = 4 ∨ xx = 5 ∨ xx = 6 ∨ xx = 7 ∨ xx = 8 ∨ xx = 9 ∨ xx = 10 ∨ xx = 11 := by omega
    rcases h9 with rfl | rfl | rfl | rfl | rfl | rfl | rfl | rfl | rfl | rfl | rfl | rfl <;> rfl
theorem B_X10_listener_84 {k : Nat → Nat × Nat} {u : Nat → Nat → Int} {g : Nat → Nat → Nat} {t : Nat × Nat × Nat} {r0 : Nat} {x1 : Int} {x2 : Int} {r3 : Nat} : a_X 106 84 [a_r (r0), a_i (x1), a_i (x2), a_r (r3)] [] (k, u, g, t) = if (k r3).1 = 3 then some (.inl (some (a_i (u r3 0))), (k, u, g, t)) else none := by
  refine (X_aload_n (m := 106) (pc := 84) (n := 3) (by decide +kernel) rfl).trans ?_
  refine (X_getI (m := 106) (pc := 85) (n := 254) (c := 3) (q := 0) (ty := 1) (fi := false) (by decide +kernel) (by decide +kernel) (by decide +kernel)).trans ?_
  refine ite_congr rfl (fun _ => ?_) (fun _ => rfl)
  exact X_ireturn (m := 106) (pc := 88) (f := 1) (by decide +kernel) (by decide +kernel) rfl
theorem B_X10_listener_89 {k : Nat → Nat × Nat} {u : Nat → Nat → Int} {g : Nat → Nat → Nat} {t : Nat × Nat × Nat} {r0 : Nat} {x1 : Int} {x2 : Int} {r3 : Nat} : a_X 106 89 [a_r (r0), a_i (x1), a_i (x2), a_r (r3)] [] (k, u, g, t) = if (k r3).1 = 3 then some (.inl (some (a_i (u r3 1))), (k, u, g, t)) else none := by
  refine (X_aload_n (m := 106) (pc := 89) (n := 3) (by decide +kernel) rfl).trans ?_
  refine (X_getI (m := 106) (pc := 90) (n := 259) (c := 3) (q := 1) (ty := 1) (fi := false) (by decide +kernel) (by decide +kernel) (by decide +kernel)).trans ?_
  refine ite_congr rfl (fun _ => ?_) (fun _ => rfl)
  exact X_ireturn (m := 106) (pc := 93) (f := 1) (by decide +kernel) (by decide +kernel) rfl
theorem B_X10_listener_94 {k : Nat → Nat × Nat} {u : Nat → Nat → Int} {g : Nat → Nat → Nat} {t : Nat × Nat × Nat} {r0 : Nat} {x1 : Int} {x2 : Int} {r3 : Nat} : a_X 106 94 [a_r (r0), a_i (x1), a_i (x2), a_r (r3)] [] (k, u, g, t) = if (k r0).1 = 10 then if (k (g r0 1)).1 = 5 then if (k r3).1 = 3 then (a_m 17 [a_r (r3), a_i (u (g r0 1) 6)] (k, u, g, t)).bind (a_back 106 102 3 [a_r (r0), a_i (x1), a_i (x2), a_r (r3)] []) else none else none else none := by
  refine (X_aload_n (m := 106) (pc := 94) (n := 3) (by decide +kernel) rfl).trans ?_
  refine (X_aload_n (m := 106) (pc := 95) (n := 0) (by decide +kernel) rfl).trans ?_
  refine (X_getR (m := 106) (pc := 96) (n := 19) (c := 10) (q := 1) (fi := true) (by decide +kernel) (by decide +kernel)).trans ?_
  refine ite_congr rfl (fun _ => ?_) (fun _ => rfl)
  refine (X_getI (m := 106) (pc := 99) (n := 123) (c := 5) (q := 6) (ty := 1) (fi := false) (by decide +kernel) (by decide +kernel) (by decide +kernel)).trans ?_
  refine ite_congr rfl (fun _ => ?_) (fun _ => rfl)
  refine (X_call_vi (m := 106) (pc := 102) (q := 262) (y := 17) (n := 2) (as := [a_r (r3), a_i (u (g r0 1) 6)]) (rest := []) (by decide +kernel) (by decide +kernel) (by decide +kernel) (by decide +kernel) rfl rfl (Nat.le_of_ble_eq_true rfl) (Nat.le_of_ble_eq_true rfl) rfl (by rw [show m_maxL 17 = 3 from by decide +kernel]; exact Nat.le_of_ble_eq_true rfl)).trans ?_
  exact ite_congr (by simp [a_rcv, show m_recv 17 = 3 from by decide +kernel]) (fun _ => rfl) (fun _ => rfl)
theorem B_X10_listener_114 {k : Nat → Nat × Nat} {u : Nat → Nat → Int} {g : Nat → Nat → Nat} {t : Nat × Nat × Nat} {r0 : Nat} {x1 : Int} {x2 : Int} {r3 : Nat} : a_X 106 114 [a_r (r0), a_i (x1), a_i (x2), a_r (r3)] [] (k, u, g, t) = if (k r3).1 = 3 then some (.inl (some (a_i (u r3 5))), (k, u, g, t)) else none := by
  refine (X_aload_n (m := 106) (pc := 114) (n := 3) (by decide +kernel) rfl).trans ?_
  refine (X_getI (m := 106) (pc := 115) (n := 265) (c := 3) (q := 5) (ty := 1) (fi := false) (by decide +kernel) (by decide +kernel) (by decide +kernel)).trans ?_
  refine ite_congr rfl (fun _ => ?_) (fun _ => rfl)
  exact X_ireturn (m := 106) (pc := 118) (f := 1) (by decide +kernel) (by decide +kernel) rfl
theorem B_X10_listener_119 {k : Nat → Nat × Nat} {u : Nat → Nat → Int} {g : Nat → Nat → Nat} {t : Nat × Nat × Nat} {r0 : Nat} {x1 : Int} {x2 : Int} {r3 : Nat} : a_X 106 119 [a_r (r0), a_i (x1), a_i (x2), a_r (r3)] [] (k, u, g, t) = if (k r3).1 = 3 then some (.inl (some (a_i (u r3 6))), (k, u, g, t)) else none := by
  refine (X_aload_n (m := 106) (pc := 119) (n := 3) (by decide +kernel) rfl).trans ?_
  refine (X_getI (m := 106) (pc := 120) (n := 268) (c := 3) (q := 6) (ty := 1) (fi := false) (by decide +kernel) (by decide +kernel) (by decide +kernel)).trans ?_
  refine ite_congr rfl (fun _ => ?_) (fun _ => rfl)
  exact X_ireturn (m := 106) (pc := 123) (f := 1) (by decide +kernel) (by decide +kernel) rfl
theorem B_X10_listener_124 {k : Nat → Nat × Nat} {u : Nat → Nat → Int} {g : Nat → Nat → Nat} {t : Nat × Nat × Nat} {r0 : Nat} {x1 : Int} {x2 : Int} {r3 : Nat} : a_X 106 124 [a_r (r0), a_i (x1), a_i (x2), a_r (r3)] [] (k, u, g, t) = if (k r0).1 = 10 then if (k (g r0 1)).1 = 5 then (a_m 42 [a_r (g r0 1), a_i (x1)] (k, u, g, t)).bind (a_back 106 129 3 [a_r (r0), a_i (x1), a_i (x2), a_r (r3)] []) else none else none := by
  refine (X_aload_n (m := 106) (pc := 124) (n := 0) (by decide +kernel) rfl).trans ?_
  refine (X_getR (m := 106) (pc := 125) (n := 19) (c := 10) (q := 1) (fi := true) (by decide +kernel) (by decide +kernel)).trans ?_
  refine ite_congr rfl (fun _ => ?_) (fun _ => rfl)
  refine (X_iload_n (m := 106) (pc := 128) (n := 1) (by decide +kernel) rfl).trans ?_
  refine (X_call_vi (m := 106) (pc := 129) (q := 271) (y := 42) (n := 2) (as := [a_r (g r0 1), a_i (x1)]) (rest := []) (by decide +kernel) (by decide +kernel) (by decide +kernel) (by decide +kernel) rfl rfl (Nat.le_of_ble_eq_true rfl) (Nat.le_of_ble_eq_true rfl) rfl (by rw [show m_maxL 42 = 4 from by decide +kernel]; exact Nat.le_of_ble_eq_true rfl)).trans ?_
  exact ite_congr (by simp [a_rcv, show m_recv 42 = 5 from by decide +kernel]) (fun _ => rfl) (fun _ => rfl)
theorem B_X10_listener_133 {k : Nat → Nat × Nat} {u : Nat → Nat → Int} {g : Nat → Nat → Nat} {t : Nat × Nat × Nat} {r0 : Nat} {x1 : Int} {x2 : Int} {r3 : Nat} : a_X 106 133 [a_r (r0), a_i (x1), a_i (x2), a_r (r3)] [] (k, u, g, t) = if (k r0).1 = 10 then if (k (g r0 1)).1 = 5 then (a_m 43 [a_r (g r0 1), a_i (x1)] (k, u, g, t)).bind (a_back 106 138 3 [a_r (r0), a_i (x1), a_i (x2), a_r (r3)] []) else none else none := by
  refine (X_aload_n (m := 106) (pc := 133) (n := 0) (by decide +kernel) rfl).trans ?_
  refine (X_getR (m := 106) (pc := 134) (n := 19) (c := 10) (q := 1) (fi := true) (by decide +kernel) (by decide +kernel)).trans ?_
  refine ite_congr rfl (fun _ => ?_) (fun _ => rfl)
  refine (X_iload_n (m := 106) (pc := 137) (n := 1) (by decide +kernel) rfl).trans ?_
  refine (X_call_vi (m := 106) (pc := 138) (q := 275) (y := 43) (n := 2) (as := [a_r (g r0 1), a_i (x1)]) (rest := []) (by decide +kernel) (by decide +kernel) (by decide +kernel) (by decide +kernel) rfl rfl (Nat.le_of_ble_eq_true rfl) (Nat.le_of_ble_eq_true rfl) rfl (by rw [show m_maxL 43 = 4 from by decide +kernel]; exact Nat.le_of_ble_eq_true rfl)).trans ?_
  exact ite_congr (by simp [a_rcv, show m_recv 43 = 5 from by decide +kernel]) (fun _ => rfl) (fun _ => rfl)
theorem B_X10_listener_142 {k : Nat → Nat × Nat} {u : Nat → Nat → Int} {g : Nat → Nat → Nat} {t : Nat × Nat × Nat} {r0 : Nat} {x1 : Int} {x2 : Int} {r3 : Nat} : a_X 106 142 [a_r (r0), a_i (x1), a_i (x2), a_r (r3)] [] (k, u, g, t) = if (k r3).1 = 3 then some (.inl (some (a_i (u r3 7))), (k, u, g, t)) else none := by
  refine (X_aload_n (m := 106) (pc := 142) (n := 3) (by decide +kernel) rfl).trans ?_
  refine (X_getI (m := 106) (pc := 143) (n := 278) (c := 3) (q := 7) (ty := 1) (fi := false) (by decide +kernel) (by decide +kernel) (by decide +kernel)).trans ?_
  refine ite_congr rfl (fun _ => ?_) (fun _ => rfl)
  exact X_ireturn (m := 106) (pc := 146) (f := 1) (by decide +kernel) (by decide +kernel) rfl
theorem B_X10_listener_147 {k : Nat → Nat × Nat} {u : Nat → Nat → Int} {g : Nat → Nat → Nat} {t : Nat × Nat × Nat} {r0 : Nat} {x1 : Int} {x2 : Int} {r3 : Nat} : a_X 106 147 [a_r (r0), a_i (x1), a_i (x2), a_r (r3)] [] (k, u, g, t) = if (k r3).1 = 3 then some (.inl (some (a_i (u r3 8))), (k, u, g, t)) else none := by
  refine (X_aload_n (m := 106) (pc := 147) (n := 3) (by decide +kernel) rfl).trans ?_
  refine (X_getI (m := 106) (pc := 148) (n := 281) (c := 3) (q := 8) (ty := 1) (fi := false) (by decide +kernel) (by decide +kernel) (by decide +kernel)).trans ?_
  refine ite_congr rfl (fun _ => ?_) (fun _ => rfl)
  exact X_ireturn (m := 106) (pc := 151) (f := 1) (by decide +kernel) (by decide +kernel) rfl
theorem B_X10_listener_152 {k : Nat → Nat × Nat} {u : Nat → Nat → Int} {g : Nat → Nat → Nat} {t : Nat × Nat × Nat} {r0 : Nat} {x1 : Int} {x2 : Int} {r3 : Nat} : a_X 106 152 [a_r (r0), a_i (x1), a_i (x2), a_r (r3)] [] (k, u, g, t) = if (k r0).1 = 10 then if (k (g r0 1)).1 = 5 then (a_m 45 [a_r (g r0 1), a_i (x1)] (k, u, g, t)).bind (a_back 106 157 3 [a_r (r0), a_i (x1), a_i (x2), a_r (r3)] []) else none else none := by
  refine (X_aload_n (m := 106) (pc := 152) (n := 0) (by decide +kernel) rfl).trans ?_
  refine (X_getR (m := 106) (pc := 153) (n := 19) (c := 10) (q := 1) (fi := true) (by decide +kernel) (by decide +kernel)).trans ?_
  refine ite_congr rfl (fun _ => ?_) (fun _ => rfl)
  refine (X_iload_n (m := 106) (pc := 156) (n := 1) (by decide +kernel) rfl).trans ?_
  refine (X_call_vi (m := 106) (pc := 157) (q := 284) (y := 45) (n := 2) (as := [a_r (g r0 1), a_i (x1)]) (rest := []) (by decide +kernel) (by decide +kernel) (by decide +kernel) (by decide +kernel) rfl rfl (Nat.le_of_ble_eq_true rfl) (Nat.le_of_ble_eq_true rfl) rfl (by rw [show m_maxL 45 = 2 from by decide +kernel]; exact Nat.le_of_ble_eq_true rfl)).trans ?_
  exact ite_congr (by simp [a_rcv, show m_recv 45 = 5 from by decide +kernel]) (fun _ => rfl) (fun _ => rfl)
theorem B_X10_listener_161 {k : Nat → Nat × Nat} {u : Nat → Nat → Int} {g : Nat → Nat → Nat} {t : Nat × Nat × Nat} {r0 : Nat} {x1 : Int} {x2 : Int} {r3 : Nat} : a_X 106 161 [a_r (r0), a_i (x1), a_i (x2), a_r (r3)] [] (k, u, g, t) = if (k r0).1 = 10 then if (k (g r0 1)).1 = 5 then (a_m 46 [a_r (g r0 1), a_i (x1)] (k, u, g, t)).bind (a_back 106 166 3 [a_r (r0), a_i (x1), a_i (x2), a_r (r3)] []) else none else none := by
  refine (X_aload_n (m := 106) (pc := 161) (n := 0) (by decide +kernel) rfl).trans ?_
  refine (X_getR (m := 106) (pc := 162) (n := 19) (c := 10) (q := 1) (fi := true) (by decide +kernel) (by decide +kernel)).trans ?_
  refine ite_congr rfl (fun _ => ?_) (fun _ => rfl)
  refine (X_iload_n (m := 106) (pc := 165) (n := 1) (by decide +kernel) rfl).trans ?_
  refine (X_call_vi (m := 106) (pc := 166) (q := 287) (y := 46) (n := 2) (as := [a_r (g r0 1), a_i (x1)]) (rest := []) (by decide +kernel) (by decide +kernel) (by decide +kernel) (by decide +kernel) rfl rfl (Nat.le_of_ble_eq_true rfl) (Nat.le_of_ble_eq_true rfl) rfl (by rw [show m_maxL 46 = 2 from by decide +kernel]; exact Nat.le_of_ble_eq_true rfl)).trans ?_
  exact ite_congr (by simp [a_rcv, show m_recv 46 = 5 from by decide +kernel]) (fun _ => rfl) (fun _ => rfl)
theorem B_X10_listener_178 {k : Nat → Nat × Nat} {u : Nat → Nat → Int} {g : Nat → Nat → Nat} {t : Nat × Nat × Nat} {r0 : Nat} {x1 : Int} {x2 : Int} {r3 : Nat} : a_X 106 178 [a_r (r0), a_i (x1), a_i (x2), a_r (r3)] [] (k, u, g, t) = if (k r3).1 = 3 then some (.inl (some (a_i (u r3 9))), (k, u, g, t)) else none := by
  refine (X_aload_n (m := 106) (pc := 178) (n := 3) (by decide +kernel) rfl).trans ?_
  refine (X_getI (m := 106) (pc := 179) (n := 290) (c := 3) (q := 9) (ty := 1) (fi := false) (by decide +kernel) (by decide +kernel) (by decide +kernel)).trans ?_
  refine ite_congr rfl (fun _ => ?_) (fun _ => rfl)
  exact X_ireturn (m := 106) (pc := 182) (f := 1) (by decide +kernel) (by decide +kernel) rfl
theorem B_X10_listener_183 {k : Nat → Nat × Nat} {u : Nat → Nat → Int} {g : Nat → Nat → Nat} {t : Nat × Nat × Nat} {r0 : Nat} {x1 : Int} {x2 : Int} {r3 : Nat} : a_X 106 183 [a_r (r0), a_i (x1), a_i (x2), a_r (r3)] [] (k, u, g, t) = some (.inr 3, (k, u, g, (t.1, t.2.1 + 1, t.2.2 + 6))) := by
  exact X_throw (m := 106) (pc := 183) (n := 78) (e := 3) (by decide +kernel) (by decide +kernel) (Nat.le_of_ble_eq_true rfl) (by decide +kernel)
theorem B_X10_listener_105 {k : Nat → Nat × Nat} {u : Nat → Nat → Int} {g : Nat → Nat → Nat} {t : Nat × Nat × Nat} {r0 : Nat} {x1 : Int} {x2 : Int} {r3 : Nat} {y0 : Int} : a_X 106 105 [a_r (r0), a_i (x1), a_i (x2), a_r (r3)] [a_i (y0)] (k, u, g, t) = if (y0 : Int) = 0 then some (.inl (some (a_i (0))), (k, u, g, t)) else some (.inl (some (a_i (1))), (k, u, g, t)) := by
  refine (X_if_eq (m := 106) (pc := 105) (off := 7) (tg := 112) (by decide +kernel) (by decide +kernel)).trans ?_
  refine ite_congr rfl (fun _ => ?_) (fun _ => ?_)
  · refine (X_iconst (m := 106) (pc := 112) (n := 0) (by decide +kernel) ).trans ?_
    exact X_ireturn (m := 106) (pc := 113) (f := 1) (by decide +kernel) (by decide +kernel) rfl
  · refine (X_iconst (m := 106) (pc := 108) (n := 1) (by decide +kernel) ).trans ?_
    refine (X_goto (m := 106) (pc := 109) (off := 4) (tg := 113) (by decide +kernel) (by decide +kernel)).trans ?_
    exact X_ireturn (m := 106) (pc := 113) (f := 1) (by decide +kernel) (by decide +kernel) rfl
theorem B_X10_listener_132 {k : Nat → Nat × Nat} {u : Nat → Nat → Int} {g : Nat → Nat → Nat} {t : Nat × Nat × Nat} {r0 : Nat} {x1 : Int} {x2 : Int} {r3 : Nat} {y0 : Int} : a_X 106 132 [a_r (r0), a_i (x1), a_i (x2), a_r (r3)] [a_i (y0)] (k, u, g, t) = some (.inl (some (a_i (y0))), (k, u, g, t)) := by
  exact X_ireturn (m := 106) (pc := 132) (f := 1) (by decide +kernel) (by decide +kernel) rfl
theorem B_X10_listener_141 {k : Nat → Nat × Nat} {u : Nat → Nat → Int} {g : Nat → Nat → Nat} {t : Nat × Nat × Nat} {r0 : Nat} {x1 : Int} {x2 : Int} {r3 : Nat} {y0 : Int} : a_X 106 141 [a_r (r0), a_i (x1), a_i (x2), a_r (r3)] [a_i (y0)] (k, u, g, t) = some (.inl (some (a_i (y0))), (k, u, g, t)) := by
  exact X_ireturn (m := 106) (pc := 141) (f := 1) (by decide +kernel) (by decide +kernel) rfl
theorem B_X10_listener_160 {k : Nat → Nat × Nat} {u : Nat → Nat → Int} {g : Nat → Nat → Nat} {t : Nat × Nat × Nat} {r0 : Nat} {x1 : Int} {x2 : Int} {r3 : Nat} {y0 : Int} : a_X 106 160 [a_r (r0), a_i (x1), a_i (x2), a_r (r3)] [a_i (y0)] (k, u, g, t) = some (.inl (some (a_i (y0))), (k, u, g, t)) := by
  exact X_ireturn (m := 106) (pc := 160) (f := 1) (by decide +kernel) (by decide +kernel) rfl
theorem B_X10_listener_169 {k : Nat → Nat × Nat} {u : Nat → Nat → Int} {g : Nat → Nat → Nat} {t : Nat × Nat × Nat} {r0 : Nat} {x1 : Int} {x2 : Int} {r3 : Nat} {y0 : Int} : a_X 106 169 [a_r (r0), a_i (x1), a_i (x2), a_r (r3)] [a_i (y0)] (k, u, g, t) = if (y0 : Int) = 0 then some (.inl (some (a_i (0))), (k, u, g, t)) else some (.inl (some (a_i (1))), (k, u, g, t)) := by
  refine (X_if_eq (m := 106) (pc := 169) (off := 7) (tg := 176) (by decide +kernel) (by decide +kernel)).trans ?_
  refine ite_congr rfl (fun _ => ?_) (fun _ => ?_)
  · refine (X_iconst (m := 106) (pc := 176) (n := 0) (by decide +kernel) ).trans ?_
    exact X_ireturn (m := 106) (pc := 177) (f := 1) (by decide +kernel) (by decide +kernel) rfl
  · refine (X_iconst (m := 106) (pc := 172) (n := 1) (by decide +kernel) ).trans ?_
    refine (X_goto (m := 106) (pc := 173) (off := 4) (tg := 177) (by decide +kernel) (by decide +kernel)).trans ?_
    exact X_ireturn (m := 106) (pc := 177) (f := 1) (by decide +kernel) (by decide +kernel) rfl
theorem E_X10_gap {σ : AS} {r0 : Nat} {x1 : Int} {x2 : Int} {x3 : Int} : a_m 107 [a_r (r0), a_i (x1), a_i (x2), a_i (x3)] σ = a_X 107 0 [a_r (r0), a_i (x1), a_i (x2), a_i (x3), a_x false] [] σ := a_m_eq (by rw [a_entry, show m_maxL 107 = 5 from by decide +kernel]; rfl)
theorem B_X10_gap_0 {k : Nat → Nat × Nat} {u : Nat → Nat → Int} {g : Nat → Nat → Nat} {t : Nat × Nat × Nat} {r0 : Nat} {x1 : Int} {x2 : Int} {x3 : Int} {v4 : AV} : a_X 107 0 [a_r (r0), a_i (x1), a_i (x2), a_i (x3), v4] [] (k, u, g, t) = if (k r0).1 = 10 then (a_m 144 [a_r (r0)] (k, u, g, t)).bind (a_back 107 1 3 [a_r (r0), a_i (x1), a_i (x2), a_i (x3), v4] []) else none := by
  refine (X_aload_n (m := 107) (pc := 0) (n := 0) (by decide +kernel) rfl).trans ?_
  refine (X_call_vi (m := 107) (pc := 1) (q := 103) (y := 144) (n := 1) (as := [a_r (r0)]) (rest := []) (by decide +kernel) (by decide +kernel) (by decide +kernel) (by decide +kernel) rfl rfl (Nat.le_of_ble_eq_true rfl) (Nat.le_of_ble_eq_true rfl) rfl (by rw [show m_maxL 144 = 1 from by decide +kernel]; exact Nat.le_of_ble_eq_true rfl)).trans ?_
  exact ite_congr (by simp [a_rcv, show m_recv 144 = 10 from by decide +kernel]) (fun _ => rfl) (fun _ => rfl)
theorem B_X10_gap_4 {k : Nat → Nat × Nat} {u : Nat → Nat → Int} {g : Nat → Nat → Nat} {t : Nat × Nat × Nat} {r0 : Nat} {x1 : Int} {x2 : Int} {x3 : Int} {v4 : AV} : a_X 107 4 [a_r (r0), a_i (x1), a_i (x2), a_i (x3), v4] [] (k, u, g, t) = if (k r0).1 = 10 then (a_m 145 [a_r (r0), a_i (x1)] (k, u, g, t)).bind (a_back 107 6 3 [a_r (r0), a_i (x1), a_i (x2), a_i (x3), v4] []) else none := by
  refine (X_aload_n (m := 107) (pc := 4) (n := 0) (by decide +kernel) rfl).trans ?_
  refine (X_iload_n (m := 107) (pc := 5) (n := 1) (by decide +kernel) rfl).trans ?_
  refine (X_call_vi (m := 107) (pc := 6) (q := 247) (y := 145) (n := 2) (as := [a_r (r0), a_i (x1)]) (rest := []) (by decide +kernel) (by decide +kernel) (by decide +kernel) (by decide +kernel) rfl rfl (Nat.le_of_ble_eq_true rfl) (Nat.le_of_ble_eq_true rfl) rfl (by rw [show m_maxL 145 = 2 from by decide +kernel]; exact Nat.le_of_ble_eq_true rfl)).trans ?_
  exact ite_congr (by simp [a_rcv, show m_recv 145 = 10 from by decide +kernel]) (fun _ => rfl) (fun _ => rfl)
theorem B_X10_gap_9 {k : Nat → Nat × Nat} {u : Nat → Nat → Int} {g : Nat → Nat → Nat} {t : Nat × Nat × Nat} {r0 : Nat} {x1 : Int} {x2 : Int} {x3 : Int} {v4 : AV} : a_X 107 9 [a_r (r0), a_i (x1), a_i (x2), a_i (x3), v4] [] (k, u, g, t) = if (k r0).1 = 10 then (a_m 149 [a_r (r0), a_i (x3), a_i (0), a_i (1)] (k, u, g, t)).bind (a_back 107 13 3 [a_r (r0), a_i (x1), a_i (x2), a_i (x3), v4] []) else none := by
  refine (X_aload_n (m := 107) (pc := 9) (n := 0) (by decide +kernel) rfl).trans ?_
  refine (X_iload_n (m := 107) (pc := 10) (n := 3) (by decide +kernel) rfl).trans ?_
  refine (X_iconst (m := 107) (pc := 11) (n := 0) (by decide +kernel) ).trans ?_
  refine (X_iconst (m := 107) (pc := 12) (n := 1) (by decide +kernel) ).trans ?_
  refine (X_call_vi (m := 107) (pc := 13) (q := 163) (y := 149) (n := 4) (as := [a_r (r0), a_i (x3), a_i (0), a_i (1)]) (rest := []) (by decide +kernel) (by decide +kernel) (by decide +kernel) (by decide +kernel) rfl rfl (Nat.le_of_ble_eq_true rfl) (Nat.le_of_ble_eq_true rfl) rfl (by rw [show m_maxL 149 = 4 from by decide +kernel]; exact Nat.le_of_ble_eq_true rfl)).trans ?_
  exact ite_congr (by simp [a_rcv, show m_recv 149 = 10 from by decide +kernel]) (fun _ => rfl) (fun _ => rfl)
theorem B_X10_gap_16 {k : Nat → Nat × Nat} {u : Nat → Nat → Int} {g : Nat → Nat → Nat} {t : Nat × Nat × Nat} {r0 : Nat} {x1 : Int} {x2 : Int} {x3 : Int} {v4 : AV} : a_X 107 16 [a_r (r0), a_i (x1), a_i (x2), a_i (x3), v4] [] (k, u, g, t) = if (k r0).1 = 10 then if (k (g r0 1)).1 = 5 then if 30 ≤ (k (g (g r0 1) 3)).1 ∧ 0 ≤ (x1 : Int) ∧ (x1 : Int) < ((k (g (g r0 1) 3)).2 : Int) then if (x2 : Int) < 0 then some (.inl (some (a_i (-1))), (k, u, g, t)) else if (k (g (g (g r0 1) 3) (x1 : Int).toNat)).1 = 3 then if (x2 : Int) < (u (g (g (g r0 1) 3) (x1 : Int).toNat) 1 : Int) then if (x3 : Int) ≠ 0 then if (k (g (g (g r0 1) 3) (x1 : Int).toNat)).1 = 3 then if ((k (g (g (g (g r0 1) 3) (x1 : Int).toNat) 3)).1 = 20 ∨ (k (g (g (g (g r0 1) 3) (x1 : Int).toNat) 3)).1 = 24) ∧ 0 ≤ (x2 : Int) ∧ (x2 : Int) < ((k (g (g (g (g r0 1) 3) (x1 : Int).toNat) 3)).2 : Int) then some (.inl (some (a_i (u (g (g (g (g r0 1) 3) (x1 : Int).toNat) 3) (x2 : Int).toNat))), (k, u, g, t)) else none else none else if (k (g (g (g r0 1) 3) (x1 : Int).toNat)).1 = 3 then if ((k (g (g (g (g r0 1) 3) (x1 : Int).toNat) 2)).1 = 20 ∨ (k (g (g (g (g r0 1) 3) (x1 : Int).toNat) 2)).1 = 24) ∧ 0 ≤ (x2 : Int) ∧ (x2 : Int) < ((k (g (g (g (g r0 1) 3) (x1 : Int).toNat) 2)).2 : Int) then some (.inl (some (a_i (u (g (g (g (g r0 1) 3) (x1 : Int).toNat) 2) (x2 : Int).toNat))), (k, u, g, t)) else none else none else some (.inl (some (a_i (-1))), (k, u, g, t)) else none else none else none else none := by
  refine (X_aload_n (m := 107) (pc := 16) (n := 0) (by decide +kernel) rfl).trans ?_
  refine (X_getR (m := 107) (pc := 17) (n := 19) (c := 10) (q := 1) (fi := true) (by decide +kernel) (by decide +kernel)).trans ?_
  refine ite_congr rfl (fun _ => ?_) (fun _ => rfl)
  refine (X_getR (m := 107) (pc := 20) (n := 250) (c := 5) (q := 3) (fi := true) (by decide +kernel) (by decide +kernel)).trans ?_
  refine ite_congr rfl (fun _ => ?_) (fun _ => rfl)
  refine (X_iload_n (m := 107) (pc := 23) (n := 1) (by decide +kernel) rfl).trans ?_
  refine (X_aaload (m := 107) (pc := 24)  (by decide +kernel) ).trans ?_
  refine ite_congr rfl (fun _ => ?_) (fun _ => rfl)
  refine (X_astore (m := 107) (pc := 25) (n := 4) (by decide +kernel) rfl (Nat.le_of_ble_eq_true rfl) rfl).trans ?_
  refine (X_iload_n (m := 107) (pc := 27) (n := 2) (by decide +kernel) rfl).trans ?_
  refine (X_if_lt (m := 107) (pc := 28) (off := 12) (tg := 40) (by decide +kernel) (by decide +kernel)).trans ?_
  refine ite_congr rfl (fun _ => ?_) (fun _ => ?_)
  · refine (X_iconst (m := 107) (pc := 40) (n := -1) (by decide +kernel) ).trans ?_
    exact X_ireturn (m := 107) (pc := 41) (f := 1) (by decide +kernel) (by decide +kernel) rfl
  · refine (X_iload_n (m := 107) (pc := 31) (n := 2) (by decide +kernel) rfl).trans ?_
    refine (X_aload (m := 107) (pc := 32) (n := 4) (by decide +kernel) rfl).trans ?_
    refine (X_getI (m := 107) (pc := 34) (n := 259) (c := 3) (q := 1) (ty := 1) (fi := false) (by decide +kernel) (by decide +kernel) (by decide +kernel)).trans ?_
    refine ite_congr rfl (fun _ => ?_) (fun _ => rfl)
    refine (X_ic_lt (m := 107) (pc := 37) (off := 5) (tg := 42) (by decide +kernel) (by decide +kernel)).trans ?_
    refine ite_congr rfl (fun _ => ?_) (fun _ => ?_)
    · refine (X_iload_n (m := 107) (pc := 42) (n := 3) (by decide +kernel) rfl).trans ?_
      refine (X_if_ne (m := 107) (pc := 43) (off := 13) (tg := 56) (by decide +kernel) (by decide +kernel)).trans ?_
      refine ite_congr rfl (fun _ => ?_) (fun _ => ?_)
      · refine (X_aload (m := 107) (pc := 56) (n := 4) (by decide +kernel) rfl).trans ?_
        refine (X_getR (m := 107) (pc := 58) (n := 296) (c := 3) (q := 3) (fi := true) (by decide +kernel) (by decide +kernel)).trans ?_
        refine ite_congr rfl (fun _ => ?_) (fun _ => rfl)
        refine (X_iload_n (m := 107) (pc := 61) (n := 2) (by decide +kernel) rfl).trans ?_
        refine (X_iaload (m := 107) (pc := 62)  (by decide +kernel) ).trans ?_
        refine ite_congr rfl (fun _ => ?_) (fun _ => rfl)
        exact X_ireturn (m := 107) (pc := 63) (f := 1) (by decide +kernel) (by decide +kernel) rfl
      · refine (X_aload (m := 107) (pc := 46) (n := 4) (by decide +kernel) rfl).trans ?_
        refine (X_getR (m := 107) (pc := 48) (n := 293) (c := 3) (q := 2) (fi := true) (by decide +kernel) (by decide +kernel)).trans ?_
        refine ite_congr rfl (fun _ => ?_) (fun _ => rfl)
        refine (X_iload_n (m := 107) (pc := 51) (n := 2) (by decide +kernel) rfl).trans ?_
        refine (X_iaload (m := 107) (pc := 52)  (by decide +kernel) ).trans ?_
        refine ite_congr rfl (fun _ => ?_) (fun _ => rfl)
        refine (X_goto (m := 107) (pc := 53) (off := 10) (tg := 63) (by decide +kernel) (by decide +kernel)).trans ?_
        exact X_ireturn (m := 107) (pc := 63) (f := 1) (by decide +kernel) (by decide +kernel) rfl
    · refine (X_iconst (m := 107) (pc := 40) (n := -1) (by decide +kernel) ).trans ?_
      exact X_ireturn (m := 107) (pc := 41) (f := 1) (by decide +kernel) (by decide +kernel) rfl
theorem E_X10_hasHeard {σ : AS} {r0 : Nat} {x1 : Int} {x2 : Int} : a_m 108 [a_r (r0), a_i (x1), a_i (x2)] σ = a_X 108 0 [a_r (r0), a_i (x1), a_i (x2)] [] σ := a_m_eq (by rw [a_entry, show m_maxL 108 = 3 from by decide +kernel]; rfl)
theorem B_X10_hasHeard_0 {k : Nat → Nat × Nat} {u : Nat → Nat → Int} {g : Nat → Nat → Nat} {t : Nat × Nat × Nat} {r0 : Nat} {x1 : Int} {x2 : Int} : a_X 108 0 [a_r (r0), a_i (x1), a_i (x2)] [] (k, u, g, t) = if (k r0).1 = 10 then (a_m 144 [a_r (r0)] (k, u, g, t)).bind (a_back 108 1 3 [a_r (r0), a_i (x1), a_i (x2)] []) else none := by
  refine (X_aload_n (m := 108) (pc := 0) (n := 0) (by decide +kernel) rfl).trans ?_
  refine (X_call_vi (m := 108) (pc := 1) (q := 103) (y := 144) (n := 1) (as := [a_r (r0)]) (rest := []) (by decide +kernel) (by decide +kernel) (by decide +kernel) (by decide +kernel) rfl rfl (Nat.le_of_ble_eq_true rfl) (Nat.le_of_ble_eq_true rfl) rfl (by rw [show m_maxL 144 = 1 from by decide +kernel]; exact Nat.le_of_ble_eq_true rfl)).trans ?_
  exact ite_congr (by simp [a_rcv, show m_recv 144 = 10 from by decide +kernel]) (fun _ => rfl) (fun _ => rfl)
theorem B_X10_hasHeard_4 {k : Nat → Nat × Nat} {u : Nat → Nat → Int} {g : Nat → Nat → Nat} {t : Nat × Nat × Nat} {r0 : Nat} {x1 : Int} {x2 : Int} : a_X 108 4 [a_r (r0), a_i (x1), a_i (x2)] [] (k, u, g, t) = if (k r0).1 = 10 then (a_m 145 [a_r (r0), a_i (x1)] (k, u, g, t)).bind (a_back 108 6 3 [a_r (r0), a_i (x1), a_i (x2)] []) else none := by
  refine (X_aload_n (m := 108) (pc := 4) (n := 0) (by decide +kernel) rfl).trans ?_
  refine (X_iload_n (m := 108) (pc := 5) (n := 1) (by decide +kernel) rfl).trans ?_
  refine (X_call_vi (m := 108) (pc := 6) (q := 247) (y := 145) (n := 2) (as := [a_r (r0), a_i (x1)]) (rest := []) (by decide +kernel) (by decide +kernel) (by decide +kernel) (by decide +kernel) rfl rfl (Nat.le_of_ble_eq_true rfl) (Nat.le_of_ble_eq_true rfl) rfl (by rw [show m_maxL 145 = 2 from by decide +kernel]; exact Nat.le_of_ble_eq_true rfl)).trans ?_
  exact ite_congr (by simp [a_rcv, show m_recv 145 = 10 from by decide +kernel]) (fun _ => rfl) (fun _ => rfl)
theorem B_X10_hasHeard_9 {k : Nat → Nat × Nat} {u : Nat → Nat → Int} {g : Nat → Nat → Nat} {t : Nat × Nat × Nat} {r0 : Nat} {x1 : Int} {x2 : Int} : a_X 108 9 [a_r (r0), a_i (x1), a_i (x2)] [] (k, u, g, t) = if (k r0).1 = 10 then if (k (g r0 1)).1 = 5 then (a_m 40 [a_r (g r0 1), a_i (x1), a_i (x2)] (k, u, g, t)).bind (a_back 108 15 3 [a_r (r0), a_i (x1), a_i (x2)] []) else none else none := by
  refine (X_aload_n (m := 108) (pc := 9) (n := 0) (by decide +kernel) rfl).trans ?_
  refine (X_getR (m := 108) (pc := 10) (n := 19) (c := 10) (q := 1) (fi := true) (by decide +kernel) (by decide +kernel)).trans ?_
  refine ite_congr rfl (fun _ => ?_) (fun _ => rfl)
  refine (X_iload_n (m := 108) (pc := 13) (n := 1) (by decide +kernel) rfl).trans ?_
  refine (X_iload_n (m := 108) (pc := 14) (n := 2) (by decide +kernel) rfl).trans ?_
  refine (X_call_vi (m := 108) (pc := 15) (q := 299) (y := 40) (n := 3) (as := [a_r (g r0 1), a_i (x1), a_i (x2)]) (rest := []) (by decide +kernel) (by decide +kernel) (by decide +kernel) (by decide +kernel) rfl rfl (Nat.le_of_ble_eq_true rfl) (Nat.le_of_ble_eq_true rfl) rfl (by rw [show m_maxL 40 = 3 from by decide +kernel]; exact Nat.le_of_ble_eq_true rfl)).trans ?_
  exact ite_congr (by simp [a_rcv, show m_recv 40 = 5 from by decide +kernel]) (fun _ => rfl) (fun _ => rfl)
theorem B_X10_hasHeard_18 {k : Nat → Nat × Nat} {u : Nat → Nat → Int} {g : Nat → Nat → Nat} {t : Nat × Nat × Nat} {r0 : Nat} {x1 : Int} {x2 : Int} {y0 : Int} : a_X 108 18 [a_r (r0), a_i (x1), a_i (x2)] [a_i (y0)] (k, u, g, t) = if a_fit 2 (y0) = true then some (.inl (some (a_i (y0))), (k, u, g, t)) else none := by
  exact X_ireturnF (m := 108) (pc := 18) (f := 2) (by decide +kernel) (by decide +kernel)
theorem E_X10_missing {σ : AS} {r0 : Nat} {x1 : Int} {x2 : Int} : a_m 109 [a_r (r0), a_i (x1), a_i (x2)] σ = a_X 109 0 [a_r (r0), a_i (x1), a_i (x2), a_x false, a_x false] [] σ := a_m_eq (by rw [a_entry, show m_maxL 109 = 5 from by decide +kernel]; rfl)
theorem B_X10_missing_0 {k : Nat → Nat × Nat} {u : Nat → Nat → Int} {g : Nat → Nat → Nat} {t : Nat × Nat × Nat} {r0 : Nat} {x1 : Int} {x2 : Int} {v3 : AV} {v4 : AV} : a_X 109 0 [a_r (r0), a_i (x1), a_i (x2), v3, v4] [] (k, u, g, t) = if (k r0).1 = 10 then (a_m 144 [a_r (r0)] (k, u, g, t)).bind (a_back 109 1 3 [a_r (r0), a_i (x1), a_i (x2), v3, v4] []) else none := by
  refine (X_aload_n (m := 109) (pc := 0) (n := 0) (by decide +kernel) rfl).trans ?_
  refine (X_call_vi (m := 109) (pc := 1) (q := 103) (y := 144) (n := 1) (as := [a_r (r0)]) (rest := []) (by decide +kernel) (by decide +kernel) (by decide +kernel) (by decide +kernel) rfl rfl (Nat.le_of_ble_eq_true rfl) (Nat.le_of_ble_eq_true rfl) rfl (by rw [show m_maxL 144 = 1 from by decide +kernel]; exact Nat.le_of_ble_eq_true rfl)).trans ?_
  exact ite_congr (by simp [a_rcv, show m_recv 144 = 10 from by decide +kernel]) (fun _ => rfl) (fun _ => rfl)
theorem B_X10_missing_4 {k : Nat → Nat × Nat} {u : Nat → Nat → Int} {g : Nat → Nat → Nat} {t : Nat × Nat × Nat} {r0 : Nat} {x1 : Int} {x2 : Int} {v3 : AV} {v4 : AV} : a_X 109 4 [a_r (r0), a_i (x1), a_i (x2), v3, v4] [] (k, u, g, t) = if (k r0).1 = 10 then (a_m 145 [a_r (r0), a_i (x1)] (k, u, g, t)).bind (a_back 109 6 3 [a_r (r0), a_i (x1), a_i (x2), v3, v4] []) else none := by
  refine (X_aload_n (m := 109) (pc := 4) (n := 0) (by decide +kernel) rfl).trans ?_
  refine (X_iload_n (m := 109) (pc := 5) (n := 1) (by decide +kernel) rfl).trans ?_
  refine (X_call_vi (m := 109) (pc := 6) (q := 247) (y := 145) (n := 2) (as := [a_r (r0), a_i (x1)]) (rest := []) (by decide +kernel) (by decide +kernel) (by decide +kernel) (by decide +kernel) rfl rfl (Nat.le_of_ble_eq_true rfl) (Nat.le_of_ble_eq_true rfl) rfl (by rw [show m_maxL 145 = 2 from by decide +kernel]; exact Nat.le_of_ble_eq_true rfl)).trans ?_
  exact ite_congr (by simp [a_rcv, show m_recv 145 = 10 from by decide +kernel]) (fun _ => rfl) (fun _ => rfl)
theorem B_X10_missing_9 {k : Nat → Nat × Nat} {u : Nat → Nat → Int} {g : Nat → Nat → Nat} {t : Nat × Nat × Nat} {r0 : Nat} {x1 : Int} {x2 : Int} {v3 : AV} {v4 : AV} : a_X 109 9 [a_r (r0), a_i (x1), a_i (x2), v3, v4] [] (k, u, g, t) = a_X 109 14 [a_r (r0), a_i (x1), a_i (x2), a_i (x2), a_i (1)] [] (k, u, g, t) := by
  refine (X_iload_n (m := 109) (pc := 9) (n := 2) (by decide +kernel) rfl).trans ?_
  refine (X_istore_n (m := 109) (pc := 10) (n := 3) (by decide +kernel) rfl (Nat.le_of_ble_eq_true rfl) rfl).trans ?_
  refine (X_iconst (m := 109) (pc := 11) (n := 1) (by decide +kernel) ).trans ?_
  refine (X_istore (m := 109) (pc := 12) (n := 4) (by decide +kernel) rfl (Nat.le_of_ble_eq_true rfl) rfl).trans ?_
  rfl
theorem B_X10_missing_14 {k : Nat → Nat × Nat} {u : Nat → Nat → Int} {g : Nat → Nat → Nat} {t : Nat × Nat × Nat} {r0 : Nat} {x1 : Int} {x2 : Int} {x3 : Int} {x4 : Int} : a_X 109 14 [a_r (r0), a_i (x1), a_i (x2), a_i (x3), a_i (x4)] [] (k, u, g, t) = if (x4 : Int) > (99 : Int) then some (.inl (some (a_i (-1))), (k, u, g, t)) else if (k r0).1 = 10 then if (k (g r0 1)).1 = 5 then (a_m 41 [a_r (g r0 1), a_i (x1), a_i (x4)] (k, u, g, t)).bind (a_back 109 28 3 [a_r (r0), a_i (x1), a_i (x2), a_i (x3), a_i (x4)] []) else none else none := by
  refine (X_iload (m := 109) (pc := 14) (n := 4) (by decide +kernel) rfl).trans ?_
  refine (X_bipush (m := 109) (pc := 16) (n := 99) (by decide +kernel) ).trans ?_
  refine (X_ic_gt (m := 109) (pc := 18) (off := 32) (tg := 50) (by decide +kernel) (by decide +kernel)).trans ?_
  refine ite_congr rfl (fun _ => ?_) (fun _ => ?_)
  · refine (X_iconst (m := 109) (pc := 50) (n := -1) (by decide +kernel) ).trans ?_
    exact X_ireturn (m := 109) (pc := 51) (f := 1) (by decide +kernel) (by decide +kernel) rfl
  · refine (X_aload_n (m := 109) (pc := 21) (n := 0) (by decide +kernel) rfl).trans ?_
    refine (X_getR (m := 109) (pc := 22) (n := 19) (c := 10) (q := 1) (fi := true) (by decide +kernel) (by decide +kernel)).trans ?_
    refine ite_congr rfl (fun _ => ?_) (fun _ => rfl)
    refine (X_iload_n (m := 109) (pc := 25) (n := 1) (by decide +kernel) rfl).trans ?_
    refine (X_iload (m := 109) (pc := 26) (n := 4) (by decide +kernel) rfl).trans ?_
    refine (X_call_vi (m := 109) (pc := 28) (q := 303) (y := 41) (n := 3) (as := [a_r (g r0 1), a_i (x1), a_i (x4)]) (rest := []) (by decide +kernel) (by decide +kernel) (by decide +kernel) (by decide +kernel) rfl rfl (Nat.le_of_ble_eq_true rfl) (Nat.le_of_ble_eq_true rfl) rfl (by rw [show m_maxL 41 = 3 from by decide +kernel]; exact Nat.le_of_ble_eq_true rfl)).trans ?_
    exact ite_congr (by simp [a_rcv, show m_recv 41 = 5 from by decide +kernel]) (fun _ => rfl) (fun _ => rfl)
theorem B_X10_missing_31 {k : Nat → Nat × Nat} {u : Nat → Nat → Int} {g : Nat → Nat → Nat} {t : Nat × Nat × Nat} {r0 : Nat} {x1 : Int} {x2 : Int} {x3 : Int} {x4 : Int} {y0 : Int} : a_X 109 31 [a_r (r0), a_i (x1), a_i (x2), a_i (x3), a_i (x4)] [a_i (y0)] (k, u, g, t) = if (y0 : Int) = 0 then a_X 109 14 [a_r (r0), a_i (x1), a_i (x2), a_i (x3), a_i (wr (x4 + 1))] [] (k, u, g, t) else if (x3 : Int) ≠ 0 then a_X 109 14 [a_r (r0), a_i (x1), a_i (x2), a_i (wr (x3 + (-1))), a_i (wr (x4 + 1))] [] (k, u, g, t) else some (.inl (some (a_i (x4))), (k, u, g, t)) := by
  refine (X_if_eq (m := 109) (pc := 31) (off := 13) (tg := 44) (by decide +kernel) (by decide +kernel)).trans ?_
  refine ite_congr rfl (fun _ => ?_) (fun _ => ?_)
  · refine (X_iinc (m := 109) (pc := 44) (n := 4) (c := 1) (by decide +kernel) rfl rfl (Nat.le_of_ble_eq_true rfl) rfl).trans ?_
    refine (X_goto (m := 109) (pc := 47) (off := -33) (tg := 14) (by decide +kernel) (by decide +kernel)).trans ?_
    rfl
  · refine (X_iload_n (m := 109) (pc := 34) (n := 3) (by decide +kernel) rfl).trans ?_
    refine (X_if_ne (m := 109) (pc := 35) (off := 6) (tg := 41) (by decide +kernel) (by decide +kernel)).trans ?_
    refine ite_congr rfl (fun _ => ?_) (fun _ => ?_)
    · refine (X_iinc (m := 109) (pc := 41) (n := 3) (c := -1) (by decide +kernel) rfl rfl (Nat.le_of_ble_eq_true rfl) rfl).trans ?_
      refine (X_iinc (m := 109) (pc := 44) (n := 4) (c := 1) (by decide +kernel) rfl rfl (Nat.le_of_ble_eq_true rfl) rfl).trans ?_
      refine (X_goto (m := 109) (pc := 47) (off := -33) (tg := 14) (by decide +kernel) (by decide +kernel)).trans ?_
      rfl
    · refine (X_iload (m := 109) (pc := 38) (n := 4) (by decide +kernel) rfl).trans ?_
      exact X_ireturn (m := 109) (pc := 40) (f := 1) (by decide +kernel) (by decide +kernel) rfl
theorem E_X10_isSame {σ : AS} {r0 : Nat} {x1 : Int} {x2 : Int} : a_m 110 [a_r (r0), a_i (x1), a_i (x2)] σ = a_X 110 0 [a_r (r0), a_i (x1), a_i (x2)] [] σ := a_m_eq (by rw [a_entry, show m_maxL 110 = 3 from by decide +kernel]; rfl)
theorem B_X10_isSame_0 {k : Nat → Nat × Nat} {u : Nat → Nat → Int} {g : Nat → Nat → Nat} {t : Nat × Nat × Nat} {r0 : Nat} {x1 : Int} {x2 : Int} : a_X 110 0 [a_r (r0), a_i (x1), a_i (x2)] [] (k, u, g, t) = if (k r0).1 = 10 then (a_m 144 [a_r (r0)] (k, u, g, t)).bind (a_back 110 1 3 [a_r (r0), a_i (x1), a_i (x2)] []) else none := by
  refine (X_aload_n (m := 110) (pc := 0) (n := 0) (by decide +kernel) rfl).trans ?_
  refine (X_call_vi (m := 110) (pc := 1) (q := 103) (y := 144) (n := 1) (as := [a_r (r0)]) (rest := []) (by decide +kernel) (by decide +kernel) (by decide +kernel) (by decide +kernel) rfl rfl (Nat.le_of_ble_eq_true rfl) (Nat.le_of_ble_eq_true rfl) rfl (by rw [show m_maxL 144 = 1 from by decide +kernel]; exact Nat.le_of_ble_eq_true rfl)).trans ?_
  exact ite_congr (by simp [a_rcv, show m_recv 144 = 10 from by decide +kernel]) (fun _ => rfl) (fun _ => rfl)
theorem B_X10_isSame_4 {k : Nat → Nat × Nat} {u : Nat → Nat → Int} {g : Nat → Nat → Nat} {t : Nat × Nat × Nat} {r0 : Nat} {x1 : Int} {x2 : Int} : a_X 110 4 [a_r (r0), a_i (x1), a_i (x2)] [] (k, u, g, t) = if (k r0).1 = 10 then (a_m 146 [a_r (r0), a_i (x1)] (k, u, g, t)).bind (a_back 110 6 3 [a_r (r0), a_i (x1), a_i (x2)] []) else none := by
  refine (X_aload_n (m := 110) (pc := 4) (n := 0) (by decide +kernel) rfl).trans ?_
  refine (X_iload_n (m := 110) (pc := 5) (n := 1) (by decide +kernel) rfl).trans ?_
  refine (X_call_vi (m := 110) (pc := 6) (q := 157) (y := 146) (n := 2) (as := [a_r (r0), a_i (x1)]) (rest := []) (by decide +kernel) (by decide +kernel) (by decide +kernel) (by decide +kernel) rfl rfl (Nat.le_of_ble_eq_true rfl) (Nat.le_of_ble_eq_true rfl) rfl (by rw [show m_maxL 146 = 2 from by decide +kernel]; exact Nat.le_of_ble_eq_true rfl)).trans ?_
  exact ite_congr (by simp [a_rcv, show m_recv 146 = 10 from by decide +kernel]) (fun _ => rfl) (fun _ => rfl)
theorem B_X10_isSame_9 {k : Nat → Nat × Nat} {u : Nat → Nat → Int} {g : Nat → Nat → Nat} {t : Nat × Nat × Nat} {r0 : Nat} {x1 : Int} {x2 : Int} : a_X 110 9 [a_r (r0), a_i (x1), a_i (x2)] [] (k, u, g, t) = if (k r0).1 = 10 then (a_m 146 [a_r (r0), a_i (x2)] (k, u, g, t)).bind (a_back 110 11 3 [a_r (r0), a_i (x1), a_i (x2)] []) else none := by
  refine (X_aload_n (m := 110) (pc := 9) (n := 0) (by decide +kernel) rfl).trans ?_
  refine (X_iload_n (m := 110) (pc := 10) (n := 2) (by decide +kernel) rfl).trans ?_
  refine (X_call_vi (m := 110) (pc := 11) (q := 157) (y := 146) (n := 2) (as := [a_r (r0), a_i (x2)]) (rest := []) (by decide +kernel) (by decide +kernel) (by decide +kernel) (by decide +kernel) rfl rfl (Nat.le_of_ble_eq_true rfl) (Nat.le_of_ble_eq_true rfl) rfl (by rw [show m_maxL 146 = 2 from by decide +kernel]; exact Nat.le_of_ble_eq_true rfl)).trans ?_
  exact ite_congr (by simp [a_rcv, show m_recv 146 = 10 from by decide +kernel]) (fun _ => rfl) (fun _ => rfl)
theorem B_X10_isSame_14 {k : Nat → Nat × Nat} {u : Nat → Nat → Int} {g : Nat → Nat → Nat} {t : Nat × Nat × Nat} {r0 : Nat} {x1 : Int} {x2 : Int} : a_X 110 14 [a_r (r0), a_i (x1), a_i (x2)] [] (k, u, g, t) = if (k r0).1 = 10 then if (k (g r0 1)).1 = 5 then if (k r0).1 = 10 then if (k (g r0 1)).1 = 5 then (a_m 31 [a_r (g r0 1), a_i (x1)] (k, u, g, t)).bind (a_back 110 26 3 [a_r (r0), a_i (x1), a_i (x2)] [a_r (g (g r0 1) 0)]) else none else none else none else none := by
  refine (X_aload_n (m := 110) (pc := 14) (n := 0) (by decide +kernel) rfl).trans ?_
  refine (X_getR (m := 110) (pc := 15) (n := 19) (c := 10) (q := 1) (fi := true) (by decide +kernel) (by decide +kernel)).trans ?_
  refine ite_congr rfl (fun _ => ?_) (fun _ => rfl)
  refine (X_getR (m := 110) (pc := 18) (n := 106) (c := 5) (q := 0) (fi := true) (by decide +kernel) (by decide +kernel)).trans ?_
  refine ite_congr rfl (fun _ => ?_) (fun _ => rfl)
  refine (X_aload_n (m := 110) (pc := 21) (n := 0) (by decide +kernel) rfl).trans ?_
  refine (X_getR (m := 110) (pc := 22) (n := 19) (c := 10) (q := 1) (fi := true) (by decide +kernel) (by decide +kernel)).trans ?_
  refine ite_congr rfl (fun _ => ?_) (fun _ => rfl)
  refine (X_iload_n (m := 110) (pc := 25) (n := 1) (by decide +kernel) rfl).trans ?_
  refine (X_call_vi (m := 110) (pc := 26) (q := 167) (y := 31) (n := 2) (as := [a_r (g r0 1), a_i (x1)]) (rest := [a_r (g (g r0 1) 0)]) (by decide +kernel) (by decide +kernel) (by decide +kernel) (by decide +kernel) rfl rfl (Nat.le_of_ble_eq_true rfl) (Nat.le_of_ble_eq_true rfl) rfl (by rw [show m_maxL 31 = 2 from by decide +kernel]; exact Nat.le_of_ble_eq_true rfl)).trans ?_
  exact ite_congr (by simp [a_rcv, show m_recv 31 = 5 from by decide +kernel]) (fun _ => rfl) (fun _ => rfl)
theorem B_X10_isSame_29 {k : Nat → Nat × Nat} {u : Nat → Nat → Int} {g : Nat → Nat → Nat} {t : Nat × Nat × Nat} {r0 : Nat} {x1 : Int} {x2 : Int} {q0 : Nat} {q1 : Nat} : a_X 110 29 [a_r (r0), a_i (x1), a_i (x2)] [a_r (q1), a_r (q0)] (k, u, g, t) = if (k r0).1 = 10 then if (k (g r0 1)).1 = 5 then (a_m 31 [a_r (g r0 1), a_i (x2)] (k, u, g, t)).bind (a_back 110 34 3 [a_r (r0), a_i (x1), a_i (x2)] [a_r (q1), a_r (q0)]) else none else none := by
  refine (X_aload_n (m := 110) (pc := 29) (n := 0) (by decide +kernel) rfl).trans ?_
  refine (X_getR (m := 110) (pc := 30) (n := 19) (c := 10) (q := 1) (fi := true) (by decide +kernel) (by decide +kernel)).trans ?_
  refine ite_congr rfl (fun _ => ?_) (fun _ => rfl)
  refine (X_iload_n (m := 110) (pc := 33) (n := 2) (by decide +kernel) rfl).trans ?_
  refine (X_call_vi (m := 110) (pc := 34) (q := 167) (y := 31) (n := 2) (as := [a_r (g r0 1), a_i (x2)]) (rest := [a_r (q1), a_r (q0)]) (by decide +kernel) (by decide +kernel) (by decide +kernel) (by decide +kernel) rfl rfl (Nat.le_of_ble_eq_true rfl) (Nat.le_of_ble_eq_true rfl) rfl (by rw [show m_maxL 31 = 2 from by decide +kernel]; exact Nat.le_of_ble_eq_true rfl)).trans ?_
  exact ite_congr (by simp [a_rcv, show m_recv 31 = 5 from by decide +kernel]) (fun _ => rfl) (fun _ => rfl)
theorem B_X10_isSame_37 {k : Nat → Nat × Nat} {u : Nat → Nat → Int} {g : Nat → Nat → Nat} {t : Nat × Nat × Nat} {r0 : Nat} {x1 : Int} {x2 : Int} {q0 : Nat} {q1 : Nat} {q2 : Nat} : a_X 110 37 [a_r (r0), a_i (x1), a_i (x2)] [a_r (q2), a_r (q1), a_r (q0)] (k, u, g, t) = if (k q0).1 = 9 then (a_m 89 [a_r (q0), a_r (q1), a_r (q2)] (k, u, g, t)).bind (a_back 110 37 3 [a_r (r0), a_i (x1), a_i (x2)] []) else none := by
  refine (X_call_vi (m := 110) (pc := 37) (q := 306) (y := 89) (n := 3) (as := [a_r (q0), a_r (q1), a_r (q2)]) (rest := []) (by decide +kernel) (by decide +kernel) (by decide +kernel) (by decide +kernel) rfl rfl (Nat.le_of_ble_eq_true rfl) (Nat.le_of_ble_eq_true rfl) rfl (by rw [show m_maxL 89 = 5 from by decide +kernel]; exact Nat.le_of_ble_eq_true rfl)).trans ?_
  exact ite_congr (by simp [a_rcv, show m_recv 89 = 9 from by decide +kernel]) (fun _ => rfl) (fun _ => rfl)
theorem B_X10_isSame_40 {k : Nat → Nat × Nat} {u : Nat → Nat → Int} {g : Nat → Nat → Nat} {t : Nat × Nat × Nat} {r0 : Nat} {x1 : Int} {x2 : Int} {y0 : Int} : a_X 110 40 [a_r (r0), a_i (x1), a_i (x2)] [a_i (y0)] (k, u, g, t) = if (y0 : Int) ≠ 0 then some (.inl (some (a_i (0))), (k, u, g, t)) else some (.inl (some (a_i (1))), (k, u, g, t)) := by
  refine (X_if_ne (m := 110) (pc := 40) (off := 7) (tg := 47) (by decide +kernel) (by decide +kernel)).trans ?_
  refine ite_congr rfl (fun _ => ?_) (fun _ => ?_)
  · refine (X_iconst (m := 110) (pc := 47) (n := 0) (by decide +kernel) ).trans ?_
    exact X_ireturn (m := 110) (pc := 48) (f := 2) (by decide +kernel) (by decide +kernel) rfl
  · refine (X_iconst (m := 110) (pc := 43) (n := 1) (by decide +kernel) ).trans ?_
    refine (X_goto (m := 110) (pc := 44) (off := 4) (tg := 48) (by decide +kernel) (by decide +kernel)).trans ?_
    exact X_ireturn (m := 110) (pc := 48) (f := 2) (by decide +kernel) (by decide +kernel) rfl
theorem E_X10_wrongMinutes {σ : AS} {r0 : Nat} {x1 : Int} : a_m 111 [a_r (r0), a_i (x1)] σ = a_X 111 0 [a_r (r0), a_i (x1)] [] σ := a_m_eq (by rw [a_entry, show m_maxL 111 = 2 from by decide +kernel]; rfl)
theorem B_X10_wrongMinutes_0 {k : Nat → Nat × Nat} {u : Nat → Nat → Int} {g : Nat → Nat → Nat} {t : Nat × Nat × Nat} {r0 : Nat} {x1 : Int} : a_X 111 0 [a_r (r0), a_i (x1)] [] (k, u, g, t) = if (k r0).1 = 10 then (a_m 144 [a_r (r0)] (k, u, g, t)).bind (a_back 111 1 3 [a_r (r0), a_i (x1)] []) else none := by
  refine (X_aload_n (m := 111) (pc := 0) (n := 0) (by decide +kernel) rfl).trans ?_
  refine (X_call_vi (m := 111) (pc := 1) (q := 103) (y := 144) (n := 1) (as := [a_r (r0)]) (rest := []) (by decide +kernel) (by decide +kernel) (by decide +kernel) (by decide +kernel) rfl rfl (Nat.le_of_ble_eq_true rfl) (Nat.le_of_ble_eq_true rfl) rfl (by rw [show m_maxL 144 = 1 from by decide +kernel]; exact Nat.le_of_ble_eq_true rfl)).trans ?_
  exact ite_congr (by simp [a_rcv, show m_recv 144 = 10 from by decide +kernel]) (fun _ => rfl) (fun _ => rfl)
theorem B_X10_wrongMinutes_4 {k : Nat → Nat × Nat} {u : Nat → Nat → Int} {g : Nat → Nat → Nat} {t : Nat × Nat × Nat} {r0 : Nat} {x1 : Int} : a_X 111 4 [a_r (r0), a_i (x1)] [] (k, u, g, t) = if (k r0).1 = 10 then (a_m 145 [a_r (r0), a_i (x1)] (k, u, g, t)).bind (a_back 111 6 3 [a_r (r0), a_i (x1)] []) else none := by
  refine (X_aload_n (m := 111) (pc := 4) (n := 0) (by decide +kernel) rfl).trans ?_
  refine (X_iload_n (m := 111) (pc := 5) (n := 1) (by decide +kernel) rfl).trans ?_
  refine (X_call_vi (m := 111) (pc := 6) (q := 247) (y := 145) (n := 2) (as := [a_r (r0), a_i (x1)]) (rest := []) (by decide +kernel) (by decide +kernel) (by decide +kernel) (by decide +kernel) rfl rfl (Nat.le_of_ble_eq_true rfl) (Nat.le_of_ble_eq_true rfl) rfl (by rw [show m_maxL 145 = 2 from by decide +kernel]; exact Nat.le_of_ble_eq_true rfl)).trans ?_
  exact ite_congr (by simp [a_rcv, show m_recv 145 = 10 from by decide +kernel]) (fun _ => rfl) (fun _ => rfl)
theorem B_X10_wrongMinutes_9 {k : Nat → Nat × Nat} {u : Nat → Nat → Int} {g : Nat → Nat → Nat} {t : Nat × Nat × Nat} {r0 : Nat} {x1 : Int} : a_X 111 9 [a_r (r0), a_i (x1)] [] (k, u, g, t) = if (k r0).1 = 10 then if (k (g r0 1)).1 = 5 then (a_m 47 [a_r (g r0 1), a_i (x1)] (k, u, g, t)).bind (a_back 111 14 3 [a_r (r0), a_i (x1)] []) else none else none := by
  refine (X_aload_n (m := 111) (pc := 9) (n := 0) (by decide +kernel) rfl).trans ?_
  refine (X_getR (m := 111) (pc := 10) (n := 19) (c := 10) (q := 1) (fi := true) (by decide +kernel) (by decide +kernel)).trans ?_
  refine ite_congr rfl (fun _ => ?_) (fun _ => rfl)
  refine (X_iload_n (m := 111) (pc := 13) (n := 1) (by decide +kernel) rfl).trans ?_
  refine (X_call_vi (m := 111) (pc := 14) (q := 310) (y := 47) (n := 2) (as := [a_r (g r0 1), a_i (x1)]) (rest := []) (by decide +kernel) (by decide +kernel) (by decide +kernel) (by decide +kernel) rfl rfl (Nat.le_of_ble_eq_true rfl) (Nat.le_of_ble_eq_true rfl) rfl (by rw [show m_maxL 47 = 2 from by decide +kernel]; exact Nat.le_of_ble_eq_true rfl)).trans ?_
  exact ite_congr (by simp [a_rcv, show m_recv 47 = 5 from by decide +kernel]) (fun _ => rfl) (fun _ => rfl)
theorem B_X10_wrongMinutes_17 {k : Nat → Nat × Nat} {u : Nat → Nat → Int} {g : Nat → Nat → Nat} {t : Nat × Nat × Nat} {r0 : Nat} {x1 : Int} {y0 : Int} : a_X 111 17 [a_r (r0), a_i (x1)] [a_i (y0)] (k, u, g, t) = some (.inl (some (a_i (y0))), (k, u, g, t)) := by
  exact X_ireturn (m := 111) (pc := 17) (f := 1) (by decide +kernel) (by decide +kernel) rfl
theorem E_X10_worst {σ : AS} {r0 : Nat} : a_m 112 [a_r (r0)] σ = a_X 112 0 [a_r (r0), a_x false, a_x false, a_x false, a_x false] [] σ := a_m_eq (by rw [a_entry, show m_maxL 112 = 5 from by decide +kernel]; rfl)
theorem B_X10_worst_0 {k : Nat → Nat × Nat} {u : Nat → Nat → Int} {g : Nat → Nat → Nat} {t : Nat × Nat × Nat} {r0 : Nat} {v1 : AV} {v2 : AV} {v3 : AV} {v4 : AV} : a_X 112 0 [a_r (r0), v1, v2, v3, v4] [] (k, u, g, t) = if (k r0).1 = 10 then (a_m 144 [a_r (r0)] (k, u, g, t)).bind (a_back 112 1 3 [a_r (r0), v1, v2, v3, v4] []) else none := by
  refine (X_aload_n (m := 112) (pc := 0) (n := 0) (by decide +kernel) rfl).trans ?_
  refine (X_call_vi (m := 112) (pc := 1) (q := 103) (y := 144) (n := 1) (as := [a_r (r0)]) (rest := []) (by decide +kernel) (by decide +kernel) (by decide +kernel) (by decide +kernel) rfl rfl (Nat.le_of_ble_eq_true rfl) (Nat.le_of_ble_eq_true rfl) rfl (by rw [show m_maxL 144 = 1 from by decide +kernel]; exact Nat.le_of_ble_eq_true rfl)).trans ?_
  exact ite_congr (by simp [a_rcv, show m_recv 144 = 10 from by decide +kernel]) (fun _ => rfl) (fun _ => rfl)
theorem B_X10_worst_4 {k : Nat → Nat × Nat} {u : Nat → Nat → Int} {g : Nat → Nat → Nat} {t : Nat × Nat × Nat} {r0 : Nat} {v1 : AV} {v2 : AV} {v3 : AV} {v4 : AV} : a_X 112 4 [a_r (r0), v1, v2, v3, v4] [] (k, u, g, t) = a_X 112 10 [a_r (r0), a_i (0), a_i (0), a_i (0), v4] [] (k, u, g, t) := by
  refine (X_iconst (m := 112) (pc := 4) (n := 0) (by decide +kernel) ).trans ?_
  refine (X_istore_n (m := 112) (pc := 5) (n := 1) (by decide +kernel) rfl (Nat.le_of_ble_eq_true rfl) rfl).trans ?_
  refine (X_iconst (m := 112) (pc := 6) (n := 0) (by decide +kernel) ).trans ?_
  refine (X_istore_n (m := 112) (pc := 7) (n := 2) (by decide +kernel) rfl (Nat.le_of_ble_eq_true rfl) rfl).trans ?_
  refine (X_iconst (m := 112) (pc := 8) (n := 0) (by decide +kernel) ).trans ?_
  refine (X_istore_n (m := 112) (pc := 9) (n := 3) (by decide +kernel) rfl (Nat.le_of_ble_eq_true rfl) rfl).trans ?_
  rfl
theorem B_X10_worst_10 {k : Nat → Nat × Nat} {u : Nat → Nat → Int} {g : Nat → Nat → Nat} {t : Nat × Nat × Nat} {r0 : Nat} {x1 : Int} {x2 : Int} {x3 : Int} {v4 : AV} : a_X 112 10 [a_r (r0), a_i (x1), a_i (x2), a_i (x3), v4] [] (k, u, g, t) = if (k r0).1 = 10 then if (k (g r0 1)).1 = 5 then if (x3 : Int) ≥ (u (g r0 1) 4 : Int) then some (.inl (some (a_i (x1))), (k, u, g, t)) else if (k r0).1 = 10 then if (k (g r0 1)).1 = 5 then (a_m 47 [a_r (g r0 1), a_i (x3)] (k, u, g, t)).bind (a_back 112 26 3 [a_r (r0), a_i (x1), a_i (x2), a_i (x3), v4] []) else none else none else none else none := by
  refine (X_iload_n (m := 112) (pc := 10) (n := 3) (by decide +kernel) rfl).trans ?_
  refine (X_aload_n (m := 112) (pc := 11) (n := 0) (by decide +kernel) rfl).trans ?_
  refine (X_getR (m := 112) (pc := 12) (n := 19) (c := 10) (q := 1) (fi := true) (by decide +kernel) (by decide +kernel)).trans ?_
  refine ite_congr rfl (fun _ => ?_) (fun _ => rfl)
  refine (X_getI (m := 112) (pc := 15) (n := 94) (c := 5) (q := 4) (ty := 1) (fi := false) (by decide +kernel) (by decide +kernel) (by decide +kernel)).trans ?_
  refine ite_congr rfl (fun _ => ?_) (fun _ => rfl)
  refine (X_ic_ge (m := 112) (pc := 18) (off := 30) (tg := 48) (by decide +kernel) (by decide +kernel)).trans ?_
  refine ite_congr rfl (fun _ => ?_) (fun _ => ?_)
  · refine (X_iload_n (m := 112) (pc := 48) (n := 1) (by decide +kernel) rfl).trans ?_
    exact X_ireturn (m := 112) (pc := 49) (f := 1) (by decide +kernel) (by decide +kernel) rfl
  · refine (X_aload_n (m := 112) (pc := 21) (n := 0) (by decide +kernel) rfl).trans ?_
    refine (X_getR (m := 112) (pc := 22) (n := 19) (c := 10) (q := 1) (fi := true) (by decide +kernel) (by decide +kernel)).trans ?_
    refine ite_congr rfl (fun _ => ?_) (fun _ => rfl)
    refine (X_iload_n (m := 112) (pc := 25) (n := 3) (by decide +kernel) rfl).trans ?_
    refine (X_call_vi (m := 112) (pc := 26) (q := 310) (y := 47) (n := 2) (as := [a_r (g r0 1), a_i (x3)]) (rest := []) (by decide +kernel) (by decide +kernel) (by decide +kernel) (by decide +kernel) rfl rfl (Nat.le_of_ble_eq_true rfl) (Nat.le_of_ble_eq_true rfl) rfl (by rw [show m_maxL 47 = 2 from by decide +kernel]; exact Nat.le_of_ble_eq_true rfl)).trans ?_
    exact ite_congr (by simp [a_rcv, show m_recv 47 = 5 from by decide +kernel]) (fun _ => rfl) (fun _ => rfl)
theorem B_X10_worst_29 {k : Nat → Nat × Nat} {u : Nat → Nat → Int} {g : Nat → Nat → Nat} {t : Nat × Nat × Nat} {r0 : Nat} {x1 : Int} {x2 : Int} {x3 : Int} {v4 : AV} {y0 : Int} : a_X 112 29 [a_r (r0), a_i (x1), a_i (x2), a_i (x3), v4] [a_i (y0)] (k, u, g, t) = if (y0 : Int) ≤ (x2 : Int) then a_X 112 10 [a_r (r0), a_i (x1), a_i (x2), a_i (wr (x3 + 1)), a_i (y0)] [] (k, u, g, t) else a_X 112 10 [a_r (r0), a_i (x3), a_i (y0), a_i (wr (x3 + 1)), a_i (y0)] [] (k, u, g, t) := by
  refine (X_istore (m := 112) (pc := 29) (n := 4) (by decide +kernel) rfl (Nat.le_of_ble_eq_true rfl) rfl).trans ?_
  refine (X_iload (m := 112) (pc := 31) (n := 4) (by decide +kernel) rfl).trans ?_
  refine (X_iload_n (m := 112) (pc := 33) (n := 2) (by decide +kernel) rfl).trans ?_
  refine (X_ic_le (m := 112) (pc := 34) (off := 8) (tg := 42) (by decide +kernel) (by decide +kernel)).trans ?_
  refine ite_congr rfl (fun _ => ?_) (fun _ => ?_)
  · refine (X_iinc (m := 112) (pc := 42) (n := 3) (c := 1) (by decide +kernel) rfl rfl (Nat.le_of_ble_eq_true rfl) rfl).trans ?_
    refine (X_goto (m := 112) (pc := 45) (off := -35) (tg := 10) (by decide +kernel) (by decide +kernel)).trans ?_
    rfl
  · refine (X_iload_n (m := 112) (pc := 37) (n := 3) (by decide +kernel) rfl).trans ?_
    refine (X_istore_n (m := 112) (pc := 38) (n := 1) (by decide +kernel) rfl (Nat.le_of_ble_eq_true rfl) rfl).trans ?_
    refine (X_iload (m := 112) (pc := 39) (n := 4) (by decide +kernel) rfl).trans ?_
    refine (X_istore_n (m := 112) (pc := 41) (n := 2) (by decide +kernel) rfl (Nat.le_of_ble_eq_true rfl) rfl).trans ?_
    refine (X_iinc (m := 112) (pc := 42) (n := 3) (c := 1) (by decide +kernel) rfl rfl (Nat.le_of_ble_eq_true rfl) rfl).trans ?_
    refine (X_goto (m := 112) (pc := 45) (off := -35) (tg := 10) (by decide +kernel) (by decide +kernel)).trans ?_
    rfl
theorem E_X10_behind {σ : AS} {r0 : Nat} {x1 : Int} : a_m 113 [a_r (r0), a_i (x1)] σ = a_X 113 0 [a_r (r0), a_i (x1)] [] σ := a_m_eq (by rw [a_entry, show m_maxL 113 = 2 from by decide +kernel]; rfl)
theorem B_X10_behind_0 {k : Nat → Nat × Nat} {u : Nat → Nat → Int} {g : Nat → Nat → Nat} {t : Nat × Nat × Nat} {r0 : Nat} {x1 : Int} : a_X 113 0 [a_r (r0), a_i (x1)] [] (k, u, g, t) = if (k r0).1 = 10 then (a_m 144 [a_r (r0)] (k, u, g, t)).bind (a_back 113 1 3 [a_r (r0), a_i (x1)] []) else none := by
  refine (X_aload_n (m := 113) (pc := 0) (n := 0) (by decide +kernel) rfl).trans ?_
  refine (X_call_vi (m := 113) (pc := 1) (q := 103) (y := 144) (n := 1) (as := [a_r (r0)]) (rest := []) (by decide +kernel) (by decide +kernel) (by decide +kernel) (by decide +kernel) rfl rfl (Nat.le_of_ble_eq_true rfl) (Nat.le_of_ble_eq_true rfl) rfl (by rw [show m_maxL 144 = 1 from by decide +kernel]; exact Nat.le_of_ble_eq_true rfl)).trans ?_
  exact ite_congr (by simp [a_rcv, show m_recv 144 = 10 from by decide +kernel]) (fun _ => rfl) (fun _ => rfl)
theorem B_X10_behind_4 {k : Nat → Nat × Nat} {u : Nat → Nat → Int} {g : Nat → Nat → Nat} {t : Nat × Nat × Nat} {r0 : Nat} {x1 : Int} : a_X 113 4 [a_r (r0), a_i (x1)] [] (k, u, g, t) = if (k r0).1 = 10 then (a_m 145 [a_r (r0), a_i (x1)] (k, u, g, t)).bind (a_back 113 6 3 [a_r (r0), a_i (x1)] []) else none := by
  refine (X_aload_n (m := 113) (pc := 4) (n := 0) (by decide +kernel) rfl).trans ?_
  refine (X_iload_n (m := 113) (pc := 5) (n := 1) (by decide +kernel) rfl).trans ?_
  refine (X_call_vi (m := 113) (pc := 6) (q := 247) (y := 145) (n := 2) (as := [a_r (r0), a_i (x1)]) (rest := []) (by decide +kernel) (by decide +kernel) (by decide +kernel) (by decide +kernel) rfl rfl (Nat.le_of_ble_eq_true rfl) (Nat.le_of_ble_eq_true rfl) rfl (by rw [show m_maxL 145 = 2 from by decide +kernel]; exact Nat.le_of_ble_eq_true rfl)).trans ?_
  exact ite_congr (by simp [a_rcv, show m_recv 145 = 10 from by decide +kernel]) (fun _ => rfl) (fun _ => rfl)
theorem B_X10_behind_9 {k : Nat → Nat × Nat} {u : Nat → Nat → Int} {g : Nat → Nat → Nat} {t : Nat × Nat × Nat} {r0 : Nat} {x1 : Int} : a_X 113 9 [a_r (r0), a_i (x1)] [] (k, u, g, t) = if (k r0).1 = 10 then if (k (g r0 1)).1 = 5 then (a_m 44 [a_r (g r0 1), a_i (x1)] (k, u, g, t)).bind (a_back 113 14 3 [a_r (r0), a_i (x1)] []) else none else none := by
  refine (X_aload_n (m := 113) (pc := 9) (n := 0) (by decide +kernel) rfl).trans ?_
  refine (X_getR (m := 113) (pc := 10) (n := 19) (c := 10) (q := 1) (fi := true) (by decide +kernel) (by decide +kernel)).trans ?_
  refine ite_congr rfl (fun _ => ?_) (fun _ => rfl)
  refine (X_iload_n (m := 113) (pc := 13) (n := 1) (by decide +kernel) rfl).trans ?_
  refine (X_call_vi (m := 113) (pc := 14) (q := 313) (y := 44) (n := 2) (as := [a_r (g r0 1), a_i (x1)]) (rest := []) (by decide +kernel) (by decide +kernel) (by decide +kernel) (by decide +kernel) rfl rfl (Nat.le_of_ble_eq_true rfl) (Nat.le_of_ble_eq_true rfl) rfl (by rw [show m_maxL 44 = 2 from by decide +kernel]; exact Nat.le_of_ble_eq_true rfl)).trans ?_
  exact ite_congr (by simp [a_rcv, show m_recv 44 = 5 from by decide +kernel]) (fun _ => rfl) (fun _ => rfl)
theorem B_X10_behind_17 {k : Nat → Nat × Nat} {u : Nat → Nat → Int} {g : Nat → Nat → Nat} {t : Nat × Nat × Nat} {r0 : Nat} {x1 : Int} {y0 : Int} : a_X 113 17 [a_r (r0), a_i (x1)] [a_i (y0)] (k, u, g, t) = some (.inl (some (a_i (y0))), (k, u, g, t)) := by
  exact X_ireturn (m := 113) (pc := 17) (f := 1) (by decide +kernel) (by decide +kernel) rfl
theorem E_X10_overtakes {σ : AS} {r0 : Nat} {x1 : Int} : a_m 114 [a_r (r0), a_i (x1)] σ = a_X 114 0 [a_r (r0), a_i (x1), a_x false] [] σ := a_m_eq (by rw [a_entry, show m_maxL 114 = 3 from by decide +kernel]; rfl)
theorem B_X10_overtakes_0 {k : Nat → Nat × Nat} {u : Nat → Nat → Int} {g : Nat → Nat → Nat} {t : Nat × Nat × Nat} {r0 : Nat} {x1 : Int} {v2 : AV} : a_X 114 0 [a_r (r0), a_i (x1), v2] [] (k, u, g, t) = if (k r0).1 = 10 then (a_m 144 [a_r (r0)] (k, u, g, t)).bind (a_back 114 1 3 [a_r (r0), a_i (x1), v2] []) else none := by
  refine (X_aload_n (m := 114) (pc := 0) (n := 0) (by decide +kernel) rfl).trans ?_
  refine (X_call_vi (m := 114) (pc := 1) (q := 103) (y := 144) (n := 1) (as := [a_r (r0)]) (rest := []) (by decide +kernel) (by decide +kernel) (by decide +kernel) (by decide +kernel) rfl rfl (Nat.le_of_ble_eq_true rfl) (Nat.le_of_ble_eq_true rfl) rfl (by rw [show m_maxL 144 = 1 from by decide +kernel]; exact Nat.le_of_ble_eq_true rfl)).trans ?_
  exact ite_congr (by simp [a_rcv, show m_recv 144 = 10 from by decide +kernel]) (fun _ => rfl) (fun _ => rfl)
theorem B_X10_overtakes_4 {k : Nat → Nat × Nat} {u : Nat → Nat → Int} {g : Nat → Nat → Nat} {t : Nat × Nat × Nat} {r0 : Nat} {x1 : Int} {v2 : AV} : a_X 114 4 [a_r (r0), a_i (x1), v2] [] (k, u, g, t) = if (k r0).1 = 10 then (a_m 145 [a_r (r0), a_i (x1)] (k, u, g, t)).bind (a_back 114 6 3 [a_r (r0), a_i (x1), v2] []) else none := by
  refine (X_aload_n (m := 114) (pc := 4) (n := 0) (by decide +kernel) rfl).trans ?_
  refine (X_iload_n (m := 114) (pc := 5) (n := 1) (by decide +kernel) rfl).trans ?_
  refine (X_call_vi (m := 114) (pc := 6) (q := 247) (y := 145) (n := 2) (as := [a_r (r0), a_i (x1)]) (rest := []) (by decide +kernel) (by decide +kernel) (by decide +kernel) (by decide +kernel) rfl rfl (Nat.le_of_ble_eq_true rfl) (Nat.le_of_ble_eq_true rfl) rfl (by rw [show m_maxL 145 = 2 from by decide +kernel]; exact Nat.le_of_ble_eq_true rfl)).trans ?_
  exact ite_congr (by simp [a_rcv, show m_recv 145 = 10 from by decide +kernel]) (fun _ => rfl) (fun _ => rfl)
theorem B_X10_overtakes_9 {k : Nat → Nat × Nat} {u : Nat → Nat → Int} {g : Nat → Nat → Nat} {t : Nat × Nat × Nat} {r0 : Nat} {x1 : Int} {v2 : AV} : a_X 114 9 [a_r (r0), a_i (x1), v2] [] (k, u, g, t) = if (k r0).1 = 10 then if (k r0).1 = 10 then if (k (g r0 2)).1 = 5 then (a_m 29 [a_r (g r0 2), a_r (g r0 1)] (k, u, g, t)).bind (a_back 114 17 3 [a_r (r0), a_i (x1), v2] []) else none else none else none := by
  refine (X_aload_n (m := 114) (pc := 9) (n := 0) (by decide +kernel) rfl).trans ?_
  refine (X_getR (m := 114) (pc := 10) (n := 23) (c := 10) (q := 2) (fi := true) (by decide +kernel) (by decide +kernel)).trans ?_
  refine ite_congr rfl (fun _ => ?_) (fun _ => rfl)
  refine (X_aload_n (m := 114) (pc := 13) (n := 0) (by decide +kernel) rfl).trans ?_
  refine (X_getR (m := 114) (pc := 14) (n := 19) (c := 10) (q := 1) (fi := true) (by decide +kernel) (by decide +kernel)).trans ?_
  refine ite_congr rfl (fun _ => ?_) (fun _ => rfl)
  refine (X_call_vi (m := 114) (pc := 17) (q := 83) (y := 29) (n := 2) (as := [a_r (g r0 2), a_r (g r0 1)]) (rest := []) (by decide +kernel) (by decide +kernel) (by decide +kernel) (by decide +kernel) rfl rfl (Nat.le_of_ble_eq_true rfl) (Nat.le_of_ble_eq_true rfl) rfl (by rw [show m_maxL 29 = 3 from by decide +kernel]; exact Nat.le_of_ble_eq_true rfl)).trans ?_
  exact ite_congr (by simp [a_rcv, show m_recv 29 = 5 from by decide +kernel]) (fun _ => rfl) (fun _ => rfl)
theorem B_X10_overtakes_20 {k : Nat → Nat × Nat} {u : Nat → Nat → Int} {g : Nat → Nat → Nat} {t : Nat × Nat × Nat} {r0 : Nat} {x1 : Int} {v2 : AV} : a_X 114 20 [a_r (r0), a_i (x1), v2] [] (k, u, g, t) = if (k r0).1 = 10 then if (k (g r0 2)).1 = 5 then if 30 ≤ (k (g (g r0 2) 3)).1 ∧ 0 ≤ (x1 : Int) ∧ (x1 : Int) < ((k (g (g r0 2) 3)).2 : Int) then if (k (g (g (g r0 2) 3) (x1 : Int).toNat)).1 = 3 then if (k r0).1 = 10 then if (k (g r0 2)).1 = 5 then if (k (g (g (g r0 2) 3) (x1 : Int).toNat)).1 = 3 then if (k r0).1 = 10 then if (k (g r0 2)).1 = 5 then (a_m 36 [a_r (g r0 2), a_i (29)] (k, (upm (upm (upm u (g (g (g r0 2) 3) (x1 : Int).toNat) 1 0) (g r0 2) 5 0) (g (g (g r0 2) 3) (x1 : Int).toNat) 7 0), g, t)).bind (a_back 114 54 3 [a_r (r0), a_i (x1), a_r (g (g (g r0 2) 3) (x1 : Int).toNat)] []) else none else none else none else none else none else none else none else none else none := by
  refine (X_aload_n (m := 114) (pc := 20) (n := 0) (by decide +kernel) rfl).trans ?_
  refine (X_getR (m := 114) (pc := 21) (n := 23) (c := 10) (q := 2) (fi := true) (by decide +kernel) (by decide +kernel)).trans ?_
  refine ite_congr rfl (fun _ => ?_) (fun _ => rfl)
  refine (X_getR (m := 114) (pc := 24) (n := 250) (c := 5) (q := 3) (fi := true) (by decide +kernel) (by decide +kernel)).trans ?_
  refine ite_congr rfl (fun _ => ?_) (fun _ => rfl)
  refine (X_iload_n (m := 114) (pc := 27) (n := 1) (by decide +kernel) rfl).trans ?_
  refine (X_aaload (m := 114) (pc := 28)  (by decide +kernel) ).trans ?_
  refine ite_congr rfl (fun _ => ?_) (fun _ => rfl)
  refine (X_astore_n (m := 114) (pc := 29) (n := 2) (by decide +kernel) rfl (Nat.le_of_ble_eq_true rfl) rfl).trans ?_
  refine (X_aload_n (m := 114) (pc := 30) (n := 2) (by decide +kernel) rfl).trans ?_
  refine (X_iconst (m := 114) (pc := 31) (n := 0) (by decide +kernel) ).trans ?_
  refine (X_putI (m := 114) (pc := 32) (n := 259) (c := 3) (q := 1) (fi := false) (by decide +kernel) (by decide +kernel) (fun h => by cases h) (by decide +kernel)).trans ?_
  refine ite_congr rfl (fun _ => ?_) (fun _ => rfl)
  refine (X_aload_n (m := 114) (pc := 35) (n := 0) (by decide +kernel) rfl).trans ?_
  refine (X_getR (m := 114) (pc := 36) (n := 23) (c := 10) (q := 2) (fi := true) (by decide +kernel) (by decide +kernel)).trans ?_
  refine ite_congr rfl (fun _ => ?_) (fun _ => rfl)
  refine (X_iconst (m := 114) (pc := 39) (n := 0) (by decide +kernel) ).trans ?_
  refine (X_putI (m := 114) (pc := 40) (n := 120) (c := 5) (q := 5) (fi := false) (by decide +kernel) (by decide +kernel) (fun h => by cases h) (by decide +kernel)).trans ?_
  refine ite_congr rfl (fun _ => ?_) (fun _ => rfl)
  refine (X_aload_n (m := 114) (pc := 43) (n := 2) (by decide +kernel) rfl).trans ?_
  refine (X_iconst (m := 114) (pc := 44) (n := 0) (by decide +kernel) ).trans ?_
  refine (X_putI (m := 114) (pc := 45) (n := 278) (c := 3) (q := 7) (fi := false) (by decide +kernel) (by decide +kernel) (fun h => by cases h) (by decide +kernel)).trans ?_
  refine ite_congr rfl (fun _ => ?_) (fun _ => rfl)
  refine (X_aload_n (m := 114) (pc := 48) (n := 0) (by decide +kernel) rfl).trans ?_
  refine (X_getR (m := 114) (pc := 49) (n := 23) (c := 10) (q := 2) (fi := true) (by decide +kernel) (by decide +kernel)).trans ?_
  refine ite_congr rfl (fun _ => ?_) (fun _ => rfl)
  refine (X_bipush (m := 114) (pc := 52) (n := 29) (by decide +kernel) ).trans ?_
  refine (X_call_vi (m := 114) (pc := 54) (q := 316) (y := 36) (n := 2) (as := [a_r (g r0 2), a_i (29)]) (rest := []) (by decide +kernel) (by decide +kernel) (by decide +kernel) (by decide +kernel) rfl rfl (Nat.le_of_ble_eq_true rfl) (Nat.le_of_ble_eq_true rfl) rfl (by rw [show m_maxL 36 = 3 from by decide +kernel]; exact Nat.le_of_ble_eq_true rfl)).trans ?_
  exact ite_congr (by simp [a_rcv, show m_recv 36 = 5 from by decide +kernel]) (fun _ => rfl) (fun _ => rfl)
theorem B_X10_overtakes_57 {k : Nat → Nat × Nat} {u : Nat → Nat → Int} {g : Nat → Nat → Nat} {t : Nat × Nat × Nat} {r0 : Nat} {x1 : Int} {r2 : Nat} : a_X 114 57 [a_r (r0), a_i (x1), a_r (r2)] [] (k, u, g, t) = if (k r2).1 = 3 then some (.inl (some (a_i (u r2 7))), (k, u, g, t)) else none := by
  refine (X_aload_n (m := 114) (pc := 57) (n := 2) (by decide +kernel) rfl).trans ?_
  refine (X_getI (m := 114) (pc := 58) (n := 278) (c := 3) (q := 7) (ty := 1) (fi := false) (by decide +kernel) (by decide +kernel) (by decide +kernel)).trans ?_
  refine ite_congr rfl (fun _ => ?_) (fun _ => rfl)
  exact X_ireturn (m := 114) (pc := 61) (f := 1) (by decide +kernel) (by decide +kernel) rfl
theorem E_X10_sameIn {σ : AS} {r0 : Nat} {x1 : Int} : a_m 115 [a_r (r0), a_i (x1)] σ = a_X 115 0 [a_r (r0), a_i (x1)] [] σ := a_m_eq (by rw [a_entry, show m_maxL 115 = 2 from by decide +kernel]; rfl)
theorem B_X10_sameIn_0 {k : Nat → Nat × Nat} {u : Nat → Nat → Int} {g : Nat → Nat → Nat} {t : Nat × Nat × Nat} {r0 : Nat} {x1 : Int} : a_X 115 0 [a_r (r0), a_i (x1)] [] (k, u, g, t) = if (k r0).1 = 10 then (a_m 144 [a_r (r0)] (k, u, g, t)).bind (a_back 115 1 3 [a_r (r0), a_i (x1)] []) else none := by
  refine (X_aload_n (m := 115) (pc := 0) (n := 0) (by decide +kernel) rfl).trans ?_
  refine (X_call_vi (m := 115) (pc := 1) (q := 103) (y := 144) (n := 1) (as := [a_r (r0)]) (rest := []) (by decide +kernel) (by decide +kernel) (by decide +kernel) (by decide +kernel) rfl rfl (Nat.le_of_ble_eq_true rfl) (Nat.le_of_ble_eq_true rfl) rfl (by rw [show m_maxL 144 = 1 from by decide +kernel]; exact Nat.le_of_ble_eq_true rfl)).trans ?_
  exact ite_congr (by simp [a_rcv, show m_recv 144 = 10 from by decide +kernel]) (fun _ => rfl) (fun _ => rfl)
theorem B_X10_sameIn_4 {k : Nat → Nat × Nat} {u : Nat → Nat → Int} {g : Nat → Nat → Nat} {t : Nat × Nat × Nat} {r0 : Nat} {x1 : Int} : a_X 115 4 [a_r (r0), a_i (x1)] [] (k, u, g, t) = if (k r0).1 = 10 then (a_m 145 [a_r (r0), a_i (x1)] (k, u, g, t)).bind (a_back 115 6 3 [a_r (r0), a_i (x1)] []) else none := by
  refine (X_aload_n (m := 115) (pc := 4) (n := 0) (by decide +kernel) rfl).trans ?_
  refine (X_iload_n (m := 115) (pc := 5) (n := 1) (by decide +kernel) rfl).trans ?_
  refine (X_call_vi (m := 115) (pc := 6) (q := 247) (y := 145) (n := 2) (as := [a_r (r0), a_i (x1)]) (rest := []) (by decide +kernel) (by decide +kernel) (by decide +kernel) (by decide +kernel) rfl rfl (Nat.le_of_ble_eq_true rfl) (Nat.le_of_ble_eq_true rfl) rfl (by rw [show m_maxL 145 = 2 from by decide +kernel]; exact Nat.le_of_ble_eq_true rfl)).trans ?_
  exact ite_congr (by simp [a_rcv, show m_recv 145 = 10 from by decide +kernel]) (fun _ => rfl) (fun _ => rfl)
theorem B_X10_sameIn_9 {k : Nat → Nat × Nat} {u : Nat → Nat → Int} {g : Nat → Nat → Nat} {t : Nat × Nat × Nat} {r0 : Nat} {x1 : Int} : a_X 115 9 [a_r (r0), a_i (x1)] [] (k, u, g, t) = if (k r0).1 = 10 then if (k r0).1 = 10 then if (k (g r0 2)).1 = 5 then (a_m 29 [a_r (g r0 2), a_r (g r0 1)] (k, u, g, t)).bind (a_back 115 17 3 [a_r (r0), a_i (x1)] []) else none else none else none := by
  refine (X_aload_n (m := 115) (pc := 9) (n := 0) (by decide +kernel) rfl).trans ?_
  refine (X_getR (m := 115) (pc := 10) (n := 23) (c := 10) (q := 2) (fi := true) (by decide +kernel) (by decide +kernel)).trans ?_
  refine ite_congr rfl (fun _ => ?_) (fun _ => rfl)
  refine (X_aload_n (m := 115) (pc := 13) (n := 0) (by decide +kernel) rfl).trans ?_
  refine (X_getR (m := 115) (pc := 14) (n := 19) (c := 10) (q := 1) (fi := true) (by decide +kernel) (by decide +kernel)).trans ?_
  refine ite_congr rfl (fun _ => ?_) (fun _ => rfl)
  refine (X_call_vi (m := 115) (pc := 17) (q := 83) (y := 29) (n := 2) (as := [a_r (g r0 2), a_r (g r0 1)]) (rest := []) (by decide +kernel) (by decide +kernel) (by decide +kernel) (by decide +kernel) rfl rfl (Nat.le_of_ble_eq_true rfl) (Nat.le_of_ble_eq_true rfl) rfl (by rw [show m_maxL 29 = 3 from by decide +kernel]; exact Nat.le_of_ble_eq_true rfl)).trans ?_
  exact ite_congr (by simp [a_rcv, show m_recv 29 = 5 from by decide +kernel]) (fun _ => rfl) (fun _ => rfl)
theorem B_X10_sameIn_20 {k : Nat → Nat × Nat} {u : Nat → Nat → Int} {g : Nat → Nat → Nat} {t : Nat × Nat × Nat} {r0 : Nat} {x1 : Int} : a_X 115 20 [a_r (r0), a_i (x1)] [] (k, u, g, t) = if (k r0).1 = 10 then if (k (g r0 2)).1 = 5 then (a_m 51 [a_r (g r0 2), a_i (x1), a_i (200)] (k, u, g, t)).bind (a_back 115 28 3 [a_r (r0), a_i (x1)] []) else none else none := by
  refine (X_aload_n (m := 115) (pc := 20) (n := 0) (by decide +kernel) rfl).trans ?_
  refine (X_getR (m := 115) (pc := 21) (n := 23) (c := 10) (q := 2) (fi := true) (by decide +kernel) (by decide +kernel)).trans ?_
  refine ite_congr rfl (fun _ => ?_) (fun _ => rfl)
  refine (X_iload_n (m := 115) (pc := 24) (n := 1) (by decide +kernel) rfl).trans ?_
  refine (X_sipush (m := 115) (pc := 25) (n := 200) (by decide +kernel) ).trans ?_
  refine (X_call_vi (m := 115) (pc := 28) (q := 319) (y := 51) (n := 3) (as := [a_r (g r0 2), a_i (x1), a_i (200)]) (rest := []) (by decide +kernel) (by decide +kernel) (by decide +kernel) (by decide +kernel) rfl rfl (Nat.le_of_ble_eq_true rfl) (Nat.le_of_ble_eq_true rfl) rfl (by rw [show m_maxL 51 = 4 from by decide +kernel]; exact Nat.le_of_ble_eq_true rfl)).trans ?_
  exact ite_congr (by simp [a_rcv, show m_recv 51 = 5 from by decide +kernel]) (fun _ => rfl) (fun _ => rfl)
theorem B_X10_sameIn_31 {k : Nat → Nat × Nat} {u : Nat → Nat → Int} {g : Nat → Nat → Nat} {t : Nat × Nat × Nat} {r0 : Nat} {x1 : Int} {y0 : Int} : a_X 115 31 [a_r (r0), a_i (x1)] [a_i (y0)] (k, u, g, t) = some (.inl (some (a_i (y0))), (k, u, g, t)) := by
  exact X_ireturn (m := 115) (pc := 31) (f := 1) (by decide +kernel) (by decide +kernel) rfl
theorem E_X10_allSameIn {σ : AS} {r0 : Nat} : a_m 116 [a_r (r0)] σ = a_X 116 0 [a_r (r0), a_x false] [] σ := a_m_eq (by rw [a_entry, show m_maxL 116 = 2 from by decide +kernel]; rfl)
theorem B_X10_allSameIn_0 {k : Nat → Nat × Nat} {u : Nat → Nat → Int} {g : Nat → Nat → Nat} {t : Nat × Nat × Nat} {r0 : Nat} {v1 : AV} : a_X 116 0 [a_r (r0), v1] [] (k, u, g, t) = if (k r0).1 = 10 then (a_m 144 [a_r (r0)] (k, u, g, t)).bind (a_back 116 1 3 [a_r (r0), v1] []) else none := by
  refine (X_aload_n (m := 116) (pc := 0) (n := 0) (by decide +kernel) rfl).trans ?_
  refine (X_call_vi (m := 116) (pc := 1) (q := 103) (y := 144) (n := 1) (as := [a_r (r0)]) (rest := []) (by decide +kernel) (by decide +kernel) (by decide +kernel) (by decide +kernel) rfl rfl (Nat.le_of_ble_eq_true rfl) (Nat.le_of_ble_eq_true rfl) rfl (by rw [show m_maxL 144 = 1 from by decide +kernel]; exact Nat.le_of_ble_eq_true rfl)).trans ?_
  exact ite_congr (by simp [a_rcv, show m_recv 144 = 10 from by decide +kernel]) (fun _ => rfl) (fun _ => rfl)
theorem B_X10_allSameIn_4 {k : Nat → Nat × Nat} {u : Nat → Nat → Int} {g : Nat → Nat → Nat} {t : Nat × Nat × Nat} {r0 : Nat} {v1 : AV} : a_X 116 4 [a_r (r0), v1] [] (k, u, g, t) = if (k r0).1 = 10 then if (k r0).1 = 10 then if (k (g r0 2)).1 = 5 then (a_m 29 [a_r (g r0 2), a_r (g r0 1)] (k, u, g, t)).bind (a_back 116 12 3 [a_r (r0), v1] []) else none else none else none := by
  refine (X_aload_n (m := 116) (pc := 4) (n := 0) (by decide +kernel) rfl).trans ?_
  refine (X_getR (m := 116) (pc := 5) (n := 23) (c := 10) (q := 2) (fi := true) (by decide +kernel) (by decide +kernel)).trans ?_
  refine ite_congr rfl (fun _ => ?_) (fun _ => rfl)
  refine (X_aload_n (m := 116) (pc := 8) (n := 0) (by decide +kernel) rfl).trans ?_
  refine (X_getR (m := 116) (pc := 9) (n := 19) (c := 10) (q := 1) (fi := true) (by decide +kernel) (by decide +kernel)).trans ?_
  refine ite_congr rfl (fun _ => ?_) (fun _ => rfl)
  refine (X_call_vi (m := 116) (pc := 12) (q := 83) (y := 29) (n := 2) (as := [a_r (g r0 2), a_r (g r0 1)]) (rest := []) (by decide +kernel) (by decide +kernel) (by decide +kernel) (by decide +kernel) rfl rfl (Nat.le_of_ble_eq_true rfl) (Nat.le_of_ble_eq_true rfl) rfl (by rw [show m_maxL 29 = 3 from by decide +kernel]; exact Nat.le_of_ble_eq_true rfl)).trans ?_
  exact ite_congr (by simp [a_rcv, show m_recv 29 = 5 from by decide +kernel]) (fun _ => rfl) (fun _ => rfl)
theorem B_X10_allSameIn_15 {k : Nat → Nat × Nat} {u : Nat → Nat → Int} {g : Nat → Nat → Nat} {t : Nat × Nat × Nat} {r0 : Nat} {v1 : AV} : a_X 116 15 [a_r (r0), v1] [] (k, u, g, t) = a_X 116 17 [a_r (r0), a_i (0)] [] (k, u, g, t) := by
  refine (X_iconst (m := 116) (pc := 15) (n := 0) (by decide +kernel) ).trans ?_
  refine (X_istore_n (m := 116) (pc := 16) (n := 1) (by decide +kernel) rfl (Nat.le_of_ble_eq_true rfl) rfl).trans ?_
  rfl
theorem B_X10_allSameIn_17 {k : Nat → Nat × Nat} {u : Nat → Nat → Int} {g : Nat → Nat → Nat} {t : Nat × Nat × Nat} {r0 : Nat} {x1 : Int} : a_X 116 17 [a_r (r0), a_i (x1)] [] (k, u, g, t) = if (x1 : Int) > (200 : Int) then some (.inl (some (a_i (-1))), (k, u, g, t)) else if (k r0).1 = 10 then if (k (g r0 2)).1 = 5 then (a_m 48 [a_r (g r0 2)] (k, u, g, t)).bind (a_back 116 28 3 [a_r (r0), a_i (x1)] []) else none else none := by
  refine (X_iload_n (m := 116) (pc := 17) (n := 1) (by decide +kernel) rfl).trans ?_
  refine (X_sipush (m := 116) (pc := 18) (n := 200) (by decide +kernel) ).trans ?_
  refine (X_ic_gt (m := 116) (pc := 21) (off := 35) (tg := 56) (by decide +kernel) (by decide +kernel)).trans ?_
  refine ite_congr rfl (fun _ => ?_) (fun _ => ?_)
  · refine (X_iconst (m := 116) (pc := 56) (n := -1) (by decide +kernel) ).trans ?_
    exact X_ireturn (m := 116) (pc := 57) (f := 1) (by decide +kernel) (by decide +kernel) rfl
  · refine (X_aload_n (m := 116) (pc := 24) (n := 0) (by decide +kernel) rfl).trans ?_
    refine (X_getR (m := 116) (pc := 25) (n := 23) (c := 10) (q := 2) (fi := true) (by decide +kernel) (by decide +kernel)).trans ?_
    refine ite_congr rfl (fun _ => ?_) (fun _ => rfl)
    refine (X_call_vi (m := 116) (pc := 28) (q := 146) (y := 48) (n := 1) (as := [a_r (g r0 2)]) (rest := []) (by decide +kernel) (by decide +kernel) (by decide +kernel) (by decide +kernel) rfl rfl (Nat.le_of_ble_eq_true rfl) (Nat.le_of_ble_eq_true rfl) rfl (by rw [show m_maxL 48 = 3 from by decide +kernel]; exact Nat.le_of_ble_eq_true rfl)).trans ?_
    exact ite_congr (by simp [a_rcv, show m_recv 48 = 5 from by decide +kernel]) (fun _ => rfl) (fun _ => rfl)
theorem B_X10_allSameIn_31 {k : Nat → Nat × Nat} {u : Nat → Nat → Int} {g : Nat → Nat → Nat} {t : Nat × Nat × Nat} {r0 : Nat} {x1 : Int} {y0 : Int} : a_X 116 31 [a_r (r0), a_i (x1)] [a_i (y0)] (k, u, g, t) = if (k r0).1 = 10 then if (k (g r0 2)).1 = 5 then if (y0 : Int) ≠ (u (g r0 2) 4 : Int) then if (k r0).1 = 10 then if (k (g r0 2)).1 = 5 then (a_m 37 [a_r (g r0 2)] (k, u, g, t)).bind (a_back 116 47 3 [a_r (r0), a_i (x1)] []) else none else none else some (.inl (some (a_i (x1))), (k, u, g, t)) else none else none := by
  refine (X_aload_n (m := 116) (pc := 31) (n := 0) (by decide +kernel) rfl).trans ?_
  refine (X_getR (m := 116) (pc := 32) (n := 23) (c := 10) (q := 2) (fi := true) (by decide +kernel) (by decide +kernel)).trans ?_
  refine ite_congr rfl (fun _ => ?_) (fun _ => rfl)
  refine (X_getI (m := 116) (pc := 35) (n := 94) (c := 5) (q := 4) (ty := 1) (fi := false) (by decide +kernel) (by decide +kernel) (by decide +kernel)).trans ?_
  refine ite_congr rfl (fun _ => ?_) (fun _ => rfl)
  refine (X_ic_ne (m := 116) (pc := 38) (off := 5) (tg := 43) (by decide +kernel) (by decide +kernel)).trans ?_
  refine ite_congr rfl (fun _ => ?_) (fun _ => ?_)
  · refine (X_aload_n (m := 116) (pc := 43) (n := 0) (by decide +kernel) rfl).trans ?_
    refine (X_getR (m := 116) (pc := 44) (n := 23) (c := 10) (q := 2) (fi := true) (by decide +kernel) (by decide +kernel)).trans ?_
    refine ite_congr rfl (fun _ => ?_) (fun _ => rfl)
    refine (X_call_vi (m := 116) (pc := 47) (q := 322) (y := 37) (n := 1) (as := [a_r (g r0 2)]) (rest := []) (by decide +kernel) (by decide +kernel) (by decide +kernel) (by decide +kernel) rfl rfl (Nat.le_of_ble_eq_true rfl) (Nat.le_of_ble_eq_true rfl) rfl (by rw [show m_maxL 37 = 2 from by decide +kernel]; exact Nat.le_of_ble_eq_true rfl)).trans ?_
    exact ite_congr (by simp [a_rcv, show m_recv 37 = 5 from by decide +kernel]) (fun _ => rfl) (fun _ => rfl)
  · refine (X_iload_n (m := 116) (pc := 41) (n := 1) (by decide +kernel) rfl).trans ?_
    exact X_ireturn (m := 116) (pc := 42) (f := 1) (by decide +kernel) (by decide +kernel) rfl
theorem B_X10_allSameIn_50 {k : Nat → Nat × Nat} {u : Nat → Nat → Int} {g : Nat → Nat → Nat} {t : Nat × Nat × Nat} {r0 : Nat} {x1 : Int} : a_X 116 50 [a_r (r0), a_i (x1)] [] (k, u, g, t) = a_X 116 17 [a_r (r0), a_i (wr (x1 + 1))] [] (k, u, g, t) := by
  refine (X_iinc (m := 116) (pc := 50) (n := 1) (c := 1) (by decide +kernel) rfl rfl (Nat.le_of_ble_eq_true rfl) rfl).trans ?_
  refine (X_goto (m := 116) (pc := 53) (off := -36) (tg := 17) (by decide +kernel) (by decide +kernel)).trans ?_
  rfl
theorem E_X10_heardIn {σ : AS} {r0 : Nat} {x1 : Int} {x2 : Int} : a_m 117 [a_r (r0), a_i (x1), a_i (x2)] σ = a_X 117 0 [a_r (r0), a_i (x1), a_i (x2), a_x false] [] σ := a_m_eq (by rw [a_entry, show m_maxL 117 = 4 from by decide +kernel]; rfl)
theorem B_X10_heardIn_0 {k : Nat → Nat × Nat} {u : Nat → Nat → Int} {g : Nat → Nat → Nat} {t : Nat × Nat × Nat} {r0 : Nat} {x1 : Int} {x2 : Int} {v3 : AV} : a_X 117 0 [a_r (r0), a_i (x1), a_i (x2), v3] [] (k, u, g, t) = if (k r0).1 = 10 then (a_m 144 [a_r (r0)] (k, u, g, t)).bind (a_back 117 1 3 [a_r (r0), a_i (x1), a_i (x2), v3] []) else none := by
  refine (X_aload_n (m := 117) (pc := 0) (n := 0) (by decide +kernel) rfl).trans ?_
  refine (X_call_vi (m := 117) (pc := 1) (q := 103) (y := 144) (n := 1) (as := [a_r (r0)]) (rest := []) (by decide +kernel) (by decide +kernel) (by decide +kernel) (by decide +kernel) rfl rfl (Nat.le_of_ble_eq_true rfl) (Nat.le_of_ble_eq_true rfl) rfl (by rw [show m_maxL 144 = 1 from by decide +kernel]; exact Nat.le_of_ble_eq_true rfl)).trans ?_
  exact ite_congr (by simp [a_rcv, show m_recv 144 = 10 from by decide +kernel]) (fun _ => rfl) (fun _ => rfl)
theorem B_X10_heardIn_4 {k : Nat → Nat × Nat} {u : Nat → Nat → Int} {g : Nat → Nat → Nat} {t : Nat × Nat × Nat} {r0 : Nat} {x1 : Int} {x2 : Int} {v3 : AV} : a_X 117 4 [a_r (r0), a_i (x1), a_i (x2), v3] [] (k, u, g, t) = if (k r0).1 = 10 then (a_m 145 [a_r (r0), a_i (x1)] (k, u, g, t)).bind (a_back 117 6 3 [a_r (r0), a_i (x1), a_i (x2), v3] []) else none := by
  refine (X_aload_n (m := 117) (pc := 4) (n := 0) (by decide +kernel) rfl).trans ?_
  refine (X_iload_n (m := 117) (pc := 5) (n := 1) (by decide +kernel) rfl).trans ?_
  refine (X_call_vi (m := 117) (pc := 6) (q := 247) (y := 145) (n := 2) (as := [a_r (r0), a_i (x1)]) (rest := []) (by decide +kernel) (by decide +kernel) (by decide +kernel) (by decide +kernel) rfl rfl (Nat.le_of_ble_eq_true rfl) (Nat.le_of_ble_eq_true rfl) rfl (by rw [show m_maxL 145 = 2 from by decide +kernel]; exact Nat.le_of_ble_eq_true rfl)).trans ?_
  exact ite_congr (by simp [a_rcv, show m_recv 145 = 10 from by decide +kernel]) (fun _ => rfl) (fun _ => rfl)
theorem B_X10_heardIn_9 {k : Nat → Nat × Nat} {u : Nat → Nat → Int} {g : Nat → Nat → Nat} {t : Nat × Nat × Nat} {r0 : Nat} {x1 : Int} {x2 : Int} {v3 : AV} : a_X 117 9 [a_r (r0), a_i (x1), a_i (x2), v3] [] (k, u, g, t) = if (k r0).1 = 10 then if (k r0).1 = 10 then if (k (g r0 2)).1 = 5 then (a_m 29 [a_r (g r0 2), a_r (g r0 1)] (k, u, g, t)).bind (a_back 117 17 3 [a_r (r0), a_i (x1), a_i (x2), v3] []) else none else none else none := by
  refine (X_aload_n (m := 117) (pc := 9) (n := 0) (by decide +kernel) rfl).trans ?_
  refine (X_getR (m := 117) (pc := 10) (n := 23) (c := 10) (q := 2) (fi := true) (by decide +kernel) (by decide +kernel)).trans ?_
  refine ite_congr rfl (fun _ => ?_) (fun _ => rfl)
  refine (X_aload_n (m := 117) (pc := 13) (n := 0) (by decide +kernel) rfl).trans ?_
  refine (X_getR (m := 117) (pc := 14) (n := 19) (c := 10) (q := 1) (fi := true) (by decide +kernel) (by decide +kernel)).trans ?_
  refine ite_congr rfl (fun _ => ?_) (fun _ => rfl)
  refine (X_call_vi (m := 117) (pc := 17) (q := 83) (y := 29) (n := 2) (as := [a_r (g r0 2), a_r (g r0 1)]) (rest := []) (by decide +kernel) (by decide +kernel) (by decide +kernel) (by decide +kernel) rfl rfl (Nat.le_of_ble_eq_true rfl) (Nat.le_of_ble_eq_true rfl) rfl (by rw [show m_maxL 29 = 3 from by decide +kernel]; exact Nat.le_of_ble_eq_true rfl)).trans ?_
  exact ite_congr (by simp [a_rcv, show m_recv 29 = 5 from by decide +kernel]) (fun _ => rfl) (fun _ => rfl)
theorem B_X10_heardIn_20 {k : Nat → Nat × Nat} {u : Nat → Nat → Int} {g : Nat → Nat → Nat} {t : Nat × Nat × Nat} {r0 : Nat} {x1 : Int} {x2 : Int} {v3 : AV} : a_X 117 20 [a_r (r0), a_i (x1), a_i (x2), v3] [] (k, u, g, t) = a_X 117 22 [a_r (r0), a_i (x1), a_i (x2), a_i (0)] [] (k, u, g, t) := by
  refine (X_iconst (m := 117) (pc := 20) (n := 0) (by decide +kernel) ).trans ?_
  refine (X_istore_n (m := 117) (pc := 21) (n := 3) (by decide +kernel) rfl (Nat.le_of_ble_eq_true rfl) rfl).trans ?_
  rfl
theorem B_X10_heardIn_22 {k : Nat → Nat × Nat} {u : Nat → Nat → Int} {g : Nat → Nat → Nat} {t : Nat × Nat × Nat} {r0 : Nat} {x1 : Int} {x2 : Int} {x3 : Int} : a_X 117 22 [a_r (r0), a_i (x1), a_i (x2), a_i (x3)] [] (k, u, g, t) = if (x3 : Int) > (200 : Int) then some (.inl (some (a_i (-1))), (k, u, g, t)) else if (k r0).1 = 10 then if (k (g r0 2)).1 = 5 then (a_m 40 [a_r (g r0 2), a_i (x1), a_i (x2)] (k, u, g, t)).bind (a_back 117 35 3 [a_r (r0), a_i (x1), a_i (x2), a_i (x3)] []) else none else none := by
  refine (X_iload_n (m := 117) (pc := 22) (n := 3) (by decide +kernel) rfl).trans ?_
  refine (X_sipush (m := 117) (pc := 23) (n := 200) (by decide +kernel) ).trans ?_
  refine (X_ic_gt (m := 117) (pc := 26) (off := 30) (tg := 56) (by decide +kernel) (by decide +kernel)).trans ?_
  refine ite_congr rfl (fun _ => ?_) (fun _ => ?_)
  · refine (X_iconst (m := 117) (pc := 56) (n := -1) (by decide +kernel) ).trans ?_
    exact X_ireturn (m := 117) (pc := 57) (f := 1) (by decide +kernel) (by decide +kernel) rfl
  · refine (X_aload_n (m := 117) (pc := 29) (n := 0) (by decide +kernel) rfl).trans ?_
    refine (X_getR (m := 117) (pc := 30) (n := 23) (c := 10) (q := 2) (fi := true) (by decide +kernel) (by decide +kernel)).trans ?_
    refine ite_congr rfl (fun _ => ?_) (fun _ => rfl)
    refine (X_iload_n (m := 117) (pc := 33) (n := 1) (by decide +kernel) rfl).trans ?_
    refine (X_iload_n (m := 117) (pc := 34) (n := 2) (by decide +kernel) rfl).trans ?_
    refine (X_call_vi (m := 117) (pc := 35) (q := 299) (y := 40) (n := 3) (as := [a_r (g r0 2), a_i (x1), a_i (x2)]) (rest := []) (by decide +kernel) (by decide +kernel) (by decide +kernel) (by decide +kernel) rfl rfl (Nat.le_of_ble_eq_true rfl) (Nat.le_of_ble_eq_true rfl) rfl (by rw [show m_maxL 40 = 3 from by decide +kernel]; exact Nat.le_of_ble_eq_true rfl)).trans ?_
    exact ite_congr (by simp [a_rcv, show m_recv 40 = 5 from by decide +kernel]) (fun _ => rfl) (fun _ => rfl)
theorem B_X10_heardIn_38 {k : Nat → Nat × Nat} {u : Nat → Nat → Int} {g : Nat → Nat → Nat} {t : Nat × Nat × Nat} {r0 : Nat} {x1 : Int} {x2 : Int} {x3 : Int} {y0 : Int} : a_X 117 38 [a_r (r0), a_i (x1), a_i (x2), a_i (x3)] [a_i (y0)] (k, u, g, t) = if (y0 : Int) = 0 then if (k r0).1 = 10 then if (k (g r0 2)).1 = 5 then (a_m 37 [a_r (g r0 2)] (k, u, g, t)).bind (a_back 117 47 3 [a_r (r0), a_i (x1), a_i (x2), a_i (x3)] []) else none else none else some (.inl (some (a_i (x3))), (k, u, g, t)) := by
  refine (X_if_eq (m := 117) (pc := 38) (off := 5) (tg := 43) (by decide +kernel) (by decide +kernel)).trans ?_
  refine ite_congr rfl (fun _ => ?_) (fun _ => ?_)
  · refine (X_aload_n (m := 117) (pc := 43) (n := 0) (by decide +kernel) rfl).trans ?_
    refine (X_getR (m := 117) (pc := 44) (n := 23) (c := 10) (q := 2) (fi := true) (by decide +kernel) (by decide +kernel)).trans ?_
    refine ite_congr rfl (fun _ => ?_) (fun _ => rfl)
    refine (X_call_vi (m := 117) (pc := 47) (q := 322) (y := 37) (n := 1) (as := [a_r (g r0 2)]) (rest := []) (by decide +kernel) (by decide +kernel) (by decide +kernel) (by decide +kernel) rfl rfl (Nat.le_of_ble_eq_true rfl) (Nat.le_of_ble_eq_true rfl) rfl (by rw [show m_maxL 37 = 2 from by decide +kernel]; exact Nat.le_of_ble_eq_true rfl)).trans ?_
    exact ite_congr (by simp [a_rcv, show m_recv 37 = 5 from by decide +kernel]) (fun _ => rfl) (fun _ => rfl)
  · refine (X_iload_n (m := 117) (pc := 41) (n := 3) (by decide +kernel) rfl).trans ?_
    exact X_ireturn (m := 117) (pc := 42) (f := 1) (by decide +kernel) (by decide +kernel) rfl
theorem B_X10_heardIn_50 {k : Nat → Nat × Nat} {u : Nat → Nat → Int} {g : Nat → Nat → Nat} {t : Nat × Nat × Nat} {r0 : Nat} {x1 : Int} {x2 : Int} {x3 : Int} : a_X 117 50 [a_r (r0), a_i (x1), a_i (x2), a_i (x3)] [] (k, u, g, t) = a_X 117 22 [a_r (r0), a_i (x1), a_i (x2), a_i (wr (x3 + 1))] [] (k, u, g, t) := by
  refine (X_iinc (m := 117) (pc := 50) (n := 3) (c := 1) (by decide +kernel) rfl rfl (Nat.le_of_ble_eq_true rfl) rfl).trans ?_
  refine (X_goto (m := 117) (pc := 53) (off := -31) (tg := 22) (by decide +kernel) (by decide +kernel)).trans ?_
  rfl
theorem E_X10_missingIn {σ : AS} {r0 : Nat} {x1 : Int} {x2 : Int} : a_m 118 [a_r (r0), a_i (x1), a_i (x2)] σ = a_X 118 0 [a_r (r0), a_i (x1), a_i (x2)] [] σ := a_m_eq (by rw [a_entry, show m_maxL 118 = 3 from by decide +kernel]; rfl)
theorem B_X10_missingIn_0 {k : Nat → Nat × Nat} {u : Nat → Nat → Int} {g : Nat → Nat → Nat} {t : Nat × Nat × Nat} {r0 : Nat} {x1 : Int} {x2 : Int} : a_X 118 0 [a_r (r0), a_i (x1), a_i (x2)] [] (k, u, g, t) = if (k r0).1 = 10 then (a_m 144 [a_r (r0)] (k, u, g, t)).bind (a_back 118 1 3 [a_r (r0), a_i (x1), a_i (x2)] []) else none := by
  refine (X_aload_n (m := 118) (pc := 0) (n := 0) (by decide +kernel) rfl).trans ?_
  refine (X_call_vi (m := 118) (pc := 1) (q := 103) (y := 144) (n := 1) (as := [a_r (r0)]) (rest := []) (by decide +kernel) (by decide +kernel) (by decide +kernel) (by decide +kernel) rfl rfl (Nat.le_of_ble_eq_true rfl) (Nat.le_of_ble_eq_true rfl) rfl (by rw [show m_maxL 144 = 1 from by decide +kernel]; exact Nat.le_of_ble_eq_true rfl)).trans ?_
  exact ite_congr (by simp [a_rcv, show m_recv 144 = 10 from by decide +kernel]) (fun _ => rfl) (fun _ => rfl)
theorem B_X10_missingIn_4 {k : Nat → Nat × Nat} {u : Nat → Nat → Int} {g : Nat → Nat → Nat} {t : Nat × Nat × Nat} {r0 : Nat} {x1 : Int} {x2 : Int} : a_X 118 4 [a_r (r0), a_i (x1), a_i (x2)] [] (k, u, g, t) = if (k r0).1 = 10 then (a_m 145 [a_r (r0), a_i (x1)] (k, u, g, t)).bind (a_back 118 6 3 [a_r (r0), a_i (x1), a_i (x2)] []) else none := by
  refine (X_aload_n (m := 118) (pc := 4) (n := 0) (by decide +kernel) rfl).trans ?_
  refine (X_iload_n (m := 118) (pc := 5) (n := 1) (by decide +kernel) rfl).trans ?_
  refine (X_call_vi (m := 118) (pc := 6) (q := 247) (y := 145) (n := 2) (as := [a_r (r0), a_i (x1)]) (rest := []) (by decide +kernel) (by decide +kernel) (by decide +kernel) (by decide +kernel) rfl rfl (Nat.le_of_ble_eq_true rfl) (Nat.le_of_ble_eq_true rfl) rfl (by rw [show m_maxL 145 = 2 from by decide +kernel]; exact Nat.le_of_ble_eq_true rfl)).trans ?_
  exact ite_congr (by simp [a_rcv, show m_recv 145 = 10 from by decide +kernel]) (fun _ => rfl) (fun _ => rfl)
theorem B_X10_missingIn_9 {k : Nat → Nat × Nat} {u : Nat → Nat → Int} {g : Nat → Nat → Nat} {t : Nat × Nat × Nat} {r0 : Nat} {x1 : Int} {x2 : Int} : a_X 118 9 [a_r (r0), a_i (x1), a_i (x2)] [] (k, u, g, t) = if (k r0).1 = 10 then (a_m 149 [a_r (r0), a_i (x2), a_i (0), a_i (200)] (k, u, g, t)).bind (a_back 118 15 3 [a_r (r0), a_i (x1), a_i (x2)] []) else none := by
  refine (X_aload_n (m := 118) (pc := 9) (n := 0) (by decide +kernel) rfl).trans ?_
  refine (X_iload_n (m := 118) (pc := 10) (n := 2) (by decide +kernel) rfl).trans ?_
  refine (X_iconst (m := 118) (pc := 11) (n := 0) (by decide +kernel) ).trans ?_
  refine (X_sipush (m := 118) (pc := 12) (n := 200) (by decide +kernel) ).trans ?_
  refine (X_call_vi (m := 118) (pc := 15) (q := 163) (y := 149) (n := 4) (as := [a_r (r0), a_i (x2), a_i (0), a_i (200)]) (rest := []) (by decide +kernel) (by decide +kernel) (by decide +kernel) (by decide +kernel) rfl rfl (Nat.le_of_ble_eq_true rfl) (Nat.le_of_ble_eq_true rfl) rfl (by rw [show m_maxL 149 = 4 from by decide +kernel]; exact Nat.le_of_ble_eq_true rfl)).trans ?_
  exact ite_congr (by simp [a_rcv, show m_recv 149 = 10 from by decide +kernel]) (fun _ => rfl) (fun _ => rfl)
theorem B_X10_missingIn_18 {k : Nat → Nat × Nat} {u : Nat → Nat → Int} {g : Nat → Nat → Nat} {t : Nat × Nat × Nat} {r0 : Nat} {x1 : Int} {x2 : Int} : a_X 118 18 [a_r (r0), a_i (x1), a_i (x2)] [] (k, u, g, t) = if (k r0).1 = 10 then if (k r0).1 = 10 then if (k (g r0 2)).1 = 5 then (a_m 29 [a_r (g r0 2), a_r (g r0 1)] (k, u, g, t)).bind (a_back 118 26 3 [a_r (r0), a_i (x1), a_i (x2)] []) else none else none else none := by
  refine (X_aload_n (m := 118) (pc := 18) (n := 0) (by decide +kernel) rfl).trans ?_
  refine (X_getR (m := 118) (pc := 19) (n := 23) (c := 10) (q := 2) (fi := true) (by decide +kernel) (by decide +kernel)).trans ?_
  refine ite_congr rfl (fun _ => ?_) (fun _ => rfl)
  refine (X_aload_n (m := 118) (pc := 22) (n := 0) (by decide +kernel) rfl).trans ?_
  refine (X_getR (m := 118) (pc := 23) (n := 19) (c := 10) (q := 1) (fi := true) (by decide +kernel) (by decide +kernel)).trans ?_
  refine ite_congr rfl (fun _ => ?_) (fun _ => rfl)
  refine (X_call_vi (m := 118) (pc := 26) (q := 83) (y := 29) (n := 2) (as := [a_r (g r0 2), a_r (g r0 1)]) (rest := []) (by decide +kernel) (by decide +kernel) (by decide +kernel) (by decide +kernel) rfl rfl (Nat.le_of_ble_eq_true rfl) (Nat.le_of_ble_eq_true rfl) rfl (by rw [show m_maxL 29 = 3 from by decide +kernel]; exact Nat.le_of_ble_eq_true rfl)).trans ?_
  exact ite_congr (by simp [a_rcv, show m_recv 29 = 5 from by decide +kernel]) (fun _ => rfl) (fun _ => rfl)
theorem B_X10_missingIn_29 {k : Nat → Nat × Nat} {u : Nat → Nat → Int} {g : Nat → Nat → Nat} {t : Nat × Nat × Nat} {r0 : Nat} {x1 : Int} {x2 : Int} : a_X 118 29 [a_r (r0), a_i (x1), a_i (x2)] [] (k, u, g, t) = if (k r0).1 = 10 then if (k (g r0 2)).1 = 5 then (a_m 36 [a_r (g r0 2), a_i (x2)] (k, u, g, t)).bind (a_back 118 34 3 [a_r (r0), a_i (x1), a_i (x2)] []) else none else none := by
  refine (X_aload_n (m := 118) (pc := 29) (n := 0) (by decide +kernel) rfl).trans ?_
  refine (X_getR (m := 118) (pc := 30) (n := 23) (c := 10) (q := 2) (fi := true) (by decide +kernel) (by decide +kernel)).trans ?_
  refine ite_congr rfl (fun _ => ?_) (fun _ => rfl)
  refine (X_iload_n (m := 118) (pc := 33) (n := 2) (by decide +kernel) rfl).trans ?_
  refine (X_call_vi (m := 118) (pc := 34) (q := 316) (y := 36) (n := 2) (as := [a_r (g r0 2), a_i (x2)]) (rest := []) (by decide +kernel) (by decide +kernel) (by decide +kernel) (by decide +kernel) rfl rfl (Nat.le_of_ble_eq_true rfl) (Nat.le_of_ble_eq_true rfl) rfl (by rw [show m_maxL 36 = 3 from by decide +kernel]; exact Nat.le_of_ble_eq_true rfl)).trans ?_
  exact ite_congr (by simp [a_rcv, show m_recv 36 = 5 from by decide +kernel]) (fun _ => rfl) (fun _ => rfl)
theorem B_X10_missingIn_37 {k : Nat → Nat × Nat} {u : Nat → Nat → Int} {g : Nat → Nat → Nat} {t : Nat × Nat × Nat} {r0 : Nat} {x1 : Int} {x2 : Int} : a_X 118 37 [a_r (r0), a_i (x1), a_i (x2)] [] (k, u, g, t) = if (k r0).1 = 10 then if (k (g r0 2)).1 = 5 then (a_m 43 [a_r (g r0 2), a_i (x1)] (k, u, g, t)).bind (a_back 118 42 3 [a_r (r0), a_i (x1), a_i (x2)] []) else none else none := by
  refine (X_aload_n (m := 118) (pc := 37) (n := 0) (by decide +kernel) rfl).trans ?_
  refine (X_getR (m := 118) (pc := 38) (n := 23) (c := 10) (q := 2) (fi := true) (by decide +kernel) (by decide +kernel)).trans ?_
  refine ite_congr rfl (fun _ => ?_) (fun _ => rfl)
  refine (X_iload_n (m := 118) (pc := 41) (n := 1) (by decide +kernel) rfl).trans ?_
  refine (X_call_vi (m := 118) (pc := 42) (q := 275) (y := 43) (n := 2) (as := [a_r (g r0 2), a_i (x1)]) (rest := []) (by decide +kernel) (by decide +kernel) (by decide +kernel) (by decide +kernel) rfl rfl (Nat.le_of_ble_eq_true rfl) (Nat.le_of_ble_eq_true rfl) rfl (by rw [show m_maxL 43 = 4 from by decide +kernel]; exact Nat.le_of_ble_eq_true rfl)).trans ?_
  exact ite_congr (by simp [a_rcv, show m_recv 43 = 5 from by decide +kernel]) (fun _ => rfl) (fun _ => rfl)
theorem B_X10_missingIn_45 {k : Nat → Nat × Nat} {u : Nat → Nat → Int} {g : Nat → Nat → Nat} {t : Nat × Nat × Nat} {r0 : Nat} {x1 : Int} {x2 : Int} {y0 : Int} : a_X 118 45 [a_r (r0), a_i (x1), a_i (x2)] [a_i (y0)] (k, u, g, t) = some (.inl (some (a_i (y0))), (k, u, g, t)) := by
  exact X_ireturn (m := 118) (pc := 45) (f := 1) (by decide +kernel) (by decide +kernel) rfl
theorem E_X10_wrongIn {σ : AS} {r0 : Nat} {x1 : Int} {x2 : Int} : a_m 119 [a_r (r0), a_i (x1), a_i (x2)] σ = a_X 119 0 [a_r (r0), a_i (x1), a_i (x2)] [] σ := a_m_eq (by rw [a_entry, show m_maxL 119 = 3 from by decide +kernel]; rfl)
theorem B_X10_wrongIn_0 {k : Nat → Nat × Nat} {u : Nat → Nat → Int} {g : Nat → Nat → Nat} {t : Nat × Nat × Nat} {r0 : Nat} {x1 : Int} {x2 : Int} : a_X 119 0 [a_r (r0), a_i (x1), a_i (x2)] [] (k, u, g, t) = if (k r0).1 = 10 then (a_m 144 [a_r (r0)] (k, u, g, t)).bind (a_back 119 1 3 [a_r (r0), a_i (x1), a_i (x2)] []) else none := by
  refine (X_aload_n (m := 119) (pc := 0) (n := 0) (by decide +kernel) rfl).trans ?_
  refine (X_call_vi (m := 119) (pc := 1) (q := 103) (y := 144) (n := 1) (as := [a_r (r0)]) (rest := []) (by decide +kernel) (by decide +kernel) (by decide +kernel) (by decide +kernel) rfl rfl (Nat.le_of_ble_eq_true rfl) (Nat.le_of_ble_eq_true rfl) rfl (by rw [show m_maxL 144 = 1 from by decide +kernel]; exact Nat.le_of_ble_eq_true rfl)).trans ?_
  exact ite_congr (by simp [a_rcv, show m_recv 144 = 10 from by decide +kernel]) (fun _ => rfl) (fun _ => rfl)
theorem B_X10_wrongIn_4 {k : Nat → Nat × Nat} {u : Nat → Nat → Int} {g : Nat → Nat → Nat} {t : Nat × Nat × Nat} {r0 : Nat} {x1 : Int} {x2 : Int} : a_X 119 4 [a_r (r0), a_i (x1), a_i (x2)] [] (k, u, g, t) = if (k r0).1 = 10 then (a_m 145 [a_r (r0), a_i (x1)] (k, u, g, t)).bind (a_back 119 6 3 [a_r (r0), a_i (x1), a_i (x2)] []) else none := by
  refine (X_aload_n (m := 119) (pc := 4) (n := 0) (by decide +kernel) rfl).trans ?_
  refine (X_iload_n (m := 119) (pc := 5) (n := 1) (by decide +kernel) rfl).trans ?_
  refine (X_call_vi (m := 119) (pc := 6) (q := 247) (y := 145) (n := 2) (as := [a_r (r0), a_i (x1)]) (rest := []) (by decide +kernel) (by decide +kernel) (by decide +kernel) (by decide +kernel) rfl rfl (Nat.le_of_ble_eq_true rfl) (Nat.le_of_ble_eq_true rfl) rfl (by rw [show m_maxL 145 = 2 from by decide +kernel]; exact Nat.le_of_ble_eq_true rfl)).trans ?_
  exact ite_congr (by simp [a_rcv, show m_recv 145 = 10 from by decide +kernel]) (fun _ => rfl) (fun _ => rfl)
theorem B_X10_wrongIn_9 {k : Nat → Nat × Nat} {u : Nat → Nat → Int} {g : Nat → Nat → Nat} {t : Nat × Nat × Nat} {r0 : Nat} {x1 : Int} {x2 : Int} : a_X 119 9 [a_r (r0), a_i (x1), a_i (x2)] [] (k, u, g, t) = if (k r0).1 = 10 then (a_m 149 [a_r (r0), a_i (x2), a_i (0), a_i (200)] (k, u, g, t)).bind (a_back 119 15 3 [a_r (r0), a_i (x1), a_i (x2)] []) else none := by
  refine (X_aload_n (m := 119) (pc := 9) (n := 0) (by decide +kernel) rfl).trans ?_
  refine (X_iload_n (m := 119) (pc := 10) (n := 2) (by decide +kernel) rfl).trans ?_
  refine (X_iconst (m := 119) (pc := 11) (n := 0) (by decide +kernel) ).trans ?_
  refine (X_sipush (m := 119) (pc := 12) (n := 200) (by decide +kernel) ).trans ?_
  refine (X_call_vi (m := 119) (pc := 15) (q := 163) (y := 149) (n := 4) (as := [a_r (r0), a_i (x2), a_i (0), a_i (200)]) (rest := []) (by decide +kernel) (by decide +kernel) (by decide +kernel) (by decide +kernel) rfl rfl (Nat.le_of_ble_eq_true rfl) (Nat.le_of_ble_eq_true rfl) rfl (by rw [show m_maxL 149 = 4 from by decide +kernel]; exact Nat.le_of_ble_eq_true rfl)).trans ?_
  exact ite_congr (by simp [a_rcv, show m_recv 149 = 10 from by decide +kernel]) (fun _ => rfl) (fun _ => rfl)
theorem B_X10_wrongIn_18 {k : Nat → Nat × Nat} {u : Nat → Nat → Int} {g : Nat → Nat → Nat} {t : Nat × Nat × Nat} {r0 : Nat} {x1 : Int} {x2 : Int} : a_X 119 18 [a_r (r0), a_i (x1), a_i (x2)] [] (k, u, g, t) = if (k r0).1 = 10 then if (k r0).1 = 10 then if (k (g r0 2)).1 = 5 then (a_m 29 [a_r (g r0 2), a_r (g r0 1)] (k, u, g, t)).bind (a_back 119 26 3 [a_r (r0), a_i (x1), a_i (x2)] []) else none else none else none := by
  refine (X_aload_n (m := 119) (pc := 18) (n := 0) (by decide +kernel) rfl).trans ?_
  refine (X_getR (m := 119) (pc := 19) (n := 23) (c := 10) (q := 2) (fi := true) (by decide +kernel) (by decide +kernel)).trans ?_
  refine ite_congr rfl (fun _ => ?_) (fun _ => rfl)
  refine (X_aload_n (m := 119) (pc := 22) (n := 0) (by decide +kernel) rfl).trans ?_
  refine (X_getR (m := 119) (pc := 23) (n := 19) (c := 10) (q := 1) (fi := true) (by decide +kernel) (by decide +kernel)).trans ?_
  refine ite_congr rfl (fun _ => ?_) (fun _ => rfl)
  refine (X_call_vi (m := 119) (pc := 26) (q := 83) (y := 29) (n := 2) (as := [a_r (g r0 2), a_r (g r0 1)]) (rest := []) (by decide +kernel) (by decide +kernel) (by decide +kernel) (by decide +kernel) rfl rfl (Nat.le_of_ble_eq_true rfl) (Nat.le_of_ble_eq_true rfl) rfl (by rw [show m_maxL 29 = 3 from by decide +kernel]; exact Nat.le_of_ble_eq_true rfl)).trans ?_
  exact ite_congr (by simp [a_rcv, show m_recv 29 = 5 from by decide +kernel]) (fun _ => rfl) (fun _ => rfl)
theorem B_X10_wrongIn_29 {k : Nat → Nat × Nat} {u : Nat → Nat → Int} {g : Nat → Nat → Nat} {t : Nat × Nat × Nat} {r0 : Nat} {x1 : Int} {x2 : Int} : a_X 119 29 [a_r (r0), a_i (x1), a_i (x2)] [] (k, u, g, t) = if (k r0).1 = 10 then if (k (g r0 2)).1 = 5 then (a_m 36 [a_r (g r0 2), a_i (x2)] (k, u, g, t)).bind (a_back 119 34 3 [a_r (r0), a_i (x1), a_i (x2)] []) else none else none := by
  refine (X_aload_n (m := 119) (pc := 29) (n := 0) (by decide +kernel) rfl).trans ?_
  refine (X_getR (m := 119) (pc := 30) (n := 23) (c := 10) (q := 2) (fi := true) (by decide +kernel) (by decide +kernel)).trans ?_
  refine ite_congr rfl (fun _ => ?_) (fun _ => rfl)
  refine (X_iload_n (m := 119) (pc := 33) (n := 2) (by decide +kernel) rfl).trans ?_
  refine (X_call_vi (m := 119) (pc := 34) (q := 316) (y := 36) (n := 2) (as := [a_r (g r0 2), a_i (x2)]) (rest := []) (by decide +kernel) (by decide +kernel) (by decide +kernel) (by decide +kernel) rfl rfl (Nat.le_of_ble_eq_true rfl) (Nat.le_of_ble_eq_true rfl) rfl (by rw [show m_maxL 36 = 3 from by decide +kernel]; exact Nat.le_of_ble_eq_true rfl)).trans ?_
  exact ite_congr (by simp [a_rcv, show m_recv 36 = 5 from by decide +kernel]) (fun _ => rfl) (fun _ => rfl)
theorem B_X10_wrongIn_37 {k : Nat → Nat × Nat} {u : Nat → Nat → Int} {g : Nat → Nat → Nat} {t : Nat × Nat × Nat} {r0 : Nat} {x1 : Int} {x2 : Int} : a_X 119 37 [a_r (r0), a_i (x1), a_i (x2)] [] (k, u, g, t) = if (k r0).1 = 10 then if (k (g r0 2)).1 = 5 then (a_m 47 [a_r (g r0 2), a_i (x1)] (k, u, g, t)).bind (a_back 119 42 3 [a_r (r0), a_i (x1), a_i (x2)] []) else none else none := by
  refine (X_aload_n (m := 119) (pc := 37) (n := 0) (by decide +kernel) rfl).trans ?_
  refine (X_getR (m := 119) (pc := 38) (n := 23) (c := 10) (q := 2) (fi := true) (by decide +kernel) (by decide +kernel)).trans ?_
  refine ite_congr rfl (fun _ => ?_) (fun _ => rfl)
  refine (X_iload_n (m := 119) (pc := 41) (n := 1) (by decide +kernel) rfl).trans ?_
  refine (X_call_vi (m := 119) (pc := 42) (q := 310) (y := 47) (n := 2) (as := [a_r (g r0 2), a_i (x1)]) (rest := []) (by decide +kernel) (by decide +kernel) (by decide +kernel) (by decide +kernel) rfl rfl (Nat.le_of_ble_eq_true rfl) (Nat.le_of_ble_eq_true rfl) rfl (by rw [show m_maxL 47 = 2 from by decide +kernel]; exact Nat.le_of_ble_eq_true rfl)).trans ?_
  exact ite_congr (by simp [a_rcv, show m_recv 47 = 5 from by decide +kernel]) (fun _ => rfl) (fun _ => rfl)
theorem B_X10_wrongIn_45 {k : Nat → Nat × Nat} {u : Nat → Nat → Int} {g : Nat → Nat → Nat} {t : Nat × Nat × Nat} {r0 : Nat} {x1 : Int} {x2 : Int} {y0 : Int} : a_X 119 45 [a_r (r0), a_i (x1), a_i (x2)] [a_i (y0)] (k, u, g, t) = some (.inl (some (a_i (y0))), (k, u, g, t)) := by
  exact X_ireturn (m := 119) (pc := 45) (f := 1) (by decide +kernel) (by decide +kernel) rfl
theorem E_X10_quietIn {σ : AS} {r0 : Nat} : a_m 120 [a_r (r0)] σ = a_X 120 0 [a_r (r0), a_x false] [] σ := a_m_eq (by rw [a_entry, show m_maxL 120 = 2 from by decide +kernel]; rfl)
theorem B_X10_quietIn_0 {k : Nat → Nat × Nat} {u : Nat → Nat → Int} {g : Nat → Nat → Nat} {t : Nat × Nat × Nat} {r0 : Nat} {v1 : AV} : a_X 120 0 [a_r (r0), v1] [] (k, u, g, t) = if (k r0).1 = 10 then (a_m 144 [a_r (r0)] (k, u, g, t)).bind (a_back 120 1 3 [a_r (r0), v1] []) else none := by
  refine (X_aload_n (m := 120) (pc := 0) (n := 0) (by decide +kernel) rfl).trans ?_
  refine (X_call_vi (m := 120) (pc := 1) (q := 103) (y := 144) (n := 1) (as := [a_r (r0)]) (rest := []) (by decide +kernel) (by decide +kernel) (by decide +kernel) (by decide +kernel) rfl rfl (Nat.le_of_ble_eq_true rfl) (Nat.le_of_ble_eq_true rfl) rfl (by rw [show m_maxL 144 = 1 from by decide +kernel]; exact Nat.le_of_ble_eq_true rfl)).trans ?_
  exact ite_congr (by simp [a_rcv, show m_recv 144 = 10 from by decide +kernel]) (fun _ => rfl) (fun _ => rfl)
theorem B_X10_quietIn_4 {k : Nat → Nat × Nat} {u : Nat → Nat → Int} {g : Nat → Nat → Nat} {t : Nat × Nat × Nat} {r0 : Nat} {v1 : AV} : a_X 120 4 [a_r (r0), v1] [] (k, u, g, t) = if (k r0).1 = 10 then if (k r0).1 = 10 then if (k (g r0 2)).1 = 5 then (a_m 29 [a_r (g r0 2), a_r (g r0 1)] (k, u, g, t)).bind (a_back 120 12 3 [a_r (r0), v1] []) else none else none else none := by
  refine (X_aload_n (m := 120) (pc := 4) (n := 0) (by decide +kernel) rfl).trans ?_
  refine (X_getR (m := 120) (pc := 5) (n := 23) (c := 10) (q := 2) (fi := true) (by decide +kernel) (by decide +kernel)).trans ?_
  refine ite_congr rfl (fun _ => ?_) (fun _ => rfl)
  refine (X_aload_n (m := 120) (pc := 8) (n := 0) (by decide +kernel) rfl).trans ?_
  refine (X_getR (m := 120) (pc := 9) (n := 19) (c := 10) (q := 1) (fi := true) (by decide +kernel) (by decide +kernel)).trans ?_
  refine ite_congr rfl (fun _ => ?_) (fun _ => rfl)
  refine (X_call_vi (m := 120) (pc := 12) (q := 83) (y := 29) (n := 2) (as := [a_r (g r0 2), a_r (g r0 1)]) (rest := []) (by decide +kernel) (by decide +kernel) (by decide +kernel) (by decide +kernel) rfl rfl (Nat.le_of_ble_eq_true rfl) (Nat.le_of_ble_eq_true rfl) rfl (by rw [show m_maxL 29 = 3 from by decide +kernel]; exact Nat.le_of_ble_eq_true rfl)).trans ?_
  exact ite_congr (by simp [a_rcv, show m_recv 29 = 5 from by decide +kernel]) (fun _ => rfl) (fun _ => rfl)
theorem B_X10_quietIn_15 {k : Nat → Nat × Nat} {u : Nat → Nat → Int} {g : Nat → Nat → Nat} {t : Nat × Nat × Nat} {r0 : Nat} {v1 : AV} : a_X 120 15 [a_r (r0), v1] [] (k, u, g, t) = a_X 120 17 [a_r (r0), a_i (0)] [] (k, u, g, t) := by
  refine (X_iconst (m := 120) (pc := 15) (n := 0) (by decide +kernel) ).trans ?_
  refine (X_istore_n (m := 120) (pc := 16) (n := 1) (by decide +kernel) rfl (Nat.le_of_ble_eq_true rfl) rfl).trans ?_
  rfl
theorem B_X10_quietIn_17 {k : Nat → Nat × Nat} {u : Nat → Nat → Int} {g : Nat → Nat → Nat} {t : Nat × Nat × Nat} {r0 : Nat} {x1 : Int} : a_X 120 17 [a_r (r0), a_i (x1)] [] (k, u, g, t) = if (x1 : Int) > (200 : Int) then some (.inl (some (a_i (-1))), (k, u, g, t)) else if (k r0).1 = 10 then if (k (g r0 2)).1 = 5 then if (k (g (g r0 2) 2)).1 = 1 then if (u (g (g r0 2) 2) 1 : Int) ≠ 0 then if (k r0).1 = 10 then if (k (g r0 2)).1 = 5 then (a_m 37 [a_r (g r0 2)] (k, u, g, t)).bind (a_back 120 43 3 [a_r (r0), a_i (x1)] []) else none else none else some (.inl (some (a_i (x1))), (k, u, g, t)) else none else none else none := by
  refine (X_iload_n (m := 120) (pc := 17) (n := 1) (by decide +kernel) rfl).trans ?_
  refine (X_sipush (m := 120) (pc := 18) (n := 200) (by decide +kernel) ).trans ?_
  refine (X_ic_gt (m := 120) (pc := 21) (off := 31) (tg := 52) (by decide +kernel) (by decide +kernel)).trans ?_
  refine ite_congr rfl (fun _ => ?_) (fun _ => ?_)
  · refine (X_iconst (m := 120) (pc := 52) (n := -1) (by decide +kernel) ).trans ?_
    exact X_ireturn (m := 120) (pc := 53) (f := 1) (by decide +kernel) (by decide +kernel) rfl
  · refine (X_aload_n (m := 120) (pc := 24) (n := 0) (by decide +kernel) rfl).trans ?_
    refine (X_getR (m := 120) (pc := 25) (n := 23) (c := 10) (q := 2) (fi := true) (by decide +kernel) (by decide +kernel)).trans ?_
    refine ite_congr rfl (fun _ => ?_) (fun _ => rfl)
    refine (X_getR (m := 120) (pc := 28) (n := 129) (c := 5) (q := 2) (fi := true) (by decide +kernel) (by decide +kernel)).trans ?_
    refine ite_congr rfl (fun _ => ?_) (fun _ => rfl)
    refine (X_getI (m := 120) (pc := 31) (n := 133) (c := 1) (q := 1) (ty := 1) (fi := false) (by decide +kernel) (by decide +kernel) (by decide +kernel)).trans ?_
    refine ite_congr rfl (fun _ => ?_) (fun _ => rfl)
    refine (X_if_ne (m := 120) (pc := 34) (off := 5) (tg := 39) (by decide +kernel) (by decide +kernel)).trans ?_
    refine ite_congr rfl (fun _ => ?_) (fun _ => ?_)
    · refine (X_aload_n (m := 120) (pc := 39) (n := 0) (by decide +kernel) rfl).trans ?_
      refine (X_getR (m := 120) (pc := 40) (n := 23) (c := 10) (q := 2) (fi := true) (by decide +kernel) (by decide +kernel)).trans ?_
      refine ite_congr rfl (fun _ => ?_) (fun _ => rfl)
      refine (X_call_vi (m := 120) (pc := 43) (q := 322) (y := 37) (n := 1) (as := [a_r (g r0 2)]) (rest := []) (by decide +kernel) (by decide +kernel) (by decide +kernel) (by decide +kernel) rfl rfl (Nat.le_of_ble_eq_true rfl) (Nat.le_of_ble_eq_true rfl) rfl (by rw [show m_maxL 37 = 2 from by decide +kernel]; exact Nat.le_of_ble_eq_true rfl)).trans ?_
      exact ite_congr (by simp [a_rcv, show m_recv 37 = 5 from by decide +kernel]) (fun _ => rfl) (fun _ => rfl)
    · refine (X_iload_n (m := 120) (pc := 37) (n := 1) (by decide +kernel) rfl).trans ?_
      exact X_ireturn (m := 120) (pc := 38) (f := 1) (by decide +kernel) (by decide +kernel) rfl
theorem B_X10_quietIn_46 {k : Nat → Nat × Nat} {u : Nat → Nat → Int} {g : Nat → Nat → Nat} {t : Nat × Nat × Nat} {r0 : Nat} {x1 : Int} : a_X 120 46 [a_r (r0), a_i (x1)] [] (k, u, g, t) = a_X 120 17 [a_r (r0), a_i (wr (x1 + 1))] [] (k, u, g, t) := by
  refine (X_iinc (m := 120) (pc := 46) (n := 1) (c := 1) (by decide +kernel) rfl rfl (Nat.le_of_ble_eq_true rfl) rfl).trans ?_
  refine (X_goto (m := 120) (pc := 49) (off := -32) (tg := 17) (by decide +kernel) (by decide +kernel)).trans ?_
  rfl
theorem E_X10_wholeIn {σ : AS} {r0 : Nat} : a_m 121 [a_r (r0)] σ = a_X 121 0 [a_r (r0)] [] σ := a_m_eq (by rw [a_entry, show m_maxL 121 = 1 from by decide +kernel]; rfl)
theorem B_X10_wholeIn_0 {k : Nat → Nat × Nat} {u : Nat → Nat → Int} {g : Nat → Nat → Nat} {t : Nat × Nat × Nat} {r0 : Nat} : a_X 121 0 [a_r (r0)] [] (k, u, g, t) = if (k r0).1 = 10 then (a_m 144 [a_r (r0)] (k, u, g, t)).bind (a_back 121 1 3 [a_r (r0)] []) else none := by
  refine (X_aload_n (m := 121) (pc := 0) (n := 0) (by decide +kernel) rfl).trans ?_
  refine (X_call_vi (m := 121) (pc := 1) (q := 103) (y := 144) (n := 1) (as := [a_r (r0)]) (rest := []) (by decide +kernel) (by decide +kernel) (by decide +kernel) (by decide +kernel) rfl rfl (Nat.le_of_ble_eq_true rfl) (Nat.le_of_ble_eq_true rfl) rfl (by rw [show m_maxL 144 = 1 from by decide +kernel]; exact Nat.le_of_ble_eq_true rfl)).trans ?_
  exact ite_congr (by simp [a_rcv, show m_recv 144 = 10 from by decide +kernel]) (fun _ => rfl) (fun _ => rfl)
theorem B_X10_wholeIn_4 {k : Nat → Nat × Nat} {u : Nat → Nat → Int} {g : Nat → Nat → Nat} {t : Nat × Nat × Nat} {r0 : Nat} : a_X 121 4 [a_r (r0)] [] (k, u, g, t) = if (k r0).1 = 10 then if (k (g r0 1)).1 = 5 then if (u (g r0 1) 5 : Int) ≠ 0 then if (k r0).1 = 10 then if (k (g r0 1)).1 = 5 then if (k r0).1 = 10 then if (k (g r0 1)).1 = 5 then if (k r0).1 = 10 then if (k (g r0 1)).1 = 5 then if (u (g r0 1) 5 : Int) ≠ 0 then some (.inl (some (a_i (wr ((u (g r0 1) 5) - (Int.tmod (u (g r0 1) 6) (u (g r0 1) 5)))))), (k, u, g, t)) else none else none else none else none else none else none else none else some (.inl (some (a_i (-1))), (k, u, g, t)) else none else none := by
  refine (X_aload_n (m := 121) (pc := 4) (n := 0) (by decide +kernel) rfl).trans ?_
  refine (X_getR (m := 121) (pc := 5) (n := 19) (c := 10) (q := 1) (fi := true) (by decide +kernel) (by decide +kernel)).trans ?_
  refine ite_congr rfl (fun _ => ?_) (fun _ => rfl)
  refine (X_getI (m := 121) (pc := 8) (n := 120) (c := 5) (q := 5) (ty := 1) (fi := false) (by decide +kernel) (by decide +kernel) (by decide +kernel)).trans ?_
  refine ite_congr rfl (fun _ => ?_) (fun _ => rfl)
  refine (X_if_ne (m := 121) (pc := 11) (off := 5) (tg := 16) (by decide +kernel) (by decide +kernel)).trans ?_
  refine ite_congr rfl (fun _ => ?_) (fun _ => ?_)
  · refine (X_aload_n (m := 121) (pc := 16) (n := 0) (by decide +kernel) rfl).trans ?_
    refine (X_getR (m := 121) (pc := 17) (n := 19) (c := 10) (q := 1) (fi := true) (by decide +kernel) (by decide +kernel)).trans ?_
    refine ite_congr rfl (fun _ => ?_) (fun _ => rfl)
    refine (X_getI (m := 121) (pc := 20) (n := 120) (c := 5) (q := 5) (ty := 1) (fi := false) (by decide +kernel) (by decide +kernel) (by decide +kernel)).trans ?_
    refine ite_congr rfl (fun _ => ?_) (fun _ => rfl)
    refine (X_aload_n (m := 121) (pc := 23) (n := 0) (by decide +kernel) rfl).trans ?_
    refine (X_getR (m := 121) (pc := 24) (n := 19) (c := 10) (q := 1) (fi := true) (by decide +kernel) (by decide +kernel)).trans ?_
    refine ite_congr rfl (fun _ => ?_) (fun _ => rfl)
    refine (X_getI (m := 121) (pc := 27) (n := 123) (c := 5) (q := 6) (ty := 1) (fi := false) (by decide +kernel) (by decide +kernel) (by decide +kernel)).trans ?_
    refine ite_congr rfl (fun _ => ?_) (fun _ => rfl)
    refine (X_aload_n (m := 121) (pc := 30) (n := 0) (by decide +kernel) rfl).trans ?_
    refine (X_getR (m := 121) (pc := 31) (n := 19) (c := 10) (q := 1) (fi := true) (by decide +kernel) (by decide +kernel)).trans ?_
    refine ite_congr rfl (fun _ => ?_) (fun _ => rfl)
    refine (X_getI (m := 121) (pc := 34) (n := 120) (c := 5) (q := 5) (ty := 1) (fi := false) (by decide +kernel) (by decide +kernel) (by decide +kernel)).trans ?_
    refine ite_congr rfl (fun _ => ?_) (fun _ => rfl)
    refine (X_irem (m := 121) (pc := 37)  (by decide +kernel) ).trans ?_
    refine ite_congr rfl (fun _ => ?_) (fun _ => rfl)
    refine (X_isub (m := 121) (pc := 38)  (by decide +kernel) ).trans ?_
    exact X_ireturn (m := 121) (pc := 39) (f := 1) (by decide +kernel) (by decide +kernel) rfl
  · refine (X_iconst (m := 121) (pc := 14) (n := -1) (by decide +kernel) ).trans ?_
    exact X_ireturn (m := 121) (pc := 15) (f := 1) (by decide +kernel) (by decide +kernel) rfl
theorem E_X10_sameWithout {σ : AS} {r0 : Nat} {x1 : Int} : a_m 122 [a_r (r0), a_i (x1)] σ = a_X 122 0 [a_r (r0), a_i (x1)] [] σ := a_m_eq (by rw [a_entry, show m_maxL 122 = 2 from by decide +kernel]; rfl)
theorem B_X10_sameWithout_0 {k : Nat → Nat × Nat} {u : Nat → Nat → Int} {g : Nat → Nat → Nat} {t : Nat × Nat × Nat} {r0 : Nat} {x1 : Int} : a_X 122 0 [a_r (r0), a_i (x1)] [] (k, u, g, t) = if (k r0).1 = 10 then (a_m 144 [a_r (r0)] (k, u, g, t)).bind (a_back 122 1 3 [a_r (r0), a_i (x1)] []) else none := by
  refine (X_aload_n (m := 122) (pc := 0) (n := 0) (by decide +kernel) rfl).trans ?_
  refine (X_call_vi (m := 122) (pc := 1) (q := 103) (y := 144) (n := 1) (as := [a_r (r0)]) (rest := []) (by decide +kernel) (by decide +kernel) (by decide +kernel) (by decide +kernel) rfl rfl (Nat.le_of_ble_eq_true rfl) (Nat.le_of_ble_eq_true rfl) rfl (by rw [show m_maxL 144 = 1 from by decide +kernel]; exact Nat.le_of_ble_eq_true rfl)).trans ?_
  exact ite_congr (by simp [a_rcv, show m_recv 144 = 10 from by decide +kernel]) (fun _ => rfl) (fun _ => rfl)
theorem B_X10_sameWithout_4 {k : Nat → Nat × Nat} {u : Nat → Nat → Int} {g : Nat → Nat → Nat} {t : Nat × Nat × Nat} {r0 : Nat} {x1 : Int} : a_X 122 4 [a_r (r0), a_i (x1)] [] (k, u, g, t) = if (k r0).1 = 10 then (a_m 145 [a_r (r0), a_i (x1)] (k, u, g, t)).bind (a_back 122 6 3 [a_r (r0), a_i (x1)] []) else none := by
  refine (X_aload_n (m := 122) (pc := 4) (n := 0) (by decide +kernel) rfl).trans ?_
  refine (X_iload_n (m := 122) (pc := 5) (n := 1) (by decide +kernel) rfl).trans ?_
  refine (X_call_vi (m := 122) (pc := 6) (q := 247) (y := 145) (n := 2) (as := [a_r (r0), a_i (x1)]) (rest := []) (by decide +kernel) (by decide +kernel) (by decide +kernel) (by decide +kernel) rfl rfl (Nat.le_of_ble_eq_true rfl) (Nat.le_of_ble_eq_true rfl) rfl (by rw [show m_maxL 145 = 2 from by decide +kernel]; exact Nat.le_of_ble_eq_true rfl)).trans ?_
  exact ite_congr (by simp [a_rcv, show m_recv 145 = 10 from by decide +kernel]) (fun _ => rfl) (fun _ => rfl)
theorem B_X10_sameWithout_9 {k : Nat → Nat × Nat} {u : Nat → Nat → Int} {g : Nat → Nat → Nat} {t : Nat × Nat × Nat} {r0 : Nat} {x1 : Int} : a_X 122 9 [a_r (r0), a_i (x1)] [] (k, u, g, t) = if (k r0).1 = 10 then if (k r0).1 = 10 then if (k (g r0 2)).1 = 5 then (a_m 29 [a_r (g r0 2), a_r (g r0 1)] (k, u, g, t)).bind (a_back 122 17 3 [a_r (r0), a_i (x1)] []) else none else none else none := by
  refine (X_aload_n (m := 122) (pc := 9) (n := 0) (by decide +kernel) rfl).trans ?_
  refine (X_getR (m := 122) (pc := 10) (n := 23) (c := 10) (q := 2) (fi := true) (by decide +kernel) (by decide +kernel)).trans ?_
  refine ite_congr rfl (fun _ => ?_) (fun _ => rfl)
  refine (X_aload_n (m := 122) (pc := 13) (n := 0) (by decide +kernel) rfl).trans ?_
  refine (X_getR (m := 122) (pc := 14) (n := 19) (c := 10) (q := 1) (fi := true) (by decide +kernel) (by decide +kernel)).trans ?_
  refine ite_congr rfl (fun _ => ?_) (fun _ => rfl)
  refine (X_call_vi (m := 122) (pc := 17) (q := 83) (y := 29) (n := 2) (as := [a_r (g r0 2), a_r (g r0 1)]) (rest := []) (by decide +kernel) (by decide +kernel) (by decide +kernel) (by decide +kernel) rfl rfl (Nat.le_of_ble_eq_true rfl) (Nat.le_of_ble_eq_true rfl) rfl (by rw [show m_maxL 29 = 3 from by decide +kernel]; exact Nat.le_of_ble_eq_true rfl)).trans ?_
  exact ite_congr (by simp [a_rcv, show m_recv 29 = 5 from by decide +kernel]) (fun _ => rfl) (fun _ => rfl)
theorem B_X10_sameWithout_20 {k : Nat → Nat × Nat} {u : Nat → Nat → Int} {g : Nat → Nat → Nat} {t : Nat × Nat × Nat} {r0 : Nat} {x1 : Int} : a_X 122 20 [a_r (r0), a_i (x1)] [] (k, u, g, t) = if (k r0).1 = 10 then if (k (g r0 2)).1 = 5 then if 30 ≤ (k (g (g r0 2) 3)).1 ∧ 0 ≤ (x1 : Int) ∧ (x1 : Int) < ((k (g (g r0 2) 3)).2 : Int) then if (k (g (g (g r0 2) 3) (x1 : Int).toNat)).1 = 3 then if (k r0).1 = 10 then if (k (g r0 2)).1 = 5 then (a_m 51 [a_r (g r0 2), a_i (x1), a_i (200)] (k, (upm u (g (g (g r0 2) 3) (x1 : Int).toNat) 1 0), g, t)).bind (a_back 122 41 3 [a_r (r0), a_i (x1)] []) else none else none else none else none else none else none := by
  refine (X_aload_n (m := 122) (pc := 20) (n := 0) (by decide +kernel) rfl).trans ?_
  refine (X_getR (m := 122) (pc := 21) (n := 23) (c := 10) (q := 2) (fi := true) (by decide +kernel) (by decide +kernel)).trans ?_
  refine ite_congr rfl (fun _ => ?_) (fun _ => rfl)
  refine (X_getR (m := 122) (pc := 24) (n := 250) (c := 5) (q := 3) (fi := true) (by decide +kernel) (by decide +kernel)).trans ?_
  refine ite_congr rfl (fun _ => ?_) (fun _ => rfl)
  refine (X_iload_n (m := 122) (pc := 27) (n := 1) (by decide +kernel) rfl).trans ?_
  refine (X_aaload (m := 122) (pc := 28)  (by decide +kernel) ).trans ?_
  refine ite_congr rfl (fun _ => ?_) (fun _ => rfl)
  refine (X_iconst (m := 122) (pc := 29) (n := 0) (by decide +kernel) ).trans ?_
  refine (X_putI (m := 122) (pc := 30) (n := 259) (c := 3) (q := 1) (fi := false) (by decide +kernel) (by decide +kernel) (fun h => by cases h) (by decide +kernel)).trans ?_
  refine ite_congr rfl (fun _ => ?_) (fun _ => rfl)
  refine (X_aload_n (m := 122) (pc := 33) (n := 0) (by decide +kernel) rfl).trans ?_
  refine (X_getR (m := 122) (pc := 34) (n := 23) (c := 10) (q := 2) (fi := true) (by decide +kernel) (by decide +kernel)).trans ?_
  refine ite_congr rfl (fun _ => ?_) (fun _ => rfl)
  refine (X_iload_n (m := 122) (pc := 37) (n := 1) (by decide +kernel) rfl).trans ?_
  refine (X_sipush (m := 122) (pc := 38) (n := 200) (by decide +kernel) ).trans ?_
  refine (X_call_vi (m := 122) (pc := 41) (q := 319) (y := 51) (n := 3) (as := [a_r (g r0 2), a_i (x1), a_i (200)]) (rest := []) (by decide +kernel) (by decide +kernel) (by decide +kernel) (by decide +kernel) rfl rfl (Nat.le_of_ble_eq_true rfl) (Nat.le_of_ble_eq_true rfl) rfl (by rw [show m_maxL 51 = 4 from by decide +kernel]; exact Nat.le_of_ble_eq_true rfl)).trans ?_
  exact ite_congr (by simp [a_rcv, show m_recv 51 = 5 from by decide +kernel]) (fun _ => rfl) (fun _ => rfl)
theorem B_X10_sameWithout_44 {k : Nat → Nat × Nat} {u : Nat → Nat → Int} {g : Nat → Nat → Nat} {t : Nat × Nat × Nat} {r0 : Nat} {x1 : Int} {y0 : Int} : a_X 122 44 [a_r (r0), a_i (x1)] [a_i (y0)] (k, u, g, t) = some (.inl (some (a_i (y0))), (k, u, g, t)) := by
  exact X_ireturn (m := 122) (pc := 44) (f := 1) (by decide +kernel) (by decide +kernel) rfl
theorem E_X10_sameWith {σ : AS} {r0 : Nat} {x1 : Int} {x2 : Int} : a_m 123 [a_r (r0), a_i (x1), a_i (x2)] σ = a_X 123 0 [a_r (r0), a_i (x1), a_i (x2)] [] σ := a_m_eq (by rw [a_entry, show m_maxL 123 = 3 from by decide +kernel]; rfl)
theorem B_X10_sameWith_0 {k : Nat → Nat × Nat} {u : Nat → Nat → Int} {g : Nat → Nat → Nat} {t : Nat × Nat × Nat} {r0 : Nat} {x1 : Int} {x2 : Int} : a_X 123 0 [a_r (r0), a_i (x1), a_i (x2)] [] (k, u, g, t) = if (k r0).1 = 10 then (a_m 144 [a_r (r0)] (k, u, g, t)).bind (a_back 123 1 3 [a_r (r0), a_i (x1), a_i (x2)] []) else none := by
  refine (X_aload_n (m := 123) (pc := 0) (n := 0) (by decide +kernel) rfl).trans ?_
  refine (X_call_vi (m := 123) (pc := 1) (q := 103) (y := 144) (n := 1) (as := [a_r (r0)]) (rest := []) (by decide +kernel) (by decide +kernel) (by decide +kernel) (by decide +kernel) rfl rfl (Nat.le_of_ble_eq_true rfl) (Nat.le_of_ble_eq_true rfl) rfl (by rw [show m_maxL 144 = 1 from by decide +kernel]; exact Nat.le_of_ble_eq_true rfl)).trans ?_
  exact ite_congr (by simp [a_rcv, show m_recv 144 = 10 from by decide +kernel]) (fun _ => rfl) (fun _ => rfl)
theorem B_X10_sameWith_4 {k : Nat → Nat × Nat} {u : Nat → Nat → Int} {g : Nat → Nat → Nat} {t : Nat × Nat × Nat} {r0 : Nat} {x1 : Int} {x2 : Int} : a_X 123 4 [a_r (r0), a_i (x1), a_i (x2)] [] (k, u, g, t) = if (k r0).1 = 10 then (a_m 145 [a_r (r0), a_i (x1)] (k, u, g, t)).bind (a_back 123 6 3 [a_r (r0), a_i (x1), a_i (x2)] []) else none := by
  refine (X_aload_n (m := 123) (pc := 4) (n := 0) (by decide +kernel) rfl).trans ?_
  refine (X_iload_n (m := 123) (pc := 5) (n := 1) (by decide +kernel) rfl).trans ?_
  refine (X_call_vi (m := 123) (pc := 6) (q := 247) (y := 145) (n := 2) (as := [a_r (r0), a_i (x1)]) (rest := []) (by decide +kernel) (by decide +kernel) (by decide +kernel) (by decide +kernel) rfl rfl (Nat.le_of_ble_eq_true rfl) (Nat.le_of_ble_eq_true rfl) rfl (by rw [show m_maxL 145 = 2 from by decide +kernel]; exact Nat.le_of_ble_eq_true rfl)).trans ?_
  exact ite_congr (by simp [a_rcv, show m_recv 145 = 10 from by decide +kernel]) (fun _ => rfl) (fun _ => rfl)
theorem B_X10_sameWith_9 {k : Nat → Nat × Nat} {u : Nat → Nat → Int} {g : Nat → Nat → Nat} {t : Nat × Nat × Nat} {r0 : Nat} {x1 : Int} {x2 : Int} : a_X 123 9 [a_r (r0), a_i (x1), a_i (x2)] [] (k, u, g, t) = if (k r0).1 = 10 then (a_m 149 [a_r (r0), a_i (x2), a_i (0), a_i (99)] (k, u, g, t)).bind (a_back 123 14 3 [a_r (r0), a_i (x1), a_i (x2)] []) else none := by
  refine (X_aload_n (m := 123) (pc := 9) (n := 0) (by decide +kernel) rfl).trans ?_
  refine (X_iload_n (m := 123) (pc := 10) (n := 2) (by decide +kernel) rfl).trans ?_
  refine (X_iconst (m := 123) (pc := 11) (n := 0) (by decide +kernel) ).trans ?_
  refine (X_bipush (m := 123) (pc := 12) (n := 99) (by decide +kernel) ).trans ?_
  refine (X_call_vi (m := 123) (pc := 14) (q := 163) (y := 149) (n := 4) (as := [a_r (r0), a_i (x2), a_i (0), a_i (99)]) (rest := []) (by decide +kernel) (by decide +kernel) (by decide +kernel) (by decide +kernel) rfl rfl (Nat.le_of_ble_eq_true rfl) (Nat.le_of_ble_eq_true rfl) rfl (by rw [show m_maxL 149 = 4 from by decide +kernel]; exact Nat.le_of_ble_eq_true rfl)).trans ?_
  exact ite_congr (by simp [a_rcv, show m_recv 149 = 10 from by decide +kernel]) (fun _ => rfl) (fun _ => rfl)
theorem B_X10_sameWith_17 {k : Nat → Nat × Nat} {u : Nat → Nat → Int} {g : Nat → Nat → Nat} {t : Nat × Nat × Nat} {r0 : Nat} {x1 : Int} {x2 : Int} : a_X 123 17 [a_r (r0), a_i (x1), a_i (x2)] [] (k, u, g, t) = if (k r0).1 = 10 then if (k r0).1 = 10 then if (k (g r0 2)).1 = 5 then (a_m 29 [a_r (g r0 2), a_r (g r0 1)] (k, u, g, t)).bind (a_back 123 25 3 [a_r (r0), a_i (x1), a_i (x2)] []) else none else none else none := by
  refine (X_aload_n (m := 123) (pc := 17) (n := 0) (by decide +kernel) rfl).trans ?_
  refine (X_getR (m := 123) (pc := 18) (n := 23) (c := 10) (q := 2) (fi := true) (by decide +kernel) (by decide +kernel)).trans ?_
  refine ite_congr rfl (fun _ => ?_) (fun _ => rfl)
  refine (X_aload_n (m := 123) (pc := 21) (n := 0) (by decide +kernel) rfl).trans ?_
  refine (X_getR (m := 123) (pc := 22) (n := 19) (c := 10) (q := 1) (fi := true) (by decide +kernel) (by decide +kernel)).trans ?_
  refine ite_congr rfl (fun _ => ?_) (fun _ => rfl)
  refine (X_call_vi (m := 123) (pc := 25) (q := 83) (y := 29) (n := 2) (as := [a_r (g r0 2), a_r (g r0 1)]) (rest := []) (by decide +kernel) (by decide +kernel) (by decide +kernel) (by decide +kernel) rfl rfl (Nat.le_of_ble_eq_true rfl) (Nat.le_of_ble_eq_true rfl) rfl (by rw [show m_maxL 29 = 3 from by decide +kernel]; exact Nat.le_of_ble_eq_true rfl)).trans ?_
  exact ite_congr (by simp [a_rcv, show m_recv 29 = 5 from by decide +kernel]) (fun _ => rfl) (fun _ => rfl)
theorem B_X10_sameWith_28 {k : Nat → Nat × Nat} {u : Nat → Nat → Int} {g : Nat → Nat → Nat} {t : Nat × Nat × Nat} {r0 : Nat} {x1 : Int} {x2 : Int} : a_X 123 28 [a_r (r0), a_i (x1), a_i (x2)] [] (k, u, g, t) = if (k r0).1 = 10 then if (k (g r0 2)).1 = 5 then if (k r0).1 = 10 then if (k (g r0 2)).1 = 5 then (a_m 51 [a_r (g r0 2), a_i (x1), a_i (200)] (k, (upm u (g r0 2) 5 x2), g, t)).bind (a_back 123 44 3 [a_r (r0), a_i (x1), a_i (x2)] []) else none else none else none else none := by
  refine (X_aload_n (m := 123) (pc := 28) (n := 0) (by decide +kernel) rfl).trans ?_
  refine (X_getR (m := 123) (pc := 29) (n := 23) (c := 10) (q := 2) (fi := true) (by decide +kernel) (by decide +kernel)).trans ?_
  refine ite_congr rfl (fun _ => ?_) (fun _ => rfl)
  refine (X_iload_n (m := 123) (pc := 32) (n := 2) (by decide +kernel) rfl).trans ?_
  refine (X_putI (m := 123) (pc := 33) (n := 120) (c := 5) (q := 5) (fi := false) (by decide +kernel) (by decide +kernel) (fun h => by cases h) (by decide +kernel)).trans ?_
  refine ite_congr rfl (fun _ => ?_) (fun _ => rfl)
  refine (X_aload_n (m := 123) (pc := 36) (n := 0) (by decide +kernel) rfl).trans ?_
  refine (X_getR (m := 123) (pc := 37) (n := 23) (c := 10) (q := 2) (fi := true) (by decide +kernel) (by decide +kernel)).trans ?_
  refine ite_congr rfl (fun _ => ?_) (fun _ => rfl)
  refine (X_iload_n (m := 123) (pc := 40) (n := 1) (by decide +kernel) rfl).trans ?_
  refine (X_sipush (m := 123) (pc := 41) (n := 200) (by decide +kernel) ).trans ?_
  refine (X_call_vi (m := 123) (pc := 44) (q := 319) (y := 51) (n := 3) (as := [a_r (g r0 2), a_i (x1), a_i (200)]) (rest := []) (by decide +kernel) (by decide +kernel) (by decide +kernel) (by decide +kernel) rfl rfl (Nat.le_of_ble_eq_true rfl) (Nat.le_of_ble_eq_true rfl) rfl (by rw [show m_maxL 51 = 4 from by decide +kernel]; exact Nat.le_of_ble_eq_true rfl)).trans ?_
  exact ite_congr (by simp [a_rcv, show m_recv 51 = 5 from by decide +kernel]) (fun _ => rfl) (fun _ => rfl)
theorem B_X10_sameWith_47 {k : Nat → Nat × Nat} {u : Nat → Nat → Int} {g : Nat → Nat → Nat} {t : Nat × Nat × Nat} {r0 : Nat} {x1 : Int} {x2 : Int} {y0 : Int} : a_X 123 47 [a_r (r0), a_i (x1), a_i (x2)] [a_i (y0)] (k, u, g, t) = some (.inl (some (a_i (y0))), (k, u, g, t)) := by
  exact X_ireturn (m := 123) (pc := 47) (f := 1) (by decide +kernel) (by decide +kernel) rfl
theorem E_X10_bestPeriod {σ : AS} {r0 : Nat} {x1 : Int} : a_m 124 [a_r (r0), a_i (x1)] σ = a_X 124 0 [a_r (r0), a_i (x1), a_x false, a_x false, a_x false, a_x false] [] σ := a_m_eq (by rw [a_entry, show m_maxL 124 = 6 from by decide +kernel]; rfl)
theorem B_X10_bestPeriod_0 {k : Nat → Nat × Nat} {u : Nat → Nat → Int} {g : Nat → Nat → Nat} {t : Nat × Nat × Nat} {r0 : Nat} {x1 : Int} {v2 : AV} {v3 : AV} {v4 : AV} {v5 : AV} : a_X 124 0 [a_r (r0), a_i (x1), v2, v3, v4, v5] [] (k, u, g, t) = if (k r0).1 = 10 then (a_m 144 [a_r (r0)] (k, u, g, t)).bind (a_back 124 1 3 [a_r (r0), a_i (x1), v2, v3, v4, v5] []) else none := by
  refine (X_aload_n (m := 124) (pc := 0) (n := 0) (by decide +kernel) rfl).trans ?_
  refine (X_call_vi (m := 124) (pc := 1) (q := 103) (y := 144) (n := 1) (as := [a_r (r0)]) (rest := []) (by decide +kernel) (by decide +kernel) (by decide +kernel) (by decide +kernel) rfl rfl (Nat.le_of_ble_eq_true rfl) (Nat.le_of_ble_eq_true rfl) rfl (by rw [show m_maxL 144 = 1 from by decide +kernel]; exact Nat.le_of_ble_eq_true rfl)).trans ?_
  exact ite_congr (by simp [a_rcv, show m_recv 144 = 10 from by decide +kernel]) (fun _ => rfl) (fun _ => rfl)
theorem B_X10_bestPeriod_4 {k : Nat → Nat × Nat} {u : Nat → Nat → Int} {g : Nat → Nat → Nat} {t : Nat × Nat × Nat} {r0 : Nat} {x1 : Int} {v2 : AV} {v3 : AV} {v4 : AV} {v5 : AV} : a_X 124 4 [a_r (r0), a_i (x1), v2, v3, v4, v5] [] (k, u, g, t) = if (k r0).1 = 10 then (a_m 145 [a_r (r0), a_i (x1)] (k, u, g, t)).bind (a_back 124 6 3 [a_r (r0), a_i (x1), v2, v3, v4, v5] []) else none := by
  refine (X_aload_n (m := 124) (pc := 4) (n := 0) (by decide +kernel) rfl).trans ?_
  refine (X_iload_n (m := 124) (pc := 5) (n := 1) (by decide +kernel) rfl).trans ?_
  refine (X_call_vi (m := 124) (pc := 6) (q := 247) (y := 145) (n := 2) (as := [a_r (r0), a_i (x1)]) (rest := []) (by decide +kernel) (by decide +kernel) (by decide +kernel) (by decide +kernel) rfl rfl (Nat.le_of_ble_eq_true rfl) (Nat.le_of_ble_eq_true rfl) rfl (by rw [show m_maxL 145 = 2 from by decide +kernel]; exact Nat.le_of_ble_eq_true rfl)).trans ?_
  exact ite_congr (by simp [a_rcv, show m_recv 145 = 10 from by decide +kernel]) (fun _ => rfl) (fun _ => rfl)
theorem B_X10_bestPeriod_9 {k : Nat → Nat × Nat} {u : Nat → Nat → Int} {g : Nat → Nat → Nat} {t : Nat × Nat × Nat} {r0 : Nat} {x1 : Int} {v2 : AV} {v3 : AV} {v4 : AV} {v5 : AV} : a_X 124 9 [a_r (r0), a_i (x1), v2, v3, v4, v5] [] (k, u, g, t) = a_X 124 20 [a_r (r0), a_i (x1), a_i (99), a_i (200), a_i (99), v5] [] (k, u, g, t) := by
  refine (X_bipush (m := 124) (pc := 9) (n := 99) (by decide +kernel) ).trans ?_
  refine (X_istore_n (m := 124) (pc := 11) (n := 2) (by decide +kernel) rfl (Nat.le_of_ble_eq_true rfl) rfl).trans ?_
  refine (X_sipush (m := 124) (pc := 12) (n := 200) (by decide +kernel) ).trans ?_
  refine (X_istore_n (m := 124) (pc := 15) (n := 3) (by decide +kernel) rfl (Nat.le_of_ble_eq_true rfl) rfl).trans ?_
  refine (X_bipush (m := 124) (pc := 16) (n := 99) (by decide +kernel) ).trans ?_
  refine (X_istore (m := 124) (pc := 18) (n := 4) (by decide +kernel) rfl (Nat.le_of_ble_eq_true rfl) rfl).trans ?_
  rfl
theorem B_X10_bestPeriod_20 {k : Nat → Nat × Nat} {u : Nat → Nat → Int} {g : Nat → Nat → Nat} {t : Nat × Nat × Nat} {r0 : Nat} {x1 : Int} {x2 : Int} {x3 : Int} {x4 : Int} {v5 : AV} : a_X 124 20 [a_r (r0), a_i (x1), a_i (x2), a_i (x3), a_i (x4), v5] [] (k, u, g, t) = if (x4 : Int) < (1 : Int) then some (.inl (some (a_i (x2))), (k, u, g, t)) else if (x3 : Int) < 0 then some (.inl (some (a_i (x2))), (k, u, g, t)) else if (k r0).1 = 10 then if (k r0).1 = 10 then if (k (g r0 2)).1 = 5 then (a_m 29 [a_r (g r0 2), a_r (g r0 1)] (k, u, g, t)).bind (a_back 124 38 3 [a_r (r0), a_i (x1), a_i (x2), a_i (x3), a_i (x4), v5] []) else none else none else none := by
  refine (X_iload (m := 124) (pc := 20) (n := 4) (by decide +kernel) rfl).trans ?_
  refine (X_iconst (m := 124) (pc := 22) (n := 1) (by decide +kernel) ).trans ?_
  refine (X_ic_lt (m := 124) (pc := 23) (off := 58) (tg := 81) (by decide +kernel) (by decide +kernel)).trans ?_
  refine ite_congr rfl (fun _ => ?_) (fun _ => ?_)
  · refine (X_iload_n (m := 124) (pc := 81) (n := 2) (by decide +kernel) rfl).trans ?_
    exact X_ireturn (m := 124) (pc := 82) (f := 1) (by decide +kernel) (by decide +kernel) rfl
  · refine (X_iload_n (m := 124) (pc := 26) (n := 3) (by decide +kernel) rfl).trans ?_
    refine (X_if_lt (m := 124) (pc := 27) (off := 54) (tg := 81) (by decide +kernel) (by decide +kernel)).trans ?_
    refine ite_congr rfl (fun _ => ?_) (fun _ => ?_)
    · refine (X_iload_n (m := 124) (pc := 81) (n := 2) (by decide +kernel) rfl).trans ?_
      exact X_ireturn (m := 124) (pc := 82) (f := 1) (by decide +kernel) (by decide +kernel) rfl
    · refine (X_aload_n (m := 124) (pc := 30) (n := 0) (by decide +kernel) rfl).trans ?_
      refine (X_getR (m := 124) (pc := 31) (n := 23) (c := 10) (q := 2) (fi := true) (by decide +kernel) (by decide +kernel)).trans ?_
      refine ite_congr rfl (fun _ => ?_) (fun _ => rfl)
      refine (X_aload_n (m := 124) (pc := 34) (n := 0) (by decide +kernel) rfl).trans ?_
      refine (X_getR (m := 124) (pc := 35) (n := 19) (c := 10) (q := 1) (fi := true) (by decide +kernel) (by decide +kernel)).trans ?_
      refine ite_congr rfl (fun _ => ?_) (fun _ => rfl)
      refine (X_call_vi (m := 124) (pc := 38) (q := 83) (y := 29) (n := 2) (as := [a_r (g r0 2), a_r (g r0 1)]) (rest := []) (by decide +kernel) (by decide +kernel) (by decide +kernel) (by decide +kernel) rfl rfl (Nat.le_of_ble_eq_true rfl) (Nat.le_of_ble_eq_true rfl) rfl (by rw [show m_maxL 29 = 3 from by decide +kernel]; exact Nat.le_of_ble_eq_true rfl)).trans ?_
      exact ite_congr (by simp [a_rcv, show m_recv 29 = 5 from by decide +kernel]) (fun _ => rfl) (fun _ => rfl)
theorem B_X10_bestPeriod_41 {k : Nat → Nat × Nat} {u : Nat → Nat → Int} {g : Nat → Nat → Nat} {t : Nat × Nat × Nat} {r0 : Nat} {x1 : Int} {x2 : Int} {x3 : Int} {x4 : Int} {v5 : AV} : a_X 124 41 [a_r (r0), a_i (x1), a_i (x2), a_i (x3), a_i (x4), v5] [] (k, u, g, t) = if (k r0).1 = 10 then if (k (g r0 2)).1 = 5 then if (k r0).1 = 10 then if (k (g r0 2)).1 = 5 then (a_m 51 [a_r (g r0 2), a_i (x1), a_i (x3)] (k, (upm u (g r0 2) 5 x4), g, t)).bind (a_back 124 56 3 [a_r (r0), a_i (x1), a_i (x2), a_i (x3), a_i (x4), v5] []) else none else none else none else none := by
  refine (X_aload_n (m := 124) (pc := 41) (n := 0) (by decide +kernel) rfl).trans ?_
  refine (X_getR (m := 124) (pc := 42) (n := 23) (c := 10) (q := 2) (fi := true) (by decide +kernel) (by decide +kernel)).trans ?_
  refine ite_congr rfl (fun _ => ?_) (fun _ => rfl)
  refine (X_iload (m := 124) (pc := 45) (n := 4) (by decide +kernel) rfl).trans ?_
  refine (X_putI (m := 124) (pc := 47) (n := 120) (c := 5) (q := 5) (fi := false) (by decide +kernel) (by decide +kernel) (fun h => by cases h) (by decide +kernel)).trans ?_
  refine ite_congr rfl (fun _ => ?_) (fun _ => rfl)
  refine (X_aload_n (m := 124) (pc := 50) (n := 0) (by decide +kernel) rfl).trans ?_
  refine (X_getR (m := 124) (pc := 51) (n := 23) (c := 10) (q := 2) (fi := true) (by decide +kernel) (by decide +kernel)).trans ?_
  refine ite_congr rfl (fun _ => ?_) (fun _ => rfl)
  refine (X_iload_n (m := 124) (pc := 54) (n := 1) (by decide +kernel) rfl).trans ?_
  refine (X_iload_n (m := 124) (pc := 55) (n := 3) (by decide +kernel) rfl).trans ?_
  refine (X_call_vi (m := 124) (pc := 56) (q := 319) (y := 51) (n := 3) (as := [a_r (g r0 2), a_i (x1), a_i (x3)]) (rest := []) (by decide +kernel) (by decide +kernel) (by decide +kernel) (by decide +kernel) rfl rfl (Nat.le_of_ble_eq_true rfl) (Nat.le_of_ble_eq_true rfl) rfl (by rw [show m_maxL 51 = 4 from by decide +kernel]; exact Nat.le_of_ble_eq_true rfl)).trans ?_
  exact ite_congr (by simp [a_rcv, show m_recv 51 = 5 from by decide +kernel]) (fun _ => rfl) (fun _ => rfl)
theorem B_X10_bestPeriod_59 {k : Nat → Nat × Nat} {u : Nat → Nat → Int} {g : Nat → Nat → Nat} {t : Nat × Nat × Nat} {r0 : Nat} {x1 : Int} {x2 : Int} {x3 : Int} {x4 : Int} {v5 : AV} {y0 : Int} : a_X 124 59 [a_r (r0), a_i (x1), a_i (x2), a_i (x3), a_i (x4), v5] [a_i (y0)] (k, u, g, t) = if (y0 : Int) = (-1 : Int) then a_X 124 20 [a_r (r0), a_i (x1), a_i (x2), a_i (x3), a_i (wr (x4 + (-1))), a_i (y0)] [] (k, u, g, t) else a_X 124 20 [a_r (r0), a_i (x1), a_i (x4), a_i (wr (y0 - 1)), a_i (wr (x4 + (-1))), a_i (y0)] [] (k, u, g, t) := by
  refine (X_istore (m := 124) (pc := 59) (n := 5) (by decide +kernel) rfl (Nat.le_of_ble_eq_true rfl) rfl).trans ?_
  refine (X_iload (m := 124) (pc := 61) (n := 5) (by decide +kernel) rfl).trans ?_
  refine (X_iconst (m := 124) (pc := 63) (n := -1) (by decide +kernel) ).trans ?_
  refine (X_ic_eq (m := 124) (pc := 64) (off := 11) (tg := 75) (by decide +kernel) (by decide +kernel)).trans ?_
  refine ite_congr rfl (fun _ => ?_) (fun _ => ?_)
  · refine (X_iinc (m := 124) (pc := 75) (n := 4) (c := -1) (by decide +kernel) rfl rfl (Nat.le_of_ble_eq_true rfl) rfl).trans ?_
    refine (X_goto (m := 124) (pc := 78) (off := -58) (tg := 20) (by decide +kernel) (by decide +kernel)).trans ?_
    rfl
  · refine (X_iload (m := 124) (pc := 67) (n := 4) (by decide +kernel) rfl).trans ?_
    refine (X_istore_n (m := 124) (pc := 69) (n := 2) (by decide +kernel) rfl (Nat.le_of_ble_eq_true rfl) rfl).trans ?_
    refine (X_iload (m := 124) (pc := 70) (n := 5) (by decide +kernel) rfl).trans ?_
    refine (X_iconst (m := 124) (pc := 72) (n := 1) (by decide +kernel) ).trans ?_
    refine (X_isub (m := 124) (pc := 73)  (by decide +kernel) ).trans ?_
    refine (X_istore_n (m := 124) (pc := 74) (n := 3) (by decide +kernel) rfl (Nat.le_of_ble_eq_true rfl) rfl).trans ?_
    refine (X_iinc (m := 124) (pc := 75) (n := 4) (c := -1) (by decide +kernel) rfl rfl (Nat.le_of_ble_eq_true rfl) rfl).trans ?_
    refine (X_goto (m := 124) (pc := 78) (off := -58) (tg := 20) (by decide +kernel) (by decide +kernel)).trans ?_
    rfl
theorem E_X10_sameShare {σ : AS} {r0 : Nat} : a_m 125 [a_r (r0)] σ = a_X 125 0 [a_r (r0), a_x false, a_x false] [] σ := a_m_eq (by rw [a_entry, show m_maxL 125 = 3 from by decide +kernel]; rfl)
theorem B_X10_sameShare_0 {k : Nat → Nat × Nat} {u : Nat → Nat → Int} {g : Nat → Nat → Nat} {t : Nat × Nat × Nat} {r0 : Nat} {v1 : AV} {v2 : AV} : a_X 125 0 [a_r (r0), v1, v2] [] (k, u, g, t) = if (k r0).1 = 10 then (a_m 144 [a_r (r0)] (k, u, g, t)).bind (a_back 125 1 3 [a_r (r0), v1, v2] []) else none := by
  refine (X_aload_n (m := 125) (pc := 0) (n := 0) (by decide +kernel) rfl).trans ?_
  refine (X_call_vi (m := 125) (pc := 1) (q := 103) (y := 144) (n := 1) (as := [a_r (r0)]) (rest := []) (by decide +kernel) (by decide +kernel) (by decide +kernel) (by decide +kernel) rfl rfl (Nat.le_of_ble_eq_true rfl) (Nat.le_of_ble_eq_true rfl) rfl (by rw [show m_maxL 144 = 1 from by decide +kernel]; exact Nat.le_of_ble_eq_true rfl)).trans ?_
  exact ite_congr (by simp [a_rcv, show m_recv 144 = 10 from by decide +kernel]) (fun _ => rfl) (fun _ => rfl)
theorem B_X10_sameShare_4 {k : Nat → Nat × Nat} {u : Nat → Nat → Int} {g : Nat → Nat → Nat} {t : Nat × Nat × Nat} {r0 : Nat} {v1 : AV} {v2 : AV} : a_X 125 4 [a_r (r0), v1, v2] [] (k, u, g, t) = a_X 125 8 [a_r (r0), a_i (0), a_i (0)] [] (k, u, g, t) := by
  refine (X_iconst (m := 125) (pc := 4) (n := 0) (by decide +kernel) ).trans ?_
  refine (X_istore_n (m := 125) (pc := 5) (n := 1) (by decide +kernel) rfl (Nat.le_of_ble_eq_true rfl) rfl).trans ?_
  refine (X_iconst (m := 125) (pc := 6) (n := 0) (by decide +kernel) ).trans ?_
  refine (X_istore_n (m := 125) (pc := 7) (n := 2) (by decide +kernel) rfl (Nat.le_of_ble_eq_true rfl) rfl).trans ?_
  rfl
theorem B_X10_sameShare_8 {k : Nat → Nat × Nat} {u : Nat → Nat → Int} {g : Nat → Nat → Nat} {t : Nat × Nat × Nat} {r0 : Nat} {x1 : Int} {x2 : Int} : a_X 125 8 [a_r (r0), a_i (x1), a_i (x2)] [] (k, u, g, t) = if (k r0).1 = 10 then if (k (g r0 1)).1 = 5 then if (x2 : Int) ≥ (u (g r0 1) 4 : Int) then if (k r0).1 = 10 then if (k (g r0 1)).1 = 5 then if FP.fdiv (FP.i2f (Int32.ofInt (x1))) (FP.i2f (Int32.ofInt (wr (12 * (u (g r0 1) 4))))) &&& 0x7fffffff ≤ 0x7f800000 then some (.inl (some (a_f (FP.fdiv (FP.i2f (Int32.ofInt (x1))) (FP.i2f (Int32.ofInt (wr (12 * (u (g r0 1) 4)))))))), (k, u, g, t)) else none else none else none else if (k r0).1 = 10 then if (k (g r0 1)).1 = 5 then (a_m 45 [a_r (g r0 1), a_i (x2)] (k, u, g, t)).bind (a_back 125 27 3 [a_r (r0), a_i (x1), a_i (x2)] [a_i (12), a_i (x1)]) else none else none else none else none := by
  refine (X_iload_n (m := 125) (pc := 8) (n := 2) (by decide +kernel) rfl).trans ?_
  refine (X_aload_n (m := 125) (pc := 9) (n := 0) (by decide +kernel) rfl).trans ?_
  refine (X_getR (m := 125) (pc := 10) (n := 19) (c := 10) (q := 1) (fi := true) (by decide +kernel) (by decide +kernel)).trans ?_
  refine ite_congr rfl (fun _ => ?_) (fun _ => rfl)
  refine (X_getI (m := 125) (pc := 13) (n := 94) (c := 5) (q := 4) (ty := 1) (fi := false) (by decide +kernel) (by decide +kernel) (by decide +kernel)).trans ?_
  refine ite_congr rfl (fun _ => ?_) (fun _ => rfl)
  refine (X_ic_ge (m := 125) (pc := 16) (off := 26) (tg := 42) (by decide +kernel) (by decide +kernel)).trans ?_
  refine ite_congr rfl (fun _ => ?_) (fun _ => ?_)
  · refine (X_iload_n (m := 125) (pc := 42) (n := 1) (by decide +kernel) rfl).trans ?_
    refine (X_i2f (m := 125) (pc := 43)  (by decide +kernel) ).trans ?_
    refine (X_bipush (m := 125) (pc := 44) (n := 12) (by decide +kernel) ).trans ?_
    refine (X_aload_n (m := 125) (pc := 46) (n := 0) (by decide +kernel) rfl).trans ?_
    refine (X_getR (m := 125) (pc := 47) (n := 19) (c := 10) (q := 1) (fi := true) (by decide +kernel) (by decide +kernel)).trans ?_
    refine ite_congr rfl (fun _ => ?_) (fun _ => rfl)
    refine (X_getI (m := 125) (pc := 50) (n := 94) (c := 5) (q := 4) (ty := 1) (fi := false) (by decide +kernel) (by decide +kernel) (by decide +kernel)).trans ?_
    refine ite_congr rfl (fun _ => ?_) (fun _ => rfl)
    refine (X_imul (m := 125) (pc := 53)  (by decide +kernel) ).trans ?_
    refine (X_i2f (m := 125) (pc := 54)  (by decide +kernel) ).trans ?_
    refine (X_fdiv (m := 125) (pc := 55)  (by decide +kernel) ).trans ?_
    refine ite_congr rfl (fun _ => ?_) (fun _ => rfl)
    exact X_freturn (m := 125) (pc := 56) (by decide +kernel) (by decide +kernel)
  · refine (X_iload_n (m := 125) (pc := 19) (n := 1) (by decide +kernel) rfl).trans ?_
    refine (X_bipush (m := 125) (pc := 20) (n := 12) (by decide +kernel) ).trans ?_
    refine (X_aload_n (m := 125) (pc := 22) (n := 0) (by decide +kernel) rfl).trans ?_
    refine (X_getR (m := 125) (pc := 23) (n := 19) (c := 10) (q := 1) (fi := true) (by decide +kernel) (by decide +kernel)).trans ?_
    refine ite_congr rfl (fun _ => ?_) (fun _ => rfl)
    refine (X_iload_n (m := 125) (pc := 26) (n := 2) (by decide +kernel) rfl).trans ?_
    refine (X_call_vi (m := 125) (pc := 27) (q := 284) (y := 45) (n := 2) (as := [a_r (g r0 1), a_i (x2)]) (rest := [a_i (12), a_i (x1)]) (by decide +kernel) (by decide +kernel) (by decide +kernel) (by decide +kernel) rfl rfl (Nat.le_of_ble_eq_true rfl) (Nat.le_of_ble_eq_true rfl) rfl (by rw [show m_maxL 45 = 2 from by decide +kernel]; exact Nat.le_of_ble_eq_true rfl)).trans ?_
    exact ite_congr (by simp [a_rcv, show m_recv 45 = 5 from by decide +kernel]) (fun _ => rfl) (fun _ => rfl)
theorem B_X10_sameShare_30 {k : Nat → Nat × Nat} {u : Nat → Nat → Int} {g : Nat → Nat → Nat} {t : Nat × Nat × Nat} {r0 : Nat} {x1 : Int} {x2 : Int} {y0 : Int} {y1 : Int} {y2 : Int} : a_X 125 30 [a_r (r0), a_i (x1), a_i (x2)] [a_i (y2), a_i (y1), a_i (y0)] (k, u, g, t) = (a_m 351 [a_i (y2)] (k, u, g, t)).bind (a_back 125 30 3 [a_r (r0), a_i (x1), a_i (x2)] [a_i (y1), a_i (y0)]) := by
  refine (X_call_st (m := 125) (pc := 30) (q := 325) (y := 351) (n := 1) (as := [a_i (y2)]) (rest := [a_i (y1), a_i (y0)]) (by decide +kernel) (by decide +kernel) (by decide +kernel) (by decide +kernel) rfl rfl (Nat.le_of_ble_eq_true rfl) (Nat.le_of_ble_eq_true rfl) rfl (by rw [show m_maxL 351 = 1 from by decide +kernel]; exact Nat.le_of_ble_eq_true rfl)).trans ?_
  exact if_pos rfl
theorem B_X10_sameShare_33 {k : Nat → Nat × Nat} {u : Nat → Nat → Int} {g : Nat → Nat → Nat} {t : Nat × Nat × Nat} {r0 : Nat} {x1 : Int} {x2 : Int} {y0 : Int} {y1 : Int} {y2 : Int} : a_X 125 33 [a_r (r0), a_i (x1), a_i (x2)] [a_i (y2), a_i (y1), a_i (y0)] (k, u, g, t) = a_X 125 8 [a_r (r0), a_i (wr (y0 + (wr (y1 - y2)))), a_i (wr (x2 + 1))] [] (k, u, g, t) := by
  refine (X_isub (m := 125) (pc := 33)  (by decide +kernel) ).trans ?_
  refine (X_iadd (m := 125) (pc := 34)  (by decide +kernel) ).trans ?_
  refine (X_istore_n (m := 125) (pc := 35) (n := 1) (by decide +kernel) rfl (Nat.le_of_ble_eq_true rfl) rfl).trans ?_
  refine (X_iinc (m := 125) (pc := 36) (n := 2) (c := 1) (by decide +kernel) rfl rfl (Nat.le_of_ble_eq_true rfl) rfl).trans ?_
  refine (X_goto (m := 125) (pc := 39) (off := -31) (tg := 8) (by decide +kernel) (by decide +kernel)).trans ?_
  rfl
theorem E_X10_meanBehind {σ : AS} {r0 : Nat} : a_m 126 [a_r (r0)] σ = a_X 126 0 [a_r (r0), a_x false, a_x false] [] σ := a_m_eq (by rw [a_entry, show m_maxL 126 = 3 from by decide +kernel]; rfl)
theorem B_X10_meanBehind_0 {k : Nat → Nat × Nat} {u : Nat → Nat → Int} {g : Nat → Nat → Nat} {t : Nat × Nat × Nat} {r0 : Nat} {v1 : AV} {v2 : AV} : a_X 126 0 [a_r (r0), v1, v2] [] (k, u, g, t) = if (k r0).1 = 10 then (a_m 144 [a_r (r0)] (k, u, g, t)).bind (a_back 126 1 3 [a_r (r0), v1, v2] []) else none := by
  refine (X_aload_n (m := 126) (pc := 0) (n := 0) (by decide +kernel) rfl).trans ?_
  refine (X_call_vi (m := 126) (pc := 1) (q := 103) (y := 144) (n := 1) (as := [a_r (r0)]) (rest := []) (by decide +kernel) (by decide +kernel) (by decide +kernel) (by decide +kernel) rfl rfl (Nat.le_of_ble_eq_true rfl) (Nat.le_of_ble_eq_true rfl) rfl (by rw [show m_maxL 144 = 1 from by decide +kernel]; exact Nat.le_of_ble_eq_true rfl)).trans ?_
  exact ite_congr (by simp [a_rcv, show m_recv 144 = 10 from by decide +kernel]) (fun _ => rfl) (fun _ => rfl)
theorem B_X10_meanBehind_4 {k : Nat → Nat × Nat} {u : Nat → Nat → Int} {g : Nat → Nat → Nat} {t : Nat × Nat × Nat} {r0 : Nat} {v1 : AV} {v2 : AV} : a_X 126 4 [a_r (r0), v1, v2] [] (k, u, g, t) = a_X 126 8 [a_r (r0), a_i (0), a_i (0)] [] (k, u, g, t) := by
  refine (X_iconst (m := 126) (pc := 4) (n := 0) (by decide +kernel) ).trans ?_
  refine (X_istore_n (m := 126) (pc := 5) (n := 1) (by decide +kernel) rfl (Nat.le_of_ble_eq_true rfl) rfl).trans ?_
  refine (X_iconst (m := 126) (pc := 6) (n := 0) (by decide +kernel) ).trans ?_
  refine (X_istore_n (m := 126) (pc := 7) (n := 2) (by decide +kernel) rfl (Nat.le_of_ble_eq_true rfl) rfl).trans ?_
  rfl
theorem B_X10_meanBehind_8 {k : Nat → Nat × Nat} {u : Nat → Nat → Int} {g : Nat → Nat → Nat} {t : Nat × Nat × Nat} {r0 : Nat} {x1 : Int} {x2 : Int} : a_X 126 8 [a_r (r0), a_i (x1), a_i (x2)] [] (k, u, g, t) = if (k r0).1 = 10 then if (k (g r0 1)).1 = 5 then if (x2 : Int) ≥ (u (g r0 1) 4 : Int) then if (k r0).1 = 10 then if (k (g r0 1)).1 = 5 then if FP.ddiv (FP.i2d (Int32.ofInt (x1))) (FP.i2d (Int32.ofInt (u (g r0 1) 4))) &&& 0x7fffffffffffffff ≤ 0x7ff0000000000000 then some (.inl (some (a_d (FP.ddiv (FP.i2d (Int32.ofInt (x1))) (FP.i2d (Int32.ofInt (u (g r0 1) 4)))))), (k, u, g, t)) else none else none else none else if (k r0).1 = 10 then if (k (g r0 1)).1 = 5 then (a_m 44 [a_r (g r0 1), a_i (x2)] (k, u, g, t)).bind (a_back 126 25 3 [a_r (r0), a_i (x1), a_i (x2)] [a_i (x1)]) else none else none else none else none := by
  refine (X_iload_n (m := 126) (pc := 8) (n := 2) (by decide +kernel) rfl).trans ?_
  refine (X_aload_n (m := 126) (pc := 9) (n := 0) (by decide +kernel) rfl).trans ?_
  refine (X_getR (m := 126) (pc := 10) (n := 19) (c := 10) (q := 1) (fi := true) (by decide +kernel) (by decide +kernel)).trans ?_
  refine ite_congr rfl (fun _ => ?_) (fun _ => rfl)
  refine (X_getI (m := 126) (pc := 13) (n := 94) (c := 5) (q := 4) (ty := 1) (fi := false) (by decide +kernel) (by decide +kernel) (by decide +kernel)).trans ?_
  refine ite_congr rfl (fun _ => ?_) (fun _ => rfl)
  refine (X_ic_ge (m := 126) (pc := 16) (off := 20) (tg := 36) (by decide +kernel) (by decide +kernel)).trans ?_
  refine ite_congr rfl (fun _ => ?_) (fun _ => ?_)
  · refine (X_iload_n (m := 126) (pc := 36) (n := 1) (by decide +kernel) rfl).trans ?_
    refine (X_i2d (m := 126) (pc := 37)  (by decide +kernel) ).trans ?_
    refine (X_aload_n (m := 126) (pc := 38) (n := 0) (by decide +kernel) rfl).trans ?_
    refine (X_getR (m := 126) (pc := 39) (n := 19) (c := 10) (q := 1) (fi := true) (by decide +kernel) (by decide +kernel)).trans ?_
    refine ite_congr rfl (fun _ => ?_) (fun _ => rfl)
    refine (X_getI (m := 126) (pc := 42) (n := 94) (c := 5) (q := 4) (ty := 1) (fi := false) (by decide +kernel) (by decide +kernel) (by decide +kernel)).trans ?_
    refine ite_congr rfl (fun _ => ?_) (fun _ => rfl)
    refine (X_i2d (m := 126) (pc := 45)  (by decide +kernel) ).trans ?_
    refine (X_ddiv (m := 126) (pc := 46)  (by decide +kernel) ).trans ?_
    refine ite_congr rfl (fun _ => ?_) (fun _ => rfl)
    exact X_dreturn (m := 126) (pc := 47) (by decide +kernel) (by decide +kernel)
  · refine (X_iload_n (m := 126) (pc := 19) (n := 1) (by decide +kernel) rfl).trans ?_
    refine (X_aload_n (m := 126) (pc := 20) (n := 0) (by decide +kernel) rfl).trans ?_
    refine (X_getR (m := 126) (pc := 21) (n := 19) (c := 10) (q := 1) (fi := true) (by decide +kernel) (by decide +kernel)).trans ?_
    refine ite_congr rfl (fun _ => ?_) (fun _ => rfl)
    refine (X_iload_n (m := 126) (pc := 24) (n := 2) (by decide +kernel) rfl).trans ?_
    refine (X_call_vi (m := 126) (pc := 25) (q := 313) (y := 44) (n := 2) (as := [a_r (g r0 1), a_i (x2)]) (rest := [a_i (x1)]) (by decide +kernel) (by decide +kernel) (by decide +kernel) (by decide +kernel) rfl rfl (Nat.le_of_ble_eq_true rfl) (Nat.le_of_ble_eq_true rfl) rfl (by rw [show m_maxL 44 = 2 from by decide +kernel]; exact Nat.le_of_ble_eq_true rfl)).trans ?_
    exact ite_congr (by simp [a_rcv, show m_recv 44 = 5 from by decide +kernel]) (fun _ => rfl) (fun _ => rfl)
theorem B_X10_meanBehind_28 {k : Nat → Nat × Nat} {u : Nat → Nat → Int} {g : Nat → Nat → Nat} {t : Nat × Nat × Nat} {r0 : Nat} {x1 : Int} {x2 : Int} {y0 : Int} {y1 : Int} : a_X 126 28 [a_r (r0), a_i (x1), a_i (x2)] [a_i (y1), a_i (y0)] (k, u, g, t) = a_X 126 8 [a_r (r0), a_i (wr (y0 + y1)), a_i (wr (x2 + 1))] [] (k, u, g, t) := by
  refine (X_iadd (m := 126) (pc := 28)  (by decide +kernel) ).trans ?_
  refine (X_istore_n (m := 126) (pc := 29) (n := 1) (by decide +kernel) rfl (Nat.le_of_ble_eq_true rfl) rfl).trans ?_
  refine (X_iinc (m := 126) (pc := 30) (n := 2) (c := 1) (by decide +kernel) rfl rfl (Nat.le_of_ble_eq_true rfl) rfl).trans ?_
  refine (X_goto (m := 126) (pc := 33) (off := -25) (tg := 8) (by decide +kernel) (by decide +kernel)).trans ?_
  rfl
theorem E_X10_writeDay {σ : AS} {r0 : Nat} {x1 : Int} {x2 : Int} : a_m 127 [a_r (r0), a_i (x1), a_i (x2)] σ = a_X 127 0 [a_r (r0), a_i (x1), a_i (x2), a_x false] [] σ := a_m_eq (by rw [a_entry, show m_maxL 127 = 4 from by decide +kernel]; rfl)
theorem B_X10_writeDay_0 {k : Nat → Nat × Nat} {u : Nat → Nat → Int} {g : Nat → Nat → Nat} {t : Nat × Nat × Nat} {r0 : Nat} {x1 : Int} {x2 : Int} {v3 : AV} : a_X 127 0 [a_r (r0), a_i (x1), a_i (x2), v3] [] (k, u, g, t) = if (k r0).1 = 10 then (a_m 144 [a_r (r0)] (k, u, g, t)).bind (a_back 127 1 3 [a_r (r0), a_i (x1), a_i (x2), v3] []) else none := by
  refine (X_aload_n (m := 127) (pc := 0) (n := 0) (by decide +kernel) rfl).trans ?_
  refine (X_call_vi (m := 127) (pc := 1) (q := 103) (y := 144) (n := 1) (as := [a_r (r0)]) (rest := []) (by decide +kernel) (by decide +kernel) (by decide +kernel) (by decide +kernel) rfl rfl (Nat.le_of_ble_eq_true rfl) (Nat.le_of_ble_eq_true rfl) rfl (by rw [show m_maxL 144 = 1 from by decide +kernel]; exact Nat.le_of_ble_eq_true rfl)).trans ?_
  exact ite_congr (by simp [a_rcv, show m_recv 144 = 10 from by decide +kernel]) (fun _ => rfl) (fun _ => rfl)
theorem B_X10_writeDay_4 {k : Nat → Nat × Nat} {u : Nat → Nat → Int} {g : Nat → Nat → Nat} {t : Nat × Nat × Nat} {r0 : Nat} {x1 : Int} {x2 : Int} {v3 : AV} : a_X 127 4 [a_r (r0), a_i (x1), a_i (x2), v3] [] (k, u, g, t) = if (k r0).1 = 10 then (a_m 146 [a_r (r0), a_i (x1)] (k, u, g, t)).bind (a_back 127 6 3 [a_r (r0), a_i (x1), a_i (x2), v3] []) else none := by
  refine (X_aload_n (m := 127) (pc := 4) (n := 0) (by decide +kernel) rfl).trans ?_
  refine (X_iload_n (m := 127) (pc := 5) (n := 1) (by decide +kernel) rfl).trans ?_
  refine (X_call_vi (m := 127) (pc := 6) (q := 157) (y := 146) (n := 2) (as := [a_r (r0), a_i (x1)]) (rest := []) (by decide +kernel) (by decide +kernel) (by decide +kernel) (by decide +kernel) rfl rfl (Nat.le_of_ble_eq_true rfl) (Nat.le_of_ble_eq_true rfl) rfl (by rw [show m_maxL 146 = 2 from by decide +kernel]; exact Nat.le_of_ble_eq_true rfl)).trans ?_
  exact ite_congr (by simp [a_rcv, show m_recv 146 = 10 from by decide +kernel]) (fun _ => rfl) (fun _ => rfl)
theorem B_X10_writeDay_9 {k : Nat → Nat × Nat} {u : Nat → Nat → Int} {g : Nat → Nat → Nat} {t : Nat × Nat × Nat} {r0 : Nat} {x1 : Int} {x2 : Int} {v3 : AV} : a_X 127 9 [a_r (r0), a_i (x1), a_i (x2), v3] [] (k, u, g, t) = if (k r0).1 = 10 then (a_m 149 [a_r (r0), a_i (x2), a_i (0), a_i (6)] (k, u, g, t)).bind (a_back 127 14 3 [a_r (r0), a_i (x1), a_i (x2), v3] []) else none := by
  refine (X_aload_n (m := 127) (pc := 9) (n := 0) (by decide +kernel) rfl).trans ?_
  refine (X_iload_n (m := 127) (pc := 10) (n := 2) (by decide +kernel) rfl).trans ?_
  refine (X_iconst (m := 127) (pc := 11) (n := 0) (by decide +kernel) ).trans ?_
  refine (X_bipush (m := 127) (pc := 12) (n := 6) (by decide +kernel) ).trans ?_
  refine (X_call_vi (m := 127) (pc := 14) (q := 163) (y := 149) (n := 4) (as := [a_r (r0), a_i (x2), a_i (0), a_i (6)]) (rest := []) (by decide +kernel) (by decide +kernel) (by decide +kernel) (by decide +kernel) rfl rfl (Nat.le_of_ble_eq_true rfl) (Nat.le_of_ble_eq_true rfl) rfl (by rw [show m_maxL 149 = 4 from by decide +kernel]; exact Nat.le_of_ble_eq_true rfl)).trans ?_
  exact ite_congr (by simp [a_rcv, show m_recv 149 = 10 from by decide +kernel]) (fun _ => rfl) (fun _ => rfl)
theorem B_X10_writeDay_17 {k : Nat → Nat × Nat} {u : Nat → Nat → Int} {g : Nat → Nat → Nat} {t : Nat × Nat × Nat} {r0 : Nat} {x1 : Int} {x2 : Int} {v3 : AV} : a_X 127 17 [a_r (r0), a_i (x1), a_i (x2), v3] [] (k, u, g, t) = if (k r0).1 = 10 then if (k r0).1 = 10 then if (k (g r0 1)).1 = 5 then if (k r0).1 = 10 then if (k (g r0 1)).1 = 5 then (a_m 31 [a_r (g r0 1), a_i (x1)] (k, u, g, t)).bind (a_back 127 33 3 [a_r (r0), a_i (x1), a_i (x2), v3] [a_r (g (g r0 1) 0), a_r (g r0 6)]) else none else none else none else none else none := by
  refine (X_aload_n (m := 127) (pc := 17) (n := 0) (by decide +kernel) rfl).trans ?_
  refine (X_getR (m := 127) (pc := 18) (n := 44) (c := 10) (q := 6) (fi := true) (by decide +kernel) (by decide +kernel)).trans ?_
  refine ite_congr rfl (fun _ => ?_) (fun _ => rfl)
  refine (X_aload_n (m := 127) (pc := 21) (n := 0) (by decide +kernel) rfl).trans ?_
  refine (X_getR (m := 127) (pc := 22) (n := 19) (c := 10) (q := 1) (fi := true) (by decide +kernel) (by decide +kernel)).trans ?_
  refine ite_congr rfl (fun _ => ?_) (fun _ => rfl)
  refine (X_getR (m := 127) (pc := 25) (n := 106) (c := 5) (q := 0) (fi := true) (by decide +kernel) (by decide +kernel)).trans ?_
  refine ite_congr rfl (fun _ => ?_) (fun _ => rfl)
  refine (X_aload_n (m := 127) (pc := 28) (n := 0) (by decide +kernel) rfl).trans ?_
  refine (X_getR (m := 127) (pc := 29) (n := 19) (c := 10) (q := 1) (fi := true) (by decide +kernel) (by decide +kernel)).trans ?_
  refine ite_congr rfl (fun _ => ?_) (fun _ => rfl)
  refine (X_iload_n (m := 127) (pc := 32) (n := 1) (by decide +kernel) rfl).trans ?_
  refine (X_call_vi (m := 127) (pc := 33) (q := 167) (y := 31) (n := 2) (as := [a_r (g r0 1), a_i (x1)]) (rest := [a_r (g (g r0 1) 0), a_r (g r0 6)]) (by decide +kernel) (by decide +kernel) (by decide +kernel) (by decide +kernel) rfl rfl (Nat.le_of_ble_eq_true rfl) (Nat.le_of_ble_eq_true rfl) rfl (by rw [show m_maxL 31 = 2 from by decide +kernel]; exact Nat.le_of_ble_eq_true rfl)).trans ?_
  exact ite_congr (by simp [a_rcv, show m_recv 31 = 5 from by decide +kernel]) (fun _ => rfl) (fun _ => rfl)
theorem B_X10_writeDay_36 {k : Nat → Nat × Nat} {u : Nat → Nat → Int} {g : Nat → Nat → Nat} {t : Nat × Nat × Nat} {r0 : Nat} {x1 : Int} {x2 : Int} {v3 : AV} {q0 : Nat} {q1 : Nat} {q2 : Nat} : a_X 127 36 [a_r (r0), a_i (x1), a_i (x2), v3] [a_r (q2), a_r (q1), a_r (q0)] (k, u, g, t) = if (k q0).1 = 4 then (a_m 23 [a_r (q0), a_r (q1), a_r (q2), a_i (x2)] (k, u, g, t)).bind (a_back 127 37 3 [a_r (r0), a_i (x1), a_i (x2), v3] []) else none := by
  refine (X_iload_n (m := 127) (pc := 36) (n := 2) (by decide +kernel) rfl).trans ?_
  refine (X_call_vi (m := 127) (pc := 37) (q := 241) (y := 23) (n := 4) (as := [a_r (q0), a_r (q1), a_r (q2), a_i (x2)]) (rest := []) (by decide +kernel) (by decide +kernel) (by decide +kernel) (by decide +kernel) rfl rfl (Nat.le_of_ble_eq_true rfl) (Nat.le_of_ble_eq_true rfl) rfl (by rw [show m_maxL 23 = 6 from by decide +kernel]; exact Nat.le_of_ble_eq_true rfl)).trans ?_
  exact ite_congr (by simp [a_rcv, show m_recv 23 = 4 from by decide +kernel]) (fun _ => rfl) (fun _ => rfl)
theorem B_X10_writeDay_40 {k : Nat → Nat × Nat} {u : Nat → Nat → Int} {g : Nat → Nat → Nat} {t : Nat × Nat × Nat} {r0 : Nat} {x1 : Int} {x2 : Int} {v3 : AV} : a_X 127 40 [a_r (r0), a_i (x1), a_i (x2), v3] [] (k, u, g, t) = if (k r0).1 = 10 then if (k (g r0 7)).1 = 8 then (a_m 74 [a_r (g r0 7)] (k, u, g, t)).bind (a_back 127 44 3 [a_r (r0), a_i (x1), a_i (x2), v3] []) else none else none := by
  refine (X_aload_n (m := 127) (pc := 40) (n := 0) (by decide +kernel) rfl).trans ?_
  refine (X_getR (m := 127) (pc := 41) (n := 51) (c := 10) (q := 7) (fi := true) (by decide +kernel) (by decide +kernel)).trans ?_
  refine ite_congr rfl (fun _ => ?_) (fun _ => rfl)
  refine (X_call_vi (m := 127) (pc := 44) (q := 330) (y := 74) (n := 1) (as := [a_r (g r0 7)]) (rest := []) (by decide +kernel) (by decide +kernel) (by decide +kernel) (by decide +kernel) rfl rfl (Nat.le_of_ble_eq_true rfl) (Nat.le_of_ble_eq_true rfl) rfl (by rw [show m_maxL 74 = 1 from by decide +kernel]; exact Nat.le_of_ble_eq_true rfl)).trans ?_
  exact ite_congr (by simp [a_rcv, show m_recv 74 = 8 from by decide +kernel]) (fun _ => rfl) (fun _ => rfl)
theorem B_X10_writeDay_47 {k : Nat → Nat × Nat} {u : Nat → Nat → Int} {g : Nat → Nat → Nat} {t : Nat × Nat × Nat} {r0 : Nat} {x1 : Int} {x2 : Int} {v3 : AV} : a_X 127 47 [a_r (r0), a_i (x1), a_i (x2), v3] [] (k, u, g, t) = a_X 127 49 [a_r (r0), a_i (x1), a_i (x2), a_i (0)] [] (k, u, g, t) := by
  refine (X_iconst (m := 127) (pc := 47) (n := 0) (by decide +kernel) ).trans ?_
  refine (X_istore_n (m := 127) (pc := 48) (n := 3) (by decide +kernel) rfl (Nat.le_of_ble_eq_true rfl) rfl).trans ?_
  rfl
theorem B_X10_writeDay_49 {k : Nat → Nat × Nat} {u : Nat → Nat → Int} {g : Nat → Nat → Nat} {t : Nat × Nat × Nat} {r0 : Nat} {x1 : Int} {x2 : Int} {x3 : Int} : a_X 127 49 [a_r (r0), a_i (x1), a_i (x2), a_i (x3)] [] (k, u, g, t) = if (k r0).1 = 10 then if (k (g r0 6)).1 = 4 then if (x3 : Int) ≥ (u (g r0 6) 4 : Int) then if (k r0).1 = 10 then if (k (g r0 6)).1 = 4 then if (u (g r0 6) 4 : Int) ≠ 0 then if (k r0).1 = 10 then if (k (g r0 7)).1 = 8 then some (.inl (some (a_i (u (g r0 7) 1))), (k, u, g, t)) else none else none else if (k r0).1 = 10 then if (k (g r0 7)).1 = 8 then (a_m 75 [a_r (g r0 7), a_i (45)] (k, u, g, t)).bind (a_back 127 161 3 [a_r (r0), a_i (x1), a_i (x2), a_i (x3)] []) else none else none else none else none else if (x3 : Int) ≤ 0 then if (k r0).1 = 10 then if (k r0).1 = 10 then if (k (g r0 6)).1 = 4 then if ((k (g (g r0 6) 0)).1 = 20 ∨ (k (g (g r0 6) 0)).1 = 24) ∧ 0 ≤ (x3 : Int) ∧ (x3 : Int) < ((k (g (g r0 6) 0)).2 : Int) then if (k (g r0 7)).1 = 8 then (a_m 76 [a_r (g r0 7), a_i (u (g (g r0 6) 0) (x3 : Int).toNat)] (k, u, g, t)).bind (a_back 127 86 3 [a_r (r0), a_i (x1), a_i (x2), a_i (x3)] []) else none else none else none else none else none else if (k r0).1 = 10 then if (k (g r0 7)).1 = 8 then (a_m 75 [a_r (g r0 7), a_i (32)] (k, u, g, t)).bind (a_back 127 70 3 [a_r (r0), a_i (x1), a_i (x2), a_i (x3)] []) else none else none else none else none := by
  refine (X_iload_n (m := 127) (pc := 49) (n := 3) (by decide +kernel) rfl).trans ?_
  refine (X_aload_n (m := 127) (pc := 50) (n := 0) (by decide +kernel) rfl).trans ?_
  refine (X_getR (m := 127) (pc := 51) (n := 44) (c := 10) (q := 6) (fi := true) (by decide +kernel) (by decide +kernel)).trans ?_
  refine ite_congr rfl (fun _ => ?_) (fun _ => rfl)
  refine (X_getI (m := 127) (pc := 54) (n := 245) (c := 4) (q := 4) (ty := 1) (fi := false) (by decide +kernel) (by decide +kernel) (by decide +kernel)).trans ?_
  refine ite_congr rfl (fun _ => ?_) (fun _ => rfl)
  refine (X_ic_ge (m := 127) (pc := 57) (off := 88) (tg := 145) (by decide +kernel) (by decide +kernel)).trans ?_
  refine ite_congr rfl (fun _ => ?_) (fun _ => ?_)
  · refine (X_aload_n (m := 127) (pc := 145) (n := 0) (by decide +kernel) rfl).trans ?_
    refine (X_getR (m := 127) (pc := 146) (n := 44) (c := 10) (q := 6) (fi := true) (by decide +kernel) (by decide +kernel)).trans ?_
    refine ite_congr rfl (fun _ => ?_) (fun _ => rfl)
    refine (X_getI (m := 127) (pc := 149) (n := 245) (c := 4) (q := 4) (ty := 1) (fi := false) (by decide +kernel) (by decide +kernel) (by decide +kernel)).trans ?_
    refine ite_congr rfl (fun _ => ?_) (fun _ => rfl)
    refine (X_if_ne (m := 127) (pc := 152) (off := 12) (tg := 164) (by decide +kernel) (by decide +kernel)).trans ?_
    refine ite_congr rfl (fun _ => ?_) (fun _ => ?_)
    · refine (X_aload_n (m := 127) (pc := 164) (n := 0) (by decide +kernel) rfl).trans ?_
      refine (X_getR (m := 127) (pc := 165) (n := 51) (c := 10) (q := 7) (fi := true) (by decide +kernel) (by decide +kernel)).trans ?_
      refine ite_congr rfl (fun _ => ?_) (fun _ => rfl)
      refine (X_getI (m := 127) (pc := 168) (n := 346) (c := 8) (q := 1) (ty := 1) (fi := false) (by decide +kernel) (by decide +kernel) (by decide +kernel)).trans ?_
      refine ite_congr rfl (fun _ => ?_) (fun _ => rfl)
      exact X_ireturn (m := 127) (pc := 171) (f := 1) (by decide +kernel) (by decide +kernel) rfl
    · refine (X_aload_n (m := 127) (pc := 155) (n := 0) (by decide +kernel) rfl).trans ?_
      refine (X_getR (m := 127) (pc := 156) (n := 51) (c := 10) (q := 7) (fi := true) (by decide +kernel) (by decide +kernel)).trans ?_
      refine ite_congr rfl (fun _ => ?_) (fun _ => rfl)
      refine (X_bipush (m := 127) (pc := 159) (n := 45) (by decide +kernel) ).trans ?_
      refine (X_call_vi (m := 127) (pc := 161) (q := 333) (y := 75) (n := 2) (as := [a_r (g r0 7), a_i (45)]) (rest := []) (by decide +kernel) (by decide +kernel) (by decide +kernel) (by decide +kernel) rfl rfl (Nat.le_of_ble_eq_true rfl) (Nat.le_of_ble_eq_true rfl) rfl (by rw [show m_maxL 75 = 2 from by decide +kernel]; exact Nat.le_of_ble_eq_true rfl)).trans ?_
      exact ite_congr (by simp [a_rcv, show m_recv 75 = 8 from by decide +kernel]) (fun _ => rfl) (fun _ => rfl)
  · refine (X_iload_n (m := 127) (pc := 60) (n := 3) (by decide +kernel) rfl).trans ?_
    refine (X_if_le (m := 127) (pc := 61) (off := 12) (tg := 73) (by decide +kernel) (by decide +kernel)).trans ?_
    refine ite_congr rfl (fun _ => ?_) (fun _ => ?_)
    · refine (X_aload_n (m := 127) (pc := 73) (n := 0) (by decide +kernel) rfl).trans ?_
      refine (X_getR (m := 127) (pc := 74) (n := 51) (c := 10) (q := 7) (fi := true) (by decide +kernel) (by decide +kernel)).trans ?_
      refine ite_congr rfl (fun _ => ?_) (fun _ => rfl)
      refine (X_aload_n (m := 127) (pc := 77) (n := 0) (by decide +kernel) rfl).trans ?_
      refine (X_getR (m := 127) (pc := 78) (n := 44) (c := 10) (q := 6) (fi := true) (by decide +kernel) (by decide +kernel)).trans ?_
      refine ite_congr rfl (fun _ => ?_) (fun _ => rfl)
      refine (X_getR (m := 127) (pc := 81) (n := 336) (c := 4) (q := 0) (fi := true) (by decide +kernel) (by decide +kernel)).trans ?_
      refine ite_congr rfl (fun _ => ?_) (fun _ => rfl)
      refine (X_iload_n (m := 127) (pc := 84) (n := 3) (by decide +kernel) rfl).trans ?_
      refine (X_iaload (m := 127) (pc := 85)  (by decide +kernel) ).trans ?_
      refine ite_congr rfl (fun _ => ?_) (fun _ => rfl)
      refine (X_call_vi (m := 127) (pc := 86) (q := 337) (y := 76) (n := 2) (as := [a_r (g r0 7), a_i (u (g (g r0 6) 0) (x3 : Int).toNat)]) (rest := []) (by decide +kernel) (by decide +kernel) (by decide +kernel) (by decide +kernel) rfl rfl (Nat.le_of_ble_eq_true rfl) (Nat.le_of_ble_eq_true rfl) rfl (by rw [show m_maxL 76 = 3 from by decide +kernel]; exact Nat.le_of_ble_eq_true rfl)).trans ?_
      exact ite_congr (by simp [a_rcv, show m_recv 76 = 8 from by decide +kernel]) (fun _ => rfl) (fun _ => rfl)
    · refine (X_aload_n (m := 127) (pc := 64) (n := 0) (by decide +kernel) rfl).trans ?_
      refine (X_getR (m := 127) (pc := 65) (n := 51) (c := 10) (q := 7) (fi := true) (by decide +kernel) (by decide +kernel)).trans ?_
      refine ite_congr rfl (fun _ => ?_) (fun _ => rfl)
      refine (X_bipush (m := 127) (pc := 68) (n := 32) (by decide +kernel) ).trans ?_
      refine (X_call_vi (m := 127) (pc := 70) (q := 333) (y := 75) (n := 2) (as := [a_r (g r0 7), a_i (32)]) (rest := []) (by decide +kernel) (by decide +kernel) (by decide +kernel) (by decide +kernel) rfl rfl (Nat.le_of_ble_eq_true rfl) (Nat.le_of_ble_eq_true rfl) rfl (by rw [show m_maxL 75 = 2 from by decide +kernel]; exact Nat.le_of_ble_eq_true rfl)).trans ?_
      exact ite_congr (by simp [a_rcv, show m_recv 75 = 8 from by decide +kernel]) (fun _ => rfl) (fun _ => rfl)
theorem B_X10_writeDay_164 {k : Nat → Nat × Nat} {u : Nat → Nat → Int} {g : Nat → Nat → Nat} {t : Nat × Nat × Nat} {r0 : Nat} {x1 : Int} {x2 : Int} {x3 : Int} : a_X 127 164 [a_r (r0), a_i (x1), a_i (x2), a_i (x3)] [] (k, u, g, t) = if (k r0).1 = 10 then if (k (g r0 7)).1 = 8 then some (.inl (some (a_i (u (g r0 7) 1))), (k, u, g, t)) else none else none := by
  refine (X_aload_n (m := 127) (pc := 164) (n := 0) (by decide +kernel) rfl).trans ?_
  refine (X_getR (m := 127) (pc := 165) (n := 51) (c := 10) (q := 7) (fi := true) (by decide +kernel) (by decide +kernel)).trans ?_
  refine ite_congr rfl (fun _ => ?_) (fun _ => rfl)
  refine (X_getI (m := 127) (pc := 168) (n := 346) (c := 8) (q := 1) (ty := 1) (fi := false) (by decide +kernel) (by decide +kernel) (by decide +kernel)).trans ?_
  refine ite_congr rfl (fun _ => ?_) (fun _ => rfl)
  exact X_ireturn (m := 127) (pc := 171) (f := 1) (by decide +kernel) (by decide +kernel) rfl
theorem B_X10_writeDay_89 {k : Nat → Nat × Nat} {u : Nat → Nat → Int} {g : Nat → Nat → Nat} {t : Nat × Nat × Nat} {r0 : Nat} {x1 : Int} {x2 : Int} {x3 : Int} : a_X 127 89 [a_r (r0), a_i (x1), a_i (x2), a_i (x3)] [] (k, u, g, t) = if (k r0).1 = 10 then if (k (g r0 7)).1 = 8 then (a_m 75 [a_r (g r0 7), a_i (64)] (k, u, g, t)).bind (a_back 127 95 3 [a_r (r0), a_i (x1), a_i (x2), a_i (x3)] []) else none else none := by
  refine (X_aload_n (m := 127) (pc := 89) (n := 0) (by decide +kernel) rfl).trans ?_
  refine (X_getR (m := 127) (pc := 90) (n := 51) (c := 10) (q := 7) (fi := true) (by decide +kernel) (by decide +kernel)).trans ?_
  refine ite_congr rfl (fun _ => ?_) (fun _ => rfl)
  refine (X_bipush (m := 127) (pc := 93) (n := 64) (by decide +kernel) ).trans ?_
  refine (X_call_vi (m := 127) (pc := 95) (q := 333) (y := 75) (n := 2) (as := [a_r (g r0 7), a_i (64)]) (rest := []) (by decide +kernel) (by decide +kernel) (by decide +kernel) (by decide +kernel) rfl rfl (Nat.le_of_ble_eq_true rfl) (Nat.le_of_ble_eq_true rfl) rfl (by rw [show m_maxL 75 = 2 from by decide +kernel]; exact Nat.le_of_ble_eq_true rfl)).trans ?_
  exact ite_congr (by simp [a_rcv, show m_recv 75 = 8 from by decide +kernel]) (fun _ => rfl) (fun _ => rfl)
theorem B_X10_writeDay_73 {k : Nat → Nat × Nat} {u : Nat → Nat → Int} {g : Nat → Nat → Nat} {t : Nat × Nat × Nat} {r0 : Nat} {x1 : Int} {x2 : Int} {x3 : Int} : a_X 127 73 [a_r (r0), a_i (x1), a_i (x2), a_i (x3)] [] (k, u, g, t) = if (k r0).1 = 10 then if (k r0).1 = 10 then if (k (g r0 6)).1 = 4 then if ((k (g (g r0 6) 0)).1 = 20 ∨ (k (g (g r0 6) 0)).1 = 24) ∧ 0 ≤ (x3 : Int) ∧ (x3 : Int) < ((k (g (g r0 6) 0)).2 : Int) then if (k (g r0 7)).1 = 8 then (a_m 76 [a_r (g r0 7), a_i (u (g (g r0 6) 0) (x3 : Int).toNat)] (k, u, g, t)).bind (a_back 127 86 3 [a_r (r0), a_i (x1), a_i (x2), a_i (x3)] []) else none else none else none else none else none := by
  refine (X_aload_n (m := 127) (pc := 73) (n := 0) (by decide +kernel) rfl).trans ?_
  refine (X_getR (m := 127) (pc := 74) (n := 51) (c := 10) (q := 7) (fi := true) (by decide +kernel) (by decide +kernel)).trans ?_
  refine ite_congr rfl (fun _ => ?_) (fun _ => rfl)
  refine (X_aload_n (m := 127) (pc := 77) (n := 0) (by decide +kernel) rfl).trans ?_
  refine (X_getR (m := 127) (pc := 78) (n := 44) (c := 10) (q := 6) (fi := true) (by decide +kernel) (by decide +kernel)).trans ?_
  refine ite_congr rfl (fun _ => ?_) (fun _ => rfl)
  refine (X_getR (m := 127) (pc := 81) (n := 336) (c := 4) (q := 0) (fi := true) (by decide +kernel) (by decide +kernel)).trans ?_
  refine ite_congr rfl (fun _ => ?_) (fun _ => rfl)
  refine (X_iload_n (m := 127) (pc := 84) (n := 3) (by decide +kernel) rfl).trans ?_
  refine (X_iaload (m := 127) (pc := 85)  (by decide +kernel) ).trans ?_
  refine ite_congr rfl (fun _ => ?_) (fun _ => rfl)
  refine (X_call_vi (m := 127) (pc := 86) (q := 337) (y := 76) (n := 2) (as := [a_r (g r0 7), a_i (u (g (g r0 6) 0) (x3 : Int).toNat)]) (rest := []) (by decide +kernel) (by decide +kernel) (by decide +kernel) (by decide +kernel) rfl rfl (Nat.le_of_ble_eq_true rfl) (Nat.le_of_ble_eq_true rfl) rfl (by rw [show m_maxL 76 = 3 from by decide +kernel]; exact Nat.le_of_ble_eq_true rfl)).trans ?_
  exact ite_congr (by simp [a_rcv, show m_recv 76 = 8 from by decide +kernel]) (fun _ => rfl) (fun _ => rfl)
theorem B_X10_writeDay_98 {k : Nat → Nat × Nat} {u : Nat → Nat → Int} {g : Nat → Nat → Nat} {t : Nat × Nat × Nat} {r0 : Nat} {x1 : Int} {x2 : Int} {x3 : Int} : a_X 127 98 [a_r (r0), a_i (x1), a_i (x2), a_i (x3)] [] (k, u, g, t) = if (k r0).1 = 10 then if (k r0).1 = 10 then if (k (g r0 6)).1 = 4 then if ((k (g (g r0 6) 1)).1 = 20 ∨ (k (g (g r0 6) 1)).1 = 24) ∧ 0 ≤ (x3 : Int) ∧ (x3 : Int) < ((k (g (g r0 6) 1)).2 : Int) then if (k (g r0 7)).1 = 8 then (a_m 76 [a_r (g r0 7), a_i (u (g (g r0 6) 1) (x3 : Int).toNat)] (k, u, g, t)).bind (a_back 127 111 3 [a_r (r0), a_i (x1), a_i (x2), a_i (x3)] []) else none else none else none else none else none := by
  refine (X_aload_n (m := 127) (pc := 98) (n := 0) (by decide +kernel) rfl).trans ?_
  refine (X_getR (m := 127) (pc := 99) (n := 51) (c := 10) (q := 7) (fi := true) (by decide +kernel) (by decide +kernel)).trans ?_
  refine ite_congr rfl (fun _ => ?_) (fun _ => rfl)
  refine (X_aload_n (m := 127) (pc := 102) (n := 0) (by decide +kernel) rfl).trans ?_
  refine (X_getR (m := 127) (pc := 103) (n := 44) (c := 10) (q := 6) (fi := true) (by decide +kernel) (by decide +kernel)).trans ?_
  refine ite_congr rfl (fun _ => ?_) (fun _ => rfl)
  refine (X_getR (m := 127) (pc := 106) (n := 340) (c := 4) (q := 1) (fi := true) (by decide +kernel) (by decide +kernel)).trans ?_
  refine ite_congr rfl (fun _ => ?_) (fun _ => rfl)
  refine (X_iload_n (m := 127) (pc := 109) (n := 3) (by decide +kernel) rfl).trans ?_
  refine (X_iaload (m := 127) (pc := 110)  (by decide +kernel) ).trans ?_
  refine ite_congr rfl (fun _ => ?_) (fun _ => rfl)
  refine (X_call_vi (m := 127) (pc := 111) (q := 337) (y := 76) (n := 2) (as := [a_r (g r0 7), a_i (u (g (g r0 6) 1) (x3 : Int).toNat)]) (rest := []) (by decide +kernel) (by decide +kernel) (by decide +kernel) (by decide +kernel) rfl rfl (Nat.le_of_ble_eq_true rfl) (Nat.le_of_ble_eq_true rfl) rfl (by rw [show m_maxL 76 = 3 from by decide +kernel]; exact Nat.le_of_ble_eq_true rfl)).trans ?_
  exact ite_congr (by simp [a_rcv, show m_recv 76 = 8 from by decide +kernel]) (fun _ => rfl) (fun _ => rfl)
theorem B_X10_writeDay_114 {k : Nat → Nat × Nat} {u : Nat → Nat → Int} {g : Nat → Nat → Nat} {t : Nat × Nat × Nat} {r0 : Nat} {x1 : Int} {x2 : Int} {x3 : Int} : a_X 127 114 [a_r (r0), a_i (x1), a_i (x2), a_i (x3)] [] (k, u, g, t) = if (k r0).1 = 10 then if (k (g r0 7)).1 = 8 then (a_m 75 [a_r (g r0 7), a_i (45)] (k, u, g, t)).bind (a_back 127 120 3 [a_r (r0), a_i (x1), a_i (x2), a_i (x3)] []) else none else none := by
  refine (X_aload_n (m := 127) (pc := 114) (n := 0) (by decide +kernel) rfl).trans ?_
  refine (X_getR (m := 127) (pc := 115) (n := 51) (c := 10) (q := 7) (fi := true) (by decide +kernel) (by decide +kernel)).trans ?_
  refine ite_congr rfl (fun _ => ?_) (fun _ => rfl)
  refine (X_bipush (m := 127) (pc := 118) (n := 45) (by decide +kernel) ).trans ?_
  refine (X_call_vi (m := 127) (pc := 120) (q := 333) (y := 75) (n := 2) (as := [a_r (g r0 7), a_i (45)]) (rest := []) (by decide +kernel) (by decide +kernel) (by decide +kernel) (by decide +kernel) rfl rfl (Nat.le_of_ble_eq_true rfl) (Nat.le_of_ble_eq_true rfl) rfl (by rw [show m_maxL 75 = 2 from by decide +kernel]; exact Nat.le_of_ble_eq_true rfl)).trans ?_
  exact ite_congr (by simp [a_rcv, show m_recv 75 = 8 from by decide +kernel]) (fun _ => rfl) (fun _ => rfl)
theorem B_X10_writeDay_123 {k : Nat → Nat × Nat} {u : Nat → Nat → Int} {g : Nat → Nat → Nat} {t : Nat × Nat × Nat} {r0 : Nat} {x1 : Int} {x2 : Int} {x3 : Int} : a_X 127 123 [a_r (r0), a_i (x1), a_i (x2), a_i (x3)] [] (k, u, g, t) = if (k r0).1 = 10 then if (k r0).1 = 10 then if (k (g r0 6)).1 = 4 then if ((k (g (g r0 6) 2)).1 = 20 ∨ (k (g (g r0 6) 2)).1 = 24) ∧ 0 ≤ (x3 : Int) ∧ (x3 : Int) < ((k (g (g r0 6) 2)).2 : Int) then if (k (g r0 7)).1 = 8 then (a_m 76 [a_r (g r0 7), a_i (u (g (g r0 6) 2) (x3 : Int).toNat)] (k, u, g, t)).bind (a_back 127 136 3 [a_r (r0), a_i (x1), a_i (x2), a_i (x3)] []) else none else none else none else none else none := by
  refine (X_aload_n (m := 127) (pc := 123) (n := 0) (by decide +kernel) rfl).trans ?_
  refine (X_getR (m := 127) (pc := 124) (n := 51) (c := 10) (q := 7) (fi := true) (by decide +kernel) (by decide +kernel)).trans ?_
  refine ite_congr rfl (fun _ => ?_) (fun _ => rfl)
  refine (X_aload_n (m := 127) (pc := 127) (n := 0) (by decide +kernel) rfl).trans ?_
  refine (X_getR (m := 127) (pc := 128) (n := 44) (c := 10) (q := 6) (fi := true) (by decide +kernel) (by decide +kernel)).trans ?_
  refine ite_congr rfl (fun _ => ?_) (fun _ => rfl)
  refine (X_getR (m := 127) (pc := 131) (n := 343) (c := 4) (q := 2) (fi := true) (by decide +kernel) (by decide +kernel)).trans ?_
  refine ite_congr rfl (fun _ => ?_) (fun _ => rfl)
  refine (X_iload_n (m := 127) (pc := 134) (n := 3) (by decide +kernel) rfl).trans ?_
  refine (X_iaload (m := 127) (pc := 135)  (by decide +kernel) ).trans ?_
  refine ite_congr rfl (fun _ => ?_) (fun _ => rfl)
  refine (X_call_vi (m := 127) (pc := 136) (q := 337) (y := 76) (n := 2) (as := [a_r (g r0 7), a_i (u (g (g r0 6) 2) (x3 : Int).toNat)]) (rest := []) (by decide +kernel) (by decide +kernel) (by decide +kernel) (by decide +kernel) rfl rfl (Nat.le_of_ble_eq_true rfl) (Nat.le_of_ble_eq_true rfl) rfl (by rw [show m_maxL 76 = 3 from by decide +kernel]; exact Nat.le_of_ble_eq_true rfl)).trans ?_
  exact ite_congr (by simp [a_rcv, show m_recv 76 = 8 from by decide +kernel]) (fun _ => rfl) (fun _ => rfl)
theorem B_X10_writeDay_139 {k : Nat → Nat × Nat} {u : Nat → Nat → Int} {g : Nat → Nat → Nat} {t : Nat × Nat × Nat} {r0 : Nat} {x1 : Int} {x2 : Int} {x3 : Int} : a_X 127 139 [a_r (r0), a_i (x1), a_i (x2), a_i (x3)] [] (k, u, g, t) = a_X 127 49 [a_r (r0), a_i (x1), a_i (x2), a_i (wr (x3 + 1))] [] (k, u, g, t) := by
  refine (X_iinc (m := 127) (pc := 139) (n := 3) (c := 1) (by decide +kernel) rfl rfl (Nat.le_of_ble_eq_true rfl) rfl).trans ?_
  refine (X_goto (m := 127) (pc := 142) (off := -93) (tg := 49) (by decide +kernel) (by decide +kernel)).trans ?_
  rfl
theorem E_X10_writeMissing {σ : AS} {r0 : Nat} {x1 : Int} : a_m 128 [a_r (r0), a_i (x1)] σ = a_X 128 0 [a_r (r0), a_i (x1), a_x false, a_x false] [] σ := a_m_eq (by rw [a_entry, show m_maxL 128 = 4 from by decide +kernel]; rfl)
theorem B_X10_writeMissing_0 {k : Nat → Nat × Nat} {u : Nat → Nat → Int} {g : Nat → Nat → Nat} {t : Nat × Nat × Nat} {r0 : Nat} {x1 : Int} {v2 : AV} {v3 : AV} : a_X 128 0 [a_r (r0), a_i (x1), v2, v3] [] (k, u, g, t) = if (k r0).1 = 10 then (a_m 144 [a_r (r0)] (k, u, g, t)).bind (a_back 128 1 3 [a_r (r0), a_i (x1), v2, v3] []) else none := by
  refine (X_aload_n (m := 128) (pc := 0) (n := 0) (by decide +kernel) rfl).trans ?_
  refine (X_call_vi (m := 128) (pc := 1) (q := 103) (y := 144) (n := 1) (as := [a_r (r0)]) (rest := []) (by decide +kernel) (by decide +kernel) (by decide +kernel) (by decide +kernel) rfl rfl (Nat.le_of_ble_eq_true rfl) (Nat.le_of_ble_eq_true rfl) rfl (by rw [show m_maxL 144 = 1 from by decide +kernel]; exact Nat.le_of_ble_eq_true rfl)).trans ?_
  exact ite_congr (by simp [a_rcv, show m_recv 144 = 10 from by decide +kernel]) (fun _ => rfl) (fun _ => rfl)
theorem B_X10_writeMissing_4 {k : Nat → Nat × Nat} {u : Nat → Nat → Int} {g : Nat → Nat → Nat} {t : Nat × Nat × Nat} {r0 : Nat} {x1 : Int} {v2 : AV} {v3 : AV} : a_X 128 4 [a_r (r0), a_i (x1), v2, v3] [] (k, u, g, t) = if (k r0).1 = 10 then (a_m 145 [a_r (r0), a_i (x1)] (k, u, g, t)).bind (a_back 128 6 3 [a_r (r0), a_i (x1), v2, v3] []) else none := by
  refine (X_aload_n (m := 128) (pc := 4) (n := 0) (by decide +kernel) rfl).trans ?_
  refine (X_iload_n (m := 128) (pc := 5) (n := 1) (by decide +kernel) rfl).trans ?_
  refine (X_call_vi (m := 128) (pc := 6) (q := 247) (y := 145) (n := 2) (as := [a_r (r0), a_i (x1)]) (rest := []) (by decide +kernel) (by decide +kernel) (by decide +kernel) (by decide +kernel) rfl rfl (Nat.le_of_ble_eq_true rfl) (Nat.le_of_ble_eq_true rfl) rfl (by rw [show m_maxL 145 = 2 from by decide +kernel]; exact Nat.le_of_ble_eq_true rfl)).trans ?_
  exact ite_congr (by simp [a_rcv, show m_recv 145 = 10 from by decide +kernel]) (fun _ => rfl) (fun _ => rfl)
theorem B_X10_writeMissing_9 {k : Nat → Nat × Nat} {u : Nat → Nat → Int} {g : Nat → Nat → Nat} {t : Nat × Nat × Nat} {r0 : Nat} {x1 : Int} {v2 : AV} {v3 : AV} : a_X 128 9 [a_r (r0), a_i (x1), v2, v3] [] (k, u, g, t) = if (k r0).1 = 10 then if (k (g r0 7)).1 = 8 then (a_m 74 [a_r (g r0 7)] (k, u, g, t)).bind (a_back 128 13 3 [a_r (r0), a_i (x1), v2, v3] []) else none else none := by
  refine (X_aload_n (m := 128) (pc := 9) (n := 0) (by decide +kernel) rfl).trans ?_
  refine (X_getR (m := 128) (pc := 10) (n := 51) (c := 10) (q := 7) (fi := true) (by decide +kernel) (by decide +kernel)).trans ?_
  refine ite_congr rfl (fun _ => ?_) (fun _ => rfl)
  refine (X_call_vi (m := 128) (pc := 13) (q := 330) (y := 74) (n := 1) (as := [a_r (g r0 7)]) (rest := []) (by decide +kernel) (by decide +kernel) (by decide +kernel) (by decide +kernel) rfl rfl (Nat.le_of_ble_eq_true rfl) (Nat.le_of_ble_eq_true rfl) rfl (by rw [show m_maxL 74 = 1 from by decide +kernel]; exact Nat.le_of_ble_eq_true rfl)).trans ?_
  exact ite_congr (by simp [a_rcv, show m_recv 74 = 8 from by decide +kernel]) (fun _ => rfl) (fun _ => rfl)
theorem B_X10_writeMissing_16 {k : Nat → Nat × Nat} {u : Nat → Nat → Int} {g : Nat → Nat → Nat} {t : Nat × Nat × Nat} {r0 : Nat} {x1 : Int} {v2 : AV} {v3 : AV} : a_X 128 16 [a_r (r0), a_i (x1), v2, v3] [] (k, u, g, t) = a_X 128 20 [a_r (r0), a_i (x1), a_i (-1), a_i (1)] [] (k, u, g, t) := by
  refine (X_iconst (m := 128) (pc := 16) (n := -1) (by decide +kernel) ).trans ?_
  refine (X_istore_n (m := 128) (pc := 17) (n := 2) (by decide +kernel) rfl (Nat.le_of_ble_eq_true rfl) rfl).trans ?_
  refine (X_iconst (m := 128) (pc := 18) (n := 1) (by decide +kernel) ).trans ?_
  refine (X_istore_n (m := 128) (pc := 19) (n := 3) (by decide +kernel) rfl (Nat.le_of_ble_eq_true rfl) rfl).trans ?_
  rfl
theorem B_X10_writeMissing_20 {k : Nat → Nat × Nat} {u : Nat → Nat → Int} {g : Nat → Nat → Nat} {t : Nat × Nat × Nat} {r0 : Nat} {x1 : Int} {x2 : Int} {x3 : Int} : a_X 128 20 [a_r (r0), a_i (x1), a_i (x2), a_i (x3)] [] (k, u, g, t) = if (x3 : Int) > (99 : Int) then if (k r0).1 = 10 then if (k (g r0 7)).1 = 8 then if (u (g r0 7) 1 : Int) ≠ 0 then if (k r0).1 = 10 then if (k (g r0 7)).1 = 8 then some (.inl (some (a_i (u (g r0 7) 1))), (k, u, g, t)) else none else none else if (k r0).1 = 10 then if (k (g r0 7)).1 = 8 then (a_m 75 [a_r (g r0 7), a_i (42)] (k, u, g, t)).bind (a_back 128 92 3 [a_r (r0), a_i (x1), a_i (x2), a_i (x3)] []) else none else none else none else none else if (k r0).1 = 10 then if (k (g r0 1)).1 = 5 then (a_m 41 [a_r (g r0 1), a_i (x1), a_i (x3)] (k, u, g, t)).bind (a_back 128 32 3 [a_r (r0), a_i (x1), a_i (x2), a_i (x3)] []) else none else none := by
  refine (X_iload_n (m := 128) (pc := 20) (n := 3) (by decide +kernel) rfl).trans ?_
  refine (X_bipush (m := 128) (pc := 21) (n := 99) (by decide +kernel) ).trans ?_
  refine (X_ic_gt (m := 128) (pc := 23) (off := 53) (tg := 76) (by decide +kernel) (by decide +kernel)).trans ?_
  refine ite_congr rfl (fun _ => ?_) (fun _ => ?_)
  · refine (X_aload_n (m := 128) (pc := 76) (n := 0) (by decide +kernel) rfl).trans ?_
    refine (X_getR (m := 128) (pc := 77) (n := 51) (c := 10) (q := 7) (fi := true) (by decide +kernel) (by decide +kernel)).trans ?_
    refine ite_congr rfl (fun _ => ?_) (fun _ => rfl)
    refine (X_getI (m := 128) (pc := 80) (n := 346) (c := 8) (q := 1) (ty := 1) (fi := false) (by decide +kernel) (by decide +kernel) (by decide +kernel)).trans ?_
    refine ite_congr rfl (fun _ => ?_) (fun _ => rfl)
    refine (X_if_ne (m := 128) (pc := 83) (off := 12) (tg := 95) (by decide +kernel) (by decide +kernel)).trans ?_
    refine ite_congr rfl (fun _ => ?_) (fun _ => ?_)
    · refine (X_aload_n (m := 128) (pc := 95) (n := 0) (by decide +kernel) rfl).trans ?_
      refine (X_getR (m := 128) (pc := 96) (n := 51) (c := 10) (q := 7) (fi := true) (by decide +kernel) (by decide +kernel)).trans ?_
      refine ite_congr rfl (fun _ => ?_) (fun _ => rfl)
      refine (X_getI (m := 128) (pc := 99) (n := 346) (c := 8) (q := 1) (ty := 1) (fi := false) (by decide +kernel) (by decide +kernel) (by decide +kernel)).trans ?_
      refine ite_congr rfl (fun _ => ?_) (fun _ => rfl)
      exact X_ireturn (m := 128) (pc := 102) (f := 1) (by decide +kernel) (by decide +kernel) rfl
    · refine (X_aload_n (m := 128) (pc := 86) (n := 0) (by decide +kernel) rfl).trans ?_
      refine (X_getR (m := 128) (pc := 87) (n := 51) (c := 10) (q := 7) (fi := true) (by decide +kernel) (by decide +kernel)).trans ?_
      refine ite_congr rfl (fun _ => ?_) (fun _ => rfl)
      refine (X_bipush (m := 128) (pc := 90) (n := 42) (by decide +kernel) ).trans ?_
      refine (X_call_vi (m := 128) (pc := 92) (q := 333) (y := 75) (n := 2) (as := [a_r (g r0 7), a_i (42)]) (rest := []) (by decide +kernel) (by decide +kernel) (by decide +kernel) (by decide +kernel) rfl rfl (Nat.le_of_ble_eq_true rfl) (Nat.le_of_ble_eq_true rfl) rfl (by rw [show m_maxL 75 = 2 from by decide +kernel]; exact Nat.le_of_ble_eq_true rfl)).trans ?_
      exact ite_congr (by simp [a_rcv, show m_recv 75 = 8 from by decide +kernel]) (fun _ => rfl) (fun _ => rfl)
  · refine (X_aload_n (m := 128) (pc := 26) (n := 0) (by decide +kernel) rfl).trans ?_
    refine (X_getR (m := 128) (pc := 27) (n := 19) (c := 10) (q := 1) (fi := true) (by decide +kernel) (by decide +kernel)).trans ?_
    refine ite_congr rfl (fun _ => ?_) (fun _ => rfl)
    refine (X_iload_n (m := 128) (pc := 30) (n := 1) (by decide +kernel) rfl).trans ?_
    refine (X_iload_n (m := 128) (pc := 31) (n := 3) (by decide +kernel) rfl).trans ?_
    refine (X_call_vi (m := 128) (pc := 32) (q := 303) (y := 41) (n := 3) (as := [a_r (g r0 1), a_i (x1), a_i (x3)]) (rest := []) (by decide +kernel) (by decide +kernel) (by decide +kernel) (by decide +kernel) rfl rfl (Nat.le_of_ble_eq_true rfl) (Nat.le_of_ble_eq_true rfl) rfl (by rw [show m_maxL 41 = 3 from by decide +kernel]; exact Nat.le_of_ble_eq_true rfl)).trans ?_
    exact ite_congr (by simp [a_rcv, show m_recv 41 = 5 from by decide +kernel]) (fun _ => rfl) (fun _ => rfl)
theorem B_X10_writeMissing_95 {k : Nat → Nat × Nat} {u : Nat → Nat → Int} {g : Nat → Nat → Nat} {t : Nat × Nat × Nat} {r0 : Nat} {x1 : Int} {x2 : Int} {x3 : Int} : a_X 128 95 [a_r (r0), a_i (x1), a_i (x2), a_i (x3)] [] (k, u, g, t) = if (k r0).1 = 10 then if (k (g r0 7)).1 = 8 then some (.inl (some (a_i (u (g r0 7) 1))), (k, u, g, t)) else none else none := by
  refine (X_aload_n (m := 128) (pc := 95) (n := 0) (by decide +kernel) rfl).trans ?_
  refine (X_getR (m := 128) (pc := 96) (n := 51) (c := 10) (q := 7) (fi := true) (by decide +kernel) (by decide +kernel)).trans ?_
  refine ite_congr rfl (fun _ => ?_) (fun _ => rfl)
  refine (X_getI (m := 128) (pc := 99) (n := 346) (c := 8) (q := 1) (ty := 1) (fi := false) (by decide +kernel) (by decide +kernel) (by decide +kernel)).trans ?_
  refine ite_congr rfl (fun _ => ?_) (fun _ => rfl)
  exact X_ireturn (m := 128) (pc := 102) (f := 1) (by decide +kernel) (by decide +kernel) rfl
theorem B_X10_writeMissing_35 {k : Nat → Nat × Nat} {u : Nat → Nat → Int} {g : Nat → Nat → Nat} {t : Nat × Nat × Nat} {r0 : Nat} {x1 : Int} {x2 : Int} {x3 : Int} {y0 : Int} : a_X 128 35 [a_r (r0), a_i (x1), a_i (x2), a_i (x3)] [a_i (y0)] (k, u, g, t) = if (y0 : Int) = 0 then a_X 128 20 [a_r (r0), a_i (x1), a_i (x2), a_i (wr (x3 + 1))] [] (k, u, g, t) else if (x2 : Int) ≠ (-1 : Int) then if (k r0).1 = 10 then if (k (g r0 1)).1 = 5 then (a_m 41 [a_r (g r0 1), a_i (x1), a_i (wr (x3 + 1))] (k, u, g, t)).bind (a_back 128 53 3 [a_r (r0), a_i (x1), a_i (x2), a_i (x3)] []) else none else none else if (k r0).1 = 10 then if (k (g r0 1)).1 = 5 then (a_m 41 [a_r (g r0 1), a_i (x1), a_i (wr (x3 + 1))] (k, u, g, t)).bind (a_back 128 53 3 [a_r (r0), a_i (x1), a_i (x3), a_i (x3)] []) else none else none := by
  refine (X_if_eq (m := 128) (pc := 35) (off := 35) (tg := 70) (by decide +kernel) (by decide +kernel)).trans ?_
  refine ite_congr rfl (fun _ => ?_) (fun _ => ?_)
  · refine (X_iinc (m := 128) (pc := 70) (n := 3) (c := 1) (by decide +kernel) rfl rfl (Nat.le_of_ble_eq_true rfl) rfl).trans ?_
    refine (X_goto (m := 128) (pc := 73) (off := -53) (tg := 20) (by decide +kernel) (by decide +kernel)).trans ?_
    rfl
  · refine (X_iload_n (m := 128) (pc := 38) (n := 2) (by decide +kernel) rfl).trans ?_
    refine (X_iconst (m := 128) (pc := 39) (n := -1) (by decide +kernel) ).trans ?_
    refine (X_ic_ne (m := 128) (pc := 40) (off := 5) (tg := 45) (by decide +kernel) (by decide +kernel)).trans ?_
    refine ite_congr rfl (fun _ => ?_) (fun _ => ?_)
    · refine (X_aload_n (m := 128) (pc := 45) (n := 0) (by decide +kernel) rfl).trans ?_
      refine (X_getR (m := 128) (pc := 46) (n := 19) (c := 10) (q := 1) (fi := true) (by decide +kernel) (by decide +kernel)).trans ?_
      refine ite_congr rfl (fun _ => ?_) (fun _ => rfl)
      refine (X_iload_n (m := 128) (pc := 49) (n := 1) (by decide +kernel) rfl).trans ?_
      refine (X_iload_n (m := 128) (pc := 50) (n := 3) (by decide +kernel) rfl).trans ?_
      refine (X_iconst (m := 128) (pc := 51) (n := 1) (by decide +kernel) ).trans ?_
      refine (X_iadd (m := 128) (pc := 52)  (by decide +kernel) ).trans ?_
      refine (X_call_vi (m := 128) (pc := 53) (q := 303) (y := 41) (n := 3) (as := [a_r (g r0 1), a_i (x1), a_i (wr (x3 + 1))]) (rest := []) (by decide +kernel) (by decide +kernel) (by decide +kernel) (by decide +kernel) rfl rfl (Nat.le_of_ble_eq_true rfl) (Nat.le_of_ble_eq_true rfl) rfl (by rw [show m_maxL 41 = 3 from by decide +kernel]; exact Nat.le_of_ble_eq_true rfl)).trans ?_
      exact ite_congr (by simp [a_rcv, show m_recv 41 = 5 from by decide +kernel]) (fun _ => rfl) (fun _ => rfl)
    · refine (X_iload_n (m := 128) (pc := 43) (n := 3) (by decide +kernel) rfl).trans ?_
      refine (X_istore_n (m := 128) (pc := 44) (n := 2) (by decide +kernel) rfl (Nat.le_of_ble_eq_true rfl) rfl).trans ?_
      refine (X_aload_n (m := 128) (pc := 45) (n := 0) (by decide +kernel) rfl).trans ?_
      refine (X_getR (m := 128) (pc := 46) (n := 19) (c := 10) (q := 1) (fi := true) (by decide +kernel) (by decide +kernel)).trans ?_
      refine ite_congr rfl (fun _ => ?_) (fun _ => rfl)
      refine (X_iload_n (m := 128) (pc := 49) (n := 1) (by decide +kernel) rfl).trans ?_
      refine (X_iload_n (m := 128) (pc := 50) (n := 3) (by decide +kernel) rfl).trans ?_
      refine (X_iconst (m := 128) (pc := 51) (n := 1) (by decide +kernel) ).trans ?_
      refine (X_iadd (m := 128) (pc := 52)  (by decide +kernel) ).trans ?_
      refine (X_call_vi (m := 128) (pc := 53) (q := 303) (y := 41) (n := 3) (as := [a_r (g r0 1), a_i (x1), a_i (wr (x3 + 1))]) (rest := []) (by decide +kernel) (by decide +kernel) (by decide +kernel) (by decide +kernel) rfl rfl (Nat.le_of_ble_eq_true rfl) (Nat.le_of_ble_eq_true rfl) rfl (by rw [show m_maxL 41 = 3 from by decide +kernel]; exact Nat.le_of_ble_eq_true rfl)).trans ?_
      exact ite_congr (by simp [a_rcv, show m_recv 41 = 5 from by decide +kernel]) (fun _ => rfl) (fun _ => rfl)
theorem B_X10_writeMissing_56 {k : Nat → Nat × Nat} {u : Nat → Nat → Int} {g : Nat → Nat → Nat} {t : Nat × Nat × Nat} {r0 : Nat} {x1 : Int} {x2 : Int} {x3 : Int} {y0 : Int} : a_X 128 56 [a_r (r0), a_i (x1), a_i (x2), a_i (x3)] [a_i (y0)] (k, u, g, t) = if (y0 : Int) ≠ 0 then a_X 128 20 [a_r (r0), a_i (x1), a_i (x2), a_i (wr (x3 + 1))] [] (k, u, g, t) else if (k r0).1 = 10 then if (k (g r0 7)).1 = 8 then (a_m 77 [a_r (g r0 7), a_i (x2), a_i (x3)] (k, u, g, t)).bind (a_back 128 65 3 [a_r (r0), a_i (x1), a_i (x2), a_i (x3)] []) else none else none := by
  refine (X_if_ne (m := 128) (pc := 56) (off := 14) (tg := 70) (by decide +kernel) (by decide +kernel)).trans ?_
  refine ite_congr rfl (fun _ => ?_) (fun _ => ?_)
  · refine (X_iinc (m := 128) (pc := 70) (n := 3) (c := 1) (by decide +kernel) rfl rfl (Nat.le_of_ble_eq_true rfl) rfl).trans ?_
    refine (X_goto (m := 128) (pc := 73) (off := -53) (tg := 20) (by decide +kernel) (by decide +kernel)).trans ?_
    rfl
  · refine (X_aload_n (m := 128) (pc := 59) (n := 0) (by decide +kernel) rfl).trans ?_
    refine (X_getR (m := 128) (pc := 60) (n := 51) (c := 10) (q := 7) (fi := true) (by decide +kernel) (by decide +kernel)).trans ?_
    refine ite_congr rfl (fun _ => ?_) (fun _ => rfl)
    refine (X_iload_n (m := 128) (pc := 63) (n := 2) (by decide +kernel) rfl).trans ?_
    refine (X_iload_n (m := 128) (pc := 64) (n := 3) (by decide +kernel) rfl).trans ?_
    refine (X_call_vi (m := 128) (pc := 65) (q := 347) (y := 77) (n := 3) (as := [a_r (g r0 7), a_i (x2), a_i (x3)]) (rest := []) (by decide +kernel) (by decide +kernel) (by decide +kernel) (by decide +kernel) rfl rfl (Nat.le_of_ble_eq_true rfl) (Nat.le_of_ble_eq_true rfl) rfl (by rw [show m_maxL 77 = 3 from by decide +kernel]; exact Nat.le_of_ble_eq_true rfl)).trans ?_
    exact ite_congr (by simp [a_rcv, show m_recv 77 = 8 from by decide +kernel]) (fun _ => rfl) (fun _ => rfl)
theorem B_X10_writeMissing_68 {k : Nat → Nat × Nat} {u : Nat → Nat → Int} {g : Nat → Nat → Nat} {t : Nat × Nat × Nat} {r0 : Nat} {x1 : Int} {x2 : Int} {x3 : Int} : a_X 128 68 [a_r (r0), a_i (x1), a_i (x2), a_i (x3)] [] (k, u, g, t) = a_X 128 20 [a_r (r0), a_i (x1), a_i (-1), a_i (wr (x3 + 1))] [] (k, u, g, t) := by
  refine (X_iconst (m := 128) (pc := 68) (n := -1) (by decide +kernel) ).trans ?_
  refine (X_istore_n (m := 128) (pc := 69) (n := 2) (by decide +kernel) rfl (Nat.le_of_ble_eq_true rfl) rfl).trans ?_
  refine (X_iinc (m := 128) (pc := 70) (n := 3) (c := 1) (by decide +kernel) rfl rfl (Nat.le_of_ble_eq_true rfl) rfl).trans ?_
  refine (X_goto (m := 128) (pc := 73) (off := -53) (tg := 20) (by decide +kernel) (by decide +kernel)).trans ?_
  rfl
theorem E_X10_textByte {σ : AS} {r0 : Nat} {x1 : Int} : a_m 129 [a_r (r0), a_i (x1)] σ = a_X 129 0 [a_r (r0), a_i (x1)] [] σ := a_m_eq (by rw [a_entry, show m_maxL 129 = 2 from by decide +kernel]; rfl)
theorem B_X10_textByte_0 {k : Nat → Nat × Nat} {u : Nat → Nat → Int} {g : Nat → Nat → Nat} {t : Nat × Nat × Nat} {r0 : Nat} {x1 : Int} : a_X 129 0 [a_r (r0), a_i (x1)] [] (k, u, g, t) = if (x1 : Int) < 0 then some (.inr 2, (k, u, g, (t.1, t.2.1 + 1, t.2.2 + 6))) else if (k r0).1 = 10 then if (k (g r0 7)).1 = 8 then if (x1 : Int) < (u (g r0 7) 1 : Int) then if (k r0).1 = 10 then if (k (g r0 7)).1 = 8 then if ((k (g (g r0 7) 0)).1 = 20 ∨ (k (g (g r0 7) 0)).1 = 24) ∧ 0 ≤ (x1 : Int) ∧ (x1 : Int) < ((k (g (g r0 7) 0)).2 : Int) then some (.inl (some (a_i (u (g (g r0 7) 0) (x1 : Int).toNat))), (k, u, g, t)) else none else none else none else some (.inr 2, (k, u, g, (t.1, t.2.1 + 1, t.2.2 + 6))) else none else none := by
  refine (X_iload_n (m := 129) (pc := 0) (n := 1) (by decide +kernel) rfl).trans ?_
  refine (X_if_lt (m := 129) (pc := 1) (off := 14) (tg := 15) (by decide +kernel) (by decide +kernel)).trans ?_
  refine ite_congr rfl (fun _ => ?_) (fun _ => ?_)
  · exact X_throw (m := 129) (pc := 15) (n := 67) (e := 2) (by decide +kernel) (by decide +kernel) (Nat.le_of_ble_eq_true rfl) (by decide +kernel)
  · refine (X_iload_n (m := 129) (pc := 4) (n := 1) (by decide +kernel) rfl).trans ?_
    refine (X_aload_n (m := 129) (pc := 5) (n := 0) (by decide +kernel) rfl).trans ?_
    refine (X_getR (m := 129) (pc := 6) (n := 51) (c := 10) (q := 7) (fi := true) (by decide +kernel) (by decide +kernel)).trans ?_
    refine ite_congr rfl (fun _ => ?_) (fun _ => rfl)
    refine (X_getI (m := 129) (pc := 9) (n := 346) (c := 8) (q := 1) (ty := 1) (fi := false) (by decide +kernel) (by decide +kernel) (by decide +kernel)).trans ?_
    refine ite_congr rfl (fun _ => ?_) (fun _ => rfl)
    refine (X_ic_lt (m := 129) (pc := 12) (off := 14) (tg := 26) (by decide +kernel) (by decide +kernel)).trans ?_
    refine ite_congr rfl (fun _ => ?_) (fun _ => ?_)
    · refine (X_aload_n (m := 129) (pc := 26) (n := 0) (by decide +kernel) rfl).trans ?_
      refine (X_getR (m := 129) (pc := 27) (n := 51) (c := 10) (q := 7) (fi := true) (by decide +kernel) (by decide +kernel)).trans ?_
      refine ite_congr rfl (fun _ => ?_) (fun _ => rfl)
      refine (X_getR (m := 129) (pc := 30) (n := 353) (c := 8) (q := 0) (fi := true) (by decide +kernel) (by decide +kernel)).trans ?_
      refine ite_congr rfl (fun _ => ?_) (fun _ => rfl)
      refine (X_iload_n (m := 129) (pc := 33) (n := 1) (by decide +kernel) rfl).trans ?_
      refine (X_iaload (m := 129) (pc := 34)  (by decide +kernel) ).trans ?_
      refine ite_congr rfl (fun _ => ?_) (fun _ => rfl)
      exact X_ireturn (m := 129) (pc := 35) (f := 1) (by decide +kernel) (by decide +kernel) rfl
    · exact X_throw (m := 129) (pc := 15) (n := 67) (e := 2) (by decide +kernel) (by decide +kernel) (Nat.le_of_ble_eq_true rfl) (by decide +kernel)
theorem E_X10_correct {σ : AS} {r0 : Nat} {x1 : Int} {x2 : Int} {x3 : Int} {x4 : Int} {x5 : Int} {x6 : Int} : a_m 130 [a_r (r0), a_i (x1), a_i (x2), a_i (x3), a_i (x4), a_i (x5), a_i (x6)] σ = a_X 130 0 [a_r (r0), a_i (x1), a_i (x2), a_i (x3), a_i (x4), a_i (x5), a_i (x6)] [] σ := a_m_eq (by rw [a_entry, show m_maxL 130 = 7 from by decide +kernel]; rfl)
theorem B_X10_correct_0 {k : Nat → Nat × Nat} {u : Nat → Nat → Int} {g : Nat → Nat → Nat} {t : Nat × Nat × Nat} {r0 : Nat} {x1 : Int} {x2 : Int} {x3 : Int} {x4 : Int} {x5 : Int} {x6 : Int} : a_X 130 0 [a_r (r0), a_i (x1), a_i (x2), a_i (x3), a_i (x4), a_i (x5), a_i (x6)] [] (k, u, g, t) = if (k r0).1 = 10 then (a_m 144 [a_r (r0)] (k, u, g, t)).bind (a_back 130 1 3 [a_r (r0), a_i (x1), a_i (x2), a_i (x3), a_i (x4), a_i (x5), a_i (x6)] []) else none := by
  refine (X_aload_n (m := 130) (pc := 0) (n := 0) (by decide +kernel) rfl).trans ?_
  refine (X_call_vi (m := 130) (pc := 1) (q := 103) (y := 144) (n := 1) (as := [a_r (r0)]) (rest := []) (by decide +kernel) (by decide +kernel) (by decide +kernel) (by decide +kernel) rfl rfl (Nat.le_of_ble_eq_true rfl) (Nat.le_of_ble_eq_true rfl) rfl (by rw [show m_maxL 144 = 1 from by decide +kernel]; exact Nat.le_of_ble_eq_true rfl)).trans ?_
  exact ite_congr (by simp [a_rcv, show m_recv 144 = 10 from by decide +kernel]) (fun _ => rfl) (fun _ => rfl)
theorem B_X10_correct_4 {k : Nat → Nat × Nat} {u : Nat → Nat → Int} {g : Nat → Nat → Nat} {t : Nat × Nat × Nat} {r0 : Nat} {x1 : Int} {x2 : Int} {x3 : Int} {x4 : Int} {x5 : Int} {x6 : Int} : a_X 130 4 [a_r (r0), a_i (x1), a_i (x2), a_i (x3), a_i (x4), a_i (x5), a_i (x6)] [] (k, u, g, t) = if (k r0).1 = 10 then (a_m 147 [a_r (r0), a_i (x1)] (k, u, g, t)).bind (a_back 130 6 3 [a_r (r0), a_i (x1), a_i (x2), a_i (x3), a_i (x4), a_i (x5), a_i (x6)] []) else none := by
  refine (X_aload_n (m := 130) (pc := 4) (n := 0) (by decide +kernel) rfl).trans ?_
  refine (X_iload_n (m := 130) (pc := 5) (n := 1) (by decide +kernel) rfl).trans ?_
  refine (X_call_vi (m := 130) (pc := 6) (q := 160) (y := 147) (n := 2) (as := [a_r (r0), a_i (x1)]) (rest := []) (by decide +kernel) (by decide +kernel) (by decide +kernel) (by decide +kernel) rfl rfl (Nat.le_of_ble_eq_true rfl) (Nat.le_of_ble_eq_true rfl) rfl (by rw [show m_maxL 147 = 2 from by decide +kernel]; exact Nat.le_of_ble_eq_true rfl)).trans ?_
  exact ite_congr (by simp [a_rcv, show m_recv 147 = 10 from by decide +kernel]) (fun _ => rfl) (fun _ => rfl)
theorem B_X10_correct_9 {k : Nat → Nat × Nat} {u : Nat → Nat → Int} {g : Nat → Nat → Nat} {t : Nat × Nat × Nat} {r0 : Nat} {x1 : Int} {x2 : Int} {x3 : Int} {x4 : Int} {x5 : Int} {x6 : Int} : a_X 130 9 [a_r (r0), a_i (x1), a_i (x2), a_i (x3), a_i (x4), a_i (x5), a_i (x6)] [] (k, u, g, t) = if (k r0).1 = 10 then (a_m 149 [a_r (r0), a_i (x2), a_i (0), a_i (29)] (k, u, g, t)).bind (a_back 130 14 3 [a_r (r0), a_i (x1), a_i (x2), a_i (x3), a_i (x4), a_i (x5), a_i (x6)] []) else none := by
  refine (X_aload_n (m := 130) (pc := 9) (n := 0) (by decide +kernel) rfl).trans ?_
  refine (X_iload_n (m := 130) (pc := 10) (n := 2) (by decide +kernel) rfl).trans ?_
  refine (X_iconst (m := 130) (pc := 11) (n := 0) (by decide +kernel) ).trans ?_
  refine (X_bipush (m := 130) (pc := 12) (n := 29) (by decide +kernel) ).trans ?_
  refine (X_call_vi (m := 130) (pc := 14) (q := 163) (y := 149) (n := 4) (as := [a_r (r0), a_i (x2), a_i (0), a_i (29)]) (rest := []) (by decide +kernel) (by decide +kernel) (by decide +kernel) (by decide +kernel) rfl rfl (Nat.le_of_ble_eq_true rfl) (Nat.le_of_ble_eq_true rfl) rfl (by rw [show m_maxL 149 = 4 from by decide +kernel]; exact Nat.le_of_ble_eq_true rfl)).trans ?_
  exact ite_congr (by simp [a_rcv, show m_recv 149 = 10 from by decide +kernel]) (fun _ => rfl) (fun _ => rfl)
theorem B_X10_correct_17 {k : Nat → Nat × Nat} {u : Nat → Nat → Int} {g : Nat → Nat → Nat} {t : Nat × Nat × Nat} {r0 : Nat} {x1 : Int} {x2 : Int} {x3 : Int} {x4 : Int} {x5 : Int} {x6 : Int} : a_X 130 17 [a_r (r0), a_i (x1), a_i (x2), a_i (x3), a_i (x4), a_i (x5), a_i (x6)] [] (k, u, g, t) = if (k r0).1 = 10 then (a_m 149 [a_r (r0), a_i (x3), a_i (0), a_i (6)] (k, u, g, t)).bind (a_back 130 22 3 [a_r (r0), a_i (x1), a_i (x2), a_i (x3), a_i (x4), a_i (x5), a_i (x6)] []) else none := by
  refine (X_aload_n (m := 130) (pc := 17) (n := 0) (by decide +kernel) rfl).trans ?_
  refine (X_iload_n (m := 130) (pc := 18) (n := 3) (by decide +kernel) rfl).trans ?_
  refine (X_iconst (m := 130) (pc := 19) (n := 0) (by decide +kernel) ).trans ?_
  refine (X_bipush (m := 130) (pc := 20) (n := 6) (by decide +kernel) ).trans ?_
  refine (X_call_vi (m := 130) (pc := 22) (q := 163) (y := 149) (n := 4) (as := [a_r (r0), a_i (x3), a_i (0), a_i (6)]) (rest := []) (by decide +kernel) (by decide +kernel) (by decide +kernel) (by decide +kernel) rfl rfl (Nat.le_of_ble_eq_true rfl) (Nat.le_of_ble_eq_true rfl) rfl (by rw [show m_maxL 149 = 4 from by decide +kernel]; exact Nat.le_of_ble_eq_true rfl)).trans ?_
  exact ite_congr (by simp [a_rcv, show m_recv 149 = 10 from by decide +kernel]) (fun _ => rfl) (fun _ => rfl)
theorem B_X10_correct_25 {k : Nat → Nat × Nat} {u : Nat → Nat → Int} {g : Nat → Nat → Nat} {t : Nat × Nat × Nat} {r0 : Nat} {x1 : Int} {x2 : Int} {x3 : Int} {x4 : Int} {x5 : Int} {x6 : Int} : a_X 130 25 [a_r (r0), a_i (x1), a_i (x2), a_i (x3), a_i (x4), a_i (x5), a_i (x6)] [] (k, u, g, t) = if (k r0).1 = 10 then (a_m 149 [a_r (r0), a_i (x4), a_i (0), a_i (1438)] (k, u, g, t)).bind (a_back 130 32 3 [a_r (r0), a_i (x1), a_i (x2), a_i (x3), a_i (x4), a_i (x5), a_i (x6)] []) else none := by
  refine (X_aload_n (m := 130) (pc := 25) (n := 0) (by decide +kernel) rfl).trans ?_
  refine (X_iload (m := 130) (pc := 26) (n := 4) (by decide +kernel) rfl).trans ?_
  refine (X_iconst (m := 130) (pc := 28) (n := 0) (by decide +kernel) ).trans ?_
  refine (X_sipush (m := 130) (pc := 29) (n := 1438) (by decide +kernel) ).trans ?_
  refine (X_call_vi (m := 130) (pc := 32) (q := 163) (y := 149) (n := 4) (as := [a_r (r0), a_i (x4), a_i (0), a_i (1438)]) (rest := []) (by decide +kernel) (by decide +kernel) (by decide +kernel) (by decide +kernel) rfl rfl (Nat.le_of_ble_eq_true rfl) (Nat.le_of_ble_eq_true rfl) rfl (by rw [show m_maxL 149 = 4 from by decide +kernel]; exact Nat.le_of_ble_eq_true rfl)).trans ?_
  exact ite_congr (by simp [a_rcv, show m_recv 149 = 10 from by decide +kernel]) (fun _ => rfl) (fun _ => rfl)
theorem B_X10_correct_35 {k : Nat → Nat × Nat} {u : Nat → Nat → Int} {g : Nat → Nat → Nat} {t : Nat × Nat × Nat} {r0 : Nat} {x1 : Int} {x2 : Int} {x3 : Int} {x4 : Int} {x5 : Int} {x6 : Int} : a_X 130 35 [a_r (r0), a_i (x1), a_i (x2), a_i (x3), a_i (x4), a_i (x5), a_i (x6)] [] (k, u, g, t) = if (k r0).1 = 10 then (a_m 149 [a_r (r0), a_i (x5), a_i (wr (x4 + 1)), a_i (1439)] (k, u, g, t)).bind (a_back 130 45 3 [a_r (r0), a_i (x1), a_i (x2), a_i (x3), a_i (x4), a_i (x5), a_i (x6)] []) else none := by
  refine (X_aload_n (m := 130) (pc := 35) (n := 0) (by decide +kernel) rfl).trans ?_
  refine (X_iload (m := 130) (pc := 36) (n := 5) (by decide +kernel) rfl).trans ?_
  refine (X_iload (m := 130) (pc := 38) (n := 4) (by decide +kernel) rfl).trans ?_
  refine (X_iconst (m := 130) (pc := 40) (n := 1) (by decide +kernel) ).trans ?_
  refine (X_iadd (m := 130) (pc := 41)  (by decide +kernel) ).trans ?_
  refine (X_sipush (m := 130) (pc := 42) (n := 1439) (by decide +kernel) ).trans ?_
  refine (X_call_vi (m := 130) (pc := 45) (q := 163) (y := 149) (n := 4) (as := [a_r (r0), a_i (x5), a_i (wr (x4 + 1)), a_i (1439)]) (rest := []) (by decide +kernel) (by decide +kernel) (by decide +kernel) (by decide +kernel) rfl rfl (Nat.le_of_ble_eq_true rfl) (Nat.le_of_ble_eq_true rfl) rfl (by rw [show m_maxL 149 = 4 from by decide +kernel]; exact Nat.le_of_ble_eq_true rfl)).trans ?_
  exact ite_congr (by simp [a_rcv, show m_recv 149 = 10 from by decide +kernel]) (fun _ => rfl) (fun _ => rfl)
theorem B_X10_correct_48 {k : Nat → Nat × Nat} {u : Nat → Nat → Int} {g : Nat → Nat → Nat} {t : Nat × Nat × Nat} {r0 : Nat} {x1 : Int} {x2 : Int} {x3 : Int} {x4 : Int} {x5 : Int} {x6 : Int} : a_X 130 48 [a_r (r0), a_i (x1), a_i (x2), a_i (x3), a_i (x4), a_i (x5), a_i (x6)] [] (k, u, g, t) = if (k r0).1 = 10 then (a_m 149 [a_r (r0), a_i (x6), a_i (1), a_i (20)] (k, u, g, t)).bind (a_back 130 54 3 [a_r (r0), a_i (x1), a_i (x2), a_i (x3), a_i (x4), a_i (x5), a_i (x6)] []) else none := by
  refine (X_aload_n (m := 130) (pc := 48) (n := 0) (by decide +kernel) rfl).trans ?_
  refine (X_iload (m := 130) (pc := 49) (n := 6) (by decide +kernel) rfl).trans ?_
  refine (X_iconst (m := 130) (pc := 51) (n := 1) (by decide +kernel) ).trans ?_
  refine (X_bipush (m := 130) (pc := 52) (n := 20) (by decide +kernel) ).trans ?_
  refine (X_call_vi (m := 130) (pc := 54) (q := 163) (y := 149) (n := 4) (as := [a_r (r0), a_i (x6), a_i (1), a_i (20)]) (rest := []) (by decide +kernel) (by decide +kernel) (by decide +kernel) (by decide +kernel) rfl rfl (Nat.le_of_ble_eq_true rfl) (Nat.le_of_ble_eq_true rfl) rfl (by rw [show m_maxL 149 = 4 from by decide +kernel]; exact Nat.le_of_ble_eq_true rfl)).trans ?_
  exact ite_congr (by simp [a_rcv, show m_recv 149 = 10 from by decide +kernel]) (fun _ => rfl) (fun _ => rfl)
theorem B_X10_correct_57 {k : Nat → Nat × Nat} {u : Nat → Nat → Int} {g : Nat → Nat → Nat} {t : Nat × Nat × Nat} {r0 : Nat} {x1 : Int} {x2 : Int} {x3 : Int} {x4 : Int} {x5 : Int} {x6 : Int} : a_X 130 57 [a_r (r0), a_i (x1), a_i (x2), a_i (x3), a_i (x4), a_i (x5), a_i (x6)] [] (k, u, g, t) = if (k r0).1 = 10 then (a_m 151 [a_r (r0)] (k, u, g, t)).bind (a_back 130 58 3 [a_r (r0), a_i (x1), a_i (x2), a_i (x3), a_i (x4), a_i (x5), a_i (x6)] []) else none := by
  refine (X_aload_n (m := 130) (pc := 57) (n := 0) (by decide +kernel) rfl).trans ?_
  refine (X_call_vi (m := 130) (pc := 58) (q := 356) (y := 151) (n := 1) (as := [a_r (r0)]) (rest := []) (by decide +kernel) (by decide +kernel) (by decide +kernel) (by decide +kernel) rfl rfl (Nat.le_of_ble_eq_true rfl) (Nat.le_of_ble_eq_true rfl) rfl (by rw [show m_maxL 151 = 1 from by decide +kernel]; exact Nat.le_of_ble_eq_true rfl)).trans ?_
  exact ite_congr (by simp [a_rcv, show m_recv 151 = 10 from by decide +kernel]) (fun _ => rfl) (fun _ => rfl)
theorem B_X10_correct_61 {k : Nat → Nat × Nat} {u : Nat → Nat → Int} {g : Nat → Nat → Nat} {t : Nat × Nat × Nat} {r0 : Nat} {x1 : Int} {x2 : Int} {x3 : Int} {x4 : Int} {x5 : Int} {x6 : Int} : a_X 130 61 [a_r (r0), a_i (x1), a_i (x2), a_i (x3), a_i (x4), a_i (x5), a_i (x6)] [] (k, u, g, t) = if (k r0).1 = 10 then (a_m 152 [a_r (r0)] (k, u, g, t)).bind (a_back 130 62 3 [a_r (r0), a_i (x1), a_i (x2), a_i (x3), a_i (x4), a_i (x5), a_i (x6)] []) else none := by
  refine (X_aload_n (m := 130) (pc := 61) (n := 0) (by decide +kernel) rfl).trans ?_
  refine (X_call_vi (m := 130) (pc := 62) (q := 359) (y := 152) (n := 1) (as := [a_r (r0)]) (rest := []) (by decide +kernel) (by decide +kernel) (by decide +kernel) (by decide +kernel) rfl rfl (Nat.le_of_ble_eq_true rfl) (Nat.le_of_ble_eq_true rfl) rfl (by rw [show m_maxL 152 = 1 from by decide +kernel]; exact Nat.le_of_ble_eq_true rfl)).trans ?_
  exact ite_congr (by simp [a_rcv, show m_recv 152 = 10 from by decide +kernel]) (fun _ => rfl) (fun _ => rfl)
theorem B_X10_correct_65 {k : Nat → Nat × Nat} {u : Nat → Nat → Int} {g : Nat → Nat → Nat} {t : Nat × Nat × Nat} {r0 : Nat} {x1 : Int} {x2 : Int} {x3 : Int} {x4 : Int} {x5 : Int} {x6 : Int} : a_X 130 65 [a_r (r0), a_i (x1), a_i (x2), a_i (x3), a_i (x4), a_i (x5), a_i (x6)] [] (k, u, g, t) = if (k r0).1 = 10 then if (k r0).1 = 10 then if (k (g r0 3)).1 = 2 then (a_m 11 [a_r (g r0 3), a_r (g r0 1)] (k, u, g, t)).bind (a_back 130 73 3 [a_r (r0), a_i (x1), a_i (x2), a_i (x3), a_i (x4), a_i (x5), a_i (x6)] []) else none else none else none := by
  refine (X_aload_n (m := 130) (pc := 65) (n := 0) (by decide +kernel) rfl).trans ?_
  refine (X_getR (m := 130) (pc := 66) (n := 29) (c := 10) (q := 3) (fi := true) (by decide +kernel) (by decide +kernel)).trans ?_
  refine ite_congr rfl (fun _ => ?_) (fun _ => rfl)
  refine (X_aload_n (m := 130) (pc := 69) (n := 0) (by decide +kernel) rfl).trans ?_
  refine (X_getR (m := 130) (pc := 70) (n := 19) (c := 10) (q := 1) (fi := true) (by decide +kernel) (by decide +kernel)).trans ?_
  refine ite_congr rfl (fun _ => ?_) (fun _ => rfl)
  refine (X_call_vi (m := 130) (pc := 73) (q := 362) (y := 11) (n := 2) (as := [a_r (g r0 3), a_r (g r0 1)]) (rest := []) (by decide +kernel) (by decide +kernel) (by decide +kernel) (by decide +kernel) rfl rfl (Nat.le_of_ble_eq_true rfl) (Nat.le_of_ble_eq_true rfl) rfl (by rw [show m_maxL 11 = 2 from by decide +kernel]; exact Nat.le_of_ble_eq_true rfl)).trans ?_
  exact ite_congr (by simp [a_rcv, show m_recv 11 = 2 from by decide +kernel]) (fun _ => rfl) (fun _ => rfl)
theorem B_X10_correct_76 {k : Nat → Nat × Nat} {u : Nat → Nat → Int} {g : Nat → Nat → Nat} {t : Nat × Nat × Nat} {r0 : Nat} {x1 : Int} {x2 : Int} {x3 : Int} {x4 : Int} {x5 : Int} {x6 : Int} : a_X 130 76 [a_r (r0), a_i (x1), a_i (x2), a_i (x3), a_i (x4), a_i (x5), a_i (x6)] [] (k, u, g, t) = if (k r0).1 = 10 then if (k (g r0 1)).1 = 5 then if (k r0).1 = 10 then if (k (g r0 1)).1 = 5 then if (k (g (g r0 1) 0)).1 = 9 then (a_m 83 [a_r (g (g r0 1) 0), a_i (x1), a_i (u (g r0 1) 6)] (k, u, g, t)).bind (a_back 130 91 3 [a_r (r0), a_i (x1), a_i (x2), a_i (x3), a_i (x4), a_i (x5), a_i (x6)] []) else none else none else none else none else none := by
  refine (X_aload_n (m := 130) (pc := 76) (n := 0) (by decide +kernel) rfl).trans ?_
  refine (X_getR (m := 130) (pc := 77) (n := 19) (c := 10) (q := 1) (fi := true) (by decide +kernel) (by decide +kernel)).trans ?_
  refine ite_congr rfl (fun _ => ?_) (fun _ => rfl)
  refine (X_getR (m := 130) (pc := 80) (n := 106) (c := 5) (q := 0) (fi := true) (by decide +kernel) (by decide +kernel)).trans ?_
  refine ite_congr rfl (fun _ => ?_) (fun _ => rfl)
  refine (X_iload_n (m := 130) (pc := 83) (n := 1) (by decide +kernel) rfl).trans ?_
  refine (X_aload_n (m := 130) (pc := 84) (n := 0) (by decide +kernel) rfl).trans ?_
  refine (X_getR (m := 130) (pc := 85) (n := 19) (c := 10) (q := 1) (fi := true) (by decide +kernel) (by decide +kernel)).trans ?_
  refine ite_congr rfl (fun _ => ?_) (fun _ => rfl)
  refine (X_getI (m := 130) (pc := 88) (n := 123) (c := 5) (q := 6) (ty := 1) (fi := false) (by decide +kernel) (by decide +kernel) (by decide +kernel)).trans ?_
  refine ite_congr rfl (fun _ => ?_) (fun _ => rfl)
  refine (X_call_vi (m := 130) (pc := 91) (q := 365) (y := 83) (n := 3) (as := [a_r (g (g r0 1) 0), a_i (x1), a_i (u (g r0 1) 6)]) (rest := []) (by decide +kernel) (by decide +kernel) (by decide +kernel) (by decide +kernel) rfl rfl (Nat.le_of_ble_eq_true rfl) (Nat.le_of_ble_eq_true rfl) rfl (by rw [show m_maxL 83 = 3 from by decide +kernel]; exact Nat.le_of_ble_eq_true rfl)).trans ?_
  exact ite_congr (by simp [a_rcv, show m_recv 83 = 9 from by decide +kernel]) (fun _ => rfl) (fun _ => rfl)
theorem B_X10_correct_94 {k : Nat → Nat × Nat} {u : Nat → Nat → Int} {g : Nat → Nat → Nat} {t : Nat × Nat × Nat} {r0 : Nat} {x1 : Int} {x2 : Int} {x3 : Int} {x4 : Int} {x5 : Int} {x6 : Int} : a_X 130 94 [a_r (r0), a_i (x1), a_i (x2), a_i (x3), a_i (x4), a_i (x5), a_i (x6)] [] (k, u, g, t) = if (k r0).1 = 10 then if (k (g r0 1)).1 = 5 then if (k r0).1 = 10 then if (k (g r0 1)).1 = 5 then if (k r0).1 = 10 then if (k (g r0 1)).1 = 5 then if (k (g (g r0 1) 0)).1 = 9 then if (k (g (g r0 1) 0)).1 = 9 then (a_m 84 [a_r (g (g r0 1) 0), a_i (x1), a_i (u (g (g r0 1) 0) 7)] (k, u, g, t)).bind (a_back 130 119 3 [a_r (r0), a_i (x1), a_i (x2), a_i (x3), a_i (x4), a_i (x5), a_i (x6)] [a_r (g (g r0 1) 0)]) else none else none else none else none else none else none else none else none := by
  refine (X_aload_n (m := 130) (pc := 94) (n := 0) (by decide +kernel) rfl).trans ?_
  refine (X_getR (m := 130) (pc := 95) (n := 19) (c := 10) (q := 1) (fi := true) (by decide +kernel) (by decide +kernel)).trans ?_
  refine ite_congr rfl (fun _ => ?_) (fun _ => rfl)
  refine (X_getR (m := 130) (pc := 98) (n := 106) (c := 5) (q := 0) (fi := true) (by decide +kernel) (by decide +kernel)).trans ?_
  refine ite_congr rfl (fun _ => ?_) (fun _ => rfl)
  refine (X_aload_n (m := 130) (pc := 101) (n := 0) (by decide +kernel) rfl).trans ?_
  refine (X_getR (m := 130) (pc := 102) (n := 19) (c := 10) (q := 1) (fi := true) (by decide +kernel) (by decide +kernel)).trans ?_
  refine ite_congr rfl (fun _ => ?_) (fun _ => rfl)
  refine (X_getR (m := 130) (pc := 105) (n := 106) (c := 5) (q := 0) (fi := true) (by decide +kernel) (by decide +kernel)).trans ?_
  refine ite_congr rfl (fun _ => ?_) (fun _ => rfl)
  refine (X_iload_n (m := 130) (pc := 108) (n := 1) (by decide +kernel) rfl).trans ?_
  refine (X_aload_n (m := 130) (pc := 109) (n := 0) (by decide +kernel) rfl).trans ?_
  refine (X_getR (m := 130) (pc := 110) (n := 19) (c := 10) (q := 1) (fi := true) (by decide +kernel) (by decide +kernel)).trans ?_
  refine ite_congr rfl (fun _ => ?_) (fun _ => rfl)
  refine (X_getR (m := 130) (pc := 113) (n := 106) (c := 5) (q := 0) (fi := true) (by decide +kernel) (by decide +kernel)).trans ?_
  refine ite_congr rfl (fun _ => ?_) (fun _ => rfl)
  refine (X_getI (m := 130) (pc := 116) (n := 126) (c := 9) (q := 7) (ty := 1) (fi := false) (by decide +kernel) (by decide +kernel) (by decide +kernel)).trans ?_
  refine ite_congr rfl (fun _ => ?_) (fun _ => rfl)
  refine (X_call_vi (m := 130) (pc := 119) (q := 171) (y := 84) (n := 3) (as := [a_r (g (g r0 1) 0), a_i (x1), a_i (u (g (g r0 1) 0) 7)]) (rest := [a_r (g (g r0 1) 0)]) (by decide +kernel) (by decide +kernel) (by decide +kernel) (by decide +kernel) rfl rfl (Nat.le_of_ble_eq_true rfl) (Nat.le_of_ble_eq_true rfl) rfl (by rw [show m_maxL 84 = 3 from by decide +kernel]; exact Nat.le_of_ble_eq_true rfl)).trans ?_
  exact ite_congr (by simp [a_rcv, show m_recv 84 = 9 from by decide +kernel]) (fun _ => rfl) (fun _ => rfl)
theorem B_X10_correct_122 {k : Nat → Nat × Nat} {u : Nat → Nat → Int} {g : Nat → Nat → Nat} {t : Nat × Nat × Nat} {r0 : Nat} {x1 : Int} {x2 : Int} {x3 : Int} {x4 : Int} {x5 : Int} {x6 : Int} {q0 : Nat} {y1 : Int} : a_X 130 122 [a_r (r0), a_i (x1), a_i (x2), a_i (x3), a_i (x4), a_i (x5), a_i (x6)] [a_i (y1), a_r (q0)] (k, u, g, t) = if (k q0).1 = 9 then (a_m 81 [a_r (q0), a_i (y1), a_i (x2), a_i (x3), a_i (x4), a_i (x5)] (k, u, g, t)).bind (a_back 130 128 3 [a_r (r0), a_i (x1), a_i (x2), a_i (x3), a_i (x4), a_i (x5), a_i (x6)] []) else none := by
  refine (X_iload_n (m := 130) (pc := 122) (n := 2) (by decide +kernel) rfl).trans ?_
  refine (X_iload_n (m := 130) (pc := 123) (n := 3) (by decide +kernel) rfl).trans ?_
  refine (X_iload (m := 130) (pc := 124) (n := 4) (by decide +kernel) rfl).trans ?_
  refine (X_iload (m := 130) (pc := 126) (n := 5) (by decide +kernel) rfl).trans ?_
  refine (X_call_vi (m := 130) (pc := 128) (q := 368) (y := 81) (n := 6) (as := [a_r (q0), a_i (y1), a_i (x2), a_i (x3), a_i (x4), a_i (x5)]) (rest := []) (by decide +kernel) (by decide +kernel) (by decide +kernel) (by decide +kernel) rfl rfl (Nat.le_of_ble_eq_true rfl) (Nat.le_of_ble_eq_true rfl) rfl (by rw [show m_maxL 81 = 6 from by decide +kernel]; exact Nat.le_of_ble_eq_true rfl)).trans ?_
  exact ite_congr (by simp [a_rcv, show m_recv 81 = 9 from by decide +kernel]) (fun _ => rfl) (fun _ => rfl)
theorem B_X10_correct_131 {k : Nat → Nat × Nat} {u : Nat → Nat → Int} {g : Nat → Nat → Nat} {t : Nat × Nat × Nat} {r0 : Nat} {x1 : Int} {x2 : Int} {x3 : Int} {x4 : Int} {x5 : Int} {x6 : Int} : a_X 130 131 [a_r (r0), a_i (x1), a_i (x2), a_i (x3), a_i (x4), a_i (x5), a_i (x6)] [] (k, u, g, t) = if (k r0).1 = 10 then if (k (g r0 1)).1 = 5 then (a_m 32 [a_r (g r0 1), a_i (x6)] (k, u, g, t)).bind (a_back 130 137 3 [a_r (r0), a_i (x1), a_i (x2), a_i (x3), a_i (x4), a_i (x5), a_i (x6)] []) else none else none := by
  refine (X_aload_n (m := 130) (pc := 131) (n := 0) (by decide +kernel) rfl).trans ?_
  refine (X_getR (m := 130) (pc := 132) (n := 19) (c := 10) (q := 1) (fi := true) (by decide +kernel) (by decide +kernel)).trans ?_
  refine ite_congr rfl (fun _ => ?_) (fun _ => rfl)
  refine (X_iload (m := 130) (pc := 135) (n := 6) (by decide +kernel) rfl).trans ?_
  refine (X_call_vi (m := 130) (pc := 137) (q := 372) (y := 32) (n := 2) (as := [a_r (g r0 1), a_i (x6)]) (rest := []) (by decide +kernel) (by decide +kernel) (by decide +kernel) (by decide +kernel) rfl rfl (Nat.le_of_ble_eq_true rfl) (Nat.le_of_ble_eq_true rfl) rfl (by rw [show m_maxL 32 = 2 from by decide +kernel]; exact Nat.le_of_ble_eq_true rfl)).trans ?_
  exact ite_congr (by simp [a_rcv, show m_recv 32 = 5 from by decide +kernel]) (fun _ => rfl) (fun _ => rfl)
theorem B_X10_correct_140 {k : Nat → Nat × Nat} {u : Nat → Nat → Int} {g : Nat → Nat → Nat} {t : Nat × Nat × Nat} {r0 : Nat} {x1 : Int} {x2 : Int} {x3 : Int} {x4 : Int} {x5 : Int} {x6 : Int} {y0 : Int} : a_X 130 140 [a_r (r0), a_i (x1), a_i (x2), a_i (x3), a_i (x4), a_i (x5), a_i (x6)] [a_i (y0)] (k, u, g, t) = some (.inl (some (a_i (y0))), (k, u, g, t)) := by
  exact X_ireturn (m := 130) (pc := 140) (f := 1) (by decide +kernel) (by decide +kernel) rfl
theorem E_X10_cancel {σ : AS} {r0 : Nat} {x1 : Int} {x2 : Int} : a_m 131 [a_r (r0), a_i (x1), a_i (x2)] σ = a_X 131 0 [a_r (r0), a_i (x1), a_i (x2)] [] σ := a_m_eq (by rw [a_entry, show m_maxL 131 = 3 from by decide +kernel]; rfl)
theorem B_X10_cancel_0 {k : Nat → Nat × Nat} {u : Nat → Nat → Int} {g : Nat → Nat → Nat} {t : Nat × Nat × Nat} {r0 : Nat} {x1 : Int} {x2 : Int} : a_X 131 0 [a_r (r0), a_i (x1), a_i (x2)] [] (k, u, g, t) = if (k r0).1 = 10 then (a_m 144 [a_r (r0)] (k, u, g, t)).bind (a_back 131 1 3 [a_r (r0), a_i (x1), a_i (x2)] []) else none := by
  refine (X_aload_n (m := 131) (pc := 0) (n := 0) (by decide +kernel) rfl).trans ?_
  refine (X_call_vi (m := 131) (pc := 1) (q := 103) (y := 144) (n := 1) (as := [a_r (r0)]) (rest := []) (by decide +kernel) (by decide +kernel) (by decide +kernel) (by decide +kernel) rfl rfl (Nat.le_of_ble_eq_true rfl) (Nat.le_of_ble_eq_true rfl) rfl (by rw [show m_maxL 144 = 1 from by decide +kernel]; exact Nat.le_of_ble_eq_true rfl)).trans ?_
  exact ite_congr (by simp [a_rcv, show m_recv 144 = 10 from by decide +kernel]) (fun _ => rfl) (fun _ => rfl)
theorem B_X10_cancel_4 {k : Nat → Nat × Nat} {u : Nat → Nat → Int} {g : Nat → Nat → Nat} {t : Nat × Nat × Nat} {r0 : Nat} {x1 : Int} {x2 : Int} : a_X 131 4 [a_r (r0), a_i (x1), a_i (x2)] [] (k, u, g, t) = if (k r0).1 = 10 then (a_m 147 [a_r (r0), a_i (x1)] (k, u, g, t)).bind (a_back 131 6 3 [a_r (r0), a_i (x1), a_i (x2)] []) else none := by
  refine (X_aload_n (m := 131) (pc := 4) (n := 0) (by decide +kernel) rfl).trans ?_
  refine (X_iload_n (m := 131) (pc := 5) (n := 1) (by decide +kernel) rfl).trans ?_
  refine (X_call_vi (m := 131) (pc := 6) (q := 160) (y := 147) (n := 2) (as := [a_r (r0), a_i (x1)]) (rest := []) (by decide +kernel) (by decide +kernel) (by decide +kernel) (by decide +kernel) rfl rfl (Nat.le_of_ble_eq_true rfl) (Nat.le_of_ble_eq_true rfl) rfl (by rw [show m_maxL 147 = 2 from by decide +kernel]; exact Nat.le_of_ble_eq_true rfl)).trans ?_
  exact ite_congr (by simp [a_rcv, show m_recv 147 = 10 from by decide +kernel]) (fun _ => rfl) (fun _ => rfl)
theorem B_X10_cancel_9 {k : Nat → Nat × Nat} {u : Nat → Nat → Int} {g : Nat → Nat → Nat} {t : Nat × Nat × Nat} {r0 : Nat} {x1 : Int} {x2 : Int} : a_X 131 9 [a_r (r0), a_i (x1), a_i (x2)] [] (k, u, g, t) = if (k r0).1 = 10 then (a_m 149 [a_r (r0), a_i (x2), a_i (1), a_i (20)] (k, u, g, t)).bind (a_back 131 14 3 [a_r (r0), a_i (x1), a_i (x2)] []) else none := by
  refine (X_aload_n (m := 131) (pc := 9) (n := 0) (by decide +kernel) rfl).trans ?_
  refine (X_iload_n (m := 131) (pc := 10) (n := 2) (by decide +kernel) rfl).trans ?_
  refine (X_iconst (m := 131) (pc := 11) (n := 1) (by decide +kernel) ).trans ?_
  refine (X_bipush (m := 131) (pc := 12) (n := 20) (by decide +kernel) ).trans ?_
  refine (X_call_vi (m := 131) (pc := 14) (q := 163) (y := 149) (n := 4) (as := [a_r (r0), a_i (x2), a_i (1), a_i (20)]) (rest := []) (by decide +kernel) (by decide +kernel) (by decide +kernel) (by decide +kernel) rfl rfl (Nat.le_of_ble_eq_true rfl) (Nat.le_of_ble_eq_true rfl) rfl (by rw [show m_maxL 149 = 4 from by decide +kernel]; exact Nat.le_of_ble_eq_true rfl)).trans ?_
  exact ite_congr (by simp [a_rcv, show m_recv 149 = 10 from by decide +kernel]) (fun _ => rfl) (fun _ => rfl)
theorem B_X10_cancel_17 {k : Nat → Nat × Nat} {u : Nat → Nat → Int} {g : Nat → Nat → Nat} {t : Nat × Nat × Nat} {r0 : Nat} {x1 : Int} {x2 : Int} : a_X 131 17 [a_r (r0), a_i (x1), a_i (x2)] [] (k, u, g, t) = if (k r0).1 = 10 then (a_m 151 [a_r (r0)] (k, u, g, t)).bind (a_back 131 18 3 [a_r (r0), a_i (x1), a_i (x2)] []) else none := by
  refine (X_aload_n (m := 131) (pc := 17) (n := 0) (by decide +kernel) rfl).trans ?_
  refine (X_call_vi (m := 131) (pc := 18) (q := 356) (y := 151) (n := 1) (as := [a_r (r0)]) (rest := []) (by decide +kernel) (by decide +kernel) (by decide +kernel) (by decide +kernel) rfl rfl (Nat.le_of_ble_eq_true rfl) (Nat.le_of_ble_eq_true rfl) rfl (by rw [show m_maxL 151 = 1 from by decide +kernel]; exact Nat.le_of_ble_eq_true rfl)).trans ?_
  exact ite_congr (by simp [a_rcv, show m_recv 151 = 10 from by decide +kernel]) (fun _ => rfl) (fun _ => rfl)
theorem B_X10_cancel_21 {k : Nat → Nat × Nat} {u : Nat → Nat → Int} {g : Nat → Nat → Nat} {t : Nat × Nat × Nat} {r0 : Nat} {x1 : Int} {x2 : Int} : a_X 131 21 [a_r (r0), a_i (x1), a_i (x2)] [] (k, u, g, t) = if (k r0).1 = 10 then (a_m 152 [a_r (r0)] (k, u, g, t)).bind (a_back 131 22 3 [a_r (r0), a_i (x1), a_i (x2)] []) else none := by
  refine (X_aload_n (m := 131) (pc := 21) (n := 0) (by decide +kernel) rfl).trans ?_
  refine (X_call_vi (m := 131) (pc := 22) (q := 359) (y := 152) (n := 1) (as := [a_r (r0)]) (rest := []) (by decide +kernel) (by decide +kernel) (by decide +kernel) (by decide +kernel) rfl rfl (Nat.le_of_ble_eq_true rfl) (Nat.le_of_ble_eq_true rfl) rfl (by rw [show m_maxL 152 = 1 from by decide +kernel]; exact Nat.le_of_ble_eq_true rfl)).trans ?_
  exact ite_congr (by simp [a_rcv, show m_recv 152 = 10 from by decide +kernel]) (fun _ => rfl) (fun _ => rfl)
theorem B_X10_cancel_25 {k : Nat → Nat × Nat} {u : Nat → Nat → Int} {g : Nat → Nat → Nat} {t : Nat × Nat × Nat} {r0 : Nat} {x1 : Int} {x2 : Int} : a_X 131 25 [a_r (r0), a_i (x1), a_i (x2)] [] (k, u, g, t) = if (k r0).1 = 10 then if (k r0).1 = 10 then if (k (g r0 3)).1 = 2 then (a_m 11 [a_r (g r0 3), a_r (g r0 1)] (k, u, g, t)).bind (a_back 131 33 3 [a_r (r0), a_i (x1), a_i (x2)] []) else none else none else none := by
  refine (X_aload_n (m := 131) (pc := 25) (n := 0) (by decide +kernel) rfl).trans ?_
  refine (X_getR (m := 131) (pc := 26) (n := 29) (c := 10) (q := 3) (fi := true) (by decide +kernel) (by decide +kernel)).trans ?_
  refine ite_congr rfl (fun _ => ?_) (fun _ => rfl)
  refine (X_aload_n (m := 131) (pc := 29) (n := 0) (by decide +kernel) rfl).trans ?_
  refine (X_getR (m := 131) (pc := 30) (n := 19) (c := 10) (q := 1) (fi := true) (by decide +kernel) (by decide +kernel)).trans ?_
  refine ite_congr rfl (fun _ => ?_) (fun _ => rfl)
  refine (X_call_vi (m := 131) (pc := 33) (q := 362) (y := 11) (n := 2) (as := [a_r (g r0 3), a_r (g r0 1)]) (rest := []) (by decide +kernel) (by decide +kernel) (by decide +kernel) (by decide +kernel) rfl rfl (Nat.le_of_ble_eq_true rfl) (Nat.le_of_ble_eq_true rfl) rfl (by rw [show m_maxL 11 = 2 from by decide +kernel]; exact Nat.le_of_ble_eq_true rfl)).trans ?_
  exact ite_congr (by simp [a_rcv, show m_recv 11 = 2 from by decide +kernel]) (fun _ => rfl) (fun _ => rfl)
theorem B_X10_cancel_36 {k : Nat → Nat × Nat} {u : Nat → Nat → Int} {g : Nat → Nat → Nat} {t : Nat × Nat × Nat} {r0 : Nat} {x1 : Int} {x2 : Int} : a_X 131 36 [a_r (r0), a_i (x1), a_i (x2)] [] (k, u, g, t) = if (k r0).1 = 10 then if (k (g r0 1)).1 = 5 then if (k r0).1 = 10 then if (k (g r0 1)).1 = 5 then if (k (g (g r0 1) 0)).1 = 9 then (a_m 83 [a_r (g (g r0 1) 0), a_i (x1), a_i (u (g r0 1) 6)] (k, u, g, t)).bind (a_back 131 51 3 [a_r (r0), a_i (x1), a_i (x2)] []) else none else none else none else none else none := by
  refine (X_aload_n (m := 131) (pc := 36) (n := 0) (by decide +kernel) rfl).trans ?_
  refine (X_getR (m := 131) (pc := 37) (n := 19) (c := 10) (q := 1) (fi := true) (by decide +kernel) (by decide +kernel)).trans ?_
  refine ite_congr rfl (fun _ => ?_) (fun _ => rfl)
  refine (X_getR (m := 131) (pc := 40) (n := 106) (c := 5) (q := 0) (fi := true) (by decide +kernel) (by decide +kernel)).trans ?_
  refine ite_congr rfl (fun _ => ?_) (fun _ => rfl)
  refine (X_iload_n (m := 131) (pc := 43) (n := 1) (by decide +kernel) rfl).trans ?_
  refine (X_aload_n (m := 131) (pc := 44) (n := 0) (by decide +kernel) rfl).trans ?_
  refine (X_getR (m := 131) (pc := 45) (n := 19) (c := 10) (q := 1) (fi := true) (by decide +kernel) (by decide +kernel)).trans ?_
  refine ite_congr rfl (fun _ => ?_) (fun _ => rfl)
  refine (X_getI (m := 131) (pc := 48) (n := 123) (c := 5) (q := 6) (ty := 1) (fi := false) (by decide +kernel) (by decide +kernel) (by decide +kernel)).trans ?_
  refine ite_congr rfl (fun _ => ?_) (fun _ => rfl)
  refine (X_call_vi (m := 131) (pc := 51) (q := 365) (y := 83) (n := 3) (as := [a_r (g (g r0 1) 0), a_i (x1), a_i (u (g r0 1) 6)]) (rest := []) (by decide +kernel) (by decide +kernel) (by decide +kernel) (by decide +kernel) rfl rfl (Nat.le_of_ble_eq_true rfl) (Nat.le_of_ble_eq_true rfl) rfl (by rw [show m_maxL 83 = 3 from by decide +kernel]; exact Nat.le_of_ble_eq_true rfl)).trans ?_
  exact ite_congr (by simp [a_rcv, show m_recv 83 = 9 from by decide +kernel]) (fun _ => rfl) (fun _ => rfl)
theorem B_X10_cancel_54 {k : Nat → Nat × Nat} {u : Nat → Nat → Int} {g : Nat → Nat → Nat} {t : Nat × Nat × Nat} {r0 : Nat} {x1 : Int} {x2 : Int} : a_X 131 54 [a_r (r0), a_i (x1), a_i (x2)] [] (k, u, g, t) = if (k r0).1 = 10 then if (k (g r0 1)).1 = 5 then if (k r0).1 = 10 then if (k (g r0 1)).1 = 5 then if (k r0).1 = 10 then if (k (g r0 1)).1 = 5 then if (k (g (g r0 1) 0)).1 = 9 then if (k (g (g r0 1) 0)).1 = 9 then (a_m 84 [a_r (g (g r0 1) 0), a_i (x1), a_i (u (g (g r0 1) 0) 7)] (k, u, g, t)).bind (a_back 131 79 3 [a_r (r0), a_i (x1), a_i (x2)] [a_r (g (g r0 1) 0)]) else none else none else none else none else none else none else none else none := by
  refine (X_aload_n (m := 131) (pc := 54) (n := 0) (by decide +kernel) rfl).trans ?_
  refine (X_getR (m := 131) (pc := 55) (n := 19) (c := 10) (q := 1) (fi := true) (by decide +kernel) (by decide +kernel)).trans ?_
  refine ite_congr rfl (fun _ => ?_) (fun _ => rfl)
  refine (X_getR (m := 131) (pc := 58) (n := 106) (c := 5) (q := 0) (fi := true) (by decide +kernel) (by decide +kernel)).trans ?_
  refine ite_congr rfl (fun _ => ?_) (fun _ => rfl)
  refine (X_aload_n (m := 131) (pc := 61) (n := 0) (by decide +kernel) rfl).trans ?_
  refine (X_getR (m := 131) (pc := 62) (n := 19) (c := 10) (q := 1) (fi := true) (by decide +kernel) (by decide +kernel)).trans ?_
  refine ite_congr rfl (fun _ => ?_) (fun _ => rfl)
  refine (X_getR (m := 131) (pc := 65) (n := 106) (c := 5) (q := 0) (fi := true) (by decide +kernel) (by decide +kernel)).trans ?_
  refine ite_congr rfl (fun _ => ?_) (fun _ => rfl)
  refine (X_iload_n (m := 131) (pc := 68) (n := 1) (by decide +kernel) rfl).trans ?_
  refine (X_aload_n (m := 131) (pc := 69) (n := 0) (by decide +kernel) rfl).trans ?_
  refine (X_getR (m := 131) (pc := 70) (n := 19) (c := 10) (q := 1) (fi := true) (by decide +kernel) (by decide +kernel)).trans ?_
  refine ite_congr rfl (fun _ => ?_) (fun _ => rfl)
  refine (X_getR (m := 131) (pc := 73) (n := 106) (c := 5) (q := 0) (fi := true) (by decide +kernel) (by decide +kernel)).trans ?_
  refine ite_congr rfl (fun _ => ?_) (fun _ => rfl)
  refine (X_getI (m := 131) (pc := 76) (n := 126) (c := 9) (q := 7) (ty := 1) (fi := false) (by decide +kernel) (by decide +kernel) (by decide +kernel)).trans ?_
  refine ite_congr rfl (fun _ => ?_) (fun _ => rfl)
  refine (X_call_vi (m := 131) (pc := 79) (q := 171) (y := 84) (n := 3) (as := [a_r (g (g r0 1) 0), a_i (x1), a_i (u (g (g r0 1) 0) 7)]) (rest := [a_r (g (g r0 1) 0)]) (by decide +kernel) (by decide +kernel) (by decide +kernel) (by decide +kernel) rfl rfl (Nat.le_of_ble_eq_true rfl) (Nat.le_of_ble_eq_true rfl) rfl (by rw [show m_maxL 84 = 3 from by decide +kernel]; exact Nat.le_of_ble_eq_true rfl)).trans ?_
  exact ite_congr (by simp [a_rcv, show m_recv 84 = 9 from by decide +kernel]) (fun _ => rfl) (fun _ => rfl)
theorem B_X10_cancel_82 {k : Nat → Nat × Nat} {u : Nat → Nat → Int} {g : Nat → Nat → Nat} {t : Nat × Nat × Nat} {r0 : Nat} {x1 : Int} {x2 : Int} {q0 : Nat} {y1 : Int} : a_X 131 82 [a_r (r0), a_i (x1), a_i (x2)] [a_i (y1), a_r (q0)] (k, u, g, t) = if (k q0).1 = 9 then (a_m 82 [a_r (q0), a_i (y1)] (k, u, g, t)).bind (a_back 131 82 3 [a_r (r0), a_i (x1), a_i (x2)] []) else none := by
  refine (X_call_vi (m := 131) (pc := 82) (q := 375) (y := 82) (n := 2) (as := [a_r (q0), a_i (y1)]) (rest := []) (by decide +kernel) (by decide +kernel) (by decide +kernel) (by decide +kernel) rfl rfl (Nat.le_of_ble_eq_true rfl) (Nat.le_of_ble_eq_true rfl) rfl (by rw [show m_maxL 82 = 2 from by decide +kernel]; exact Nat.le_of_ble_eq_true rfl)).trans ?_
  exact ite_congr (by simp [a_rcv, show m_recv 82 = 9 from by decide +kernel]) (fun _ => rfl) (fun _ => rfl)
theorem B_X10_cancel_85 {k : Nat → Nat × Nat} {u : Nat → Nat → Int} {g : Nat → Nat → Nat} {t : Nat × Nat × Nat} {r0 : Nat} {x1 : Int} {x2 : Int} : a_X 131 85 [a_r (r0), a_i (x1), a_i (x2)] [] (k, u, g, t) = if (k r0).1 = 10 then if (k (g r0 1)).1 = 5 then (a_m 32 [a_r (g r0 1), a_i (x2)] (k, u, g, t)).bind (a_back 131 90 3 [a_r (r0), a_i (x1), a_i (x2)] []) else none else none := by
  refine (X_aload_n (m := 131) (pc := 85) (n := 0) (by decide +kernel) rfl).trans ?_
  refine (X_getR (m := 131) (pc := 86) (n := 19) (c := 10) (q := 1) (fi := true) (by decide +kernel) (by decide +kernel)).trans ?_
  refine ite_congr rfl (fun _ => ?_) (fun _ => rfl)
  refine (X_iload_n (m := 131) (pc := 89) (n := 2) (by decide +kernel) rfl).trans ?_
  refine (X_call_vi (m := 131) (pc := 90) (q := 372) (y := 32) (n := 2) (as := [a_r (g r0 1), a_i (x2)]) (rest := []) (by decide +kernel) (by decide +kernel) (by decide +kernel) (by decide +kernel) rfl rfl (Nat.le_of_ble_eq_true rfl) (Nat.le_of_ble_eq_true rfl) rfl (by rw [show m_maxL 32 = 2 from by decide +kernel]; exact Nat.le_of_ble_eq_true rfl)).trans ?_
  exact ite_congr (by simp [a_rcv, show m_recv 32 = 5 from by decide +kernel]) (fun _ => rfl) (fun _ => rfl)
theorem B_X10_cancel_93 {k : Nat → Nat × Nat} {u : Nat → Nat → Int} {g : Nat → Nat → Nat} {t : Nat × Nat × Nat} {r0 : Nat} {x1 : Int} {x2 : Int} {y0 : Int} : a_X 131 93 [a_r (r0), a_i (x1), a_i (x2)] [a_i (y0)] (k, u, g, t) = some (.inl (some (a_i (y0))), (k, u, g, t)) := by
  exact X_ireturn (m := 131) (pc := 93) (f := 1) (by decide +kernel) (by decide +kernel) rfl
theorem E_X10_repeat {σ : AS} {r0 : Nat} {x1 : Int} {x2 : Int} : a_m 132 [a_r (r0), a_i (x1), a_i (x2)] σ = a_X 132 0 [a_r (r0), a_i (x1), a_i (x2)] [] σ := a_m_eq (by rw [a_entry, show m_maxL 132 = 3 from by decide +kernel]; rfl)
theorem B_X10_repeat_0 {k : Nat → Nat × Nat} {u : Nat → Nat → Int} {g : Nat → Nat → Nat} {t : Nat × Nat × Nat} {r0 : Nat} {x1 : Int} {x2 : Int} : a_X 132 0 [a_r (r0), a_i (x1), a_i (x2)] [] (k, u, g, t) = if (k r0).1 = 10 then (a_m 144 [a_r (r0)] (k, u, g, t)).bind (a_back 132 1 3 [a_r (r0), a_i (x1), a_i (x2)] []) else none := by
  refine (X_aload_n (m := 132) (pc := 0) (n := 0) (by decide +kernel) rfl).trans ?_
  refine (X_call_vi (m := 132) (pc := 1) (q := 103) (y := 144) (n := 1) (as := [a_r (r0)]) (rest := []) (by decide +kernel) (by decide +kernel) (by decide +kernel) (by decide +kernel) rfl rfl (Nat.le_of_ble_eq_true rfl) (Nat.le_of_ble_eq_true rfl) rfl (by rw [show m_maxL 144 = 1 from by decide +kernel]; exact Nat.le_of_ble_eq_true rfl)).trans ?_
  exact ite_congr (by simp [a_rcv, show m_recv 144 = 10 from by decide +kernel]) (fun _ => rfl) (fun _ => rfl)
theorem B_X10_repeat_4 {k : Nat → Nat × Nat} {u : Nat → Nat → Int} {g : Nat → Nat → Nat} {t : Nat × Nat × Nat} {r0 : Nat} {x1 : Int} {x2 : Int} : a_X 132 4 [a_r (r0), a_i (x1), a_i (x2)] [] (k, u, g, t) = if (k r0).1 = 10 then (a_m 150 [a_r (r0), a_i (x1)] (k, u, g, t)).bind (a_back 132 6 3 [a_r (r0), a_i (x1), a_i (x2)] []) else none := by
  refine (X_aload_n (m := 132) (pc := 4) (n := 0) (by decide +kernel) rfl).trans ?_
  refine (X_iload_n (m := 132) (pc := 5) (n := 1) (by decide +kernel) rfl).trans ?_
  refine (X_call_vi (m := 132) (pc := 6) (q := 206) (y := 150) (n := 2) (as := [a_r (r0), a_i (x1)]) (rest := []) (by decide +kernel) (by decide +kernel) (by decide +kernel) (by decide +kernel) rfl rfl (Nat.le_of_ble_eq_true rfl) (Nat.le_of_ble_eq_true rfl) rfl (by rw [show m_maxL 150 = 2 from by decide +kernel]; exact Nat.le_of_ble_eq_true rfl)).trans ?_
  exact ite_congr (by simp [a_rcv, show m_recv 150 = 10 from by decide +kernel]) (fun _ => rfl) (fun _ => rfl)
theorem B_X10_repeat_9 {k : Nat → Nat × Nat} {u : Nat → Nat → Int} {g : Nat → Nat → Nat} {t : Nat × Nat × Nat} {r0 : Nat} {x1 : Int} {x2 : Int} : a_X 132 9 [a_r (r0), a_i (x1), a_i (x2)] [] (k, u, g, t) = if (k r0).1 = 10 then (a_m 149 [a_r (r0), a_i (x2), a_i (1), a_i (20)] (k, u, g, t)).bind (a_back 132 14 3 [a_r (r0), a_i (x1), a_i (x2)] []) else none := by
  refine (X_aload_n (m := 132) (pc := 9) (n := 0) (by decide +kernel) rfl).trans ?_
  refine (X_iload_n (m := 132) (pc := 10) (n := 2) (by decide +kernel) rfl).trans ?_
  refine (X_iconst (m := 132) (pc := 11) (n := 1) (by decide +kernel) ).trans ?_
  refine (X_bipush (m := 132) (pc := 12) (n := 20) (by decide +kernel) ).trans ?_
  refine (X_call_vi (m := 132) (pc := 14) (q := 163) (y := 149) (n := 4) (as := [a_r (r0), a_i (x2), a_i (1), a_i (20)]) (rest := []) (by decide +kernel) (by decide +kernel) (by decide +kernel) (by decide +kernel) rfl rfl (Nat.le_of_ble_eq_true rfl) (Nat.le_of_ble_eq_true rfl) rfl (by rw [show m_maxL 149 = 4 from by decide +kernel]; exact Nat.le_of_ble_eq_true rfl)).trans ?_
  exact ite_congr (by simp [a_rcv, show m_recv 149 = 10 from by decide +kernel]) (fun _ => rfl) (fun _ => rfl)
theorem B_X10_repeat_17 {k : Nat → Nat × Nat} {u : Nat → Nat → Int} {g : Nat → Nat → Nat} {t : Nat × Nat × Nat} {r0 : Nat} {x1 : Int} {x2 : Int} : a_X 132 17 [a_r (r0), a_i (x1), a_i (x2)] [] (k, u, g, t) = if (k r0).1 = 10 then (a_m 152 [a_r (r0)] (k, u, g, t)).bind (a_back 132 18 3 [a_r (r0), a_i (x1), a_i (x2)] []) else none := by
  refine (X_aload_n (m := 132) (pc := 17) (n := 0) (by decide +kernel) rfl).trans ?_
  refine (X_call_vi (m := 132) (pc := 18) (q := 359) (y := 152) (n := 1) (as := [a_r (r0)]) (rest := []) (by decide +kernel) (by decide +kernel) (by decide +kernel) (by decide +kernel) rfl rfl (Nat.le_of_ble_eq_true rfl) (Nat.le_of_ble_eq_true rfl) rfl (by rw [show m_maxL 152 = 1 from by decide +kernel]; exact Nat.le_of_ble_eq_true rfl)).trans ?_
  exact ite_congr (by simp [a_rcv, show m_recv 152 = 10 from by decide +kernel]) (fun _ => rfl) (fun _ => rfl)
theorem B_X10_repeat_21 {k : Nat → Nat × Nat} {u : Nat → Nat → Int} {g : Nat → Nat → Nat} {t : Nat × Nat × Nat} {r0 : Nat} {x1 : Int} {x2 : Int} : a_X 132 21 [a_r (r0), a_i (x1), a_i (x2)] [] (k, u, g, t) = if (k r0).1 = 10 then if (k r0).1 = 10 then if (k (g r0 3)).1 = 2 then (a_m 11 [a_r (g r0 3), a_r (g r0 1)] (k, u, g, t)).bind (a_back 132 29 3 [a_r (r0), a_i (x1), a_i (x2)] []) else none else none else none := by
  refine (X_aload_n (m := 132) (pc := 21) (n := 0) (by decide +kernel) rfl).trans ?_
  refine (X_getR (m := 132) (pc := 22) (n := 29) (c := 10) (q := 3) (fi := true) (by decide +kernel) (by decide +kernel)).trans ?_
  refine ite_congr rfl (fun _ => ?_) (fun _ => rfl)
  refine (X_aload_n (m := 132) (pc := 25) (n := 0) (by decide +kernel) rfl).trans ?_
  refine (X_getR (m := 132) (pc := 26) (n := 19) (c := 10) (q := 1) (fi := true) (by decide +kernel) (by decide +kernel)).trans ?_
  refine ite_congr rfl (fun _ => ?_) (fun _ => rfl)
  refine (X_call_vi (m := 132) (pc := 29) (q := 362) (y := 11) (n := 2) (as := [a_r (g r0 3), a_r (g r0 1)]) (rest := []) (by decide +kernel) (by decide +kernel) (by decide +kernel) (by decide +kernel) rfl rfl (Nat.le_of_ble_eq_true rfl) (Nat.le_of_ble_eq_true rfl) rfl (by rw [show m_maxL 11 = 2 from by decide +kernel]; exact Nat.le_of_ble_eq_true rfl)).trans ?_
  exact ite_congr (by simp [a_rcv, show m_recv 11 = 2 from by decide +kernel]) (fun _ => rfl) (fun _ => rfl)
theorem B_X10_repeat_32 {k : Nat → Nat × Nat} {u : Nat → Nat → Int} {g : Nat → Nat → Nat} {t : Nat × Nat × Nat} {r0 : Nat} {x1 : Int} {x2 : Int} : a_X 132 32 [a_r (r0), a_i (x1), a_i (x2)] [] (k, u, g, t) = if (k r0).1 = 10 then if (k (g r0 1)).1 = 5 then (a_m 33 [a_r (g r0 1), a_i (x1), a_i (x2)] (k, u, g, t)).bind (a_back 132 38 3 [a_r (r0), a_i (x1), a_i (x2)] []) else none else none := by
  refine (X_aload_n (m := 132) (pc := 32) (n := 0) (by decide +kernel) rfl).trans ?_
  refine (X_getR (m := 132) (pc := 33) (n := 19) (c := 10) (q := 1) (fi := true) (by decide +kernel) (by decide +kernel)).trans ?_
  refine ite_congr rfl (fun _ => ?_) (fun _ => rfl)
  refine (X_iload_n (m := 132) (pc := 36) (n := 1) (by decide +kernel) rfl).trans ?_
  refine (X_iload_n (m := 132) (pc := 37) (n := 2) (by decide +kernel) rfl).trans ?_
  refine (X_call_vi (m := 132) (pc := 38) (q := 378) (y := 33) (n := 3) (as := [a_r (g r0 1), a_i (x1), a_i (x2)]) (rest := []) (by decide +kernel) (by decide +kernel) (by decide +kernel) (by decide +kernel) rfl rfl (Nat.le_of_ble_eq_true rfl) (Nat.le_of_ble_eq_true rfl) rfl (by rw [show m_maxL 33 = 3 from by decide +kernel]; exact Nat.le_of_ble_eq_true rfl)).trans ?_
  exact ite_congr (by simp [a_rcv, show m_recv 33 = 5 from by decide +kernel]) (fun _ => rfl) (fun _ => rfl)
theorem B_X10_repeat_41 {k : Nat → Nat × Nat} {u : Nat → Nat → Int} {g : Nat → Nat → Nat} {t : Nat × Nat × Nat} {r0 : Nat} {x1 : Int} {x2 : Int} : a_X 132 41 [a_r (r0), a_i (x1), a_i (x2)] [] (k, u, g, t) = if (k r0).1 = 10 then if (k (g r0 1)).1 = 5 then if (k (g (g r0 1) 0)).1 = 9 then if ((k (g (g (g r0 1) 0) 4)).1 = 20 ∨ (k (g (g (g r0 1) 0) 4)).1 = 24) ∧ 0 ≤ (x1 : Int) ∧ (x1 : Int) < ((k (g (g (g r0 1) 0) 4)).2 : Int) then some (.inl (some (a_i (u (g (g (g r0 1) 0) 4) (x1 : Int).toNat))), (k, u, g, t)) else none else none else none else none := by
  refine (X_aload_n (m := 132) (pc := 41) (n := 0) (by decide +kernel) rfl).trans ?_
  refine (X_getR (m := 132) (pc := 42) (n := 19) (c := 10) (q := 1) (fi := true) (by decide +kernel) (by decide +kernel)).trans ?_
  refine ite_congr rfl (fun _ => ?_) (fun _ => rfl)
  refine (X_getR (m := 132) (pc := 45) (n := 106) (c := 5) (q := 0) (fi := true) (by decide +kernel) (by decide +kernel)).trans ?_
  refine ite_congr rfl (fun _ => ?_) (fun _ => rfl)
  refine (X_getR (m := 132) (pc := 48) (n := 209) (c := 9) (q := 4) (fi := true) (by decide +kernel) (by decide +kernel)).trans ?_
  refine ite_congr rfl (fun _ => ?_) (fun _ => rfl)
  refine (X_iload_n (m := 132) (pc := 51) (n := 1) (by decide +kernel) rfl).trans ?_
  refine (X_iaload (m := 132) (pc := 52)  (by decide +kernel) ).trans ?_
  refine ite_congr rfl (fun _ => ?_) (fun _ => rfl)
  exact X_ireturn (m := 132) (pc := 53) (f := 1) (by decide +kernel) (by decide +kernel) rfl
theorem E_X10_whole {σ : AS} {r0 : Nat} {x1 : Int} : a_m 133 [a_r (r0), a_i (x1)] σ = a_X 133 0 [a_r (r0), a_i (x1)] [] σ := a_m_eq (by rw [a_entry, show m_maxL 133 = 2 from by decide +kernel]; rfl)
theorem B_X10_whole_0 {k : Nat → Nat × Nat} {u : Nat → Nat → Int} {g : Nat → Nat → Nat} {t : Nat × Nat × Nat} {r0 : Nat} {x1 : Int} : a_X 133 0 [a_r (r0), a_i (x1)] [] (k, u, g, t) = if (k r0).1 = 10 then (a_m 144 [a_r (r0)] (k, u, g, t)).bind (a_back 133 1 3 [a_r (r0), a_i (x1)] []) else none := by
  refine (X_aload_n (m := 133) (pc := 0) (n := 0) (by decide +kernel) rfl).trans ?_
  refine (X_call_vi (m := 133) (pc := 1) (q := 103) (y := 144) (n := 1) (as := [a_r (r0)]) (rest := []) (by decide +kernel) (by decide +kernel) (by decide +kernel) (by decide +kernel) rfl rfl (Nat.le_of_ble_eq_true rfl) (Nat.le_of_ble_eq_true rfl) rfl (by rw [show m_maxL 144 = 1 from by decide +kernel]; exact Nat.le_of_ble_eq_true rfl)).trans ?_
  exact ite_congr (by simp [a_rcv, show m_recv 144 = 10 from by decide +kernel]) (fun _ => rfl) (fun _ => rfl)
theorem B_X10_whole_4 {k : Nat → Nat × Nat} {u : Nat → Nat → Int} {g : Nat → Nat → Nat} {t : Nat × Nat × Nat} {r0 : Nat} {x1 : Int} : a_X 133 4 [a_r (r0), a_i (x1)] [] (k, u, g, t) = if (k r0).1 = 10 then (a_m 149 [a_r (r0), a_i (x1), a_i (1), a_i (20)] (k, u, g, t)).bind (a_back 133 9 3 [a_r (r0), a_i (x1)] []) else none := by
  refine (X_aload_n (m := 133) (pc := 4) (n := 0) (by decide +kernel) rfl).trans ?_
  refine (X_iload_n (m := 133) (pc := 5) (n := 1) (by decide +kernel) rfl).trans ?_
  refine (X_iconst (m := 133) (pc := 6) (n := 1) (by decide +kernel) ).trans ?_
  refine (X_bipush (m := 133) (pc := 7) (n := 20) (by decide +kernel) ).trans ?_
  refine (X_call_vi (m := 133) (pc := 9) (q := 163) (y := 149) (n := 4) (as := [a_r (r0), a_i (x1), a_i (1), a_i (20)]) (rest := []) (by decide +kernel) (by decide +kernel) (by decide +kernel) (by decide +kernel) rfl rfl (Nat.le_of_ble_eq_true rfl) (Nat.le_of_ble_eq_true rfl) rfl (by rw [show m_maxL 149 = 4 from by decide +kernel]; exact Nat.le_of_ble_eq_true rfl)).trans ?_
  exact ite_congr (by simp [a_rcv, show m_recv 149 = 10 from by decide +kernel]) (fun _ => rfl) (fun _ => rfl)
theorem B_X10_whole_12 {k : Nat → Nat × Nat} {u : Nat → Nat → Int} {g : Nat → Nat → Nat} {t : Nat × Nat × Nat} {r0 : Nat} {x1 : Int} : a_X 133 12 [a_r (r0), a_i (x1)] [] (k, u, g, t) = if (k r0).1 = 10 then (a_m 152 [a_r (r0)] (k, u, g, t)).bind (a_back 133 13 3 [a_r (r0), a_i (x1)] []) else none := by
  refine (X_aload_n (m := 133) (pc := 12) (n := 0) (by decide +kernel) rfl).trans ?_
  refine (X_call_vi (m := 133) (pc := 13) (q := 359) (y := 152) (n := 1) (as := [a_r (r0)]) (rest := []) (by decide +kernel) (by decide +kernel) (by decide +kernel) (by decide +kernel) rfl rfl (Nat.le_of_ble_eq_true rfl) (Nat.le_of_ble_eq_true rfl) rfl (by rw [show m_maxL 152 = 1 from by decide +kernel]; exact Nat.le_of_ble_eq_true rfl)).trans ?_
  exact ite_congr (by simp [a_rcv, show m_recv 152 = 10 from by decide +kernel]) (fun _ => rfl) (fun _ => rfl)
theorem B_X10_whole_16 {k : Nat → Nat × Nat} {u : Nat → Nat → Int} {g : Nat → Nat → Nat} {t : Nat × Nat × Nat} {r0 : Nat} {x1 : Int} : a_X 133 16 [a_r (r0), a_i (x1)] [] (k, u, g, t) = if (k r0).1 = 10 then if (k r0).1 = 10 then if (k (g r0 3)).1 = 2 then (a_m 11 [a_r (g r0 3), a_r (g r0 1)] (k, u, g, t)).bind (a_back 133 24 3 [a_r (r0), a_i (x1)] []) else none else none else none := by
  refine (X_aload_n (m := 133) (pc := 16) (n := 0) (by decide +kernel) rfl).trans ?_
  refine (X_getR (m := 133) (pc := 17) (n := 29) (c := 10) (q := 3) (fi := true) (by decide +kernel) (by decide +kernel)).trans ?_
  refine ite_congr rfl (fun _ => ?_) (fun _ => rfl)
  refine (X_aload_n (m := 133) (pc := 20) (n := 0) (by decide +kernel) rfl).trans ?_
  refine (X_getR (m := 133) (pc := 21) (n := 19) (c := 10) (q := 1) (fi := true) (by decide +kernel) (by decide +kernel)).trans ?_
  refine ite_congr rfl (fun _ => ?_) (fun _ => rfl)
  refine (X_call_vi (m := 133) (pc := 24) (q := 362) (y := 11) (n := 2) (as := [a_r (g r0 3), a_r (g r0 1)]) (rest := []) (by decide +kernel) (by decide +kernel) (by decide +kernel) (by decide +kernel) rfl rfl (Nat.le_of_ble_eq_true rfl) (Nat.le_of_ble_eq_true rfl) rfl (by rw [show m_maxL 11 = 2 from by decide +kernel]; exact Nat.le_of_ble_eq_true rfl)).trans ?_
  exact ite_congr (by simp [a_rcv, show m_recv 11 = 2 from by decide +kernel]) (fun _ => rfl) (fun _ => rfl)
theorem B_X10_whole_27 {k : Nat → Nat × Nat} {u : Nat → Nat → Int} {g : Nat → Nat → Nat} {t : Nat × Nat × Nat} {r0 : Nat} {x1 : Int} : a_X 133 27 [a_r (r0), a_i (x1)] [] (k, u, g, t) = if (k r0).1 = 10 then if (k (g r0 1)).1 = 5 then (a_m 34 [a_r (g r0 1), a_i (x1)] (k, u, g, t)).bind (a_back 133 32 3 [a_r (r0), a_i (x1)] []) else none else none := by
  refine (X_aload_n (m := 133) (pc := 27) (n := 0) (by decide +kernel) rfl).trans ?_
  refine (X_getR (m := 133) (pc := 28) (n := 19) (c := 10) (q := 1) (fi := true) (by decide +kernel) (by decide +kernel)).trans ?_
  refine ite_congr rfl (fun _ => ?_) (fun _ => rfl)
  refine (X_iload_n (m := 133) (pc := 31) (n := 1) (by decide +kernel) rfl).trans ?_
  refine (X_call_vi (m := 133) (pc := 32) (q := 381) (y := 34) (n := 2) (as := [a_r (g r0 1), a_i (x1)]) (rest := []) (by decide +kernel) (by decide +kernel) (by decide +kernel) (by decide +kernel) rfl rfl (Nat.le_of_ble_eq_true rfl) (Nat.le_of_ble_eq_true rfl) rfl (by rw [show m_maxL 34 = 3 from by decide +kernel]; exact Nat.le_of_ble_eq_true rfl)).trans ?_
  exact ite_congr (by simp [a_rcv, show m_recv 34 = 5 from by decide +kernel]) (fun _ => rfl) (fun _ => rfl)
theorem B_X10_whole_35 {k : Nat → Nat × Nat} {u : Nat → Nat → Int} {g : Nat → Nat → Nat} {t : Nat × Nat × Nat} {r0 : Nat} {x1 : Int} : a_X 133 35 [a_r (r0), a_i (x1)] [] (k, u, g, t) = if (k r0).1 = 10 then if (k (g r0 1)).1 = 5 then if (k (g (g r0 1) 0)).1 = 9 then some (.inl (some (a_i (u (g (g r0 1) 0) 7))), (k, u, g, t)) else none else none else none := by
  refine (X_aload_n (m := 133) (pc := 35) (n := 0) (by decide +kernel) rfl).trans ?_
  refine (X_getR (m := 133) (pc := 36) (n := 19) (c := 10) (q := 1) (fi := true) (by decide +kernel) (by decide +kernel)).trans ?_
  refine ite_congr rfl (fun _ => ?_) (fun _ => rfl)
  refine (X_getR (m := 133) (pc := 39) (n := 106) (c := 5) (q := 0) (fi := true) (by decide +kernel) (by decide +kernel)).trans ?_
  refine ite_congr rfl (fun _ => ?_) (fun _ => rfl)
  refine (X_getI (m := 133) (pc := 42) (n := 126) (c := 9) (q := 7) (ty := 1) (fi := false) (by decide +kernel) (by decide +kernel) (by decide +kernel)).trans ?_
  refine ite_congr rfl (fun _ => ?_) (fun _ => rfl)
  exact X_ireturn (m := 133) (pc := 45) (f := 1) (by decide +kernel) (by decide +kernel) rfl
theorem E_X10_tick {σ : AS} {r0 : Nat} {x1 : Int} : a_m 134 [a_r (r0), a_i (x1)] σ = a_X 134 0 [a_r (r0), a_i (x1)] [] σ := a_m_eq (by rw [a_entry, show m_maxL 134 = 2 from by decide +kernel]; rfl)
theorem B_X10_tick_0 {k : Nat → Nat × Nat} {u : Nat → Nat → Int} {g : Nat → Nat → Nat} {t : Nat × Nat × Nat} {r0 : Nat} {x1 : Int} : a_X 134 0 [a_r (r0), a_i (x1)] [] (k, u, g, t) = if (k r0).1 = 10 then (a_m 144 [a_r (r0)] (k, u, g, t)).bind (a_back 134 1 3 [a_r (r0), a_i (x1)] []) else none := by
  refine (X_aload_n (m := 134) (pc := 0) (n := 0) (by decide +kernel) rfl).trans ?_
  refine (X_call_vi (m := 134) (pc := 1) (q := 103) (y := 144) (n := 1) (as := [a_r (r0)]) (rest := []) (by decide +kernel) (by decide +kernel) (by decide +kernel) (by decide +kernel) rfl rfl (Nat.le_of_ble_eq_true rfl) (Nat.le_of_ble_eq_true rfl) rfl (by rw [show m_maxL 144 = 1 from by decide +kernel]; exact Nat.le_of_ble_eq_true rfl)).trans ?_
  exact ite_congr (by simp [a_rcv, show m_recv 144 = 10 from by decide +kernel]) (fun _ => rfl) (fun _ => rfl)
theorem B_X10_tick_4 {k : Nat → Nat × Nat} {u : Nat → Nat → Int} {g : Nat → Nat → Nat} {t : Nat × Nat × Nat} {r0 : Nat} {x1 : Int} : a_X 134 4 [a_r (r0), a_i (x1)] [] (k, u, g, t) = if (k r0).1 = 10 then (a_m 149 [a_r (r0), a_i (x1), a_i (1), a_i (60)] (k, u, g, t)).bind (a_back 134 9 3 [a_r (r0), a_i (x1)] []) else none := by
  refine (X_aload_n (m := 134) (pc := 4) (n := 0) (by decide +kernel) rfl).trans ?_
  refine (X_iload_n (m := 134) (pc := 5) (n := 1) (by decide +kernel) rfl).trans ?_
  refine (X_iconst (m := 134) (pc := 6) (n := 1) (by decide +kernel) ).trans ?_
  refine (X_bipush (m := 134) (pc := 7) (n := 60) (by decide +kernel) ).trans ?_
  refine (X_call_vi (m := 134) (pc := 9) (q := 163) (y := 149) (n := 4) (as := [a_r (r0), a_i (x1), a_i (1), a_i (60)]) (rest := []) (by decide +kernel) (by decide +kernel) (by decide +kernel) (by decide +kernel) rfl rfl (Nat.le_of_ble_eq_true rfl) (Nat.le_of_ble_eq_true rfl) rfl (by rw [show m_maxL 149 = 4 from by decide +kernel]; exact Nat.le_of_ble_eq_true rfl)).trans ?_
  exact ite_congr (by simp [a_rcv, show m_recv 149 = 10 from by decide +kernel]) (fun _ => rfl) (fun _ => rfl)
theorem B_X10_tick_12 {k : Nat → Nat × Nat} {u : Nat → Nat → Int} {g : Nat → Nat → Nat} {t : Nat × Nat × Nat} {r0 : Nat} {x1 : Int} : a_X 134 12 [a_r (r0), a_i (x1)] [] (k, u, g, t) = if (k r0).1 = 10 then if (k (g r0 1)).1 = 5 then if (k r0).1 = 10 then (a_m 149 [a_r (r0), a_i (wr ((u (g r0 1) 6) + x1)), a_i (0), a_i (9999)] (k, u, g, t)).bind (a_back 134 26 3 [a_r (r0), a_i (x1)] []) else none else none else none := by
  refine (X_aload_n (m := 134) (pc := 12) (n := 0) (by decide +kernel) rfl).trans ?_
  refine (X_aload_n (m := 134) (pc := 13) (n := 0) (by decide +kernel) rfl).trans ?_
  refine (X_getR (m := 134) (pc := 14) (n := 19) (c := 10) (q := 1) (fi := true) (by decide +kernel) (by decide +kernel)).trans ?_
  refine ite_congr rfl (fun _ => ?_) (fun _ => rfl)
  refine (X_getI (m := 134) (pc := 17) (n := 123) (c := 5) (q := 6) (ty := 1) (fi := false) (by decide +kernel) (by decide +kernel) (by decide +kernel)).trans ?_
  refine ite_congr rfl (fun _ => ?_) (fun _ => rfl)
  refine (X_iload_n (m := 134) (pc := 20) (n := 1) (by decide +kernel) rfl).trans ?_
  refine (X_iadd (m := 134) (pc := 21)  (by decide +kernel) ).trans ?_
  refine (X_iconst (m := 134) (pc := 22) (n := 0) (by decide +kernel) ).trans ?_
  refine (X_sipush (m := 134) (pc := 23) (n := 9999) (by decide +kernel) ).trans ?_
  refine (X_call_vi (m := 134) (pc := 26) (q := 163) (y := 149) (n := 4) (as := [a_r (r0), a_i (wr ((u (g r0 1) 6) + x1)), a_i (0), a_i (9999)]) (rest := []) (by decide +kernel) (by decide +kernel) (by decide +kernel) (by decide +kernel) rfl rfl (Nat.le_of_ble_eq_true rfl) (Nat.le_of_ble_eq_true rfl) rfl (by rw [show m_maxL 149 = 4 from by decide +kernel]; exact Nat.le_of_ble_eq_true rfl)).trans ?_
  exact ite_congr (by simp [a_rcv, show m_recv 149 = 10 from by decide +kernel]) (fun _ => rfl) (fun _ => rfl)
theorem B_X10_tick_29 {k : Nat → Nat × Nat} {u : Nat → Nat → Int} {g : Nat → Nat → Nat} {t : Nat × Nat × Nat} {r0 : Nat} {x1 : Int} : a_X 134 29 [a_r (r0), a_i (x1)] [] (k, u, g, t) = if (k r0).1 = 10 then if (k r0).1 = 10 then if (k (g r0 3)).1 = 2 then (a_m 11 [a_r (g r0 3), a_r (g r0 1)] (k, u, g, t)).bind (a_back 134 37 3 [a_r (r0), a_i (x1)] []) else none else none else none := by
  refine (X_aload_n (m := 134) (pc := 29) (n := 0) (by decide +kernel) rfl).trans ?_
  refine (X_getR (m := 134) (pc := 30) (n := 29) (c := 10) (q := 3) (fi := true) (by decide +kernel) (by decide +kernel)).trans ?_
  refine ite_congr rfl (fun _ => ?_) (fun _ => rfl)
  refine (X_aload_n (m := 134) (pc := 33) (n := 0) (by decide +kernel) rfl).trans ?_
  refine (X_getR (m := 134) (pc := 34) (n := 19) (c := 10) (q := 1) (fi := true) (by decide +kernel) (by decide +kernel)).trans ?_
  refine ite_congr rfl (fun _ => ?_) (fun _ => rfl)
  refine (X_call_vi (m := 134) (pc := 37) (q := 362) (y := 11) (n := 2) (as := [a_r (g r0 3), a_r (g r0 1)]) (rest := []) (by decide +kernel) (by decide +kernel) (by decide +kernel) (by decide +kernel) rfl rfl (Nat.le_of_ble_eq_true rfl) (Nat.le_of_ble_eq_true rfl) rfl (by rw [show m_maxL 11 = 2 from by decide +kernel]; exact Nat.le_of_ble_eq_true rfl)).trans ?_
  exact ite_congr (by simp [a_rcv, show m_recv 11 = 2 from by decide +kernel]) (fun _ => rfl) (fun _ => rfl)
theorem B_X10_tick_40 {k : Nat → Nat × Nat} {u : Nat → Nat → Int} {g : Nat → Nat → Nat} {t : Nat × Nat × Nat} {r0 : Nat} {x1 : Int} : a_X 134 40 [a_r (r0), a_i (x1)] [] (k, u, g, t) = if (k r0).1 = 10 then if (k (g r0 1)).1 = 5 then (a_m 36 [a_r (g r0 1), a_i (x1)] (k, u, g, t)).bind (a_back 134 45 3 [a_r (r0), a_i (x1)] []) else none else none := by
  refine (X_aload_n (m := 134) (pc := 40) (n := 0) (by decide +kernel) rfl).trans ?_
  refine (X_getR (m := 134) (pc := 41) (n := 19) (c := 10) (q := 1) (fi := true) (by decide +kernel) (by decide +kernel)).trans ?_
  refine ite_congr rfl (fun _ => ?_) (fun _ => rfl)
  refine (X_iload_n (m := 134) (pc := 44) (n := 1) (by decide +kernel) rfl).trans ?_
  refine (X_call_vi (m := 134) (pc := 45) (q := 316) (y := 36) (n := 2) (as := [a_r (g r0 1), a_i (x1)]) (rest := []) (by decide +kernel) (by decide +kernel) (by decide +kernel) (by decide +kernel) rfl rfl (Nat.le_of_ble_eq_true rfl) (Nat.le_of_ble_eq_true rfl) rfl (by rw [show m_maxL 36 = 3 from by decide +kernel]; exact Nat.le_of_ble_eq_true rfl)).trans ?_
  exact ite_congr (by simp [a_rcv, show m_recv 36 = 5 from by decide +kernel]) (fun _ => rfl) (fun _ => rfl)
theorem B_X10_tick_48 {k : Nat → Nat × Nat} {u : Nat → Nat → Int} {g : Nat → Nat → Nat} {t : Nat × Nat × Nat} {r0 : Nat} {x1 : Int} : a_X 134 48 [a_r (r0), a_i (x1)] [] (k, u, g, t) = if (k r0).1 = 10 then if (k (g r0 1)).1 = 5 then (a_m 48 [a_r (g r0 1)] (k, u, g, t)).bind (a_back 134 52 3 [a_r (r0), a_i (x1)] []) else none else none := by
  refine (X_aload_n (m := 134) (pc := 48) (n := 0) (by decide +kernel) rfl).trans ?_
  refine (X_getR (m := 134) (pc := 49) (n := 19) (c := 10) (q := 1) (fi := true) (by decide +kernel) (by decide +kernel)).trans ?_
  refine ite_congr rfl (fun _ => ?_) (fun _ => rfl)
  refine (X_call_vi (m := 134) (pc := 52) (q := 146) (y := 48) (n := 1) (as := [a_r (g r0 1)]) (rest := []) (by decide +kernel) (by decide +kernel) (by decide +kernel) (by decide +kernel) rfl rfl (Nat.le_of_ble_eq_true rfl) (Nat.le_of_ble_eq_true rfl) rfl (by rw [show m_maxL 48 = 3 from by decide +kernel]; exact Nat.le_of_ble_eq_true rfl)).trans ?_
  exact ite_congr (by simp [a_rcv, show m_recv 48 = 5 from by decide +kernel]) (fun _ => rfl) (fun _ => rfl)
theorem B_X10_tick_55 {k : Nat → Nat × Nat} {u : Nat → Nat → Int} {g : Nat → Nat → Nat} {t : Nat × Nat × Nat} {r0 : Nat} {x1 : Int} {y0 : Int} : a_X 134 55 [a_r (r0), a_i (x1)] [a_i (y0)] (k, u, g, t) = some (.inl (some (a_i (y0))), (k, u, g, t)) := by
  exact X_ireturn (m := 134) (pc := 55) (f := 1) (by decide +kernel) (by decide +kernel) rfl
theorem E_X10_addGap {σ : AS} {r0 : Nat} {x1 : Int} {x2 : Int} {x3 : Int} : a_m 135 [a_r (r0), a_i (x1), a_i (x2), a_i (x3)] σ = a_X 135 0 [a_r (r0), a_i (x1), a_i (x2), a_i (x3)] [] σ := a_m_eq (by rw [a_entry, show m_maxL 135 = 4 from by decide +kernel]; rfl)
theorem B_X10_addGap_0 {k : Nat → Nat × Nat} {u : Nat → Nat → Int} {g : Nat → Nat → Nat} {t : Nat × Nat × Nat} {r0 : Nat} {x1 : Int} {x2 : Int} {x3 : Int} : a_X 135 0 [a_r (r0), a_i (x1), a_i (x2), a_i (x3)] [] (k, u, g, t) = if (k r0).1 = 10 then (a_m 144 [a_r (r0)] (k, u, g, t)).bind (a_back 135 1 3 [a_r (r0), a_i (x1), a_i (x2), a_i (x3)] []) else none := by
  refine (X_aload_n (m := 135) (pc := 0) (n := 0) (by decide +kernel) rfl).trans ?_
  refine (X_call_vi (m := 135) (pc := 1) (q := 103) (y := 144) (n := 1) (as := [a_r (r0)]) (rest := []) (by decide +kernel) (by decide +kernel) (by decide +kernel) (by decide +kernel) rfl rfl (Nat.le_of_ble_eq_true rfl) (Nat.le_of_ble_eq_true rfl) rfl (by rw [show m_maxL 144 = 1 from by decide +kernel]; exact Nat.le_of_ble_eq_true rfl)).trans ?_
  exact ite_congr (by simp [a_rcv, show m_recv 144 = 10 from by decide +kernel]) (fun _ => rfl) (fun _ => rfl)
theorem B_X10_addGap_4 {k : Nat → Nat × Nat} {u : Nat → Nat → Int} {g : Nat → Nat → Nat} {t : Nat × Nat × Nat} {r0 : Nat} {x1 : Int} {x2 : Int} {x3 : Int} : a_X 135 4 [a_r (r0), a_i (x1), a_i (x2), a_i (x3)] [] (k, u, g, t) = if (k r0).1 = 10 then (a_m 145 [a_r (r0), a_i (x1)] (k, u, g, t)).bind (a_back 135 6 3 [a_r (r0), a_i (x1), a_i (x2), a_i (x3)] []) else none := by
  refine (X_aload_n (m := 135) (pc := 4) (n := 0) (by decide +kernel) rfl).trans ?_
  refine (X_iload_n (m := 135) (pc := 5) (n := 1) (by decide +kernel) rfl).trans ?_
  refine (X_call_vi (m := 135) (pc := 6) (q := 247) (y := 145) (n := 2) (as := [a_r (r0), a_i (x1)]) (rest := []) (by decide +kernel) (by decide +kernel) (by decide +kernel) (by decide +kernel) rfl rfl (Nat.le_of_ble_eq_true rfl) (Nat.le_of_ble_eq_true rfl) rfl (by rw [show m_maxL 145 = 2 from by decide +kernel]; exact Nat.le_of_ble_eq_true rfl)).trans ?_
  exact ite_congr (by simp [a_rcv, show m_recv 145 = 10 from by decide +kernel]) (fun _ => rfl) (fun _ => rfl)
theorem B_X10_addGap_9 {k : Nat → Nat × Nat} {u : Nat → Nat → Int} {g : Nat → Nat → Nat} {t : Nat × Nat × Nat} {r0 : Nat} {x1 : Int} {x2 : Int} {x3 : Int} : a_X 135 9 [a_r (r0), a_i (x1), a_i (x2), a_i (x3)] [] (k, u, g, t) = if (k r0).1 = 10 then (a_m 149 [a_r (r0), a_i (x2), a_i (0), a_i (9999)] (k, u, g, t)).bind (a_back 135 15 3 [a_r (r0), a_i (x1), a_i (x2), a_i (x3)] []) else none := by
  refine (X_aload_n (m := 135) (pc := 9) (n := 0) (by decide +kernel) rfl).trans ?_
  refine (X_iload_n (m := 135) (pc := 10) (n := 2) (by decide +kernel) rfl).trans ?_
  refine (X_iconst (m := 135) (pc := 11) (n := 0) (by decide +kernel) ).trans ?_
  refine (X_sipush (m := 135) (pc := 12) (n := 9999) (by decide +kernel) ).trans ?_
  refine (X_call_vi (m := 135) (pc := 15) (q := 163) (y := 149) (n := 4) (as := [a_r (r0), a_i (x2), a_i (0), a_i (9999)]) (rest := []) (by decide +kernel) (by decide +kernel) (by decide +kernel) (by decide +kernel) rfl rfl (Nat.le_of_ble_eq_true rfl) (Nat.le_of_ble_eq_true rfl) rfl (by rw [show m_maxL 149 = 4 from by decide +kernel]; exact Nat.le_of_ble_eq_true rfl)).trans ?_
  exact ite_congr (by simp [a_rcv, show m_recv 149 = 10 from by decide +kernel]) (fun _ => rfl) (fun _ => rfl)
theorem B_X10_addGap_18 {k : Nat → Nat × Nat} {u : Nat → Nat → Int} {g : Nat → Nat → Nat} {t : Nat × Nat × Nat} {r0 : Nat} {x1 : Int} {x2 : Int} {x3 : Int} : a_X 135 18 [a_r (r0), a_i (x1), a_i (x2), a_i (x3)] [] (k, u, g, t) = if (k r0).1 = 10 then (a_m 149 [a_r (r0), a_i (x3), a_i (x2), a_i (9999)] (k, u, g, t)).bind (a_back 135 24 3 [a_r (r0), a_i (x1), a_i (x2), a_i (x3)] []) else none := by
  refine (X_aload_n (m := 135) (pc := 18) (n := 0) (by decide +kernel) rfl).trans ?_
  refine (X_iload_n (m := 135) (pc := 19) (n := 3) (by decide +kernel) rfl).trans ?_
  refine (X_iload_n (m := 135) (pc := 20) (n := 2) (by decide +kernel) rfl).trans ?_
  refine (X_sipush (m := 135) (pc := 21) (n := 9999) (by decide +kernel) ).trans ?_
  refine (X_call_vi (m := 135) (pc := 24) (q := 163) (y := 149) (n := 4) (as := [a_r (r0), a_i (x3), a_i (x2), a_i (9999)]) (rest := []) (by decide +kernel) (by decide +kernel) (by decide +kernel) (by decide +kernel) rfl rfl (Nat.le_of_ble_eq_true rfl) (Nat.le_of_ble_eq_true rfl) rfl (by rw [show m_maxL 149 = 4 from by decide +kernel]; exact Nat.le_of_ble_eq_true rfl)).trans ?_
  exact ite_congr (by simp [a_rcv, show m_recv 149 = 10 from by decide +kernel]) (fun _ => rfl) (fun _ => rfl)
theorem B_X10_addGap_27 {k : Nat → Nat × Nat} {u : Nat → Nat → Int} {g : Nat → Nat → Nat} {t : Nat × Nat × Nat} {r0 : Nat} {x1 : Int} {x2 : Int} {x3 : Int} : a_X 135 27 [a_r (r0), a_i (x1), a_i (x2), a_i (x3)] [] (k, u, g, t) = if (k r0).1 = 10 then if (k (g r0 1)).1 = 5 then if 30 ≤ (k (g (g r0 1) 3)).1 ∧ 0 ≤ (x1 : Int) ∧ (x1 : Int) < ((k (g (g r0 1) 3)).2 : Int) then if (k (g (g (g r0 1) 3) (x1 : Int).toNat)).1 = 3 then if (u (g (g (g r0 1) 3) (x1 : Int).toNat) 1 : Int) < (4 : Int) then if (k r0).1 = 10 then if (k r0).1 = 10 then if (k (g r0 3)).1 = 2 then (a_m 11 [a_r (g r0 3), a_r (g r0 1)] (k, u, g, t)).bind (a_back 135 62 3 [a_r (r0), a_i (x1), a_i (x2), a_i (x3)] []) else none else none else none else some (.inr 3, (k, u, g, (t.1, t.2.1 + 1, t.2.2 + 6))) else none else none else none else none := by
  refine (X_aload_n (m := 135) (pc := 27) (n := 0) (by decide +kernel) rfl).trans ?_
  refine (X_getR (m := 135) (pc := 28) (n := 19) (c := 10) (q := 1) (fi := true) (by decide +kernel) (by decide +kernel)).trans ?_
  refine ite_congr rfl (fun _ => ?_) (fun _ => rfl)
  refine (X_getR (m := 135) (pc := 31) (n := 250) (c := 5) (q := 3) (fi := true) (by decide +kernel) (by decide +kernel)).trans ?_
  refine ite_congr rfl (fun _ => ?_) (fun _ => rfl)
  refine (X_iload_n (m := 135) (pc := 34) (n := 1) (by decide +kernel) rfl).trans ?_
  refine (X_aaload (m := 135) (pc := 35)  (by decide +kernel) ).trans ?_
  refine ite_congr rfl (fun _ => ?_) (fun _ => rfl)
  refine (X_getI (m := 135) (pc := 36) (n := 259) (c := 3) (q := 1) (ty := 1) (fi := false) (by decide +kernel) (by decide +kernel) (by decide +kernel)).trans ?_
  refine ite_congr rfl (fun _ => ?_) (fun _ => rfl)
  refine (X_iconst (m := 135) (pc := 39) (n := 4) (by decide +kernel) ).trans ?_
  refine (X_ic_lt (m := 135) (pc := 40) (off := 14) (tg := 54) (by decide +kernel) (by decide +kernel)).trans ?_
  refine ite_congr rfl (fun _ => ?_) (fun _ => ?_)
  · refine (X_aload_n (m := 135) (pc := 54) (n := 0) (by decide +kernel) rfl).trans ?_
    refine (X_getR (m := 135) (pc := 55) (n := 29) (c := 10) (q := 3) (fi := true) (by decide +kernel) (by decide +kernel)).trans ?_
    refine ite_congr rfl (fun _ => ?_) (fun _ => rfl)
    refine (X_aload_n (m := 135) (pc := 58) (n := 0) (by decide +kernel) rfl).trans ?_
    refine (X_getR (m := 135) (pc := 59) (n := 19) (c := 10) (q := 1) (fi := true) (by decide +kernel) (by decide +kernel)).trans ?_
    refine ite_congr rfl (fun _ => ?_) (fun _ => rfl)
    refine (X_call_vi (m := 135) (pc := 62) (q := 362) (y := 11) (n := 2) (as := [a_r (g r0 3), a_r (g r0 1)]) (rest := []) (by decide +kernel) (by decide +kernel) (by decide +kernel) (by decide +kernel) rfl rfl (Nat.le_of_ble_eq_true rfl) (Nat.le_of_ble_eq_true rfl) rfl (by rw [show m_maxL 11 = 2 from by decide +kernel]; exact Nat.le_of_ble_eq_true rfl)).trans ?_
    exact ite_congr (by simp [a_rcv, show m_recv 11 = 2 from by decide +kernel]) (fun _ => rfl) (fun _ => rfl)
  · exact X_throw (m := 135) (pc := 43) (n := 78) (e := 3) (by decide +kernel) (by decide +kernel) (Nat.le_of_ble_eq_true rfl) (by decide +kernel)
theorem B_X10_addGap_65 {k : Nat → Nat × Nat} {u : Nat → Nat → Int} {g : Nat → Nat → Nat} {t : Nat × Nat × Nat} {r0 : Nat} {x1 : Int} {x2 : Int} {x3 : Int} : a_X 135 65 [a_r (r0), a_i (x1), a_i (x2), a_i (x3)] [] (k, u, g, t) = if (k r0).1 = 10 then if (k (g r0 1)).1 = 5 then if 30 ≤ (k (g (g r0 1) 3)).1 ∧ 0 ≤ (x1 : Int) ∧ (x1 : Int) < ((k (g (g r0 1) 3)).2 : Int) then if (k (g (g (g r0 1) 3) (x1 : Int).toNat)).1 = 3 then (a_m 18 [a_r (g (g (g r0 1) 3) (x1 : Int).toNat), a_i (x2), a_i (x3)] (k, u, g, t)).bind (a_back 135 76 3 [a_r (r0), a_i (x1), a_i (x2), a_i (x3)] []) else none else none else none else none := by
  refine (X_aload_n (m := 135) (pc := 65) (n := 0) (by decide +kernel) rfl).trans ?_
  refine (X_getR (m := 135) (pc := 66) (n := 19) (c := 10) (q := 1) (fi := true) (by decide +kernel) (by decide +kernel)).trans ?_
  refine ite_congr rfl (fun _ => ?_) (fun _ => rfl)
  refine (X_getR (m := 135) (pc := 69) (n := 250) (c := 5) (q := 3) (fi := true) (by decide +kernel) (by decide +kernel)).trans ?_
  refine ite_congr rfl (fun _ => ?_) (fun _ => rfl)
  refine (X_iload_n (m := 135) (pc := 72) (n := 1) (by decide +kernel) rfl).trans ?_
  refine (X_aaload (m := 135) (pc := 73)  (by decide +kernel) ).trans ?_
  refine ite_congr rfl (fun _ => ?_) (fun _ => rfl)
  refine (X_iload_n (m := 135) (pc := 74) (n := 2) (by decide +kernel) rfl).trans ?_
  refine (X_iload_n (m := 135) (pc := 75) (n := 3) (by decide +kernel) rfl).trans ?_
  refine (X_call_vi (m := 135) (pc := 76) (q := 386) (y := 18) (n := 3) (as := [a_r (g (g (g r0 1) 3) (x1 : Int).toNat), a_i (x2), a_i (x3)]) (rest := []) (by decide +kernel) (by decide +kernel) (by decide +kernel) (by decide +kernel) rfl rfl (Nat.le_of_ble_eq_true rfl) (Nat.le_of_ble_eq_true rfl) rfl (by rw [show m_maxL 18 = 3 from by decide +kernel]; exact Nat.le_of_ble_eq_true rfl)).trans ?_
  exact ite_congr (by simp [a_rcv, show m_recv 18 = 3 from by decide +kernel]) (fun _ => rfl) (fun _ => rfl)
theorem B_X10_addGap_79 {k : Nat → Nat × Nat} {u : Nat → Nat → Int} {g : Nat → Nat → Nat} {t : Nat × Nat × Nat} {r0 : Nat} {x1 : Int} {x2 : Int} {x3 : Int} : a_X 135 79 [a_r (r0), a_i (x1), a_i (x2), a_i (x3)] [] (k, u, g, t) = if (k r0).1 = 10 then if (k (g r0 1)).1 = 5 then if 30 ≤ (k (g (g r0 1) 3)).1 ∧ 0 ≤ (x1 : Int) ∧ (x1 : Int) < ((k (g (g r0 1) 3)).2 : Int) then if (k (g (g (g r0 1) 3) (x1 : Int).toNat)).1 = 3 then some (.inl (some (a_i (u (g (g (g r0 1) 3) (x1 : Int).toNat) 1))), (k, u, g, t)) else none else none else none else none := by
  refine (X_aload_n (m := 135) (pc := 79) (n := 0) (by decide +kernel) rfl).trans ?_
  refine (X_getR (m := 135) (pc := 80) (n := 19) (c := 10) (q := 1) (fi := true) (by decide +kernel) (by decide +kernel)).trans ?_
  refine ite_congr rfl (fun _ => ?_) (fun _ => rfl)
  refine (X_getR (m := 135) (pc := 83) (n := 250) (c := 5) (q := 3) (fi := true) (by decide +kernel) (by decide +kernel)).trans ?_
  refine ite_congr rfl (fun _ => ?_) (fun _ => rfl)
  refine (X_iload_n (m := 135) (pc := 86) (n := 1) (by decide +kernel) rfl).trans ?_
  refine (X_aaload (m := 135) (pc := 87)  (by decide +kernel) ).trans ?_
  refine ite_congr rfl (fun _ => ?_) (fun _ => rfl)
  refine (X_getI (m := 135) (pc := 88) (n := 259) (c := 3) (q := 1) (ty := 1) (fi := false) (by decide +kernel) (by decide +kernel) (by decide +kernel)).trans ?_
  refine ite_congr rfl (fun _ => ?_) (fun _ => rfl)
  exact X_ireturn (m := 135) (pc := 91) (f := 1) (by decide +kernel) (by decide +kernel) rfl
theorem E_X10_dropGap {σ : AS} {r0 : Nat} {x1 : Int} {x2 : Int} : a_m 136 [a_r (r0), a_i (x1), a_i (x2)] σ = a_X 136 0 [a_r (r0), a_i (x1), a_i (x2)] [] σ := a_m_eq (by rw [a_entry, show m_maxL 136 = 3 from by decide +kernel]; rfl)
theorem B_X10_dropGap_0 {k : Nat → Nat × Nat} {u : Nat → Nat → Int} {g : Nat → Nat → Nat} {t : Nat × Nat × Nat} {r0 : Nat} {x1 : Int} {x2 : Int} : a_X 136 0 [a_r (r0), a_i (x1), a_i (x2)] [] (k, u, g, t) = if (k r0).1 = 10 then (a_m 144 [a_r (r0)] (k, u, g, t)).bind (a_back 136 1 3 [a_r (r0), a_i (x1), a_i (x2)] []) else none := by
  refine (X_aload_n (m := 136) (pc := 0) (n := 0) (by decide +kernel) rfl).trans ?_
  refine (X_call_vi (m := 136) (pc := 1) (q := 103) (y := 144) (n := 1) (as := [a_r (r0)]) (rest := []) (by decide +kernel) (by decide +kernel) (by decide +kernel) (by decide +kernel) rfl rfl (Nat.le_of_ble_eq_true rfl) (Nat.le_of_ble_eq_true rfl) rfl (by rw [show m_maxL 144 = 1 from by decide +kernel]; exact Nat.le_of_ble_eq_true rfl)).trans ?_
  exact ite_congr (by simp [a_rcv, show m_recv 144 = 10 from by decide +kernel]) (fun _ => rfl) (fun _ => rfl)
theorem B_X10_dropGap_4 {k : Nat → Nat × Nat} {u : Nat → Nat → Int} {g : Nat → Nat → Nat} {t : Nat × Nat × Nat} {r0 : Nat} {x1 : Int} {x2 : Int} : a_X 136 4 [a_r (r0), a_i (x1), a_i (x2)] [] (k, u, g, t) = if (k r0).1 = 10 then (a_m 145 [a_r (r0), a_i (x1)] (k, u, g, t)).bind (a_back 136 6 3 [a_r (r0), a_i (x1), a_i (x2)] []) else none := by
  refine (X_aload_n (m := 136) (pc := 4) (n := 0) (by decide +kernel) rfl).trans ?_
  refine (X_iload_n (m := 136) (pc := 5) (n := 1) (by decide +kernel) rfl).trans ?_
  refine (X_call_vi (m := 136) (pc := 6) (q := 247) (y := 145) (n := 2) (as := [a_r (r0), a_i (x1)]) (rest := []) (by decide +kernel) (by decide +kernel) (by decide +kernel) (by decide +kernel) rfl rfl (Nat.le_of_ble_eq_true rfl) (Nat.le_of_ble_eq_true rfl) rfl (by rw [show m_maxL 145 = 2 from by decide +kernel]; exact Nat.le_of_ble_eq_true rfl)).trans ?_
  exact ite_congr (by simp [a_rcv, show m_recv 145 = 10 from by decide +kernel]) (fun _ => rfl) (fun _ => rfl)
theorem B_X10_dropGap_9 {k : Nat → Nat × Nat} {u : Nat → Nat → Int} {g : Nat → Nat → Nat} {t : Nat × Nat × Nat} {r0 : Nat} {x1 : Int} {x2 : Int} : a_X 136 9 [a_r (r0), a_i (x1), a_i (x2)] [] (k, u, g, t) = if (x2 : Int) < 0 then some (.inr 2, (k, u, g, (t.1, t.2.1 + 1, t.2.2 + 6))) else if (k r0).1 = 10 then if (k (g r0 1)).1 = 5 then if 30 ≤ (k (g (g r0 1) 3)).1 ∧ 0 ≤ (x1 : Int) ∧ (x1 : Int) < ((k (g (g r0 1) 3)).2 : Int) then if (k (g (g (g r0 1) 3) (x1 : Int).toNat)).1 = 3 then if (x2 : Int) < (u (g (g (g r0 1) 3) (x1 : Int).toNat) 1 : Int) then if (k r0).1 = 10 then if (k r0).1 = 10 then if (k (g r0 3)).1 = 2 then (a_m 11 [a_r (g r0 3), a_r (g r0 1)] (k, u, g, t)).bind (a_back 136 48 3 [a_r (r0), a_i (x1), a_i (x2)] []) else none else none else none else some (.inr 2, (k, u, g, (t.1, t.2.1 + 1, t.2.2 + 6))) else none else none else none else none := by
  refine (X_iload_n (m := 136) (pc := 9) (n := 2) (by decide +kernel) rfl).trans ?_
  refine (X_if_lt (m := 136) (pc := 10) (off := 19) (tg := 29) (by decide +kernel) (by decide +kernel)).trans ?_
  refine ite_congr rfl (fun _ => ?_) (fun _ => ?_)
  · exact X_throw (m := 136) (pc := 29) (n := 67) (e := 2) (by decide +kernel) (by decide +kernel) (Nat.le_of_ble_eq_true rfl) (by decide +kernel)
  · refine (X_iload_n (m := 136) (pc := 13) (n := 2) (by decide +kernel) rfl).trans ?_
    refine (X_aload_n (m := 136) (pc := 14) (n := 0) (by decide +kernel) rfl).trans ?_
    refine (X_getR (m := 136) (pc := 15) (n := 19) (c := 10) (q := 1) (fi := true) (by decide +kernel) (by decide +kernel)).trans ?_
    refine ite_congr rfl (fun _ => ?_) (fun _ => rfl)
    refine (X_getR (m := 136) (pc := 18) (n := 250) (c := 5) (q := 3) (fi := true) (by decide +kernel) (by decide +kernel)).trans ?_
    refine ite_congr rfl (fun _ => ?_) (fun _ => rfl)
    refine (X_iload_n (m := 136) (pc := 21) (n := 1) (by decide +kernel) rfl).trans ?_
    refine (X_aaload (m := 136) (pc := 22)  (by decide +kernel) ).trans ?_
    refine ite_congr rfl (fun _ => ?_) (fun _ => rfl)
    refine (X_getI (m := 136) (pc := 23) (n := 259) (c := 3) (q := 1) (ty := 1) (fi := false) (by decide +kernel) (by decide +kernel) (by decide +kernel)).trans ?_
    refine ite_congr rfl (fun _ => ?_) (fun _ => rfl)
    refine (X_ic_lt (m := 136) (pc := 26) (off := 14) (tg := 40) (by decide +kernel) (by decide +kernel)).trans ?_
    refine ite_congr rfl (fun _ => ?_) (fun _ => ?_)
    · refine (X_aload_n (m := 136) (pc := 40) (n := 0) (by decide +kernel) rfl).trans ?_
      refine (X_getR (m := 136) (pc := 41) (n := 29) (c := 10) (q := 3) (fi := true) (by decide +kernel) (by decide +kernel)).trans ?_
      refine ite_congr rfl (fun _ => ?_) (fun _ => rfl)
      refine (X_aload_n (m := 136) (pc := 44) (n := 0) (by decide +kernel) rfl).trans ?_
      refine (X_getR (m := 136) (pc := 45) (n := 19) (c := 10) (q := 1) (fi := true) (by decide +kernel) (by decide +kernel)).trans ?_
      refine ite_congr rfl (fun _ => ?_) (fun _ => rfl)
      refine (X_call_vi (m := 136) (pc := 48) (q := 362) (y := 11) (n := 2) (as := [a_r (g r0 3), a_r (g r0 1)]) (rest := []) (by decide +kernel) (by decide +kernel) (by decide +kernel) (by decide +kernel) rfl rfl (Nat.le_of_ble_eq_true rfl) (Nat.le_of_ble_eq_true rfl) rfl (by rw [show m_maxL 11 = 2 from by decide +kernel]; exact Nat.le_of_ble_eq_true rfl)).trans ?_
      exact ite_congr (by simp [a_rcv, show m_recv 11 = 2 from by decide +kernel]) (fun _ => rfl) (fun _ => rfl)
    · exact X_throw (m := 136) (pc := 29) (n := 67) (e := 2) (by decide +kernel) (by decide +kernel) (Nat.le_of_ble_eq_true rfl) (by decide +kernel)
theorem B_X10_dropGap_51 {k : Nat → Nat × Nat} {u : Nat → Nat → Int} {g : Nat → Nat → Nat} {t : Nat × Nat × Nat} {r0 : Nat} {x1 : Int} {x2 : Int} : a_X 136 51 [a_r (r0), a_i (x1), a_i (x2)] [] (k, u, g, t) = if (k r0).1 = 10 then if (k (g r0 1)).1 = 5 then if 30 ≤ (k (g (g r0 1) 3)).1 ∧ 0 ≤ (x1 : Int) ∧ (x1 : Int) < ((k (g (g r0 1) 3)).2 : Int) then if (k (g (g (g r0 1) 3) (x1 : Int).toNat)).1 = 3 then (a_m 19 [a_r (g (g (g r0 1) 3) (x1 : Int).toNat), a_i (x2)] (k, u, g, t)).bind (a_back 136 61 3 [a_r (r0), a_i (x1), a_i (x2)] []) else none else none else none else none := by
  refine (X_aload_n (m := 136) (pc := 51) (n := 0) (by decide +kernel) rfl).trans ?_
  refine (X_getR (m := 136) (pc := 52) (n := 19) (c := 10) (q := 1) (fi := true) (by decide +kernel) (by decide +kernel)).trans ?_
  refine ite_congr rfl (fun _ => ?_) (fun _ => rfl)
  refine (X_getR (m := 136) (pc := 55) (n := 250) (c := 5) (q := 3) (fi := true) (by decide +kernel) (by decide +kernel)).trans ?_
  refine ite_congr rfl (fun _ => ?_) (fun _ => rfl)
  refine (X_iload_n (m := 136) (pc := 58) (n := 1) (by decide +kernel) rfl).trans ?_
  refine (X_aaload (m := 136) (pc := 59)  (by decide +kernel) ).trans ?_
  refine ite_congr rfl (fun _ => ?_) (fun _ => rfl)
  refine (X_iload_n (m := 136) (pc := 60) (n := 2) (by decide +kernel) rfl).trans ?_
  refine (X_call_vi (m := 136) (pc := 61) (q := 391) (y := 19) (n := 2) (as := [a_r (g (g (g r0 1) 3) (x1 : Int).toNat), a_i (x2)]) (rest := []) (by decide +kernel) (by decide +kernel) (by decide +kernel) (by decide +kernel) rfl rfl (Nat.le_of_ble_eq_true rfl) (Nat.le_of_ble_eq_true rfl) rfl (by rw [show m_maxL 19 = 3 from by decide +kernel]; exact Nat.le_of_ble_eq_true rfl)).trans ?_
  exact ite_congr (by simp [a_rcv, show m_recv 19 = 3 from by decide +kernel]) (fun _ => rfl) (fun _ => rfl)
theorem B_X10_dropGap_64 {k : Nat → Nat × Nat} {u : Nat → Nat → Int} {g : Nat → Nat → Nat} {t : Nat × Nat × Nat} {r0 : Nat} {x1 : Int} {x2 : Int} : a_X 136 64 [a_r (r0), a_i (x1), a_i (x2)] [] (k, u, g, t) = if (k r0).1 = 10 then if (k (g r0 1)).1 = 5 then if 30 ≤ (k (g (g r0 1) 3)).1 ∧ 0 ≤ (x1 : Int) ∧ (x1 : Int) < ((k (g (g r0 1) 3)).2 : Int) then if (k (g (g (g r0 1) 3) (x1 : Int).toNat)).1 = 3 then some (.inl (some (a_i (u (g (g (g r0 1) 3) (x1 : Int).toNat) 1))), (k, u, g, t)) else none else none else none else none := by
  refine (X_aload_n (m := 136) (pc := 64) (n := 0) (by decide +kernel) rfl).trans ?_
  refine (X_getR (m := 136) (pc := 65) (n := 19) (c := 10) (q := 1) (fi := true) (by decide +kernel) (by decide +kernel)).trans ?_
  refine ite_congr rfl (fun _ => ?_) (fun _ => rfl)
  refine (X_getR (m := 136) (pc := 68) (n := 250) (c := 5) (q := 3) (fi := true) (by decide +kernel) (by decide +kernel)).trans ?_
  refine ite_congr rfl (fun _ => ?_) (fun _ => rfl)
  refine (X_iload_n (m := 136) (pc := 71) (n := 1) (by decide +kernel) rfl).trans ?_
  refine (X_aaload (m := 136) (pc := 72)  (by decide +kernel) ).trans ?_
  refine ite_congr rfl (fun _ => ?_) (fun _ => rfl)
  refine (X_getI (m := 136) (pc := 73) (n := 259) (c := 3) (q := 1) (ty := 1) (fi := false) (by decide +kernel) (by decide +kernel) (by decide +kernel)).trans ?_
  refine ite_congr rfl (fun _ => ?_) (fun _ => rfl)
  exact X_ireturn (m := 136) (pc := 76) (f := 1) (by decide +kernel) (by decide +kernel) rfl
theorem E_X10_setDelay {σ : AS} {r0 : Nat} {x1 : Int} {x2 : Int} : a_m 137 [a_r (r0), a_i (x1), a_i (x2)] σ = a_X 137 0 [a_r (r0), a_i (x1), a_i (x2), a_x false] [] σ := a_m_eq (by rw [a_entry, show m_maxL 137 = 4 from by decide +kernel]; rfl)
theorem B_X10_setDelay_0 {k : Nat → Nat × Nat} {u : Nat → Nat → Int} {g : Nat → Nat → Nat} {t : Nat × Nat × Nat} {r0 : Nat} {x1 : Int} {x2 : Int} {v3 : AV} : a_X 137 0 [a_r (r0), a_i (x1), a_i (x2), v3] [] (k, u, g, t) = if (k r0).1 = 10 then (a_m 144 [a_r (r0)] (k, u, g, t)).bind (a_back 137 1 3 [a_r (r0), a_i (x1), a_i (x2), v3] []) else none := by
  refine (X_aload_n (m := 137) (pc := 0) (n := 0) (by decide +kernel) rfl).trans ?_
  refine (X_call_vi (m := 137) (pc := 1) (q := 103) (y := 144) (n := 1) (as := [a_r (r0)]) (rest := []) (by decide +kernel) (by decide +kernel) (by decide +kernel) (by decide +kernel) rfl rfl (Nat.le_of_ble_eq_true rfl) (Nat.le_of_ble_eq_true rfl) rfl (by rw [show m_maxL 144 = 1 from by decide +kernel]; exact Nat.le_of_ble_eq_true rfl)).trans ?_
  exact ite_congr (by simp [a_rcv, show m_recv 144 = 10 from by decide +kernel]) (fun _ => rfl) (fun _ => rfl)
theorem B_X10_setDelay_4 {k : Nat → Nat × Nat} {u : Nat → Nat → Int} {g : Nat → Nat → Nat} {t : Nat × Nat × Nat} {r0 : Nat} {x1 : Int} {x2 : Int} {v3 : AV} : a_X 137 4 [a_r (r0), a_i (x1), a_i (x2), v3] [] (k, u, g, t) = if (k r0).1 = 10 then (a_m 145 [a_r (r0), a_i (x1)] (k, u, g, t)).bind (a_back 137 6 3 [a_r (r0), a_i (x1), a_i (x2), v3] []) else none := by
  refine (X_aload_n (m := 137) (pc := 4) (n := 0) (by decide +kernel) rfl).trans ?_
  refine (X_iload_n (m := 137) (pc := 5) (n := 1) (by decide +kernel) rfl).trans ?_
  refine (X_call_vi (m := 137) (pc := 6) (q := 247) (y := 145) (n := 2) (as := [a_r (r0), a_i (x1)]) (rest := []) (by decide +kernel) (by decide +kernel) (by decide +kernel) (by decide +kernel) rfl rfl (Nat.le_of_ble_eq_true rfl) (Nat.le_of_ble_eq_true rfl) rfl (by rw [show m_maxL 145 = 2 from by decide +kernel]; exact Nat.le_of_ble_eq_true rfl)).trans ?_
  exact ite_congr (by simp [a_rcv, show m_recv 145 = 10 from by decide +kernel]) (fun _ => rfl) (fun _ => rfl)
theorem B_X10_setDelay_9 {k : Nat → Nat × Nat} {u : Nat → Nat → Int} {g : Nat → Nat → Nat} {t : Nat × Nat × Nat} {r0 : Nat} {x1 : Int} {x2 : Int} {v3 : AV} : a_X 137 9 [a_r (r0), a_i (x1), a_i (x2), v3] [] (k, u, g, t) = if (k r0).1 = 10 then (a_m 149 [a_r (r0), a_i (x2), a_i (0), a_i (9)] (k, u, g, t)).bind (a_back 137 14 3 [a_r (r0), a_i (x1), a_i (x2), v3] []) else none := by
  refine (X_aload_n (m := 137) (pc := 9) (n := 0) (by decide +kernel) rfl).trans ?_
  refine (X_iload_n (m := 137) (pc := 10) (n := 2) (by decide +kernel) rfl).trans ?_
  refine (X_iconst (m := 137) (pc := 11) (n := 0) (by decide +kernel) ).trans ?_
  refine (X_bipush (m := 137) (pc := 12) (n := 9) (by decide +kernel) ).trans ?_
  refine (X_call_vi (m := 137) (pc := 14) (q := 163) (y := 149) (n := 4) (as := [a_r (r0), a_i (x2), a_i (0), a_i (9)]) (rest := []) (by decide +kernel) (by decide +kernel) (by decide +kernel) (by decide +kernel) rfl rfl (Nat.le_of_ble_eq_true rfl) (Nat.le_of_ble_eq_true rfl) rfl (by rw [show m_maxL 149 = 4 from by decide +kernel]; exact Nat.le_of_ble_eq_true rfl)).trans ?_
  exact ite_congr (by simp [a_rcv, show m_recv 149 = 10 from by decide +kernel]) (fun _ => rfl) (fun _ => rfl)
theorem B_X10_setDelay_17 {k : Nat → Nat × Nat} {u : Nat → Nat → Int} {g : Nat → Nat → Nat} {t : Nat × Nat × Nat} {r0 : Nat} {x1 : Int} {x2 : Int} {v3 : AV} : a_X 137 17 [a_r (r0), a_i (x1), a_i (x2), v3] [] (k, u, g, t) = if (k r0).1 = 10 then if (k r0).1 = 10 then if (k (g r0 3)).1 = 2 then (a_m 11 [a_r (g r0 3), a_r (g r0 1)] (k, u, g, t)).bind (a_back 137 25 3 [a_r (r0), a_i (x1), a_i (x2), v3] []) else none else none else none := by
  refine (X_aload_n (m := 137) (pc := 17) (n := 0) (by decide +kernel) rfl).trans ?_
  refine (X_getR (m := 137) (pc := 18) (n := 29) (c := 10) (q := 3) (fi := true) (by decide +kernel) (by decide +kernel)).trans ?_
  refine ite_congr rfl (fun _ => ?_) (fun _ => rfl)
  refine (X_aload_n (m := 137) (pc := 21) (n := 0) (by decide +kernel) rfl).trans ?_
  refine (X_getR (m := 137) (pc := 22) (n := 19) (c := 10) (q := 1) (fi := true) (by decide +kernel) (by decide +kernel)).trans ?_
  refine ite_congr rfl (fun _ => ?_) (fun _ => rfl)
  refine (X_call_vi (m := 137) (pc := 25) (q := 362) (y := 11) (n := 2) (as := [a_r (g r0 3), a_r (g r0 1)]) (rest := []) (by decide +kernel) (by decide +kernel) (by decide +kernel) (by decide +kernel) rfl rfl (Nat.le_of_ble_eq_true rfl) (Nat.le_of_ble_eq_true rfl) rfl (by rw [show m_maxL 11 = 2 from by decide +kernel]; exact Nat.le_of_ble_eq_true rfl)).trans ?_
  exact ite_congr (by simp [a_rcv, show m_recv 11 = 2 from by decide +kernel]) (fun _ => rfl) (fun _ => rfl)
theorem B_X10_setDelay_28 {k : Nat → Nat × Nat} {u : Nat → Nat → Int} {g : Nat → Nat → Nat} {t : Nat × Nat × Nat} {r0 : Nat} {x1 : Int} {x2 : Int} {v3 : AV} : a_X 137 28 [a_r (r0), a_i (x1), a_i (x2), v3] [] (k, u, g, t) = if (k r0).1 = 10 then if (k (g r0 1)).1 = 5 then if 30 ≤ (k (g (g r0 1) 3)).1 ∧ 0 ≤ (x1 : Int) ∧ (x1 : Int) < ((k (g (g r0 1) 3)).2 : Int) then if (k (g (g (g r0 1) 3) (x1 : Int).toNat)).1 = 3 then if (k r0).1 = 10 then if (k (g r0 1)).1 = 5 then if 30 ≤ (k (g (g r0 1) 3)).1 ∧ 0 ≤ (x1 : Int) ∧ (x1 : Int) < ((k (g (g r0 1) 3)).2 : Int) then if (k (g (g (g r0 1) 3) (x1 : Int).toNat)).1 = 3 then some (.inl (some (a_i (u (g (g (g r0 1) 3) (x1 : Int).toNat) 0))), (k, (upm u (g (g (g r0 1) 3) (x1 : Int).toNat) 0 x2), g, t)) else none else none else none else none else none else none else none else none := by
  refine (X_aload_n (m := 137) (pc := 28) (n := 0) (by decide +kernel) rfl).trans ?_
  refine (X_getR (m := 137) (pc := 29) (n := 19) (c := 10) (q := 1) (fi := true) (by decide +kernel) (by decide +kernel)).trans ?_
  refine ite_congr rfl (fun _ => ?_) (fun _ => rfl)
  refine (X_getR (m := 137) (pc := 32) (n := 250) (c := 5) (q := 3) (fi := true) (by decide +kernel) (by decide +kernel)).trans ?_
  refine ite_congr rfl (fun _ => ?_) (fun _ => rfl)
  refine (X_iload_n (m := 137) (pc := 35) (n := 1) (by decide +kernel) rfl).trans ?_
  refine (X_aaload (m := 137) (pc := 36)  (by decide +kernel) ).trans ?_
  refine ite_congr rfl (fun _ => ?_) (fun _ => rfl)
  refine (X_getI (m := 137) (pc := 37) (n := 254) (c := 3) (q := 0) (ty := 1) (fi := false) (by decide +kernel) (by decide +kernel) (by decide +kernel)).trans ?_
  refine ite_congr rfl (fun _ => ?_) (fun _ => rfl)
  refine (X_istore_n (m := 137) (pc := 40) (n := 3) (by decide +kernel) rfl (Nat.le_of_ble_eq_true rfl) rfl).trans ?_
  refine (X_aload_n (m := 137) (pc := 41) (n := 0) (by decide +kernel) rfl).trans ?_
  refine (X_getR (m := 137) (pc := 42) (n := 19) (c := 10) (q := 1) (fi := true) (by decide +kernel) (by decide +kernel)).trans ?_
  refine ite_congr rfl (fun _ => ?_) (fun _ => rfl)
  refine (X_getR (m := 137) (pc := 45) (n := 250) (c := 5) (q := 3) (fi := true) (by decide +kernel) (by decide +kernel)).trans ?_
  refine ite_congr rfl (fun _ => ?_) (fun _ => rfl)
  refine (X_iload_n (m := 137) (pc := 48) (n := 1) (by decide +kernel) rfl).trans ?_
  refine (X_aaload (m := 137) (pc := 49)  (by decide +kernel) ).trans ?_
  refine ite_congr rfl (fun _ => ?_) (fun _ => rfl)
  refine (X_iload_n (m := 137) (pc := 50) (n := 2) (by decide +kernel) rfl).trans ?_
  refine (X_putI (m := 137) (pc := 51) (n := 254) (c := 3) (q := 0) (fi := false) (by decide +kernel) (by decide +kernel) (fun h => by cases h) (by decide +kernel)).trans ?_
  refine ite_congr rfl (fun _ => ?_) (fun _ => rfl)
  refine (X_iload_n (m := 137) (pc := 54) (n := 3) (by decide +kernel) rfl).trans ?_
  exact X_ireturn (m := 137) (pc := 55) (f := 1) (by decide +kernel) (by decide +kernel) rfl
theorem E_X10_setPeriod {σ : AS} {r0 : Nat} {x1 : Int} : a_m 138 [a_r (r0), a_i (x1)] σ = a_X 138 0 [a_r (r0), a_i (x1), a_x false] [] σ := a_m_eq (by rw [a_entry, show m_maxL 138 = 3 from by decide +kernel]; rfl)
theorem B_X10_setPeriod_0 {k : Nat → Nat × Nat} {u : Nat → Nat → Int} {g : Nat → Nat → Nat} {t : Nat × Nat × Nat} {r0 : Nat} {x1 : Int} {v2 : AV} : a_X 138 0 [a_r (r0), a_i (x1), v2] [] (k, u, g, t) = if (k r0).1 = 10 then (a_m 144 [a_r (r0)] (k, u, g, t)).bind (a_back 138 1 3 [a_r (r0), a_i (x1), v2] []) else none := by
  refine (X_aload_n (m := 138) (pc := 0) (n := 0) (by decide +kernel) rfl).trans ?_
  refine (X_call_vi (m := 138) (pc := 1) (q := 103) (y := 144) (n := 1) (as := [a_r (r0)]) (rest := []) (by decide +kernel) (by decide +kernel) (by decide +kernel) (by decide +kernel) rfl rfl (Nat.le_of_ble_eq_true rfl) (Nat.le_of_ble_eq_true rfl) rfl (by rw [show m_maxL 144 = 1 from by decide +kernel]; exact Nat.le_of_ble_eq_true rfl)).trans ?_
  exact ite_congr (by simp [a_rcv, show m_recv 144 = 10 from by decide +kernel]) (fun _ => rfl) (fun _ => rfl)
theorem B_X10_setPeriod_4 {k : Nat → Nat × Nat} {u : Nat → Nat → Int} {g : Nat → Nat → Nat} {t : Nat × Nat × Nat} {r0 : Nat} {x1 : Int} {v2 : AV} : a_X 138 4 [a_r (r0), a_i (x1), v2] [] (k, u, g, t) = if (k r0).1 = 10 then (a_m 149 [a_r (r0), a_i (x1), a_i (0), a_i (99)] (k, u, g, t)).bind (a_back 138 9 3 [a_r (r0), a_i (x1), v2] []) else none := by
  refine (X_aload_n (m := 138) (pc := 4) (n := 0) (by decide +kernel) rfl).trans ?_
  refine (X_iload_n (m := 138) (pc := 5) (n := 1) (by decide +kernel) rfl).trans ?_
  refine (X_iconst (m := 138) (pc := 6) (n := 0) (by decide +kernel) ).trans ?_
  refine (X_bipush (m := 138) (pc := 7) (n := 99) (by decide +kernel) ).trans ?_
  refine (X_call_vi (m := 138) (pc := 9) (q := 163) (y := 149) (n := 4) (as := [a_r (r0), a_i (x1), a_i (0), a_i (99)]) (rest := []) (by decide +kernel) (by decide +kernel) (by decide +kernel) (by decide +kernel) rfl rfl (Nat.le_of_ble_eq_true rfl) (Nat.le_of_ble_eq_true rfl) rfl (by rw [show m_maxL 149 = 4 from by decide +kernel]; exact Nat.le_of_ble_eq_true rfl)).trans ?_
  exact ite_congr (by simp [a_rcv, show m_recv 149 = 10 from by decide +kernel]) (fun _ => rfl) (fun _ => rfl)
theorem B_X10_setPeriod_12 {k : Nat → Nat × Nat} {u : Nat → Nat → Int} {g : Nat → Nat → Nat} {t : Nat × Nat × Nat} {r0 : Nat} {x1 : Int} {v2 : AV} : a_X 138 12 [a_r (r0), a_i (x1), v2] [] (k, u, g, t) = if (k r0).1 = 10 then if (k r0).1 = 10 then if (k (g r0 3)).1 = 2 then (a_m 11 [a_r (g r0 3), a_r (g r0 1)] (k, u, g, t)).bind (a_back 138 20 3 [a_r (r0), a_i (x1), v2] []) else none else none else none := by
  refine (X_aload_n (m := 138) (pc := 12) (n := 0) (by decide +kernel) rfl).trans ?_
  refine (X_getR (m := 138) (pc := 13) (n := 29) (c := 10) (q := 3) (fi := true) (by decide +kernel) (by decide +kernel)).trans ?_
  refine ite_congr rfl (fun _ => ?_) (fun _ => rfl)
  refine (X_aload_n (m := 138) (pc := 16) (n := 0) (by decide +kernel) rfl).trans ?_
  refine (X_getR (m := 138) (pc := 17) (n := 19) (c := 10) (q := 1) (fi := true) (by decide +kernel) (by decide +kernel)).trans ?_
  refine ite_congr rfl (fun _ => ?_) (fun _ => rfl)
  refine (X_call_vi (m := 138) (pc := 20) (q := 362) (y := 11) (n := 2) (as := [a_r (g r0 3), a_r (g r0 1)]) (rest := []) (by decide +kernel) (by decide +kernel) (by decide +kernel) (by decide +kernel) rfl rfl (Nat.le_of_ble_eq_true rfl) (Nat.le_of_ble_eq_true rfl) rfl (by rw [show m_maxL 11 = 2 from by decide +kernel]; exact Nat.le_of_ble_eq_true rfl)).trans ?_
  exact ite_congr (by simp [a_rcv, show m_recv 11 = 2 from by decide +kernel]) (fun _ => rfl) (fun _ => rfl)
theorem B_X10_setPeriod_23 {k : Nat → Nat × Nat} {u : Nat → Nat → Int} {g : Nat → Nat → Nat} {t : Nat × Nat × Nat} {r0 : Nat} {x1 : Int} {v2 : AV} : a_X 138 23 [a_r (r0), a_i (x1), v2] [] (k, u, g, t) = if (k r0).1 = 10 then if (k (g r0 1)).1 = 5 then if (k r0).1 = 10 then if (k (g r0 1)).1 = 5 then some (.inl (some (a_i (u (g r0 1) 5))), (k, (upm u (g r0 1) 5 x1), g, t)) else none else none else none else none := by
  refine (X_aload_n (m := 138) (pc := 23) (n := 0) (by decide +kernel) rfl).trans ?_
  refine (X_getR (m := 138) (pc := 24) (n := 19) (c := 10) (q := 1) (fi := true) (by decide +kernel) (by decide +kernel)).trans ?_
  refine ite_congr rfl (fun _ => ?_) (fun _ => rfl)
  refine (X_getI (m := 138) (pc := 27) (n := 120) (c := 5) (q := 5) (ty := 1) (fi := false) (by decide +kernel) (by decide +kernel) (by decide +kernel)).trans ?_
  refine ite_congr rfl (fun _ => ?_) (fun _ => rfl)
  refine (X_istore_n (m := 138) (pc := 30) (n := 2) (by decide +kernel) rfl (Nat.le_of_ble_eq_true rfl) rfl).trans ?_
  refine (X_aload_n (m := 138) (pc := 31) (n := 0) (by decide +kernel) rfl).trans ?_
  refine (X_getR (m := 138) (pc := 32) (n := 19) (c := 10) (q := 1) (fi := true) (by decide +kernel) (by decide +kernel)).trans ?_
  refine ite_congr rfl (fun _ => ?_) (fun _ => rfl)
  refine (X_iload_n (m := 138) (pc := 35) (n := 1) (by decide +kernel) rfl).trans ?_
  refine (X_putI (m := 138) (pc := 36) (n := 120) (c := 5) (q := 5) (fi := false) (by decide +kernel) (by decide +kernel) (fun h => by cases h) (by decide +kernel)).trans ?_
  refine ite_congr rfl (fun _ => ?_) (fun _ => rfl)
  refine (X_iload_n (m := 138) (pc := 39) (n := 2) (by decide +kernel) rfl).trans ?_
  exact X_ireturn (m := 138) (pc := 40) (f := 1) (by decide +kernel) (by decide +kernel) rfl
theorem E_X10_fetch {σ : AS} {r0 : Nat} {x1 : Int} : a_m 139 [a_r (r0), a_i (x1)] σ = a_X 139 0 [a_r (r0), a_i (x1), a_x false] [] σ := a_m_eq (by rw [a_entry, show m_maxL 139 = 3 from by decide +kernel]; rfl)
theorem B_X10_fetch_0 {k : Nat → Nat × Nat} {u : Nat → Nat → Int} {g : Nat → Nat → Nat} {t : Nat × Nat × Nat} {r0 : Nat} {x1 : Int} {v2 : AV} : a_X 139 0 [a_r (r0), a_i (x1), v2] [] (k, u, g, t) = if (k r0).1 = 10 then (a_m 144 [a_r (r0)] (k, u, g, t)).bind (a_back 139 1 3 [a_r (r0), a_i (x1), v2] []) else none := by
  refine (X_aload_n (m := 139) (pc := 0) (n := 0) (by decide +kernel) rfl).trans ?_
  refine (X_call_vi (m := 139) (pc := 1) (q := 103) (y := 144) (n := 1) (as := [a_r (r0)]) (rest := []) (by decide +kernel) (by decide +kernel) (by decide +kernel) (by decide +kernel) rfl rfl (Nat.le_of_ble_eq_true rfl) (Nat.le_of_ble_eq_true rfl) rfl (by rw [show m_maxL 144 = 1 from by decide +kernel]; exact Nat.le_of_ble_eq_true rfl)).trans ?_
  exact ite_congr (by simp [a_rcv, show m_recv 144 = 10 from by decide +kernel]) (fun _ => rfl) (fun _ => rfl)
theorem B_X10_fetch_4 {k : Nat → Nat × Nat} {u : Nat → Nat → Int} {g : Nat → Nat → Nat} {t : Nat × Nat × Nat} {r0 : Nat} {x1 : Int} {v2 : AV} : a_X 139 4 [a_r (r0), a_i (x1), v2] [] (k, u, g, t) = if (k r0).1 = 10 then (a_m 145 [a_r (r0), a_i (x1)] (k, u, g, t)).bind (a_back 139 6 3 [a_r (r0), a_i (x1), v2] []) else none := by
  refine (X_aload_n (m := 139) (pc := 4) (n := 0) (by decide +kernel) rfl).trans ?_
  refine (X_iload_n (m := 139) (pc := 5) (n := 1) (by decide +kernel) rfl).trans ?_
  refine (X_call_vi (m := 139) (pc := 6) (q := 247) (y := 145) (n := 2) (as := [a_r (r0), a_i (x1)]) (rest := []) (by decide +kernel) (by decide +kernel) (by decide +kernel) (by decide +kernel) rfl rfl (Nat.le_of_ble_eq_true rfl) (Nat.le_of_ble_eq_true rfl) rfl (by rw [show m_maxL 145 = 2 from by decide +kernel]; exact Nat.le_of_ble_eq_true rfl)).trans ?_
  exact ite_congr (by simp [a_rcv, show m_recv 145 = 10 from by decide +kernel]) (fun _ => rfl) (fun _ => rfl)
theorem B_X10_fetch_9 {k : Nat → Nat × Nat} {u : Nat → Nat → Int} {g : Nat → Nat → Nat} {t : Nat × Nat × Nat} {r0 : Nat} {x1 : Int} {v2 : AV} : a_X 139 9 [a_r (r0), a_i (x1), v2] [] (k, u, g, t) = if (k r0).1 = 10 then if (k r0).1 = 10 then if (k (g r0 3)).1 = 2 then (a_m 11 [a_r (g r0 3), a_r (g r0 1)] (k, u, g, t)).bind (a_back 139 17 3 [a_r (r0), a_i (x1), v2] []) else none else none else none := by
  refine (X_aload_n (m := 139) (pc := 9) (n := 0) (by decide +kernel) rfl).trans ?_
  refine (X_getR (m := 139) (pc := 10) (n := 29) (c := 10) (q := 3) (fi := true) (by decide +kernel) (by decide +kernel)).trans ?_
  refine ite_congr rfl (fun _ => ?_) (fun _ => rfl)
  refine (X_aload_n (m := 139) (pc := 13) (n := 0) (by decide +kernel) rfl).trans ?_
  refine (X_getR (m := 139) (pc := 14) (n := 19) (c := 10) (q := 1) (fi := true) (by decide +kernel) (by decide +kernel)).trans ?_
  refine ite_congr rfl (fun _ => ?_) (fun _ => rfl)
  refine (X_call_vi (m := 139) (pc := 17) (q := 362) (y := 11) (n := 2) (as := [a_r (g r0 3), a_r (g r0 1)]) (rest := []) (by decide +kernel) (by decide +kernel) (by decide +kernel) (by decide +kernel) rfl rfl (Nat.le_of_ble_eq_true rfl) (Nat.le_of_ble_eq_true rfl) rfl (by rw [show m_maxL 11 = 2 from by decide +kernel]; exact Nat.le_of_ble_eq_true rfl)).trans ?_
  exact ite_congr (by simp [a_rcv, show m_recv 11 = 2 from by decide +kernel]) (fun _ => rfl) (fun _ => rfl)
theorem B_X10_fetch_20 {k : Nat → Nat × Nat} {u : Nat → Nat → Int} {g : Nat → Nat → Nat} {t : Nat × Nat × Nat} {r0 : Nat} {x1 : Int} {v2 : AV} : a_X 139 20 [a_r (r0), a_i (x1), v2] [] (k, u, g, t) = if (k r0).1 = 10 then if (k (g r0 1)).1 = 5 then (a_m 45 [a_r (g r0 1), a_i (x1)] (k, u, g, t)).bind (a_back 139 25 3 [a_r (r0), a_i (x1), v2] []) else none else none := by
  refine (X_aload_n (m := 139) (pc := 20) (n := 0) (by decide +kernel) rfl).trans ?_
  refine (X_getR (m := 139) (pc := 21) (n := 19) (c := 10) (q := 1) (fi := true) (by decide +kernel) (by decide +kernel)).trans ?_
  refine ite_congr rfl (fun _ => ?_) (fun _ => rfl)
  refine (X_iload_n (m := 139) (pc := 24) (n := 1) (by decide +kernel) rfl).trans ?_
  refine (X_call_vi (m := 139) (pc := 25) (q := 284) (y := 45) (n := 2) (as := [a_r (g r0 1), a_i (x1)]) (rest := []) (by decide +kernel) (by decide +kernel) (by decide +kernel) (by decide +kernel) rfl rfl (Nat.le_of_ble_eq_true rfl) (Nat.le_of_ble_eq_true rfl) rfl (by rw [show m_maxL 45 = 2 from by decide +kernel]; exact Nat.le_of_ble_eq_true rfl)).trans ?_
  exact ite_congr (by simp [a_rcv, show m_recv 45 = 5 from by decide +kernel]) (fun _ => rfl) (fun _ => rfl)
theorem B_X10_fetch_28 {k : Nat → Nat × Nat} {u : Nat → Nat → Int} {g : Nat → Nat → Nat} {t : Nat × Nat × Nat} {r0 : Nat} {x1 : Int} {v2 : AV} {y0 : Int} : a_X 139 28 [a_r (r0), a_i (x1), v2] [a_i (y0)] (k, u, g, t) = if (k r0).1 = 10 then if (k (g r0 1)).1 = 5 then if 30 ≤ (k (g (g r0 1) 3)).1 ∧ 0 ≤ (x1 : Int) ∧ (x1 : Int) < ((k (g (g r0 1) 3)).2 : Int) then if (k r0).1 = 10 then if (k (g r0 1)).1 = 5 then if (k r0).1 = 10 then if (k (g r0 1)).1 = 5 then if (k (g (g r0 1) 0)).1 = 9 then if (k (g (g (g r0 1) 3) (x1 : Int).toNat)).1 = 3 then (a_m 21 [a_r (g (g (g r0 1) 3) (x1 : Int).toNat), a_r (g (g r0 1) 1), a_i (u (g (g r0 1) 0) 7)] (k, u, g, t)).bind (a_back 139 55 3 [a_r (r0), a_i (x1), a_i (y0)] []) else none else none else none else none else none else none else none else none else none := by
  refine (X_istore_n (m := 139) (pc := 28) (n := 2) (by decide +kernel) rfl (Nat.le_of_ble_eq_true rfl) rfl).trans ?_
  refine (X_aload_n (m := 139) (pc := 29) (n := 0) (by decide +kernel) rfl).trans ?_
  refine (X_getR (m := 139) (pc := 30) (n := 19) (c := 10) (q := 1) (fi := true) (by decide +kernel) (by decide +kernel)).trans ?_
  refine ite_congr rfl (fun _ => ?_) (fun _ => rfl)
  refine (X_getR (m := 139) (pc := 33) (n := 250) (c := 5) (q := 3) (fi := true) (by decide +kernel) (by decide +kernel)).trans ?_
  refine ite_congr rfl (fun _ => ?_) (fun _ => rfl)
  refine (X_iload_n (m := 139) (pc := 36) (n := 1) (by decide +kernel) rfl).trans ?_
  refine (X_aaload (m := 139) (pc := 37)  (by decide +kernel) ).trans ?_
  refine ite_congr rfl (fun _ => ?_) (fun _ => rfl)
  refine (X_aload_n (m := 139) (pc := 38) (n := 0) (by decide +kernel) rfl).trans ?_
  refine (X_getR (m := 139) (pc := 39) (n := 19) (c := 10) (q := 1) (fi := true) (by decide +kernel) (by decide +kernel)).trans ?_
  refine ite_congr rfl (fun _ => ?_) (fun _ => rfl)
  refine (X_getR (m := 139) (pc := 42) (n := 110) (c := 5) (q := 1) (fi := true) (by decide +kernel) (by decide +kernel)).trans ?_
  refine ite_congr rfl (fun _ => ?_) (fun _ => rfl)
  refine (X_aload_n (m := 139) (pc := 45) (n := 0) (by decide +kernel) rfl).trans ?_
  refine (X_getR (m := 139) (pc := 46) (n := 19) (c := 10) (q := 1) (fi := true) (by decide +kernel) (by decide +kernel)).trans ?_
  refine ite_congr rfl (fun _ => ?_) (fun _ => rfl)
  refine (X_getR (m := 139) (pc := 49) (n := 106) (c := 5) (q := 0) (fi := true) (by decide +kernel) (by decide +kernel)).trans ?_
  refine ite_congr rfl (fun _ => ?_) (fun _ => rfl)
  refine (X_getI (m := 139) (pc := 52) (n := 126) (c := 9) (q := 7) (ty := 1) (fi := false) (by decide +kernel) (by decide +kernel) (by decide +kernel)).trans ?_
  refine ite_congr rfl (fun _ => ?_) (fun _ => rfl)
  refine (X_call_vi (m := 139) (pc := 55) (q := 394) (y := 21) (n := 3) (as := [a_r (g (g (g r0 1) 3) (x1 : Int).toNat), a_r (g (g r0 1) 1), a_i (u (g (g r0 1) 0) 7)]) (rest := []) (by decide +kernel) (by decide +kernel) (by decide +kernel) (by decide +kernel) rfl rfl (Nat.le_of_ble_eq_true rfl) (Nat.le_of_ble_eq_true rfl) rfl (by rw [show m_maxL 21 = 3 from by decide +kernel]; exact Nat.le_of_ble_eq_true rfl)).trans ?_
  exact ite_congr (by simp [a_rcv, show m_recv 21 = 3 from by decide +kernel]) (fun _ => rfl) (fun _ => rfl)
theorem B_X10_fetch_58 {k : Nat → Nat × Nat} {u : Nat → Nat → Int} {g : Nat → Nat → Nat} {t : Nat × Nat × Nat} {r0 : Nat} {x1 : Int} {x2 : Int} : a_X 139 58 [a_r (r0), a_i (x1), a_i (x2)] [] (k, u, g, t) = some (.inl (some (a_i (x2))), (k, u, g, t)) := by
  refine (X_iload_n (m := 139) (pc := 58) (n := 2) (by decide +kernel) rfl).trans ?_
  exact X_ireturn (m := 139) (pc := 59) (f := 1) (by decide +kernel) (by decide +kernel) rfl
theorem E_X10_undo {σ : AS} {r0 : Nat} : a_m 140 [a_r (r0)] σ = a_X 140 0 [a_r (r0)] [] σ := a_m_eq (by rw [a_entry, show m_maxL 140 = 1 from by decide +kernel]; rfl)
theorem B_X10_undo_0 {k : Nat → Nat × Nat} {u : Nat → Nat → Int} {g : Nat → Nat → Nat} {t : Nat × Nat × Nat} {r0 : Nat} : a_X 140 0 [a_r (r0)] [] (k, u, g, t) = if (k r0).1 = 10 then if (k (g r0 3)).1 = 2 then if (u (g r0 3) 2 : Int) ≠ 0 then if (k r0).1 = 10 then if (k r0).1 = 10 then if (k (g r0 3)).1 = 2 then (a_m 12 [a_r (g r0 3), a_r (g r0 1)] (k, u, g, t)).bind (a_back 140 29 3 [a_r (r0)] []) else none else none else none else some (.inr 1, (k, u, g, (t.1, t.2.1 + 1, t.2.2 + 6))) else none else none := by
  refine (X_aload_n (m := 140) (pc := 0) (n := 0) (by decide +kernel) rfl).trans ?_
  refine (X_getR (m := 140) (pc := 1) (n := 29) (c := 10) (q := 3) (fi := true) (by decide +kernel) (by decide +kernel)).trans ?_
  refine ite_congr rfl (fun _ => ?_) (fun _ => rfl)
  refine (X_getI (m := 140) (pc := 4) (n := 398) (c := 2) (q := 2) (ty := 1) (fi := false) (by decide +kernel) (by decide +kernel) (by decide +kernel)).trans ?_
  refine ite_congr rfl (fun _ => ?_) (fun _ => rfl)
  refine (X_if_ne (m := 140) (pc := 7) (off := 14) (tg := 21) (by decide +kernel) (by decide +kernel)).trans ?_
  refine ite_congr rfl (fun _ => ?_) (fun _ => ?_)
  · refine (X_aload_n (m := 140) (pc := 21) (n := 0) (by decide +kernel) rfl).trans ?_
    refine (X_getR (m := 140) (pc := 22) (n := 29) (c := 10) (q := 3) (fi := true) (by decide +kernel) (by decide +kernel)).trans ?_
    refine ite_congr rfl (fun _ => ?_) (fun _ => rfl)
    refine (X_aload_n (m := 140) (pc := 25) (n := 0) (by decide +kernel) rfl).trans ?_
    refine (X_getR (m := 140) (pc := 26) (n := 19) (c := 10) (q := 1) (fi := true) (by decide +kernel) (by decide +kernel)).trans ?_
    refine ite_congr rfl (fun _ => ?_) (fun _ => rfl)
    refine (X_call_vi (m := 140) (pc := 29) (q := 404) (y := 12) (n := 2) (as := [a_r (g r0 3), a_r (g r0 1)]) (rest := []) (by decide +kernel) (by decide +kernel) (by decide +kernel) (by decide +kernel) rfl rfl (Nat.le_of_ble_eq_true rfl) (Nat.le_of_ble_eq_true rfl) rfl (by rw [show m_maxL 12 = 2 from by decide +kernel]; exact Nat.le_of_ble_eq_true rfl)).trans ?_
    exact ite_congr (by simp [a_rcv, show m_recv 12 = 2 from by decide +kernel]) (fun _ => rfl) (fun _ => rfl)
  · exact X_throw (m := 140) (pc := 10) (n := 399) (e := 1) (by decide +kernel) (by decide +kernel) (Nat.le_of_ble_eq_true rfl) (by decide +kernel)
theorem B_X10_undo_32 {k : Nat → Nat × Nat} {u : Nat → Nat → Int} {g : Nat → Nat → Nat} {t : Nat × Nat × Nat} {r0 : Nat} : a_X 140 32 [a_r (r0)] [] (k, u, g, t) = if (k r0).1 = 10 then if (k (g r0 3)).1 = 2 then some (.inl (some (a_i (u (g r0 3) 2))), (k, u, g, t)) else none else none := by
  refine (X_aload_n (m := 140) (pc := 32) (n := 0) (by decide +kernel) rfl).trans ?_
  refine (X_getR (m := 140) (pc := 33) (n := 29) (c := 10) (q := 3) (fi := true) (by decide +kernel) (by decide +kernel)).trans ?_
  refine ite_congr rfl (fun _ => ?_) (fun _ => rfl)
  refine (X_getI (m := 140) (pc := 36) (n := 398) (c := 2) (q := 2) (ty := 1) (fi := false) (by decide +kernel) (by decide +kernel) (by decide +kernel)).trans ?_
  refine ite_congr rfl (fun _ => ?_) (fun _ => rfl)
  exact X_ireturn (m := 140) (pc := 39) (f := 1) (by decide +kernel) (by decide +kernel) rfl
theorem E_X10_undoable {σ : AS} {r0 : Nat} : a_m 141 [a_r (r0)] σ = a_X 141 0 [a_r (r0)] [] σ := a_m_eq (by rw [a_entry, show m_maxL 141 = 1 from by decide +kernel]; rfl)
theorem B_X10_undoable_0 {k : Nat → Nat × Nat} {u : Nat → Nat → Int} {g : Nat → Nat → Nat} {t : Nat × Nat × Nat} {r0 : Nat} : a_X 141 0 [a_r (r0)] [] (k, u, g, t) = if (k r0).1 = 10 then if (k (g r0 3)).1 = 2 then some (.inl (some (a_i (u (g r0 3) 2))), (k, u, g, t)) else none else none := by
  refine (X_aload_n (m := 141) (pc := 0) (n := 0) (by decide +kernel) rfl).trans ?_
  refine (X_getR (m := 141) (pc := 1) (n := 29) (c := 10) (q := 3) (fi := true) (by decide +kernel) (by decide +kernel)).trans ?_
  refine ite_congr rfl (fun _ => ?_) (fun _ => rfl)
  refine (X_getI (m := 141) (pc := 4) (n := 398) (c := 2) (q := 2) (ty := 1) (fi := false) (by decide +kernel) (by decide +kernel) (by decide +kernel)).trans ?_
  refine ite_congr rfl (fun _ => ?_) (fun _ => rfl)
  exact X_ireturn (m := 141) (pc := 7) (f := 1) (by decide +kernel) (by decide +kernel) rfl
theorem E_X10_save {σ : AS} {r0 : Nat} {x1 : Int} : a_m 142 [a_r (r0), a_i (x1)] σ = a_X 142 0 [a_r (r0), a_i (x1)] [] σ := a_m_eq (by rw [a_entry, show m_maxL 142 = 2 from by decide +kernel]; rfl)
theorem B_X10_save_0 {k : Nat → Nat × Nat} {u : Nat → Nat → Int} {g : Nat → Nat → Nat} {t : Nat × Nat × Nat} {r0 : Nat} {x1 : Int} : a_X 142 0 [a_r (r0), a_i (x1)] [] (k, u, g, t) = if (k r0).1 = 10 then (a_m 144 [a_r (r0)] (k, u, g, t)).bind (a_back 142 1 3 [a_r (r0), a_i (x1)] []) else none := by
  refine (X_aload_n (m := 142) (pc := 0) (n := 0) (by decide +kernel) rfl).trans ?_
  refine (X_call_vi (m := 142) (pc := 1) (q := 103) (y := 144) (n := 1) (as := [a_r (r0)]) (rest := []) (by decide +kernel) (by decide +kernel) (by decide +kernel) (by decide +kernel) rfl rfl (Nat.le_of_ble_eq_true rfl) (Nat.le_of_ble_eq_true rfl) rfl (by rw [show m_maxL 144 = 1 from by decide +kernel]; exact Nat.le_of_ble_eq_true rfl)).trans ?_
  exact ite_congr (by simp [a_rcv, show m_recv 144 = 10 from by decide +kernel]) (fun _ => rfl) (fun _ => rfl)
theorem B_X10_save_4 {k : Nat → Nat × Nat} {u : Nat → Nat → Int} {g : Nat → Nat → Nat} {t : Nat × Nat × Nat} {r0 : Nat} {x1 : Int} : a_X 142 4 [a_r (r0), a_i (x1)] [] (k, u, g, t) = if (k r0).1 = 10 then (a_m 148 [a_r (r0), a_i (x1)] (k, u, g, t)).bind (a_back 142 6 3 [a_r (r0), a_i (x1)] []) else none := by
  refine (X_aload_n (m := 142) (pc := 4) (n := 0) (by decide +kernel) rfl).trans ?_
  refine (X_iload_n (m := 142) (pc := 5) (n := 1) (by decide +kernel) rfl).trans ?_
  refine (X_call_vi (m := 142) (pc := 6) (q := 407) (y := 148) (n := 2) (as := [a_r (r0), a_i (x1)]) (rest := []) (by decide +kernel) (by decide +kernel) (by decide +kernel) (by decide +kernel) rfl rfl (Nat.le_of_ble_eq_true rfl) (Nat.le_of_ble_eq_true rfl) rfl (by rw [show m_maxL 148 = 2 from by decide +kernel]; exact Nat.le_of_ble_eq_true rfl)).trans ?_
  exact ite_congr (by simp [a_rcv, show m_recv 148 = 10 from by decide +kernel]) (fun _ => rfl) (fun _ => rfl)
theorem B_X10_save_9 {k : Nat → Nat × Nat} {u : Nat → Nat → Int} {g : Nat → Nat → Nat} {t : Nat × Nat × Nat} {r0 : Nat} {x1 : Int} : a_X 142 9 [a_r (r0), a_i (x1)] [] (k, u, g, t) = if (k r0).1 = 10 then if 30 ≤ (k (g r0 4)).1 ∧ 0 ≤ (x1 : Int) ∧ (x1 : Int) < ((k (g r0 4)).2 : Int) then if (k r0).1 = 10 then if (k (g (g r0 4) (x1 : Int).toNat)).1 = 5 then (a_m 29 [a_r (g (g r0 4) (x1 : Int).toNat), a_r (g r0 1)] (k, u, g, t)).bind (a_back 142 19 3 [a_r (r0), a_i (x1)] []) else none else none else none else none := by
  refine (X_aload_n (m := 142) (pc := 9) (n := 0) (by decide +kernel) rfl).trans ?_
  refine (X_getR (m := 142) (pc := 10) (n := 33) (c := 10) (q := 4) (fi := true) (by decide +kernel) (by decide +kernel)).trans ?_
  refine ite_congr rfl (fun _ => ?_) (fun _ => rfl)
  refine (X_iload_n (m := 142) (pc := 13) (n := 1) (by decide +kernel) rfl).trans ?_
  refine (X_aaload (m := 142) (pc := 14)  (by decide +kernel) ).trans ?_
  refine ite_congr rfl (fun _ => ?_) (fun _ => rfl)
  refine (X_aload_n (m := 142) (pc := 15) (n := 0) (by decide +kernel) rfl).trans ?_
  refine (X_getR (m := 142) (pc := 16) (n := 19) (c := 10) (q := 1) (fi := true) (by decide +kernel) (by decide +kernel)).trans ?_
  refine ite_congr rfl (fun _ => ?_) (fun _ => rfl)
  refine (X_call_vi (m := 142) (pc := 19) (q := 83) (y := 29) (n := 2) (as := [a_r (g (g r0 4) (x1 : Int).toNat), a_r (g r0 1)]) (rest := []) (by decide +kernel) (by decide +kernel) (by decide +kernel) (by decide +kernel) rfl rfl (Nat.le_of_ble_eq_true rfl) (Nat.le_of_ble_eq_true rfl) rfl (by rw [show m_maxL 29 = 3 from by decide +kernel]; exact Nat.le_of_ble_eq_true rfl)).trans ?_
  exact ite_congr (by simp [a_rcv, show m_recv 29 = 5 from by decide +kernel]) (fun _ => rfl) (fun _ => rfl)
theorem B_X10_save_22 {k : Nat → Nat × Nat} {u : Nat → Nat → Int} {g : Nat → Nat → Nat} {t : Nat × Nat × Nat} {r0 : Nat} {x1 : Int} : a_X 142 22 [a_r (r0), a_i (x1)] [] (k, u, g, t) = if (k r0).1 = 10 then if (k (g r0 5)).1 = 21 ∧ (0 ≤ (x1 : Int) ∧ (x1 : Int) < ((k (g r0 5)).2 : Int)) ∧ ((1 : Int) = 0 ∨ (1 : Int) = 1) then if (k r0).1 = 10 then if (k (g r0 1)).1 = 5 then some (.inl (some (a_i ((upm u (g r0 5) (x1 : Int).toNat 1) (g r0 1) 6))), (k, (upm u (g r0 5) (x1 : Int).toNat 1), g, t)) else none else none else none else none := by
  refine (X_aload_n (m := 142) (pc := 22) (n := 0) (by decide +kernel) rfl).trans ?_
  refine (X_getR (m := 142) (pc := 23) (n := 37) (c := 10) (q := 5) (fi := true) (by decide +kernel) (by decide +kernel)).trans ?_
  refine ite_congr rfl (fun _ => ?_) (fun _ => rfl)
  refine (X_iload_n (m := 142) (pc := 26) (n := 1) (by decide +kernel) rfl).trans ?_
  refine (X_iconst (m := 142) (pc := 27) (n := 1) (by decide +kernel) ).trans ?_
  refine (X_bastore (m := 142) (pc := 28)  (by decide +kernel) ).trans ?_
  refine ite_congr rfl (fun _ => ?_) (fun _ => rfl)
  refine (X_aload_n (m := 142) (pc := 29) (n := 0) (by decide +kernel) rfl).trans ?_
  refine (X_getR (m := 142) (pc := 30) (n := 19) (c := 10) (q := 1) (fi := true) (by decide +kernel) (by decide +kernel)).trans ?_
  refine ite_congr rfl (fun _ => ?_) (fun _ => rfl)
  refine (X_getI (m := 142) (pc := 33) (n := 123) (c := 5) (q := 6) (ty := 1) (fi := false) (by decide +kernel) (by decide +kernel) (by decide +kernel)).trans ?_
  refine ite_congr rfl (fun _ => ?_) (fun _ => rfl)
  exact X_ireturn (m := 142) (pc := 36) (f := 1) (by decide +kernel) (by decide +kernel) rfl
theorem E_X10_restore {σ : AS} {r0 : Nat} {x1 : Int} : a_m 143 [a_r (r0), a_i (x1)] σ = a_X 143 0 [a_r (r0), a_i (x1)] [] σ := a_m_eq (by rw [a_entry, show m_maxL 143 = 2 from by decide +kernel]; rfl)
theorem B_X10_restore_0 {k : Nat → Nat × Nat} {u : Nat → Nat → Int} {g : Nat → Nat → Nat} {t : Nat × Nat × Nat} {r0 : Nat} {x1 : Int} : a_X 143 0 [a_r (r0), a_i (x1)] [] (k, u, g, t) = if (k r0).1 = 10 then (a_m 148 [a_r (r0), a_i (x1)] (k, u, g, t)).bind (a_back 143 2 3 [a_r (r0), a_i (x1)] []) else none := by
  refine (X_aload_n (m := 143) (pc := 0) (n := 0) (by decide +kernel) rfl).trans ?_
  refine (X_iload_n (m := 143) (pc := 1) (n := 1) (by decide +kernel) rfl).trans ?_
  refine (X_call_vi (m := 143) (pc := 2) (q := 407) (y := 148) (n := 2) (as := [a_r (r0), a_i (x1)]) (rest := []) (by decide +kernel) (by decide +kernel) (by decide +kernel) (by decide +kernel) rfl rfl (Nat.le_of_ble_eq_true rfl) (Nat.le_of_ble_eq_true rfl) rfl (by rw [show m_maxL 148 = 2 from by decide +kernel]; exact Nat.le_of_ble_eq_true rfl)).trans ?_
  exact ite_congr (by simp [a_rcv, show m_recv 148 = 10 from by decide +kernel]) (fun _ => rfl) (fun _ => rfl)
theorem B_X10_restore_5 {k : Nat → Nat × Nat} {u : Nat → Nat → Int} {g : Nat → Nat → Nat} {t : Nat × Nat × Nat} {r0 : Nat} {x1 : Int} : a_X 143 5 [a_r (r0), a_i (x1)] [] (k, u, g, t) = if (k r0).1 = 10 then if ((k (g r0 5)).1 = 21 ∨ (k (g r0 5)).1 = 26) ∧ 0 ≤ (x1 : Int) ∧ (x1 : Int) < ((k (g r0 5)).2 : Int) then if (u (g r0 5) (x1 : Int).toNat : Int) ≠ 0 then if (k r0).1 = 10 then if (k r0).1 = 10 then if 30 ≤ (k (g r0 4)).1 ∧ 0 ≤ (x1 : Int) ∧ (x1 : Int) < ((k (g r0 4)).2 : Int) then if (k (g r0 1)).1 = 5 then (a_m 29 [a_r (g r0 1), a_r (g (g r0 4) (x1 : Int).toNat)] (k, u, g, t)).bind (a_back 143 35 3 [a_r (r0), a_i (x1)] []) else none else none else none else none else some (.inr 1, (k, u, g, (t.1, t.2.1 + 1, t.2.2 + 6))) else none else none := by
  refine (X_aload_n (m := 143) (pc := 5) (n := 0) (by decide +kernel) rfl).trans ?_
  refine (X_getR (m := 143) (pc := 6) (n := 37) (c := 10) (q := 5) (fi := true) (by decide +kernel) (by decide +kernel)).trans ?_
  refine ite_congr rfl (fun _ => ?_) (fun _ => rfl)
  refine (X_iload_n (m := 143) (pc := 9) (n := 1) (by decide +kernel) rfl).trans ?_
  refine (X_baload (m := 143) (pc := 10)  (by decide +kernel) ).trans ?_
  refine ite_congr rfl (fun _ => ?_) (fun _ => rfl)
  refine (X_if_ne (m := 143) (pc := 11) (off := 14) (tg := 25) (by decide +kernel) (by decide +kernel)).trans ?_
  refine ite_congr rfl (fun _ => ?_) (fun _ => ?_)
  · refine (X_aload_n (m := 143) (pc := 25) (n := 0) (by decide +kernel) rfl).trans ?_
    refine (X_getR (m := 143) (pc := 26) (n := 19) (c := 10) (q := 1) (fi := true) (by decide +kernel) (by decide +kernel)).trans ?_
    refine ite_congr rfl (fun _ => ?_) (fun _ => rfl)
    refine (X_aload_n (m := 143) (pc := 29) (n := 0) (by decide +kernel) rfl).trans ?_
    refine (X_getR (m := 143) (pc := 30) (n := 33) (c := 10) (q := 4) (fi := true) (by decide +kernel) (by decide +kernel)).trans ?_
    refine ite_congr rfl (fun _ => ?_) (fun _ => rfl)
    refine (X_iload_n (m := 143) (pc := 33) (n := 1) (by decide +kernel) rfl).trans ?_
    refine (X_aaload (m := 143) (pc := 34)  (by decide +kernel) ).trans ?_
    refine ite_congr rfl (fun _ => ?_) (fun _ => rfl)
    refine (X_call_vi (m := 143) (pc := 35) (q := 83) (y := 29) (n := 2) (as := [a_r (g r0 1), a_r (g (g r0 4) (x1 : Int).toNat)]) (rest := []) (by decide +kernel) (by decide +kernel) (by decide +kernel) (by decide +kernel) rfl rfl (Nat.le_of_ble_eq_true rfl) (Nat.le_of_ble_eq_true rfl) rfl (by rw [show m_maxL 29 = 3 from by decide +kernel]; exact Nat.le_of_ble_eq_true rfl)).trans ?_
    exact ite_congr (by simp [a_rcv, show m_recv 29 = 5 from by decide +kernel]) (fun _ => rfl) (fun _ => rfl)
  · exact X_throw (m := 143) (pc := 14) (n := 399) (e := 1) (by decide +kernel) (by decide +kernel) (Nat.le_of_ble_eq_true rfl) (by decide +kernel)
theorem B_X10_restore_38 {k : Nat → Nat × Nat} {u : Nat → Nat → Int} {g : Nat → Nat → Nat} {t : Nat × Nat × Nat} {r0 : Nat} {x1 : Int} : a_X 143 38 [a_r (r0), a_i (x1)] [] (k, u, g, t) = if (k r0).1 = 10 then if (k (g r0 3)).1 = 2 then (a_m 13 [a_r (g r0 3)] (k, u, g, t)).bind (a_back 143 42 3 [a_r (r0), a_i (x1)] []) else none else none := by
  refine (X_aload_n (m := 143) (pc := 38) (n := 0) (by decide +kernel) rfl).trans ?_
  refine (X_getR (m := 143) (pc := 39) (n := 29) (c := 10) (q := 3) (fi := true) (by decide +kernel) (by decide +kernel)).trans ?_
  refine ite_congr rfl (fun _ => ?_) (fun _ => rfl)
  refine (X_call_vi (m := 143) (pc := 42) (q := 87) (y := 13) (n := 1) (as := [a_r (g r0 3)]) (rest := []) (by decide +kernel) (by decide +kernel) (by decide +kernel) (by decide +kernel) rfl rfl (Nat.le_of_ble_eq_true rfl) (Nat.le_of_ble_eq_true rfl) rfl (by rw [show m_maxL 13 = 1 from by decide +kernel]; exact Nat.le_of_ble_eq_true rfl)).trans ?_
  exact ite_congr (by simp [a_rcv, show m_recv 13 = 2 from by decide +kernel]) (fun _ => rfl) (fun _ => rfl)
theorem B_X10_restore_45 {k : Nat → Nat × Nat} {u : Nat → Nat → Int} {g : Nat → Nat → Nat} {t : Nat × Nat × Nat} {r0 : Nat} {x1 : Int} : a_X 143 45 [a_r (r0), a_i (x1)] [] (k, u, g, t) = if (k r0).1 = 10 then if (k (g r0 1)).1 = 5 then some (.inl (some (a_i (u (g r0 1) 6))), (k, u, g, t)) else none else none := by
  refine (X_aload_n (m := 143) (pc := 45) (n := 0) (by decide +kernel) rfl).trans ?_
  refine (X_getR (m := 143) (pc := 46) (n := 19) (c := 10) (q := 1) (fi := true) (by decide +kernel) (by decide +kernel)).trans ?_
  refine ite_congr rfl (fun _ => ?_) (fun _ => rfl)
  refine (X_getI (m := 143) (pc := 49) (n := 123) (c := 5) (q := 6) (ty := 1) (fi := false) (by decide +kernel) (by decide +kernel) (by decide +kernel)).trans ?_
  refine ite_congr rfl (fun _ => ?_) (fun _ => rfl)
  exact X_ireturn (m := 143) (pc := 52) (f := 1) (by decide +kernel) (by decide +kernel) rfl
theorem E_X10_needRadio {σ : AS} {r0 : Nat} : a_m 144 [a_r (r0)] σ = a_X 144 0 [a_r (r0)] [] σ := a_m_eq (by rw [a_entry, show m_maxL 144 = 1 from by decide +kernel]; rfl)
theorem B_X10_needRadio_0 {k : Nat → Nat × Nat} {u : Nat → Nat → Int} {g : Nat → Nat → Nat} {t : Nat × Nat × Nat} {r0 : Nat} : a_X 144 0 [a_r (r0)] [] (k, u, g, t) = if (k r0).1 = 10 then if (u r0 8 : Int) ≠ 0 then some (.inl none, (k, u, g, t)) else some (.inr 1, (k, u, g, (t.1, t.2.1 + 1, t.2.2 + 6))) else none := by
  refine (X_aload_n (m := 144) (pc := 0) (n := 0) (by decide +kernel) rfl).trans ?_
  refine (X_getI (m := 144) (pc := 1) (n := 90) (c := 10) (q := 8) (ty := 2) (fi := false) (by decide +kernel) (by decide +kernel) (by decide +kernel)).trans ?_
  refine ite_congr rfl (fun _ => ?_) (fun _ => rfl)
  refine (X_if_ne (m := 144) (pc := 4) (off := 14) (tg := 18) (by decide +kernel) (by decide +kernel)).trans ?_
  refine ite_congr rfl (fun _ => ?_) (fun _ => ?_)
  · exact X_return (m := 144) (pc := 18) (by decide +kernel) (by decide +kernel)
  · exact X_throw (m := 144) (pc := 7) (n := 399) (e := 1) (by decide +kernel) (by decide +kernel) (Nat.le_of_ble_eq_true rfl) (by decide +kernel)
theorem E_X10_needListener {σ : AS} {r0 : Nat} {x1 : Int} : a_m 145 [a_r (r0), a_i (x1)] σ = a_X 145 0 [a_r (r0), a_i (x1)] [] σ := a_m_eq (by rw [a_entry, show m_maxL 145 = 2 from by decide +kernel]; rfl)
theorem B_X10_needListener_0 {k : Nat → Nat × Nat} {u : Nat → Nat → Int} {g : Nat → Nat → Nat} {t : Nat × Nat × Nat} {r0 : Nat} {x1 : Int} : a_X 145 0 [a_r (r0), a_i (x1)] [] (k, u, g, t) = if (x1 : Int) < 0 then some (.inr 2, (k, u, g, (t.1, t.2.1 + 1, t.2.2 + 6))) else if (k r0).1 = 10 then if (k (g r0 1)).1 = 5 then if (x1 : Int) < (u (g r0 1) 4 : Int) then some (.inl none, (k, u, g, t)) else some (.inr 2, (k, u, g, (t.1, t.2.1 + 1, t.2.2 + 6))) else none else none := by
  refine (X_iload_n (m := 145) (pc := 0) (n := 1) (by decide +kernel) rfl).trans ?_
  refine (X_if_lt (m := 145) (pc := 1) (off := 14) (tg := 15) (by decide +kernel) (by decide +kernel)).trans ?_
  refine ite_congr rfl (fun _ => ?_) (fun _ => ?_)
  · exact X_throw (m := 145) (pc := 15) (n := 67) (e := 2) (by decide +kernel) (by decide +kernel) (Nat.le_of_ble_eq_true rfl) (by decide +kernel)
  · refine (X_iload_n (m := 145) (pc := 4) (n := 1) (by decide +kernel) rfl).trans ?_
    refine (X_aload_n (m := 145) (pc := 5) (n := 0) (by decide +kernel) rfl).trans ?_
    refine (X_getR (m := 145) (pc := 6) (n := 19) (c := 10) (q := 1) (fi := true) (by decide +kernel) (by decide +kernel)).trans ?_
    refine ite_congr rfl (fun _ => ?_) (fun _ => rfl)
    refine (X_getI (m := 145) (pc := 9) (n := 94) (c := 5) (q := 4) (ty := 1) (fi := false) (by decide +kernel) (by decide +kernel) (by decide +kernel)).trans ?_
    refine ite_congr rfl (fun _ => ?_) (fun _ => rfl)
    refine (X_ic_lt (m := 145) (pc := 12) (off := 14) (tg := 26) (by decide +kernel) (by decide +kernel)).trans ?_
    refine ite_congr rfl (fun _ => ?_) (fun _ => ?_)
    · exact X_return (m := 145) (pc := 26) (by decide +kernel) (by decide +kernel)
    · exact X_throw (m := 145) (pc := 15) (n := 67) (e := 2) (by decide +kernel) (by decide +kernel) (Nat.le_of_ble_eq_true rfl) (by decide +kernel)
theorem E_X10_needList {σ : AS} {r0 : Nat} {x1 : Int} : a_m 146 [a_r (r0), a_i (x1)] σ = a_X 146 0 [a_r (r0), a_i (x1)] [] σ := a_m_eq (by rw [a_entry, show m_maxL 146 = 2 from by decide +kernel]; rfl)
theorem B_X10_needList_0 {k : Nat → Nat × Nat} {u : Nat → Nat → Int} {g : Nat → Nat → Nat} {t : Nat × Nat × Nat} {r0 : Nat} {x1 : Int} : a_X 146 0 [a_r (r0), a_i (x1)] [] (k, u, g, t) = if (x1 : Int) = (-1 : Int) then some (.inl none, (k, u, g, t)) else if (k r0).1 = 10 then (a_m 145 [a_r (r0), a_i (x1)] (k, u, g, t)).bind (a_back 146 7 3 [a_r (r0), a_i (x1)] []) else none := by
  refine (X_iload_n (m := 146) (pc := 0) (n := 1) (by decide +kernel) rfl).trans ?_
  refine (X_iconst (m := 146) (pc := 1) (n := -1) (by decide +kernel) ).trans ?_
  refine (X_ic_eq (m := 146) (pc := 2) (off := 8) (tg := 10) (by decide +kernel) (by decide +kernel)).trans ?_
  refine ite_congr rfl (fun _ => ?_) (fun _ => ?_)
  · exact X_return (m := 146) (pc := 10) (by decide +kernel) (by decide +kernel)
  · refine (X_aload_n (m := 146) (pc := 5) (n := 0) (by decide +kernel) rfl).trans ?_
    refine (X_iload_n (m := 146) (pc := 6) (n := 1) (by decide +kernel) rfl).trans ?_
    refine (X_call_vi (m := 146) (pc := 7) (q := 247) (y := 145) (n := 2) (as := [a_r (r0), a_i (x1)]) (rest := []) (by decide +kernel) (by decide +kernel) (by decide +kernel) (by decide +kernel) rfl rfl (Nat.le_of_ble_eq_true rfl) (Nat.le_of_ble_eq_true rfl) rfl (by rw [show m_maxL 145 = 2 from by decide +kernel]; exact Nat.le_of_ble_eq_true rfl)).trans ?_
    exact ite_congr (by simp [a_rcv, show m_recv 145 = 10 from by decide +kernel]) (fun _ => rfl) (fun _ => rfl)
theorem B_X10_needList_10 {k : Nat → Nat × Nat} {u : Nat → Nat → Int} {g : Nat → Nat → Nat} {t : Nat × Nat × Nat} {r0 : Nat} {x1 : Int} : a_X 146 10 [a_r (r0), a_i (x1)] [] (k, u, g, t) = some (.inl none, (k, u, g, t)) := by
  exact X_return (m := 146) (pc := 10) (by decide +kernel) (by decide +kernel)
theorem E_X10_needSlot {σ : AS} {r0 : Nat} {x1 : Int} : a_m 147 [a_r (r0), a_i (x1)] σ = a_X 147 0 [a_r (r0), a_i (x1)] [] σ := a_m_eq (by rw [a_entry, show m_maxL 147 = 2 from by decide +kernel]; rfl)
theorem B_X10_needSlot_0 {k : Nat → Nat × Nat} {u : Nat → Nat → Int} {g : Nat → Nat → Nat} {t : Nat × Nat × Nat} {r0 : Nat} {x1 : Int} : a_X 147 0 [a_r (r0), a_i (x1)] [] (k, u, g, t) = if (x1 : Int) < 0 then some (.inr 2, (k, u, g, (t.1, t.2.1 + 1, t.2.2 + 6))) else if (x1 : Int) < (12 : Int) then some (.inl none, (k, u, g, t)) else some (.inr 2, (k, u, g, (t.1, t.2.1 + 1, t.2.2 + 6))) := by
  refine (X_iload_n (m := 147) (pc := 0) (n := 1) (by decide +kernel) rfl).trans ?_
  refine (X_if_lt (m := 147) (pc := 1) (off := 9) (tg := 10) (by decide +kernel) (by decide +kernel)).trans ?_
  refine ite_congr rfl (fun _ => ?_) (fun _ => ?_)
  · exact X_throw (m := 147) (pc := 10) (n := 67) (e := 2) (by decide +kernel) (by decide +kernel) (Nat.le_of_ble_eq_true rfl) (by decide +kernel)
  · refine (X_iload_n (m := 147) (pc := 4) (n := 1) (by decide +kernel) rfl).trans ?_
    refine (X_bipush (m := 147) (pc := 5) (n := 12) (by decide +kernel) ).trans ?_
    refine (X_ic_lt (m := 147) (pc := 7) (off := 14) (tg := 21) (by decide +kernel) (by decide +kernel)).trans ?_
    refine ite_congr rfl (fun _ => ?_) (fun _ => ?_)
    · exact X_return (m := 147) (pc := 21) (by decide +kernel) (by decide +kernel)
    · exact X_throw (m := 147) (pc := 10) (n := 67) (e := 2) (by decide +kernel) (by decide +kernel) (Nat.le_of_ble_eq_true rfl) (by decide +kernel)
theorem E_X10_needSavingSlot {σ : AS} {r0 : Nat} {x1 : Int} : a_m 148 [a_r (r0), a_i (x1)] σ = a_X 148 0 [a_r (r0), a_i (x1)] [] σ := a_m_eq (by rw [a_entry, show m_maxL 148 = 2 from by decide +kernel]; rfl)
theorem B_X10_needSavingSlot_0 {k : Nat → Nat × Nat} {u : Nat → Nat → Int} {g : Nat → Nat → Nat} {t : Nat × Nat × Nat} {r0 : Nat} {x1 : Int} : a_X 148 0 [a_r (r0), a_i (x1)] [] (k, u, g, t) = if (x1 : Int) < 0 then some (.inr 2, (k, u, g, (t.1, t.2.1 + 1, t.2.2 + 6))) else if (x1 : Int) < (2 : Int) then some (.inl none, (k, u, g, t)) else some (.inr 2, (k, u, g, (t.1, t.2.1 + 1, t.2.2 + 6))) := by
  refine (X_iload_n (m := 148) (pc := 0) (n := 1) (by decide +kernel) rfl).trans ?_
  refine (X_if_lt (m := 148) (pc := 1) (off := 8) (tg := 9) (by decide +kernel) (by decide +kernel)).trans ?_
  refine ite_congr rfl (fun _ => ?_) (fun _ => ?_)
  · exact X_throw (m := 148) (pc := 9) (n := 67) (e := 2) (by decide +kernel) (by decide +kernel) (Nat.le_of_ble_eq_true rfl) (by decide +kernel)
  · refine (X_iload_n (m := 148) (pc := 4) (n := 1) (by decide +kernel) rfl).trans ?_
    refine (X_iconst (m := 148) (pc := 5) (n := 2) (by decide +kernel) ).trans ?_
    refine (X_ic_lt (m := 148) (pc := 6) (off := 14) (tg := 20) (by decide +kernel) (by decide +kernel)).trans ?_
    refine ite_congr rfl (fun _ => ?_) (fun _ => ?_)
    · exact X_return (m := 148) (pc := 20) (by decide +kernel) (by decide +kernel)
    · exact X_throw (m := 148) (pc := 9) (n := 67) (e := 2) (by decide +kernel) (by decide +kernel) (Nat.le_of_ble_eq_true rfl) (by decide +kernel)
theorem E_X10_needBetween {σ : AS} {r0 : Nat} {x1 : Int} {x2 : Int} {x3 : Int} : a_m 149 [a_r (r0), a_i (x1), a_i (x2), a_i (x3)] σ = a_X 149 0 [a_r (r0), a_i (x1), a_i (x2), a_i (x3)] [] σ := a_m_eq (by rw [a_entry, show m_maxL 149 = 4 from by decide +kernel]; rfl)
theorem B_X10_needBetween_0 {k : Nat → Nat × Nat} {u : Nat → Nat → Int} {g : Nat → Nat → Nat} {t : Nat × Nat × Nat} {r0 : Nat} {x1 : Int} {x2 : Int} {x3 : Int} : a_X 149 0 [a_r (r0), a_i (x1), a_i (x2), a_i (x3)] [] (k, u, g, t) = if (x1 : Int) < (x2 : Int) then some (.inr 3, (k, u, g, (t.1, t.2.1 + 1, t.2.2 + 6))) else if (x1 : Int) ≤ (x3 : Int) then some (.inl none, (k, u, g, t)) else some (.inr 3, (k, u, g, (t.1, t.2.1 + 1, t.2.2 + 6))) := by
  refine (X_iload_n (m := 149) (pc := 0) (n := 1) (by decide +kernel) rfl).trans ?_
  refine (X_iload_n (m := 149) (pc := 1) (n := 2) (by decide +kernel) rfl).trans ?_
  refine (X_ic_lt (m := 149) (pc := 2) (off := 8) (tg := 10) (by decide +kernel) (by decide +kernel)).trans ?_
  refine ite_congr rfl (fun _ => ?_) (fun _ => ?_)
  · exact X_throw (m := 149) (pc := 10) (n := 78) (e := 3) (by decide +kernel) (by decide +kernel) (Nat.le_of_ble_eq_true rfl) (by decide +kernel)
  · refine (X_iload_n (m := 149) (pc := 5) (n := 1) (by decide +kernel) rfl).trans ?_
    refine (X_iload_n (m := 149) (pc := 6) (n := 3) (by decide +kernel) rfl).trans ?_
    refine (X_ic_le (m := 149) (pc := 7) (off := 14) (tg := 21) (by decide +kernel) (by decide +kernel)).trans ?_
    refine ite_congr rfl (fun _ => ?_) (fun _ => ?_)
    · exact X_return (m := 149) (pc := 21) (by decide +kernel) (by decide +kernel)
    · exact X_throw (m := 149) (pc := 10) (n := 78) (e := 3) (by decide +kernel) (by decide +kernel) (Nat.le_of_ble_eq_true rfl) (by decide +kernel)
theorem E_X10_needCorrection {σ : AS} {r0 : Nat} {x1 : Int} : a_m 150 [a_r (r0), a_i (x1)] σ = a_X 150 0 [a_r (r0), a_i (x1)] [] σ := a_m_eq (by rw [a_entry, show m_maxL 150 = 2 from by decide +kernel]; rfl)
theorem B_X10_needCorrection_0 {k : Nat → Nat × Nat} {u : Nat → Nat → Int} {g : Nat → Nat → Nat} {t : Nat × Nat × Nat} {r0 : Nat} {x1 : Int} : a_X 150 0 [a_r (r0), a_i (x1)] [] (k, u, g, t) = if (x1 : Int) < (1 : Int) then some (.inr 3, (k, u, g, (t.1, t.2.1 + 1, t.2.2 + 6))) else if (k r0).1 = 10 then if (k (g r0 1)).1 = 5 then if (k (g (g r0 1) 0)).1 = 9 then if (x1 : Int) ≤ (u (g (g r0 1) 0) 7 : Int) then some (.inl none, (k, u, g, t)) else some (.inr 3, (k, u, g, (t.1, t.2.1 + 1, t.2.2 + 6))) else none else none else none := by
  refine (X_iload_n (m := 150) (pc := 0) (n := 1) (by decide +kernel) rfl).trans ?_
  refine (X_iconst (m := 150) (pc := 1) (n := 1) (by decide +kernel) ).trans ?_
  refine (X_ic_lt (m := 150) (pc := 2) (off := 17) (tg := 19) (by decide +kernel) (by decide +kernel)).trans ?_
  refine ite_congr rfl (fun _ => ?_) (fun _ => ?_)
  · exact X_throw (m := 150) (pc := 19) (n := 78) (e := 3) (by decide +kernel) (by decide +kernel) (Nat.le_of_ble_eq_true rfl) (by decide +kernel)
  · refine (X_iload_n (m := 150) (pc := 5) (n := 1) (by decide +kernel) rfl).trans ?_
    refine (X_aload_n (m := 150) (pc := 6) (n := 0) (by decide +kernel) rfl).trans ?_
    refine (X_getR (m := 150) (pc := 7) (n := 19) (c := 10) (q := 1) (fi := true) (by decide +kernel) (by decide +kernel)).trans ?_
    refine ite_congr rfl (fun _ => ?_) (fun _ => rfl)
    refine (X_getR (m := 150) (pc := 10) (n := 106) (c := 5) (q := 0) (fi := true) (by decide +kernel) (by decide +kernel)).trans ?_
    refine ite_congr rfl (fun _ => ?_) (fun _ => rfl)
    refine (X_getI (m := 150) (pc := 13) (n := 126) (c := 9) (q := 7) (ty := 1) (fi := false) (by decide +kernel) (by decide +kernel) (by decide +kernel)).trans ?_
    refine ite_congr rfl (fun _ => ?_) (fun _ => rfl)
    refine (X_ic_le (m := 150) (pc := 16) (off := 14) (tg := 30) (by decide +kernel) (by decide +kernel)).trans ?_
    refine ite_congr rfl (fun _ => ?_) (fun _ => ?_)
    · exact X_return (m := 150) (pc := 30) (by decide +kernel) (by decide +kernel)
    · exact X_throw (m := 150) (pc := 19) (n := 78) (e := 3) (by decide +kernel) (by decide +kernel) (Nat.le_of_ble_eq_true rfl) (by decide +kernel)
theorem E_X10_needNumberLeft {σ : AS} {r0 : Nat} : a_m 151 [a_r (r0)] σ = a_X 151 0 [a_r (r0)] [] σ := a_m_eq (by rw [a_entry, show m_maxL 151 = 1 from by decide +kernel]; rfl)
theorem B_X10_needNumberLeft_0 {k : Nat → Nat × Nat} {u : Nat → Nat → Int} {g : Nat → Nat → Nat} {t : Nat × Nat × Nat} {r0 : Nat} : a_X 151 0 [a_r (r0)] [] (k, u, g, t) = if (k r0).1 = 10 then if (k (g r0 1)).1 = 5 then if (k (g (g r0 1) 0)).1 = 9 then if (u (g (g r0 1) 0) 7 : Int) < (99 : Int) then some (.inl none, (k, u, g, t)) else some (.inr 3, (k, u, g, (t.1, t.2.1 + 1, t.2.2 + 6))) else none else none else none := by
  refine (X_aload_n (m := 151) (pc := 0) (n := 0) (by decide +kernel) rfl).trans ?_
  refine (X_getR (m := 151) (pc := 1) (n := 19) (c := 10) (q := 1) (fi := true) (by decide +kernel) (by decide +kernel)).trans ?_
  refine ite_congr rfl (fun _ => ?_) (fun _ => rfl)
  refine (X_getR (m := 151) (pc := 4) (n := 106) (c := 5) (q := 0) (fi := true) (by decide +kernel) (by decide +kernel)).trans ?_
  refine ite_congr rfl (fun _ => ?_) (fun _ => rfl)
  refine (X_getI (m := 151) (pc := 7) (n := 126) (c := 9) (q := 7) (ty := 1) (fi := false) (by decide +kernel) (by decide +kernel) (by decide +kernel)).trans ?_
  refine ite_congr rfl (fun _ => ?_) (fun _ => rfl)
  refine (X_bipush (m := 151) (pc := 10) (n := 99) (by decide +kernel) ).trans ?_
  refine (X_ic_lt (m := 151) (pc := 12) (off := 14) (tg := 26) (by decide +kernel) (by decide +kernel)).trans ?_
  refine ite_congr rfl (fun _ => ?_) (fun _ => ?_)
  · exact X_return (m := 151) (pc := 26) (by decide +kernel) (by decide +kernel)
  · exact X_throw (m := 151) (pc := 15) (n := 78) (e := 3) (by decide +kernel) (by decide +kernel) (Nat.le_of_ble_eq_true rfl) (by decide +kernel)
theorem E_X10_needRoomOnAir {σ : AS} {r0 : Nat} : a_m 152 [a_r (r0)] σ = a_X 152 0 [a_r (r0)] [] σ := a_m_eq (by rw [a_entry, show m_maxL 152 = 1 from by decide +kernel]; rfl)
theorem B_X10_needRoomOnAir_0 {k : Nat → Nat × Nat} {u : Nat → Nat → Int} {g : Nat → Nat → Nat} {t : Nat × Nat × Nat} {r0 : Nat} : a_X 152 0 [a_r (r0)] [] (k, u, g, t) = if (k r0).1 = 10 then if (k (g r0 1)).1 = 5 then if (k (g (g r0 1) 2)).1 = 1 then (a_m 2 [a_r (g (g r0 1) 2)] (k, u, g, t)).bind (a_back 152 7 3 [a_r (r0)] []) else none else none else none := by
  refine (X_aload_n (m := 152) (pc := 0) (n := 0) (by decide +kernel) rfl).trans ?_
  refine (X_getR (m := 152) (pc := 1) (n := 19) (c := 10) (q := 1) (fi := true) (by decide +kernel) (by decide +kernel)).trans ?_
  refine ite_congr rfl (fun _ => ?_) (fun _ => rfl)
  refine (X_getR (m := 152) (pc := 4) (n := 129) (c := 5) (q := 2) (fi := true) (by decide +kernel) (by decide +kernel)).trans ?_
  refine ite_congr rfl (fun _ => ?_) (fun _ => rfl)
  refine (X_call_vi (m := 152) (pc := 7) (q := 426) (y := 2) (n := 1) (as := [a_r (g (g r0 1) 2)]) (rest := []) (by decide +kernel) (by decide +kernel) (by decide +kernel) (by decide +kernel) rfl rfl (Nat.le_of_ble_eq_true rfl) (Nat.le_of_ble_eq_true rfl) rfl (by rw [show m_maxL 2 = 1 from by decide +kernel]; exact Nat.le_of_ble_eq_true rfl)).trans ?_
  exact ite_congr (by simp [a_rcv, show m_recv 2 = 1 from by decide +kernel]) (fun _ => rfl) (fun _ => rfl)
theorem B_X10_needRoomOnAir_10 {k : Nat → Nat × Nat} {u : Nat → Nat → Int} {g : Nat → Nat → Nat} {t : Nat × Nat × Nat} {r0 : Nat} {y0 : Int} : a_X 152 10 [a_r (r0)] [a_i (y0)] (k, u, g, t) = if (y0 : Int) = 0 then some (.inl none, (k, u, g, t)) else some (.inr 3, (k, u, g, (t.1, t.2.1 + 1, t.2.2 + 6))) := by
  refine (X_if_eq (m := 152) (pc := 10) (off := 14) (tg := 24) (by decide +kernel) (by decide +kernel)).trans ?_
  refine ite_congr rfl (fun _ => ?_) (fun _ => ?_)
  · exact X_return (m := 152) (pc := 24) (by decide +kernel) (by decide +kernel)
  · exact X_throw (m := 152) (pc := 13) (n := 78) (e := 3) (by decide +kernel) (by decide +kernel) (Nat.le_of_ble_eq_true rfl) (by decide +kernel)
